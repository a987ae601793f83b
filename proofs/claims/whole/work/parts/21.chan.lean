/-! The channels of the class: put, startClearing; leave, join, beLost of a switch's. -/
theorem RC_cT {M0 M : zM} {S : yS} {k : Nat} (h : RC M0 M S) (hk : k < 30) (hs : ysw (k / 3) = false) : zk M (zCh k) = (0, 0) ∧ zr M (zCh k) 5 = some (zEn (k / 3)) ∧ zi M (zCh k) 6 = nI (k % 3 + 1) ∧ zr M (zCh k) 1 = some (zLn (10 + ysl k)) ∧ ysl k < 12 := by
  have hkk := kChT k hk hs
  have t := (by decide +kernel : ∀ k, k < 30 → ysw (k / 3) = false → yr0 (zCh k) 5 = some (zEn (k / 3)) ∧ yi0 (zCh k) 6 = nI (k % 3 + 1) ∧ yr0 (zCh k) 1 = some (zLn (10 + ysl k)) ∧ ysl k < 12) k hk hs
  refine ⟨by rw [h.1.2.1 _ (by omega)]; exact hkk.1, by rw [h.1.2.2.1 _ _ (by omega) (kT0 k hk hs).1]; exact t.1, by rw [h.1.2.2.2 _ _ (by omega) (by simp [ycst, hkk.1])]; exact t.2.1, by rw [h.1.2.2.1 _ _ (by omega) (kT0 k hk hs).2]; exact t.2.2.1, t.2.2.2⟩
theorem RC_cS {M0 M : zM} {S : yS} {k : Nat} (h : RC M0 M S) (hk : k < 30) (hs : ysw (k / 3) = true) : zk M (zCh k) = (2, 0) ∧ zr M (zCh k) 3 = some (zEn (k / 3)) ∧ zi M (zCh k) 4 = nI (k % 3 + 1) ∧ zr M (zCh k) 0 = some (if k / 3 < 4 ∨ k / 3 = 8 then 62 else 72) := by
  have hkk := kChS k hk hs
  have t := (by decide +kernel : ∀ k, k < 30 → ysw (k / 3) = true → yr0 (zCh k) 3 = some (zEn (k / 3)) ∧ yi0 (zCh k) 4 = nI (k % 3 + 1) ∧ yr0 (zCh k) 0 = some (if k / 3 < 4 ∨ k / 3 = 8 then 62 else 72)) k hk hs
  refine ⟨by rw [h.1.2.1 _ (by omega)]; exact hkk.1, by rw [h.1.2.2.1 _ _ (by omega) (kS0 k hk hs).1]; exact t.1, by rw [h.1.2.2.2 _ _ (by omega) (by simp [ycst, hkk.1])]; exact t.2.1, by rw [h.1.2.2.1 _ _ (by omega) (kS0 k hk hs).2]; exact t.2.2⟩
theorem zN20 : (2 = 0) = False := eq_false (by decide)
theorem C_put {sp : Nat × (Nat → Int32)} {M0 M : zM} {S : yS} {k kind a b n t : Nat} (h : RC M0 M S) (hK : yK n t S) (hn : n < 2047) (hk : k < 30) (hp : yPk (kind, k % 3 + 1, a, b)) : ∃ M', zV (zPr sp) (18, 0, [.ref (zCh k), .int (nI kind), .int (nI a), .int (nI b)], [], M) = some (none, M') ∧ RC M0 M' (yPutOn S k kind a b) := by
  have he : k / 3 < 10 := by omega
  have hrow := hK.row he
  obtain ⟨k1, k2, k3, k4, k5, k6, k7⟩ := RC_e h he
  have kl := RC_l h (show k / 3 < 22 by omega)
  have hof := P_of (sp := sp) (M := M) hp
  obtain ⟨M1, r1, r2⟩ := L_add (sp := sp) (p := (kind, k % 3 + 1, a, b)) (v := 0) (w := ypk (kind, k % 3 + 1, a, b)) h (show k / 3 < 22 by omega) (by rw [yXs_e he, List.length_map]; omega) (by rw [if_pos he])
  have e1 : yXS S (k / 3) (yr S (k / 3) ++ [(kind, k % 3 + 1, a, b)]) (yv S (k / 3 - 10) ++ [0]) = yrS S (k / 3) (yr S (k / 3) ++ [(kind, k % 3 + 1, a, b)]) := by unfold yXS; rw [if_pos he]
  rw [e1] at r2
  obtain ⟨M2, q1, q2⟩ := E_on (sp := sp) r2 (yK_app hK he hp) (by omega) he
  have k1' := (RC_e r2 he).1
  refine ⟨M2, ?_, q2⟩
  cases hs : ysw (k / 3)
  · obtain ⟨c1, c2, c3, c4, c5⟩ := RC_cT h hk hs
    obtain ⟨d1, d2, d3, d4, d5⟩ := RC_cT r2 hk hs
    simp only [e18_0, e18_1, e18_4, e18_7, e18_8, e18_9, e18_12, e18_13, e18_14, e18_17, e18_20, e18_21, e18_24, e18_27, zG1, zG2, zG3, k1, k4, kl, k1', c1, c2, c3, d1, d2, if_true, hof, r1, q1, Option.bind_some, Option.toList_some, Option.toList_none, List.nil_append, List.cons_append]
  · obtain ⟨c1, c2, c3, c4⟩ := RC_cS h hk hs
    obtain ⟨d1, d2, d3, d4⟩ := RC_cS r2 hk hs
    simp only [e18_0, e18_1, e18_4, e18_7, e18_8, e18_9, e18_12, e18_13, e18_14, e18_17, e18_20, e18_21, e18_24, e18_27, zG1, zG2, zG3, k1, k4, kl, k1', c1, c2, c3, d1, d2, zN20, if_true, if_false, hof, r1, q1, Option.bind_some, Option.toList_some, Option.toList_none, List.nil_append, List.cons_append]
theorem yPk_k {k kind a b : Nat} (h1 : kind < 8) (h2 : a < 8) (h3 : b < 256) (h4 : kind = 0 → a < 4) : yPk (kind, k % 3 + 1, a, b) := ⟨h1, ⟨by show 1 ≤ k % 3 + 1; omega, by show k % 3 + 1 ≤ 3; omega⟩, h2, h3, h4⟩
/-- the state of a channel, any but JOINED -/
theorem RC_st {M0 M : zM} {S : yS} {k m : Nat} (h : RC M0 M S) (hk : k < 30) (hm : m ≠ 1) : RC M0 (zwi M (zCh k) (if ysw (k / 3) = true then 5 else 7) (nI m)) (ynS S 5 k m) := by
  cases hs : ysw (k / 3)
  · exact RC_tn h hk hs (Or.inl ⟨rfl, rfl⟩)
  · exact RC_jn h hk hs hm
theorem C_clr {sp : Nat × (Nat → Int32)} {M0 M : zM} {S : yS} {k n t : Nat} (h : RC M0 M S) (hK : yK n t S) (hn : n < 2047) (hk : k < 30) : ∃ M', zV (zPr sp) (28, 0, [.ref (zCh k)], [], M) = some (none, M') ∧ RC M0 M' (yCut S k) := by
  have h1 := RC_st (m := 5) h hk (by decide)
  obtain ⟨M2, q1, q2⟩ := C_put (sp := sp) (kind := 2) (a := 0) (b := 0) h1 (yK_st hK (by decide) hk (fun _ => by decide)).1 hn hk (yPk_k (by decide) (by decide) (by decide) (fun z => by cases z))
  refine ⟨M2, ?_, q2⟩
  cases hs : ysw (k / 3)
  · rw [hs] at q1
    have q1 : zV (zPr sp) (18, 0, [.ref (zCh k), .int 2, .int 0, .int 0], [], zwi M (zCh k) 7 5) = some (none, M2) := q1
    obtain ⟨c1, c2, c3, c4, c5⟩ := RC_cT h hk hs
    simp only [e28_0, e28_1, e28_2, e28_5, e28_6, e28_7, e28_8, e28_9, e28_12, zG1, zG2, zG3, c1, zk_wi, if_true, q1, Option.bind_some, Option.toList_none, List.nil_append]
  · rw [hs] at q1
    have q1 : zV (zPr sp) (18, 0, [.ref (zCh k), .int 2, .int 0, .int 0], [], zwi M (zCh k) 5 5) = some (none, M2) := q1
    obtain ⟨c1, c2, c3, c4⟩ := RC_cS h hk hs
    simp only [e28_0, e28_1, e28_2, e28_5, e28_6, e28_7, e28_8, e28_9, e28_12, zG1, zG2, zG3, c1, zk_wi, zN20, if_true, if_false, q1, Option.bind_some, Option.toList_none, List.nil_append]
/-- leave: the partner that it had, or null -/
theorem J_leave {sp : Nat × (Nat → Int32)} {M0 M : zM} {S : yS} {k : Nat} (h : RC M0 M S) (hI : yIk S) (hk : k < 30) (hs : ysw (k / 3) = true) : ∃ M', zV (zPr sp) (44, 0, [.ref (zCh k), .double 0], [], M) = some (some (va_rf (if yn S 5 k = 1 then some (zCh (yn S 6 k)) else none)), M') ∧ RC M0 M' (ynS S 5 k 0) := by
  have h1 := RC_jn (n := 0) h hk hs (by decide)
  have h2 := RC_jp (x := none) h1 hk hs (by rw [yn_nn]; decide)
  obtain ⟨c1, c2, c3, c4⟩ := RC_cS h hk hs
  have g := h.2.2.1 k hk hs
  have gi := (hI k hk).1
  refine ⟨_, ?_, h2⟩
  by_cases hj : yn S 5 k = 1
  · obtain ⟨g1, g2⟩ := g.2 hj
    have p1 : (nI (yn S 5 k) = 1) = True := by rw [hj]; decide
    rw [if_pos hj]
    simp only [e44_0, e44_1, e44_4, e44_5, e44_8, e44_9, e44_12, e44_15, e44_16, e44_17, e44_18, e44_19, e44_22, e44_23, e44_24, e44_27, e44_28, zG1, zG2, zG3, zG5, zG6, zG7, zG8, c1, g.1, p1, g2, zk_wi, zk_wr, if_true]
    rfl
  · have p1 : (nI (yn S 5 k) = 1) = False := eq_false (fun z => hj ((nI_eq (by omega) (by decide)).mp z))
    rw [if_neg hj]
    simp only [e44_0, e44_1, e44_4, e44_5, e44_8, e44_9, e44_12, e44_15, e44_16, e44_17, e44_18, e44_19, e44_22, e44_23, e44_24, e44_27, e44_28, zG1, zG2, zG3, zG5, zG6, zG7, zG8, c1, g.1, p1, zk_wi, zk_wr, if_true, if_false]
    rfl
theorem J_join {sp : Nat × (Nat → Int32)} {M0 M : zM} {S : yS} {k j : Nat} (h : RC M0 M S) (hk : k < 30) (hs : ysw (k / 3) = true) : ∃ M', zV (zPr sp) (58, 0, [.ref (zCh k), .ref (zCh j)], [], M) = some (none, M') ∧ RC M0 M' (yfS (ynS (ynS S 5 k 1) 6 k j) k false) := by
  have h1 := RC_jj (j := j) (b := false) h hk hs
  obtain ⟨c1, c2, c3, c4⟩ := RC_cS h hk hs
  have p0 : ((0 : Int32) = 0 ∨ (0 : Int32) = 1) = True := by decide
  refine ⟨_, ?_, h1⟩
  simp only [e58_0, e58_1, e58_2, e58_5, e58_6, e58_7, e58_10, e58_11, e58_12, e58_15, zG1, zG2, zG4, c1, zk_wi, zk_wr, p0, if_true]
  rfl
theorem J_lost {sp : Nat × (Nat → Int32)} {M0 M : zM} {S : yS} {k n t : Nat} (h : RC M0 M S) (hK : yK n t S) (hn : n < 2047) (hk : k < 30) (hs : ysw (k / 3) = true) : ∃ M', zV (zPr sp) (43, 0, [.ref (zCh k), .double 0], [], M) = some (none, M') ∧ RC M0 M' (yLost S k) := by
  obtain ⟨c1, c2, c3, c4⟩ := RC_cS h hk hs
  obtain ⟨M1, r1, r2⟩ := J_leave (sp := sp) h hK.2.1 hk hs
  by_cases hj : yn S 5 k = 1
  · rw [if_pos hj] at r1
    have g := (hK.2.1 k hk).2.2.2.2.2 hs hj
    obtain ⟨M2, q1, q2⟩ := C_clr (sp := sp) (k := yn S 6 k) r2 (yK_st hK (by decide) hk (fun _ => by decide)).1 hn g.1
    have c1' := (RC_cS r2 g.1 g.2.1).1
    refine ⟨M2, ?_, by unfold yLost; rw [if_pos ⟨hs, hj⟩]; exact q2⟩
    have p1 : (some (zCh (yn S 6 k)) = none) = False := eq_false (by simp)
    simp only [e43_0, e43_1, e43_4, e43_5, e43_6, e43_9, e43_10, e43_13, zG1, zG2, zG3, zG4, c1, c1', r1, q1, p1, if_true, if_false, Option.bind_some, Option.toList_some, Option.toList_none, List.nil_append, List.cons_append]
  · rw [if_neg hj] at r1
    refine ⟨M1, ?_, by unfold yLost; rw [if_neg (fun z => hj z.2)]; exact r2⟩
    simp only [e43_0, e43_1, e43_4, e43_5, e43_6, e43_9, e43_10, e43_13, zG1, zG2, zG3, zG4, zG5, zG6, zG7, zG8, c1, r1, if_true, Option.bind_some, Option.toList_some, Option.toList_none, List.nil_append, List.cons_append]
theorem T_lost {sp : Nat × (Nat → Int32)} {M0 M : zM} {S : yS} {k : Nat} (h : RC M0 M S) (hk : k < 30) (hs : ysw (k / 3) = false) : ∃ M', zV (zPr sp) (42, 0, [.ref (zCh k)], [], M) = some (none, M') ∧ RC M0 M' (yLost S k) := by
  obtain ⟨c1, c2, c3, c4, c5⟩ := RC_cT h hk hs
  have h1 := RC_tn (f := 5) (j := 7) (n := 0) h hk hs (Or.inl ⟨rfl, rfl⟩)
  refine ⟨_, ?_, by unfold yLost; rw [if_neg (fun z => by rw [hs] at z; cases z.1)]; exact h1⟩
  simp only [e42_0, e42_1, e42_2, e42_5, zG1, c1, if_true]
  rfl
