/-! The switches' channels of the class: what arrives there. -/
def yMcal (S : yS) (k a b : Nat) (g : Bool) : yS :=
  let S2 := if yn S 5 k = 1 ∧ g = true then yCut (ynS S 5 k 0) (yn S 6 k) else S
  if yn S2 5 k = 0 then yConn S2 (k / 3) k a b else S2
def yMclr (S : yS) (k : Nat) : yS :=
  let S2 := if yn S 5 k = 5 then ynS S 5 k 0 else yPutOn (ynS S 5 k 0) k 3 0 0
  if yn S 5 k = 1 then yCut S2 (yn S 6 k) else S2
theorem yK_way {n t : Nat} {S : yS} {k : Nat} (h : yK n t S) (hk : k < 30) (hs : ysw (k / 3) = true) (hj : yn S 5 k = 1) : yK n t (yCut (ynS S 5 k 0) (yn S 6 k)) := by
  have g := h.2.1 k hk
  obtain ⟨h1, h2⟩ := (yK_st (m := 0) h (by decide) hk (fun _ => by decide)).2 hs hj
  exact (yK_cut h1 (k := yn S 6 k) (g.2.2.2.2.2 hs hj).1).mono (by omega) (Nat.le_refl _)
theorem yK_mcal {n t : Nat} {S : yS} {k a b : Nat} {g : Bool} (h : yK n t S) (hk : k < 30) (hs : ysw (k / 3) = true) (ha : a < 4) (hb : b < 256) : yK (n + 3) t (yMcal S k a b g) := by
  have key : ∀ {S2 : yS}, yK n t S2 → yK (n + 3) t (if yn S2 5 k = 0 then yConn S2 (k / 3) k a b else S2) := by
    intro S2 h2
    split
    · exact yK_conn h2 hk hs ha hb
    · exact h2.mono (by omega) (Nat.le_refl _)
  unfold yMcal
  dsimp only
  by_cases hc : yn S 5 k = 1 ∧ g = true
  · rw [if_pos hc]; exact key (yK_way h hk hs hc.1)
  · rw [if_neg hc]; exact key h
theorem yK_mclr {n t : Nat} {S : yS} {k : Nat} (h : yK n t S) (hk : k < 30) (hs : ysw (k / 3) = true) : yK (n + 1) t (yMclr S k) := by
  have p3 : yPk (3, k % 3 + 1, 0, 0) := yPk_k (by decide) (by decide) (by decide) (fun z => by cases z)
  unfold yMclr
  dsimp only
  by_cases hj : yn S 5 k = 1
  · rw [if_pos hj, if_neg (by omega)]
    have g := h.2.1 k hk
    obtain ⟨h1, h2⟩ := (yK_st (m := 0) h (by decide) hk (fun _ => by decide)).2 hs hj
    have h3 : yK (n - 1 + 1) t (yPutOn (ynS S 5 k 0) k 3 0 0) := yK_put h1 (by omega) p3
    exact (yK_cut h3 (k := yn S 6 k) (g.2.2.2.2.2 hs hj).1).mono (by omega) (Nat.le_refl _)
  · rw [if_neg hj]
    have h1 := (yK_st (m := 0) h (by decide) hk (fun _ => by decide)).1
    split
    · exact h1.mono (by omega) (Nat.le_refl _)
    · exact yK_put h1 (by omega) p3
theorem J_call {sp : Nat × (Nat → Int32)} {M0 M : zM} {S : yS} {k a b n t : Nat} {g : Bool} (h : RC M0 M S) (hK : yK n t S) (hn : n < 2044) (hk : k < 30) (hs : ysw (k / 3) = true) (ha : a < 4) (hb : b < 256) : ∃ M', zV (zPr sp) (55, 0, [.ref (zCh k), .int (yb g), .int (nI a), .int (nI b), .double 0], [], M) = some (none, M') ∧ RC M0 M' (yMcal S k a b g) := by
  have tail : ∀ {M : zM} {S2 : yS} {v4 : Value}, RC M0 M S2 → yK n t S2 → ∃ M', zV (zPr sp) (55, 28, [.ref (zCh k), .int (yb g), .int (nI a), .int (nI b), v4], [], M) = some (none, M') ∧ RC M0 M' (if yn S2 5 k = 0 then yConn S2 (k / 3) k a b else S2) := by
    intro M S2 v4 h hK
    obtain ⟨c1, c2, c3, c4⟩ := RC_cS h hk hs
    have g5 := (h.2.2.1 k hk hs).1
    have gi := (hK.2.1 k hk).1
    by_cases hz : yn S2 5 k = 0
    · rw [if_pos hz]
      have p1 : (nI (yn S2 5 k) = 0) = True := by rw [hz]; decide
      obtain ⟨M1, r1, r2⟩ := J_conn (sp := sp) h hK hn hk hs ha hb
      refine ⟨M1, ?_, r2⟩
      simp only [e55_28, e55_29, e55_32, e55_35, e55_36, e55_37, e55_38, e55_41, zG1, c1, g5, p1, r1, if_true, Option.bind_some, Option.toList_none, List.nil_append]
    · rw [if_neg hz]
      have p1 : (nI (yn S2 5 k) = 0) = False := eq_false (fun z => hz ((nI_eq (by omega) (by decide)).mp z))
      refine ⟨M, ?_, h⟩
      simp only [e55_28, e55_29, e55_32, e55_35, e55_36, e55_37, e55_38, e55_41, zG1, c1, g5, p1, if_true, if_false]
  obtain ⟨c1, c2, c3, c4⟩ := RC_cS h hk hs
  have g5 := (h.2.2.1 k hk hs).1
  have gi := (hK.2.1 k hk).1
  unfold yMcal
  dsimp only
  by_cases hj : yn S 5 k = 1
  · have p1 : (nI (yn S 5 k) = 1) = True := by rw [hj]; decide
    cases g
    · rw [if_neg (show ¬ (yn S 5 k = 1 ∧ false = true) from fun z => by cases z.2)]
      obtain ⟨M1, r1, r2⟩ := tail (v4 := .double 0) h hK
      have p2 : (yb false = 0) = True := by decide
      refine ⟨M1, ?_, r2⟩
      simp only [e55_0, e55_1, e55_4, e55_5, e55_8, e55_9, zG1, c1, g5, p1, p2, r1, if_true]
    · rw [if_pos (show yn S 5 k = 1 ∧ true = true from ⟨hj, rfl⟩)]
      have p2 : (yb true = 0) = False := by decide
      obtain ⟨M1, q1, q2⟩ := J_leave (sp := sp) h hK.2.1 hk hs
      rw [if_pos hj] at q1
      have gg := (hK.2.1 k hk).2.2.2.2.2 hs hj
      obtain ⟨M2, u1, u2⟩ := C_clr (sp := sp) (k := yn S 6 k) q2 (yK_st hK (by decide) hk (fun _ => by decide)).1 (by omega) gg.1
      obtain ⟨M3, r1, r2⟩ := tail (v4 := .ref (zCh (yn S 6 k))) u2 (yK_way hK hk hs hj)
      have c1' := (RC_cS q2 gg.1 gg.2.1).1
      have p3 : (some (zCh (yn S 6 k)) = none) = False := eq_false (by simp)
      refine ⟨M3, ?_, r2⟩
      simp only [e55_0, e55_1, e55_4, e55_5, e55_8, e55_9, e55_12, e55_13, e55_16, e55_18, e55_20, e55_23, e55_25, zG1, zG2, zG3, zG4, c1, c1', g5, p1, p2, p3, q1, u1, r1, if_true, if_false, Option.bind_some, Option.toList_some, Option.toList_none, List.nil_append, List.cons_append]
  · rw [if_neg (show ¬ (yn S 5 k = 1 ∧ g = true) from fun z => hj z.1)]
    have p1 : (nI (yn S 5 k) = 1) = False := eq_false (fun z => hj ((nI_eq (by omega) (by decide)).mp z))
    obtain ⟨M1, r1, r2⟩ := tail (v4 := .double 0) h hK
    refine ⟨M1, ?_, r2⟩
    simp only [e55_0, e55_1, e55_4, e55_5, e55_8, e55_9, zG1, c1, g5, p1, r1, if_true, if_false]
theorem J_clear {sp : Nat × (Nat → Int32)} {M0 M : zM} {S : yS} {k n t : Nat} (h : RC M0 M S) (hK : yK n t S) (hn : n < 2044) (hk : k < 30) (hs : ysw (k / 3) = true) : ∃ M', zV (zPr sp) (59, 0, [.ref (zCh k), .double 0, .double 0], [], M) = some (none, M') ∧ RC M0 M' (yMclr S k) := by
  have p3 : yPk (3, k % 3 + 1, 0, 0) := yPk_k (by decide) (by decide) (by decide) (fun z => by cases z)
  obtain ⟨c1, c2, c3, c4⟩ := RC_cS h hk hs
  have g5 := (h.2.2.1 k hk hs).1
  have gi := (hK.2.1 k hk).1
  obtain ⟨M1, q1, q2⟩ := J_leave (sp := sp) h hK.2.1 hk hs
  have d1 := (RC_cS q2 hk hs).1
  have hK1 := (yK_st (m := 0) hK (by decide) hk (fun _ => by decide)).1
  unfold yMclr
  dsimp only
  have z1 : ((1 : Int32) = 0) = False := by decide
  by_cases h5 : yn S 5 k = 5
  · rw [if_neg (show ¬ yn S 5 k = 1 by omega), if_pos h5]
    rw [if_neg (show ¬ yn S 5 k = 1 by omega)] at q1
    have p1 : (nI (yn S 5 k) = 5) = True := by rw [h5]; decide
    refine ⟨M1, ?_, q2⟩
    simp only [e59_0, e59_1, e59_4, e59_5, e59_8, e59_9, e59_12, e59_13, e59_14, e59_15, e59_18, e59_19, e59_20, e59_23, e59_24, e59_25, e59_26, e59_27, e59_30, e59_31, e59_34, e59_35, e59_38, zG1, zG4, zG5, zG6, zG7, zG8, c1, g5, p1, z1, q1, if_true, if_false, Option.bind_some, Option.toList_some, List.nil_append, List.cons_append]
  · rw [if_neg h5]
    have p1 : (nI (yn S 5 k) = 5) = False := eq_false (fun z => h5 ((nI_eq (by omega) (by decide)).mp z))
    obtain ⟨M2, u1, u2⟩ := C_put (sp := sp) (k := k) (kind := 3) (a := 0) (b := 0) q2 hK1 (by omega) hk p3
    have u1 : zV (zPr sp) (18, 0, [.ref (zCh k), .int 3, .int 0, .int 0], [], M1) = some (none, M2) := u1
    by_cases hj : yn S 5 k = 1
    · rw [if_pos hj]
      rw [if_pos hj] at q1
      have gg := (hK.2.1 k hk).2.2.2.2.2 hs hj
      have hK2 : yK (n + 1) t (yPutOn (ynS S 5 k 0) k 3 0 0) := yK_put hK1 (by omega) p3
      obtain ⟨M3, r1, r2⟩ := C_clr (sp := sp) (k := yn S 6 k) u2 hK2 (by omega) gg.1
      have c1' := (RC_cS u2 gg.1 gg.2.1).1
      have p4 : (some (zCh (yn S 6 k)) = none) = False := eq_false (by simp)
      refine ⟨M3, ?_, r2⟩
      simp only [e59_0, e59_1, e59_4, e59_5, e59_8, e59_9, e59_12, e59_13, e59_14, e59_15, e59_18, e59_19, e59_20, e59_23, e59_24, e59_25, e59_26, e59_27, e59_30, e59_31, e59_34, e59_35, e59_38, zG1, zG2, zG3, zG4, c1, c1', d1, g5, p1, p4, q1, u1, r1, if_true, if_false, Option.bind_some, Option.toList_some, Option.toList_none, List.nil_append, List.cons_append]
    · rw [if_neg hj]
      rw [if_neg hj] at q1
      refine ⟨M2, ?_, u2⟩
      simp only [e59_0, e59_1, e59_4, e59_5, e59_8, e59_9, e59_12, e59_13, e59_14, e59_15, e59_18, e59_19, e59_20, e59_23, e59_24, e59_25, e59_26, e59_27, e59_30, e59_31, e59_34, e59_35, e59_38, zG1, zG4, zG5, zG6, zG7, zG8, c1, d1, g5, p1, q1, u1, if_true, if_false, Option.bind_some, Option.toList_some, Option.toList_none, List.nil_append, List.cons_append]
def yMpas (S : yS) (k kind a b : Nat) : yS := if yn S 5 k = 1 then yPutOn S (yn S 6 k) kind a b else S
theorem yArrS_0 {S : yS} {k a b : Nat} {g : Bool} (hg : yn S 5 k = 1 → (g = true ↔ yf S k = true ∧ k / 3 % 2 = 1)) : yArrS S (k / 3) k 0 a b = yMcal (yfS S k false) k a b g := by
  have hdef : yArrS S (k / 3) k 0 a b = (let S2 := if yn (yfS S k false) 5 k = 1 ∧ (yf S k = true ∧ k / 3 % 2 = 1) then yCut (ynS (yfS S k false) 5 k 0) (yn (yfS S k false) 6 k) else yfS S k false; if yn S2 5 k = 0 then yConn S2 (k / 3) k a b else S2) := rfl
  rw [hdef]
  unfold yMcal
  have hc : (yn (yfS S k false) 5 k = 1 ∧ (yf S k = true ∧ k / 3 % 2 = 1)) = (yn (yfS S k false) 5 k = 1 ∧ g = true) := by
    rw [yn_f]
    exact propext ⟨fun z => ⟨z.1, (hg z.1).mpr z.2⟩, fun z => ⟨z.1, (hg z.1).mp z.2⟩⟩
  simp only [hc]
theorem yArrS_2 {S : yS} {k a b : Nat} : yArrS S (k / 3) k 2 a b = yMclr (yfS S k false) k := rfl
theorem yArrS_3 {S : yS} {k a b : Nat} : yArrS S (k / 3) k 3 a b = if yn (yfS S k false) 5 k = 5 then ynS (yfS S k false) 5 k 0 else yfS S k false := rfl
theorem yArrS_d {S : yS} {k kind a b : Nat} (h0 : kind ≠ 0) (h2 : kind ≠ 2) (h3 : kind ≠ 3) : yArrS S (k / 3) k kind a b = yMpas (yfS S k false) k kind a b := by
  unfold yArrS yMpas
  dsimp only
  rw [if_neg h0, if_neg h2, if_neg h3]
theorem yK_f {n t : Nat} {S : yS} {k : Nat} {b : Bool} (h : yK n t S) : yK n t (yfS S k b) := h
theorem yK_arrS {n t : Nat} {S : yS} {k kind a b : Nat} (h : yK n t S) (hk : k < 30) (hs : ysw (k / 3) = true) (hp : yPk (kind, k % 3 + 1, a, b)) : yK (n + 3) t (yArrS S (k / 3) k kind a b) := by
  have h1 : yK n t (yfS S k false) := yK_f h
  obtain ⟨p1, -, p3, p4, p5⟩ := hp
  have p1 : kind < 8 := p1
  have p3 : a < 8 := p3
  have p4 : b < 256 := p4
  by_cases k0 : kind = 0
  · subst k0
    rw [yArrS_0 (g := decide (yf S k = true ∧ k / 3 % 2 = 1)) (fun _ => by rw [decide_eq_true_eq])]
    exact yK_mcal h1 hk hs (p5 rfl) p4
  · by_cases k2 : kind = 2
    · subst k2; exact (yK_mclr h1 hk hs).mono (by omega) (Nat.le_refl _)
    · by_cases k3 : kind = 3
      · subst k3
        rw [yArrS_3]
        split
        · exact (yK_st h1 (by decide) hk (fun _ => by decide)).1.mono (by omega) (Nat.le_refl _)
        · exact h1.mono (by omega) (Nat.le_refl _)
      · rw [yArrS_d k0 k2 k3]
        unfold yMpas
        by_cases hj : yn (yfS S k false) 5 k = 1
        · rw [if_pos hj]
          have gg := (h1.2.1 k hk).2.2.2.2.2 hs hj
          have h3 : yK (n + 1) t (yPutOn (yfS S k false) (yn (yfS S k false) 6 k) kind a b) := yK_put h1 (by omega) (yPk_k p1 p3 p4 (fun z => absurd z k0))
          exact h3.mono (by omega) (Nat.le_refl _)
        · rw [if_neg hj]; exact h1.mono (by omega) (Nat.le_refl _)
theorem J_arr {sp : Nat × (Nat → Int32)} {M0 M : zM} {S : yS} {k kind a b n t : Nat} (h : RC M0 M S) (hK : yK n t S) (hn : n < 2043) (hk : k < 30) (hs : ysw (k / 3) = true) (hp : yPk (kind, k % 3 + 1, a, b)) : ∃ M', zV (zPr sp) (54, 0, [.ref (zCh k), .int (nI kind), .int (nI a), .int (nI b), .double 0], [], M) = some (none, M') ∧ RC M0 M' (yArrS S (k / 3) k kind a b) := by
  have h1 : RC M0 (zwi M (zCh k) 2 0) (yfS S k false) := RC_ju (b := false) h hk hs
  have hK1 : yK n t (yfS S k false) := yK_f hK
  obtain ⟨p1, -, p3, p4, p5⟩ := hp
  have p1 : kind < 8 := p1
  have p3 : a < 8 := p3
  have p4 : b < 256 := p4
  obtain ⟨c1, c2, c3, c4⟩ := RC_cS h hk hs
  obtain ⟨d1, d2, d3, d4⟩ := RC_cS h1 hk hs
  obtain ⟨e1, -, -, -, -, -, e7⟩ := RC_e h (show k / 3 < 10 by omega)
  have gS := h.2.2.1 k hk hs
  have pre : ∃ g : Bool, zV (zPr sp) (54, 0, [.ref (zCh k), .int (nI kind), .int (nI a), .int (nI b), .double 0], [], M) = zV (zPr sp) (54, 30, [.ref (zCh k), .int (nI kind), .int (nI a), .int (nI b), .int (yb g)], [.int (nI kind)], zwi M (zCh k) 2 0) ∧ (yn S 5 k = 1 → (g = true ↔ yf S k = true ∧ k / 3 % 2 = 1)) := by
    by_cases hz : zi M (zCh k) 2 = 0
    · refine ⟨false, ?_, fun hj => ⟨(fun z => by cases z), fun z => ?_⟩⟩
      · have q0 : yb false = 0 := rfl
        have p2 : (zi M (zCh k) 2 = 0) = True := eq_true hz
        simp only [e54_0, e54_1, e54_4, e54_7, e54_8, e54_11, e54_14, e54_17, e54_18, e54_21, e54_22, e54_24, e54_25, e54_26, e54_29, zG1, true_or, or_true, c1, p2, q0, if_true]
      · have := (gS.2 hj).1
        rw [hz, z.1] at this
        exact absurd this (by decide)
    · have p2 : (zi M (zCh k) 2 = 0) = False := eq_false hz
      by_cases hp : k / 3 % 2 = 0
      · refine ⟨false, ?_, fun hj => ⟨(fun z => by cases z), fun z => by omega⟩⟩
        have q0 : yb false = 0 := rfl
        rw [decide_eq_true hp] at e7
        have p6 : (yb true = 0) = False := by decide
        simp only [e54_0, e54_1, e54_4, e54_7, e54_8, e54_11, e54_14, e54_17, e54_18, e54_21, e54_22, e54_24, e54_25, e54_26, e54_29, zG1, zG2, zG3, true_or, or_true, c1, c2, e1, e7, p2, p6, q0, if_true, if_false]
      · refine ⟨true, ?_, fun hj => ⟨fun _ => ⟨?_, by omega⟩, fun _ => rfl⟩⟩
        · have q0 : yb true = 1 := rfl
          rw [decide_eq_false hp] at e7
          have p6 : (yb false = 0) = True := by decide
          simp only [e54_0, e54_1, e54_4, e54_7, e54_8, e54_11, e54_14, e54_17, e54_18, e54_21, e54_22, e54_24, e54_25, e54_26, e54_29, zG1, zG2, zG3, true_or, or_true, c1, c2, e1, e7, p2, p6, q0, if_true, if_false]
        · cases hy : yf S k
          · have := (gS.2 hj).1
            rw [hy] at this
            exact absurd this hz
          · rfl
  obtain ⟨g, w1, w2⟩ := pre
  rw [w1]
  clear w1
  have gi := (hK1.2.1 k hk).1
  have g5 := (h1.2.2.1 k hk hs).1
  by_cases k0 : kind = 0
  · subst k0
    rw [yArrS_0 w2]
    obtain ⟨M1, r1, r2⟩ := J_call (sp := sp) (g := g) h1 hK1 (by omega) hk hs (p5 rfl) p4
    have s0 : (nI 0 = Int32.ofNat 0) = True := by decide
    refine ⟨M1, ?_, r2⟩
    simp only [e54_30, e54_60, e54_61, e54_63, e54_64, e54_65, e54_68, e54_71, e54_72, e54_75, e54_78, e54_79, e54_82, e54_83, e54_86, e54_87, e54_88, e54_91, e54_94, e54_95, e54_98, e54_99, e54_102, e54_103, e54_106, e54_109, e54_110, e54_113, e54_114, e54_115, e54_116, e54_119, s0, zG1, d1, r1, if_true, Option.bind_some, Option.toList_none, List.nil_append]
  · by_cases k2 : kind = 2
    · subst k2
      rw [yArrS_2]
      obtain ⟨M1, r1, r2⟩ := J_clear (sp := sp) h1 hK1 (by omega) hk hs
      have s0 : (nI 2 = Int32.ofNat 0) = False := by decide
      have s1 : (nI 2 = Int32.ofNat 1) = False := by decide
      have s2 : (nI 2 = Int32.ofNat 2) = True := by decide
      refine ⟨M1, ?_, r2⟩
      simp only [e54_30, e54_60, e54_61, e54_63, e54_64, e54_65, e54_68, e54_71, e54_72, e54_75, e54_78, e54_79, e54_82, e54_83, e54_86, e54_87, e54_88, e54_91, e54_94, e54_95, e54_98, e54_99, e54_102, e54_103, e54_106, e54_109, e54_110, e54_113, e54_114, e54_115, e54_116, e54_119, s0, s1, s2, zG1, d1, r1, if_true, if_false, Option.bind_some, Option.toList_none, List.nil_append]
    · by_cases k3 : kind = 3
      · subst k3
        rw [yArrS_3]
        have s0 : (nI 3 = Int32.ofNat 0) = False := by decide
        have s1 : (nI 3 = Int32.ofNat 1) = False := by decide
        have s2 : (nI 3 = Int32.ofNat 2) = False := by decide
        have s3 : (nI 3 = Int32.ofNat 3) = True := by decide
        by_cases h5 : yn (yfS S k false) 5 k = 5
        · rw [if_pos h5]
          have p6 : (nI (yn (yfS S k false) 5 k) = 5) = True := by rw [h5]; decide
          have a1 : RC M0 (zwi (zwi M (zCh k) 2 0) (zCh k) 5 0) (ynS (yfS S k false) 5 k 0) := RC_jn (n := 0) h1 hk hs (by decide)
          refine ⟨_, ?_, a1⟩
          simp only [e54_30, e54_60, e54_61, e54_63, e54_64, e54_65, e54_68, e54_71, e54_72, e54_75, e54_78, e54_79, e54_82, e54_83, e54_86, e54_87, e54_88, e54_91, e54_94, e54_95, e54_98, e54_99, e54_102, e54_103, e54_106, e54_109, e54_110, e54_113, e54_114, e54_115, e54_116, e54_119, s0, s1, s2, s3, zG1, d1, g5, p6, if_true, if_false]
        · rw [if_neg h5]
          have p6 : (nI (yn (yfS S k false) 5 k) = 5) = False := eq_false (fun z => h5 ((nI_eq (by omega) (by decide)).mp z))
          refine ⟨_, ?_, h1⟩
          simp only [e54_30, e54_60, e54_61, e54_63, e54_64, e54_65, e54_68, e54_71, e54_72, e54_75, e54_78, e54_79, e54_82, e54_83, e54_86, e54_87, e54_88, e54_91, e54_94, e54_95, e54_98, e54_99, e54_102, e54_103, e54_106, e54_109, e54_110, e54_113, e54_114, e54_115, e54_116, e54_119, s0, s1, s2, s3, zG1, d1, g5, p6, if_true, if_false]
      · rw [yArrS_d k0 k2 k3]
        have jump : zV (zPr sp) (54, 30, [.ref (zCh k), .int (nI kind), .int (nI a), .int (nI b), .int (yb g)], [.int (nI kind)], zwi M (zCh k) 2 0) = zV (zPr sp) (54, 94, [.ref (zCh k), .int (nI kind), .int (nI a), .int (nI b), .int (yb g)], [], zwi M (zCh k) 2 0) := by
          have s0 : (nI kind = Int32.ofNat 0) = False := eq_false (fun z => k0 ((nI_eq (by omega) (by decide)).mp z))
          have s2 : (nI kind = Int32.ofNat 2) = False := eq_false (fun z => k2 ((nI_eq (by omega) (by decide)).mp z))
          have s3 : (nI kind = Int32.ofNat 3) = False := eq_false (fun z => k3 ((nI_eq (by omega) (by decide)).mp z))
          simp only [e54_30, s0, s2, s3, if_false, ite_self]
        rw [jump]
        unfold yMpas
        by_cases hj : yn (yfS S k false) 5 k = 1
        · rw [if_pos hj]
          have p6 : (nI (yn (yfS S k false) 5 k) = 1) = True := by rw [hj]; decide
          have gg := (hK1.2.1 k hk).2.2.2.2.2 hs hj
          have gp := ((h1.2.2.1 k hk hs).2 hj).2
          obtain ⟨M1, r1, r2⟩ := C_put (sp := sp) (k := yn (yfS S k false) 6 k) (kind := kind) (a := a) (b := b) h1 hK1 (by omega) gg.1 (yPk_k p1 p3 p4 (fun z => absurd z k0))
          have c1' := (RC_cS h1 gg.1 gg.2.1).1
          have p4 : (some (zCh (yn (yfS S k false) 6 k)) = none) = False := eq_false (by simp)
          refine ⟨M1, ?_, r2⟩
          simp only [e54_94, e54_95, e54_98, e54_99, e54_102, e54_103, e54_106, e54_109, e54_110, e54_113, e54_114, e54_115, e54_116, e54_119, zG1, zG2, zG3, zG4, d1, c1', g5, gp, p6, p4, r1, if_true, if_false, Option.bind_some, Option.toList_none, List.nil_append]
        · rw [if_neg hj]
          have p6 : (nI (yn (yfS S k false) 5 k) = 1) = False := eq_false (fun z => hj ((nI_eq (by omega) (by decide)).mp z))
          refine ⟨_, ?_, h1⟩
          simp only [e54_94, e54_95, e54_98, e54_99, e54_102, e54_103, e54_106, e54_109, e54_110, e54_113, e54_114, e54_115, e54_116, e54_119, zG1, d1, g5, p6, if_true, if_false]
