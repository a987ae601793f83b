/-! The switches' channels of the class. -/
theorem zG13 : (20 ≤ 22 ∧ 22 < 25) = True := eq_true ⟨by decide, by decide⟩
theorem kRt : ∀ e, e < 10 → ysw e = true → ∀ a, a < 4 → yRoute e a < 10 ∧ ysw (yRoute e a) = true ∧ yr0 (if e < 4 ∨ e = 8 then 62 else 72) a = some (zEn (yRoute e a)) := by decide +kernel
theorem kRt2 : ∀ e, e < 10 → yk0 (if e < 4 ∨ e = 8 then 62 else 72) = (22, 4) ∧ (if e < 4 ∨ e = 8 then 62 else 72) < 119 := by decide +kernel
theorem ysw_d {y c : Nat} (hc : c < 3) : ysw ((3 * y + c) / 3) = ysw y := by rw [show (3 * y + c) / 3 = y by omega]
def yWay (S : yS) (e a : Nat) : Option Nat := if yRoute e a = e ∨ yu S (yRoute e a) = false then none else yFree S (yRoute e a)
theorem J_fs {sp : Nat × (Nat → Int32)} {M0 M : zM} {S : yS} {k y i : Nat} {x : Int32} {v4 v5 : Value} (h : RC M0 M S) (hI : yIk S) (hy : y < 10) (hs : ysw y = true) (hi : i < 3) : zV (zPr sp) (57, 45, [.ref (zCh k), .int x, .ref (zEn y), .int (nI i), v4, v5], [], M) = if yn S 5 (3 * y + (if y % 2 = 0 then 2 - i else i)) = 0 then some (some (.ref (zCh (3 * y + (if y % 2 = 0 then 2 - i else i)))), M) else zV (zPr sp) (57, 45, [.ref (zCh k), .int x, .ref (zEn y), .int (nI (i + 1)), .ref (zCh (3 * y + (if y % 2 = 0 then 2 - i else i))), .ref (zCh (3 * y + (if y % 2 = 0 then 2 - i else i)))], [], M) := by
  obtain ⟨k1, k2, k3, k4, k5, k6, k7⟩ := RC_e h hy
  have hc : (if y % 2 = 0 then 2 - i else i) < 3 := by split <;> omega
  have hsub : nI 2 - nI i = nI (2 - i) := pk_sub (by omega)
  have hsub : (2 : Int32) - nI i = nI (2 - i) := hsub
  have p0 : (nI i < 3) = True := eq_true (nI_lt (b := 3) hi (by decide))
  have key : ∀ c, c < 3 → (zin (nI c) 3 = true ∧ (nI c).toNatClampNeg = c ∧ zr M (zEn y + 3) c = some (zCh (3 * y + c)) ∧ zk M (zCh (3 * y + c)) = (2, 0) ∧ zi M (zCh (3 * y + c)) 5 = nI (yn S 5 (3 * y + c)) ∧ (nI (yn S 5 (3 * y + c)) = 0) = (yn S 5 (3 * y + c) = 0)) := by
    intro c hc
    have hk : 3 * y + c < 30 := by omega
    have hsw : ysw ((3 * y + c) / 3) = true := by rw [ysw_d hc]; exact hs
    have gi := (hI _ hk).1
    exact ⟨zin_nI hc (by decide), nI_clamp (by omega), RC_ec h hy hc, (RC_cS h hk hsw).1, (h.2.2.1 _ hk hsw).1, propext ⟨fun z => (nI_eq (by omega) (by decide)).mp z, fun z => by rw [z]; rfl⟩⟩
  by_cases hp : y % 2 = 0
  · rw [if_pos hp]
    obtain ⟨a1, a2, a3, a4, a5, a6⟩ := key (2 - i) (by omega)
    have p1 : (yb (decide (y % 2 = 0)) = 0) = False := by rw [decide_eq_true hp]; decide
    have p2 : ((1 : Int32) = 0) = False := by decide
    by_cases hz : yn S 5 (3 * y + (2 - i)) = 0
    · rw [if_pos hz]
      have a6 := a6.trans (eq_true hz)
      simp only [e57_45, e57_46, e57_47, e57_50, e57_51, e57_54, e57_55, e57_58, e57_61, e57_62, e57_63, e57_64, e57_67, e57_68, e57_69, e57_71, e57_73, e57_76, e57_79, e57_81, e57_84, e57_86, e57_88, e57_91, e57_94, e57_96, zG1, zG2, zG3, k1, k5, k6, k7, zG10, p0, p1, p2, hsub, a1, a2, a3, a4, a5, a6, if_true, if_false]
    · rw [if_neg hz]
      have a6 := a6.trans (eq_false hz)
      refine Eq.trans ?_ e57_100
      simp only [e57_45, e57_46, e57_47, e57_50, e57_51, e57_54, e57_55, e57_58, e57_61, e57_62, e57_63, e57_64, e57_67, e57_68, e57_69, e57_71, e57_73, e57_76, e57_79, e57_81, e57_84, e57_86, e57_88, e57_91, e57_94, e57_96, e57_97, zG1, zG2, zG3, k1, k5, k6, k7, zG10, p0, p1, p2, hsub, a1, a2, a3, a4, a5, a6, if_true, if_false, nI_1]
  · rw [if_neg hp]
    obtain ⟨a1, a2, a3, a4, a5, a6⟩ := key i hi
    have p1 : (yb (decide (y % 2 = 0)) = 0) = True := by rw [decide_eq_false hp]; decide
    have p2 : ((1 : Int32) = 0) = False := by decide
    by_cases hz : yn S 5 (3 * y + i) = 0
    · rw [if_pos hz]
      have a6 := a6.trans (eq_true hz)
      simp only [e57_45, e57_46, e57_47, e57_50, e57_51, e57_54, e57_55, e57_58, e57_61, e57_62, e57_63, e57_64, e57_67, e57_68, e57_69, e57_71, e57_73, e57_76, e57_79, e57_81, e57_84, e57_86, e57_88, e57_91, e57_94, e57_96, zG1, zG2, zG3, k1, k5, k6, k7, zG10, p0, p1, p2, a1, a2, a3, a4, a5, a6, if_true, if_false]
    · rw [if_neg hz]
      have a6 := a6.trans (eq_false hz)
      refine Eq.trans ?_ e57_100
      simp only [e57_45, e57_46, e57_47, e57_50, e57_51, e57_54, e57_55, e57_58, e57_61, e57_62, e57_63, e57_64, e57_67, e57_68, e57_69, e57_71, e57_73, e57_76, e57_79, e57_81, e57_84, e57_86, e57_88, e57_91, e57_94, e57_96, e57_97, zG1, zG2, zG3, k1, k5, k6, k7, zG10, p0, p1, p2, a1, a2, a3, a4, a5, a6, if_true, if_false, nI_1]
theorem J_free {sp : Nat × (Nat → Int32)} {M0 M : zM} {S : yS} {k a : Nat} (h : RC M0 M S) (hI : yIk S) (hk : k < 30) (hs : ysw (k / 3) = true) (ha : a < 4) : zV (zPr sp) (57, 0, [.ref (zCh k), .int (nI a), .double 0, .double 0, .double 0, .double 0], [], M) = some (some (va_rf ((yWay S (k / 3) a).map zCh)), M) := by
  have he : k / 3 < 10 := by omega
  obtain ⟨c1, c2, c3, c4⟩ := RC_cS h hk hs
  obtain ⟨t1, t2, t3⟩ := kRt (k / 3) he hs a ha
  obtain ⟨u1, u2⟩ := kRt2 (k / 3) he
  generalize hrt : (if k / 3 < 4 ∨ k / 3 = 8 then 62 else 72) = rt at c4 t3 u1 u2
  have q1 : zk M rt = (22, 4) := by rw [h.1.2.1 _ (by omega)]; exact u1
  have mrt : ymut rt a = false := by
    rw [← hrt]
    split
    · exact (kR0 a ha).1
    · exact (kR0 a ha).2
  have q2 : zr M rt a = some (zEn (yRoute (k / 3) a)) := by rw [h.1.2.2.1 _ _ (by omega) mrt]; exact t3
  have p1 : (nI a < 0) = False := eq_false (nI_pos (by omega))
  have p2 : (nI a < Int32.ofNat 4) = True := eq_true (nI_lt (b := 4) ha (by decide))
  have p3 : zin (nI a) 4 = true := zin_nI ha (by decide)
  have p4 : (nI a).toNatClampNeg = a := nI_clamp (by omega)
  obtain ⟨k1, k2, k3, k4, k5, k6, k7⟩ := RC_e h t1
  have hE := h.2.1 _ t1
  have p5 : (some (zEn (yRoute (k / 3) a)) = none) = False := eq_false (by simp)
  by_cases hy : yRoute (k / 3) a = k / 3
  · have p6 : (some (zEn (yRoute (k / 3) a)) = some (zEn (k / 3))) = True := eq_true (by rw [hy])
    have hw : yWay S (k / 3) a = none := if_pos (Or.inl hy)
    rw [hw]
    simp only [e57_0, e57_1, e57_4, e57_5, e57_6, e57_9, e57_10, e57_13, e57_14, e57_15, e57_16, e57_19, e57_20, e57_21, e57_22, e57_23, e57_26, e57_27, e57_28, e57_31, e57_34, e57_35, e57_38, e57_41, e57_42, zG1, zG2, zG3, zG4, zG6, c1, c2, c4, q1, q2, zG11, zG13, p1, p2, p3, p4, p5, p6, and_self, if_true, if_false]
    rfl
  · have p6 : (some (zEn (yRoute (k / 3) a)) = some (zEn (k / 3))) = False := eq_false (fun z => hy (iEn _ t1 _ he (Option.some.inj z)))
    cases hu : yu S (yRoute (k / 3) a)
    · have hw : yWay S (k / 3) a = none := if_pos (Or.inr hu)
      rw [hw]
      rw [hu] at hE
      have p7 : (yb false = 0) = True := by decide
      simp only [e57_0, e57_1, e57_4, e57_5, e57_6, e57_9, e57_10, e57_13, e57_14, e57_15, e57_16, e57_19, e57_20, e57_21, e57_22, e57_23, e57_26, e57_27, e57_28, e57_31, e57_34, e57_35, e57_38, e57_41, e57_42, zG1, zG2, zG3, zG4, zG6, c1, c2, c4, k1, q1, q2, zG11, zG13, hE.2.1, p1, p2, p3, p4, p5, p6, p7, and_self, if_true, if_false]
      rfl
    · have hw : yWay S (k / 3) a = yFree S (yRoute (k / 3) a) := if_neg (fun z => by
        rcases z with z | z
        · exact hy z
        · rw [hu] at z; cases z)
      rw [hw]
      rw [hu] at hE
      have p7 : (yb true = 0) = False := by decide
      have s0 := fun v4 v5 => J_fs (sp := sp) (k := k) (x := nI a) (i := 0) (v4 := v4) (v5 := v5) h hI t1 t2 (by decide)
      have s1 := fun v4 v5 => J_fs (sp := sp) (k := k) (x := nI a) (i := 1) (v4 := v4) (v5 := v5) h hI t1 t2 (by decide)
      have s2 := fun v4 v5 => J_fs (sp := sp) (k := k) (x := nI a) (i := 2) (v4 := v4) (v5 := v5) h hI t1 t2 (by decide)
      have s3 : ∀ v4 v5, zV (zPr sp) (57, 45, [.ref (zCh k), .int (nI a), .ref (zEn (yRoute (k / 3) a)), .int (nI (2 + 1)), v4, v5], [], M) = some (some .null, M) := by
        intro v4 v5
        have p8 : (nI (2 + 1) < 3) = False := by decide
        simp only [e57_45, e57_46, e57_47, e57_103, e57_104, p8, zG6, if_true, if_false]
      have s0' : zV (zPr sp) (57, 45, [.ref (zCh k), .int (nI a), .ref (zEn (yRoute (k / 3) a)), .int 0, .double 0, .double 0], [], M) = _ := s0 _ _
      have st : zV (zPr sp) (57, 0, [.ref (zCh k), .int (nI a), .double 0, .double 0, .double 0, .double 0], [], M) = zV (zPr sp) (57, 45, [.ref (zCh k), .int (nI a), .ref (zEn (yRoute (k / 3) a)), .int 0, .double 0, .double 0], [], M) := by
        simp only [e57_0, e57_1, e57_4, e57_5, e57_6, e57_9, e57_10, e57_13, e57_14, e57_15, e57_16, e57_19, e57_20, e57_21, e57_22, e57_23, e57_26, e57_27, e57_28, e57_31, e57_34, e57_35, e57_38, e57_41, e57_42, e57_43, e57_44, zG1, zG2, zG3, zG4, c1, c2, c4, k1, q1, q2, zG11, zG13, hE.2.1, p1, p2, p3, p4, p5, p6, p7, and_self, if_true, if_false]
      rw [st, s0', s1, s2, s3]
      generalize yRoute (k / 3) a = y
      unfold yFree
      by_cases hp : y % 2 = 0
      · simp only [if_pos hp, Nat.sub_zero, show 2 - 1 = 1 from rfl, Nat.sub_self, Nat.add_zero]
        split
        · rfl
        · split
          · rfl
          · split
            · rfl
            · rfl
      · simp only [if_neg hp, Nat.add_zero]
        split
        · rfl
        · split
          · rfl
          · split
            · rfl
            · rfl
theorem yfS_yfS {S : yS} {k : Nat} {b b' : Bool} : yfS (yfS S k b) k b' = yfS S k b' := by
  unfold yfS
  have : va_up (va_up S.2.2.2.2.2.1 k b) k b' = va_up S.2.2.2.2.2.1 k b' := by
    funext i
    unfold va_up
    split <;> rfl
  dsimp only
  rw [this]
theorem yWay_some {S : yS} {e a j : Nat} (he : e < 10) (hs : ysw e = true) (ha : a < 4) (h : yWay S e a = some j) : j < 30 ∧ ysw (j / 3) = true ∧ j / 3 ≠ e ∧ yn S 5 j = 0 := by
  obtain ⟨t1, t2, -⟩ := kRt e he hs a ha
  unfold yWay at h
  split at h
  · cases h
  · rename_i hn
    have hne : yRoute e a ≠ e := fun z => hn (Or.inl z)
    have fin : ∀ c, c < 3 → j = 3 * yRoute e a + c → yn S 5 (3 * yRoute e a + c) = 0 → j < 30 ∧ ysw (j / 3) = true ∧ j / 3 ≠ e ∧ yn S 5 j = 0 := by
      intro c hc hj hz
      subst hj
      exact ⟨by omega, by rw [ysw_d hc]; exact t2, by omega, hz⟩
    unfold yFree at h
    split at h
    · split at h
      · rename_i hz; cases h; exact fin 2 (by decide) rfl hz
      · split at h
        · rename_i hz; cases h; exact fin 1 (by decide) rfl hz
        · split at h
          · rename_i hz; cases h; exact fin 0 (by decide) rfl hz
          · cases h
    · split at h
      · rename_i hz; cases h; exact fin 0 (by decide) rfl hz
      · split at h
        · rename_i hz; cases h; exact fin 1 (by decide) rfl hz
        · split at h
          · rename_i hz; cases h; exact fin 2 (by decide) rfl hz
          · cases h
/-- a channel of a switch is joined -/
theorem yK_j1 {n t : Nat} {S : yS} {k j : Nat} {b : Bool} (h : yK n t S) (hk : k < 30) (hj : j < 30) (hs : ysw (j / 3) = true) (hne : j / 3 ≠ k / 3) : yK (n + 1) t (yfS (ynS (ynS S 5 k 1) 6 k j) k b) := by
  have hn : ∀ f k', f ≠ 5 → f ≠ 6 → yn (yfS (ynS (ynS S 5 k 1) 6 k j) k b) f k' = yn S f k' := fun f k' h5 h6 => by rw [yn_f, yn_nf h6, yn_nf h5]
  have ho : ∀ f k', k' ≠ k → yn (yfS (ynS (ynS S 5 k 1) 6 k j) k b) f k' = yn S f k' := fun f k' hk' => by rw [yn_f, yn_ne hk', yn_ne hk']
  have h5 : yn (yfS (ynS (ynS S 5 k 1) 6 k j) k b) 5 k = 1 := by rw [yn_f, yn_nf (by decide), yn_nn]
  have h6 : yn (yfS (ynS (ynS S 5 k 1) 6 k j) k b) 6 k = j := by rw [yn_f, yn_nn]
  refine ⟨fun e he => ?_, fun k' hk' => ?_, h.2.2.1, ?_⟩
  · rw [hn _ _ (by decide) (by decide), hn _ _ (by decide) (by decide), hn _ _ (by decide) (by decide), hn _ _ (by decide) (by decide), hn _ _ (by decide) (by decide)]
    exact h.1 e he
  · have g := h.2.1 k' hk'
    rw [hn 8 _ (by decide) (by decide), hn 9 _ (by decide) (by decide), hn 10 _ (by decide) (by decide), hn 7 _ (by decide) (by decide)]
    by_cases hkk : k' = k
    · subst hkk
      rw [h5, h6]
      exact ⟨by decide, g.2.1, g.2.2.1, g.2.2.2.1, g.2.2.2.2.1, fun _ _ => ⟨hj, hs, hne⟩⟩
    · rw [ho 5 k' hkk, ho 6 k' hkk]
      exact g
  · have h1 := ysum_one (f := yj S) (g := yj (yfS (ynS (ynS S 5 k 1) 6 k j) k b)) (q := k) (n := 30) hk (fun i hi => by unfold yj; rw [ho 5 i hi])
    have h2 : yj (yfS (ynS (ynS S 5 k 1) 6 k j) k b) k ≤ 1 := by
      unfold yj
      split <;> omega
    have h3 := h.2.2.2
    have h4 : ysum (fun e => (yr (yfS (ynS (ynS S 5 k 1) 6 k j) k b) e).length) 10 = ysum (fun e => (yr S e).length) 10 := rfl
    unfold yΦ at h3 ⊢
    omega
theorem yK_conn {n t : Nat} {S : yS} {k a b : Nat} (h : yK n t S) (hk : k < 30) (hs : ysw (k / 3) = true) (ha : a < 4) (hb : b < 256) : yK (n + 3) t (yConn S (k / 3) k a b) := by
  have hdef : yConn S (k / 3) k a b = match yWay S (k / 3) a with
    | none => yCut S k
    | some j => yPutOn (yJoin S k j) j 0 a b := rfl
  rw [hdef]
  cases hw : yWay S (k / 3) a with
  | none => exact (yK_cut h hk).mono (by omega) (Nat.le_refl _)
  | some j =>
    obtain ⟨j1, j2, j3, j4⟩ := yWay_some (by omega) hs ha hw
    have h1 := yK_j1 (b := false) h hk j1 j2 j3
    have h2 := yK_j1 (b := true) h1 j1 hk hs (Ne.symm j3)
    exact yK_put h2 (by omega) (yPk_k (by decide) (by omega) hb (fun _ => ha))
theorem J_conn {sp : Nat × (Nat → Int32)} {M0 M : zM} {S : yS} {k a b n t : Nat} (h : RC M0 M S) (hK : yK n t S) (hn : n < 2044) (hk : k < 30) (hs : ysw (k / 3) = true) (ha : a < 4) (hb : b < 256) : ∃ M', zV (zPr sp) (56, 0, [.ref (zCh k), .int (nI a), .int (nI b), .double 0], [], M) = some (none, M') ∧ RC M0 M' (yConn S (k / 3) k a b) := by
  have hdef : yConn S (k / 3) k a b = match yWay S (k / 3) a with
    | none => yCut S k
    | some j => yPutOn (yJoin S k j) j 0 a b := rfl
  rw [hdef]
  have c1 := (RC_cS h hk hs).1
  have hf := J_free (sp := sp) h hK.2.1 hk hs ha
  cases hw : yWay S (k / 3) a with
  | none =>
    rw [hw] at hf
    have hf : zV (zPr sp) (57, 0, [.ref (zCh k), .int (nI a), .double 0, .double 0, .double 0, .double 0], [], M) = some (some .null, M) := hf
    obtain ⟨M1, r1, r2⟩ := C_clr (sp := sp) h hK (by omega) hk
    refine ⟨M1, ?_, r2⟩
    simp only [e56_0, e56_1, e56_2, e56_5, e56_6, e56_7, e56_10, e56_11, e56_14, e56_15, e56_16, e56_17, e56_20, e56_21, e56_22, e56_25, e56_26, e56_27, e56_30, e56_31, e56_32, e56_33, e56_34, e56_37, zG1, zG6, zG7, zG8, c1, hf, r1, if_true, Option.bind_some, Option.toList_some, Option.toList_none, List.nil_append, List.cons_append]
  | some j =>
    rw [hw] at hf
    have hf : zV (zPr sp) (57, 0, [.ref (zCh k), .int (nI a), .double 0, .double 0, .double 0, .double 0], [], M) = some (some (.ref (zCh j)), M) := hf
    obtain ⟨j1, j2, j3, j4⟩ := yWay_some (by omega) hs ha hw
    obtain ⟨M1, r1, r2⟩ := J_join (sp := sp) (j := j) h hk hs
    obtain ⟨M2, u1, u2⟩ := J_join (sp := sp) (k := j) (j := k) r2 j1 j2
    have a3 : RC M0 (zwi M2 (zCh j) 2 1) _ := RC_ju (b := true) u2 j1 j2
    rw [yfS_yfS] at a3
    have h1 := yK_j1 (b := false) hK hk j1 j2 j3
    have h2 := yK_j1 (b := true) h1 j1 hk hs (Ne.symm j3)
    obtain ⟨M3, q1, q2⟩ := C_put (sp := sp) (k := j) (kind := 0) (a := a) (b := b) a3 h2 (by omega) j1 (yPk_k (by decide) (by omega) hb (fun _ => ha))
    have q1 : zV (zPr sp) (18, 0, [.ref (zCh j), .int 0, .int (nI a), .int (nI b)], [], zwi M2 (zCh j) 2 1) = some (none, M3) := q1
    have d1 := (RC_cS r2 j1 j2).1
    have d2 := (RC_cS u2 j1 j2).1
    have p1 : (some (zCh j) = none) = False := eq_false (by simp)
    refine ⟨M3, ?_, q2⟩
    simp only [e56_0, e56_1, e56_2, e56_5, e56_6, e56_7, e56_10, e56_11, e56_14, e56_15, e56_16, e56_17, e56_20, e56_21, e56_22, e56_25, e56_26, e56_27, e56_30, e56_31, e56_32, e56_33, e56_34, e56_37, zG1, zG2, zG4, c1, d1, d2, zk_wi, hf, r1, u1, q1, p1, or_true, true_or, if_true, if_false, Option.bind_some, Option.toList_some, Option.toList_none, List.nil_append, List.cons_append]
