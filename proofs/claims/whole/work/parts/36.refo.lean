/-! The reference's own methods on a circuit. -/
theorem R_bel {sp : Nat × (Nat → Int32)} {M : zM} {x n : Int32} : zV (zPr sp) (91, 0, [.int x, .int n], [], M) = some (some (.int (yb (decide (¬ x < 0 ∧ x < n)))), M) := by
  by_cases h1 : x < 0
  · rw [decide_eq_false (fun z => z.1 h1)]
    have p1 := eq_true h1
    simp only [e91_0, e91_1, e91_4, e91_5, e91_6, e91_9, e91_10, e91_13, e91_14, p1, or_true, true_or, if_true, if_false, Option.bind_some, Option.toList_some, Option.toList_none, List.nil_append, List.cons_append]
    rfl
  · have p1 := eq_false h1
    by_cases h2 : x < n
    · rw [decide_eq_true ⟨h1, h2⟩]
      have p2 := eq_true h2
      simp only [e91_0, e91_1, e91_4, e91_5, e91_6, e91_9, e91_10, e91_13, e91_14, p1, p2, or_true, true_or, if_true, if_false, Option.bind_some, Option.toList_some, Option.toList_none, List.nil_append, List.cons_append]
      rfl
    · rw [decide_eq_false (fun z => h2 z.2)]
      have p2 := eq_false h2
      simp only [e91_0, e91_1, e91_4, e91_5, e91_6, e91_9, e91_10, e91_13, e91_14, p1, p2, or_true, true_or, if_true, if_false, Option.bind_some, Option.toList_some, Option.toList_none, List.nil_append, List.cons_append]
      rfl
theorem cB {c : Int32} : (¬ c - 1 < 0 ∧ c - 1 < 3) ↔ (¬ c < 1 ∧ ¬ 3 < c) := by
  constructor
  · intro h
    obtain ⟨j, hj, hx⟩ := nI_rg (n := 3) (by decide) h.1 h.2
    have hc : c = nI (j + 1) := by
      have : c = c - 1 + 1 := (Int32.sub_add_cancel c 1).symm
      rw [this, hx]
      exact nI_1 j
    rw [hc]
    exact ⟨nI_nlt (b := 1) (by omega) (by omega), nI_nlt (a := 3) (by omega) (by omega)⟩
  · intro h
    have hc0 : ¬ c < 0 := fun z => h.1 (Int32.lt_trans z (by decide))
    obtain ⟨q, hq, rfl⟩ := nI_rl (n := 3) (by decide) hc0 h.2
    have hq1 : q ≠ 0 := fun z => h.1 (by rw [z]; decide)
    have e1 : nI q - 1 = nI (q - 1) := pk_sub (b := 1) (by omega)
    rw [e1]
    exact ⟨nI_pos (by omega), nI_lt (b := 3) (by omega) (by decide)⟩
theorem cE {e : Int32} : (¬ e < 0 ∧ e < 2) ↔ (¬ e < 0 ∧ ¬ 1 < e) := by
  constructor
  · intro h
    obtain ⟨j, hj, rfl⟩ := nI_rg (n := 2) (by decide) h.1 h.2
    exact ⟨h.1, nI_nlt (a := 1) (by omega) (by omega)⟩
  · intro h
    obtain ⟨j, hj, rfl⟩ := nI_rl (n := 1) (by decide) h.1 h.2
    exact ⟨h.1, nI_lt (b := 2) (by omega) (by decide)⟩
theorem R_noC {sp : Nat × (Nat → Int32)} {M : zM} {p c : Int32} : zV (zPr sp) (105, 0, [.int p, .int c], [], M) = some (some (.int (yb (decide (yC p c = none)))), M) := by
  have b1 := @R_bel sp M p 4
  have b2 := @R_bel sp M (c - 1) 3
  cases hC : yC p c with
  | none =>
    rw [decide_eq_true rfl]
    by_cases hp : ¬ p < 0 ∧ p < 4
    · rw [decide_eq_true hp] at b1
      have hc : ¬ (¬ c - 1 < 0 ∧ c - 1 < 3) := fun z => by
        unfold yC at hC
        rw [if_pos ⟨decide_eq_true hp, cB.mp z⟩] at hC
        cases hC
      rw [decide_eq_false hc] at b2
      simp only [e105_0, e105_1, e105_2, e105_5, e105_8, e105_9, e105_10, e105_11, e105_12, e105_15, e105_18, e105_19, e105_22, e105_23, b1, b2, zyb1, zyb0, or_true, true_or, if_true, if_false, Option.bind_some, Option.toList_some, Option.toList_none, List.nil_append, List.cons_append]
      rfl
    · rw [decide_eq_false hp] at b1
      simp only [e105_0, e105_1, e105_2, e105_5, e105_8, e105_9, e105_10, e105_11, e105_12, e105_15, e105_18, e105_19, e105_22, e105_23, b1, zyb0, or_true, true_or, if_true, if_false, Option.bind_some, Option.toList_some, Option.toList_none, List.nil_append, List.cons_append]
      rfl
  | some k =>
    rw [decide_eq_false (fun z => by cases z)]
    have hc : yT p = true ∧ ¬ c < 1 ∧ ¬ 3 < c := by
      unfold yC at hC
      split at hC
      · assumption
      · cases hC
    rw [decide_eq_true (of_decide_eq_true hc.1)] at b1
    rw [decide_eq_true (cB.mpr hc.2)] at b2
    simp only [e105_0, e105_1, e105_2, e105_5, e105_8, e105_9, e105_10, e105_11, e105_12, e105_15, e105_18, e105_19, e105_22, e105_23, b1, b2, zyb1, or_true, true_or, if_true, if_false, Option.bind_some, Option.toList_some, Option.toList_none, List.nil_append, List.cons_append]
    rfl
theorem R_noE {sp : Nat × (Nat → Int32)} {M : zM} {l e : Int32} : zV (zPr sp) (90, 0, [.int l, .int e], [], M) = some (some (.int (yb (decide (yE l e = none)))), M) := by
  have b1 := @R_bel sp M l 5
  have b2 := @R_bel sp M e 2
  cases hC : yE l e with
  | none =>
    rw [decide_eq_true rfl]
    by_cases hp : ¬ l < 0 ∧ l < 5
    · rw [decide_eq_true hp] at b1
      have hc : ¬ (¬ e < 0 ∧ e < 2) := fun z => by
        unfold yE at hC
        rw [if_pos ⟨hp, cE.mp z⟩] at hC
        cases hC
      rw [decide_eq_false hc] at b2
      simp only [e90_0, e90_1, e90_2, e90_5, e90_8, e90_9, e90_10, e90_13, e90_16, e90_17, e90_20, e90_21, b1, b2, zyb1, zyb0, or_true, true_or, if_true, if_false, Option.bind_some, Option.toList_some, Option.toList_none, List.nil_append, List.cons_append]
      rfl
    · rw [decide_eq_false hp] at b1
      simp only [e90_0, e90_1, e90_2, e90_5, e90_8, e90_9, e90_10, e90_13, e90_16, e90_17, e90_20, e90_21, b1, zyb0, or_true, true_or, if_true, if_false, Option.bind_some, Option.toList_some, Option.toList_none, List.nil_append, List.cons_append]
      rfl
  | some k =>
    rw [decide_eq_false (fun z => by cases z)]
    have hc : (¬ l < 0 ∧ l < 5) ∧ ¬ e < 0 ∧ ¬ 1 < e := by
      unfold yE at hC
      split at hC
      · assumption
      · cases hC
    rw [decide_eq_true hc.1] at b1
    rw [decide_eq_true (cE.mpr hc.2)] at b2
    simp only [e90_0, e90_1, e90_2, e90_5, e90_8, e90_9, e90_10, e90_13, e90_16, e90_17, e90_20, e90_21, b1, b2, zyb1, or_true, true_or, if_true, if_false, Option.bind_some, Option.toList_some, Option.toList_none, List.nil_append, List.cons_append]
    rfl
theorem yC_ix {p c : Int32} {k : Nat} (h : yC p c = some k) : 6 * p + c - 1 = nI k ∧ 2 * p = nI (k / 3) ∧ c = nI (k % 3 + 1) := by
  obtain ⟨p', c', hp, hc, rfl, rfl, rfl⟩ := yC_some h
  refine ⟨?_, ?_, congrArg nI (by omega)⟩
  · rw [show (6 : Int32) * nI p' = nI (6 * p') from pk_mul 6 p', nI_add, show 6 * p' + (c' + 1) = 6 * p' + c' + 1 by omega]
    exact nI_pred _
  · rw [show (2 : Int32) * nI p' = nI (2 * p') from pk_mul 2 p']
    exact congrArg nI (by omega)
theorem yE_ix {l e : Int32} {k : Nat} (h : yE l e = some k) : 2 * l + e = nI k := by
  obtain ⟨l', e', hl, he, rfl, rfl, rfl⟩ := yE_some h
  rw [show (2 : Int32) * nI l' = nI (2 * l') from pk_mul 2 l', nI_add]
theorem R_place {sp : Nat × (Nat → Int32)} {M : zM} {p c : Int32} {k : Nat} (h : yC p c = some k) : zV (zPr sp) (106, 0, [.int p, .int c], [], M) = some (some (.int (nI k)), M) := by
  have := (yC_ix h).1
  simp only [e106_0, e106_2, e106_3, e106_4, e106_5, e106_6, e106_7, e106_8, this]
theorem dN {k : Nat} : yb (decide (some k = none)) = 0 := rfl
theorem dY : yb (decide ((none : Option Nat) = none)) = 1 := rfl
theorem R_ans {sp : Nat × (Nat → Int32)} {M0 M : zM} {S : yS} {n t : Nat} {p c : Int32} (h : RR M0 M S) (hK : yK n t S) (hn : n < 1597) : zOr sp M0 M 104 [.ref 119, .int p, .int c] (oC S p c 0 (aAns S)) := by
  have B := h.1
  obtain ⟨-, -, s3, s4, -⟩ := h.2.1
  have hnc := @R_noC sp M p c
  unfold oC
  cases hC : yC p c with
  | none =>
    rw [hC, dY] at hnc
    refine ⟨M, ?_, h⟩
    simp only [e104_0, e104_1, e104_2, e104_5, e104_8, e104_9, e104_12, e104_13, e104_14, e104_17, e104_18, e104_19, e104_22, e104_23, e104_24, e104_25, e104_28, e104_29, e104_30, e104_33, e104_34, e104_35, e104_36, e104_37, e104_38, e104_41, e104_42, e104_45, e104_46, hnc, z10, or_true, true_or, if_true, if_false, Option.bind_some, Option.toList_some, Option.toList_none, List.nil_append, List.cons_append]
  | some k =>
    rw [hC, dN] at hnc
    obtain ⟨hk, hs⟩ := yC_k hC
    have hpl := fun M => R_place (sp := sp) (M := M) hC
    have q3 : zin (nI k) 30 = true := zin_nI hk (by decide)
    have q4 : (nI k).toNatClampNeg = k := nI_clamp (by omega)
    have g := (h.2.2.2.1 k hk).1
    have s2 : (nI (yn S 5 k) = 2) = (yn S 5 k = 2) := st_eq (m := 2) hK.2.1 hk (by decide)
    dsimp only
    unfold aAns
    by_cases h2 : yn S 5 k = 2
    · rw [if_pos h2]
      have p1 := s2.trans (eq_true h2)
      have a1 : RR M0 (zwi M 134 k 3) (ynS S 5 k 3) := RR_st (m := 3) h (fun _ => by decide)
      obtain ⟨M1, r1, r2⟩ := R_puto (sp := sp) (kd := 1) a1 (yK_st hK (by decide) hk (fun _ => by decide)).1 (by omega) hk (by decide) (by decide)
      have r1 : zV (zPr sp) (83, 0, [.ref 119, .int (nI k), .int 1], [], zwi M 134 k 3) = some (none, M1) := r1
      refine ⟨M1, ?_, r2⟩
      simp only [e104_0, e104_1, e104_2, e104_5, e104_8, e104_9, e104_12, e104_13, e104_14, e104_17, e104_18, e104_19, e104_22, e104_23, e104_24, e104_25, e104_28, e104_29, e104_30, e104_33, e104_34, e104_35, e104_36, e104_37, e104_38, e104_41, e104_42, e104_45, e104_46, zG1, zG2, zG3, zG4, zG5, zG6, zG7, zG8, zNn, s3, s4, zk_wi, zr_wi, bk119 B, bk120 B, bk121 B, bk122 B, bk123 B, bk124 B, bk125 B, bk126 B, bk127 B, bk128 B, bk129 B, bk130 B, bk131 B, bk132 B, bk133 B, bk134 B, bk135 B, bk136 B, bk137 B, bk138 B, bk139 B, bk140 B, bk141 B, bk142 B, br1 B, br2 B, br3 B, br4 B, br5 B, br6 B, br7 B, br8 B, br9 B, br10 B, br11 B, br12 B, br13 B, br14 B, br15 B, br16 B, br17 B, br18 B, br19 B, br20 B, br21 B, br22 B, br23 B, hnc, hpl, q3, q4, g, p1, r1, or_true, true_or, if_true, if_false, Option.bind_some, Option.toList_some, Option.toList_none, List.nil_append, List.cons_append]
    · rw [if_neg h2]
      have p1 := s2.trans (eq_false h2)
      refine ⟨M, ?_, h⟩
      simp only [e104_0, e104_1, e104_2, e104_5, e104_8, e104_9, e104_12, e104_13, e104_14, e104_17, e104_18, e104_19, e104_22, e104_23, e104_24, e104_25, e104_28, e104_29, e104_30, e104_33, e104_34, e104_35, e104_36, e104_37, e104_38, e104_41, e104_42, e104_45, e104_46, zG1, zG2, zG3, zG4, zG5, zG6, zG7, zG8, zNn, s3, s4, zk_wi, zr_wi, bk119 B, bk120 B, bk121 B, bk122 B, bk123 B, bk124 B, bk125 B, bk126 B, bk127 B, bk128 B, bk129 B, bk130 B, bk131 B, bk132 B, bk133 B, bk134 B, bk135 B, bk136 B, bk137 B, bk138 B, bk139 B, bk140 B, bk141 B, bk142 B, br1 B, br2 B, br3 B, br4 B, br5 B, br6 B, br7 B, br8 B, br9 B, br10 B, br11 B, br12 B, br13 B, br14 B, br15 B, br16 B, br17 B, br18 B, br19 B, br20 B, br21 B, br22 B, br23 B, hnc, hpl, q3, q4, g, p1, or_true, true_or, if_true, if_false, Option.bind_some, Option.toList_some, Option.toList_none, List.nil_append, List.cons_append]
theorem R_clr {sp : Nat × (Nat → Int32)} {M0 M : zM} {S : yS} {n t : Nat} {p c : Int32} (h : RR M0 M S) (hK : yK n t S) (hn : n < 1597) : zOr sp M0 M 107 [.ref 119, .int p, .int c] (oC S p c 0 (aClr S)) := by
  have B := h.1
  obtain ⟨-, -, s3, s4, -⟩ := h.2.1
  have hnc := @R_noC sp M p c
  unfold oC
  cases hC : yC p c with
  | none =>
    rw [hC, dY] at hnc
    refine ⟨M, ?_, h⟩
    simp only [e107_0, e107_1, e107_2, e107_5, e107_8, e107_9, e107_12, e107_13, e107_14, e107_17, e107_18, e107_21, e107_22, e107_25, e107_26, e107_27, e107_30, e107_31, e107_32, e107_35, e107_36, e107_37, e107_38, e107_41, e107_42, e107_43, e107_46, e107_47, e107_48, e107_49, e107_50, e107_51, e107_54, e107_55, e107_58, e107_59, hnc, z10, or_true, true_or, if_true, if_false, Option.bind_some, Option.toList_some, Option.toList_none, List.nil_append, List.cons_append]
  | some k =>
    rw [hC, dN] at hnc
    obtain ⟨hk, hs⟩ := yC_k hC
    have hpl := fun M => R_place (sp := sp) (M := M) hC
    have q3 : zin (nI k) 30 = true := zin_nI hk (by decide)
    have q4 : (nI k).toNatClampNeg = k := nI_clamp (by omega)
    have g := (h.2.2.2.1 k hk).1
    have s0 : (nI (yn S 5 k) = 0) = (yn S 5 k = 0) := st_eq (m := 0) hK.2.1 hk (by decide)
    have s5 : (nI (yn S 5 k) = 5) = (yn S 5 k = 5) := st_eq (m := 5) hK.2.1 hk (by decide)
    dsimp only
    unfold aClr
    by_cases h0 : yn S 5 k = 0
    · rw [if_pos (Or.inl h0)]
      have s0 := s0.trans (eq_true h0)
      refine ⟨M, ?_, h⟩
      simp only [e107_0, e107_1, e107_2, e107_5, e107_8, e107_9, e107_12, e107_13, e107_14, e107_17, e107_18, e107_21, e107_22, e107_25, e107_26, e107_27, e107_30, e107_31, e107_32, e107_35, e107_36, e107_37, e107_38, e107_41, e107_42, e107_43, e107_46, e107_47, e107_48, e107_49, e107_50, e107_51, e107_54, e107_55, e107_58, e107_59, zG1, zG2, zG3, zG4, zG5, zG6, zG7, zG8, zNn, s3, s4, zk_wi, zr_wi, bk119 B, bk120 B, bk121 B, bk122 B, bk123 B, bk124 B, bk125 B, bk126 B, bk127 B, bk128 B, bk129 B, bk130 B, bk131 B, bk132 B, bk133 B, bk134 B, bk135 B, bk136 B, bk137 B, bk138 B, bk139 B, bk140 B, bk141 B, bk142 B, br1 B, br2 B, br3 B, br4 B, br5 B, br6 B, br7 B, br8 B, br9 B, br10 B, br11 B, br12 B, br13 B, br14 B, br15 B, br16 B, br17 B, br18 B, br19 B, br20 B, br21 B, br22 B, br23 B, hnc, hpl, q3, q4, g, s0, or_true, true_or, if_true, if_false, Option.bind_some, Option.toList_some, Option.toList_none, List.nil_append, List.cons_append]
    · have s0 := s0.trans (eq_false h0)
      by_cases h5 : yn S 5 k = 5
      · rw [if_pos (Or.inr h5)]
        have s5 := s5.trans (eq_true h5)
        refine ⟨M, ?_, h⟩
        simp only [e107_0, e107_1, e107_2, e107_5, e107_8, e107_9, e107_12, e107_13, e107_14, e107_17, e107_18, e107_21, e107_22, e107_25, e107_26, e107_27, e107_30, e107_31, e107_32, e107_35, e107_36, e107_37, e107_38, e107_41, e107_42, e107_43, e107_46, e107_47, e107_48, e107_49, e107_50, e107_51, e107_54, e107_55, e107_58, e107_59, zG1, zG2, zG3, zG4, zG5, zG6, zG7, zG8, zNn, s3, s4, zk_wi, zr_wi, bk119 B, bk120 B, bk121 B, bk122 B, bk123 B, bk124 B, bk125 B, bk126 B, bk127 B, bk128 B, bk129 B, bk130 B, bk131 B, bk132 B, bk133 B, bk134 B, bk135 B, bk136 B, bk137 B, bk138 B, bk139 B, bk140 B, bk141 B, bk142 B, br1 B, br2 B, br3 B, br4 B, br5 B, br6 B, br7 B, br8 B, br9 B, br10 B, br11 B, br12 B, br13 B, br14 B, br15 B, br16 B, br17 B, br18 B, br19 B, br20 B, br21 B, br22 B, br23 B, hnc, hpl, q3, q4, g, s0, s5, or_true, true_or, if_true, if_false, Option.bind_some, Option.toList_some, Option.toList_none, List.nil_append, List.cons_append]
      · rw [if_neg (fun z => z.elim h0 h5)]
        have s5 := s5.trans (eq_false h5)
        have a1 : RR M0 (zwi M 134 k 5) (ynS S 5 k 5) := RR_st (m := 5) h (fun _ => by decide)
        obtain ⟨M1, r1, r2⟩ := R_puto (sp := sp) (kd := 2) a1 (yK_st hK (by decide) hk (fun _ => by decide)).1 (by omega) hk (by decide) (by decide)
        have r1 : zV (zPr sp) (83, 0, [.ref 119, .int (nI k), .int 2], [], zwi M 134 k 5) = some (none, M1) := r1
        refine ⟨M1, ?_, r2⟩
        simp only [e107_0, e107_1, e107_2, e107_5, e107_8, e107_9, e107_12, e107_13, e107_14, e107_17, e107_18, e107_21, e107_22, e107_25, e107_26, e107_27, e107_30, e107_31, e107_32, e107_35, e107_36, e107_37, e107_38, e107_41, e107_42, e107_43, e107_46, e107_47, e107_48, e107_49, e107_50, e107_51, e107_54, e107_55, e107_58, e107_59, zG1, zG2, zG3, zG4, zG5, zG6, zG7, zG8, zNn, s3, s4, zk_wi, zr_wi, bk119 B, bk120 B, bk121 B, bk122 B, bk123 B, bk124 B, bk125 B, bk126 B, bk127 B, bk128 B, bk129 B, bk130 B, bk131 B, bk132 B, bk133 B, bk134 B, bk135 B, bk136 B, bk137 B, bk138 B, bk139 B, bk140 B, bk141 B, bk142 B, br1 B, br2 B, br3 B, br4 B, br5 B, br6 B, br7 B, br8 B, br9 B, br10 B, br11 B, br12 B, br13 B, br14 B, br15 B, br16 B, br17 B, br18 B, br19 B, br20 B, br21 B, br22 B, br23 B, hnc, hpl, q3, q4, g, s0, s5, r1, or_true, true_or, if_true, if_false, Option.bind_some, Option.toList_some, Option.toList_none, List.nil_append, List.cons_append]
theorem yOn1_5 {S : yS} {e k m : Nat} : yOn1 (ynS S 5 k m) e = ynS (yOn1 S e) 5 k m := by
  have hpost : ∀ fr, yPost (ynS S 5 k m) e fr = ynS (yPost S e fr) 5 k m := by
    intro fr
    unfold yPost
    rw [yw_n]
    split
    · rfl
    · rfl
  unfold yOn1
  rw [yn_nf (f' := 0) (by decide), yr_n, yu_n]
  split
  · have e1 : yInfo (ynS S 5 k m) e (yn S 0 e) = ynS (yInfo S e (yn S 0 e)) 5 k m := by
      unfold yInfo
      rw [yn_nf (f' := 1) (by decide), yn_nf (f' := 2) (by decide), hpost]
      rfl
    rw [e1, ynS_comm (by decide)]
  · rfl
theorem yPutOn_5 {S : yS} {k kd a b k' m : Nat} : yPutOn (ynS S 5 k' m) k kd a b = ynS (yPutOn S k kd a b) 5 k' m := by
  have e0 : yrS (ynS S 5 k' m) (k / 3) (yr (ynS S 5 k' m) (k / 3) ++ [(kd, k % 3 + 1, a, b)]) = ynS (yrS S (k / 3) (yr S (k / 3) ++ [(kd, k % 3 + 1, a, b)])) 5 k' m := rfl
  unfold yPutOn yPut yOn
  rw [e0, yOn1_5, yOn1_5, yOn1_5, yOn1_5]
theorem R_res {sp : Nat × (Nat → Int32)} {M0 M : zM} {S : yS} {n t : Nat} {p c : Int32} (h : RR M0 M S) (hK : yK n t S) (hn : n < 1597) : zOr sp M0 M 108 [.ref 119, .int p, .int c, .double 0] (oC S p c 0 (aRes S)) := by
  have B := h.1
  obtain ⟨-, -, s3, s4, -⟩ := h.2.1
  have hnc := @R_noC sp M p c
  unfold oC
  cases hC : yC p c with
  | none =>
    rw [hC, dY] at hnc
    refine ⟨M, ?_, h⟩
    simp only [e108_0, e108_1, e108_2, e108_5, e108_8, e108_9, e108_12, e108_13, e108_14, e108_17, e108_18, e108_19, e108_22, e108_23, e108_24, e108_25, e108_26, e108_29, e108_30, e108_31, e108_32, e108_35, e108_36, e108_39, e108_40, e108_41, e108_42, e108_43, e108_44, e108_46, e108_49, e108_50, hnc, z10, or_true, true_or, if_true, if_false, Option.bind_some, Option.toList_some, Option.toList_none, List.nil_append, List.cons_append]
  | some k =>
    rw [hC, dN] at hnc
    obtain ⟨hk, hs⟩ := yC_k hC
    have hpl := fun M => R_place (sp := sp) (M := M) hC
    have q3 : zin (nI k) 30 = true := zin_nI hk (by decide)
    have q4 : (nI k).toNatClampNeg = k := nI_clamp (by omega)
    have g := (h.2.2.2.1 k hk).1
    have w3 : (nI (yn S 5 k) = 3) = (yn S 5 k = 3) := st_eq (m := 3) hK.2.1 hk (by decide)
    dsimp only
    unfold aRes
    by_cases h3 : yn S 5 k = 3
    · rw [if_pos h3]
      have w3 := w3.trans (eq_true h3)
      obtain ⟨M1, r1, r2⟩ := R_renew (sp := sp) h hk hs
      obtain ⟨-, -, t3, t4, -⟩ := r2.2.1
      have a1 : RR M0 (zwi M1 134 k 4) (ynS (yRenew S k) 5 k 4) := RR_st (m := 4) r2 (fun _ => by decide)
      obtain ⟨M2, u1, u2⟩ := R_puto (sp := sp) (kd := 6) a1 (yK_st (yK_renew hK) (by decide) hk (fun _ => by decide)).1 (by omega) hk (by decide) (by decide)
      have u1 : zV (zPr sp) (83, 0, [.ref 119, .int (nI k), .int 6], [], zwi M1 134 k 4) = some (none, M2) := u1
      rw [yPutOn_5] at u2
      refine ⟨M2, ?_, u2⟩
      simp only [e108_0, e108_1, e108_2, e108_5, e108_8, e108_9, e108_12, e108_13, e108_14, e108_17, e108_18, e108_19, e108_22, e108_23, e108_24, e108_25, e108_26, e108_29, e108_30, e108_31, e108_32, e108_35, e108_36, e108_39, e108_40, e108_41, e108_42, e108_43, e108_44, e108_46, e108_49, e108_50, zG1, zG2, zG3, zG4, zG5, zG6, zG7, zG8, zNn, s3, s4, t3, t4, zk_wi, zr_wi, bk119 B, bk120 B, bk121 B, bk122 B, bk123 B, bk124 B, bk125 B, bk126 B, bk127 B, bk128 B, bk129 B, bk130 B, bk131 B, bk132 B, bk133 B, bk134 B, bk135 B, bk136 B, bk137 B, bk138 B, bk139 B, bk140 B, bk141 B, bk142 B, br1 B, br2 B, br3 B, br4 B, br5 B, br6 B, br7 B, br8 B, br9 B, br10 B, br11 B, br12 B, br13 B, br14 B, br15 B, br16 B, br17 B, br18 B, br19 B, br20 B, br21 B, br22 B, br23 B, hnc, hpl, q3, q4, g, w3, r1, u1, or_true, true_or, if_true, if_false, Option.bind_some, Option.toList_some, Option.toList_none, List.nil_append, List.cons_append]
    · rw [if_neg h3]
      have w3 := w3.trans (eq_false h3)
      refine ⟨M, ?_, h⟩
      simp only [e108_0, e108_1, e108_2, e108_5, e108_8, e108_9, e108_12, e108_13, e108_14, e108_17, e108_18, e108_19, e108_22, e108_23, e108_24, e108_25, e108_26, e108_29, e108_30, e108_31, e108_32, e108_35, e108_36, e108_39, e108_40, e108_41, e108_42, e108_43, e108_44, e108_46, e108_49, e108_50, zG1, zG2, zG3, zG4, zG5, zG6, zG7, zG8, zNn, s3, s4, zk_wi, zr_wi, bk119 B, bk120 B, bk121 B, bk122 B, bk123 B, bk124 B, bk125 B, bk126 B, bk127 B, bk128 B, bk129 B, bk130 B, bk131 B, bk132 B, bk133 B, bk134 B, bk135 B, bk136 B, bk137 B, bk138 B, bk139 B, bk140 B, bk141 B, bk142 B, br1 B, br2 B, br3 B, br4 B, br5 B, br6 B, br7 B, br8 B, br9 B, br10 B, br11 B, br12 B, br13 B, br14 B, br15 B, br16 B, br17 B, br18 B, br19 B, br20 B, br21 B, br22 B, br23 B, hnc, hpl, q3, q4, g, w3, or_true, true_or, if_true, if_false, Option.bind_some, Option.toList_some, Option.toList_none, List.nil_append, List.cons_append]
theorem R_snd {sp : Nat × (Nat → Int32)} {M0 M : zM} {S : yS} {n t : Nat} {p c v : Int32} (h : RR M0 M S) (hK : yK n t S) (hn : n < 1597) : zOr sp M0 M 109 [.ref 119, .int p, .int c, .int v, .double 0, .double 0] (oC S p c (-1) (fun k => aSnd S k v)) := by
  have B := h.1
  obtain ⟨-, -, s3, s4, -⟩ := h.2.1
  have hnc := @R_noC sp M p c
  unfold oC
  cases hC : yC p c with
  | none =>
    rw [hC, dY] at hnc
    refine ⟨M, ?_, h⟩
    simp only [e109_0, e109_1, e109_2, e109_5, e109_8, e109_9, e109_12, e109_13, e109_16, e109_19, e109_20, e109_23, e109_24, e109_25, e109_28, e109_29, e109_30, e109_33, e109_34, e109_35, e109_36, e109_37, e109_40, e109_42, e109_43, e109_46, e109_48, e109_49, e109_51, e109_53, e109_54, e109_57, e109_59, e109_60, e109_61, e109_62, e109_64, e109_65, e109_68, e109_70, e109_71, e109_72, e109_75, e109_77, e109_79, e109_80, e109_81, e109_83, e109_84, e109_85, e109_86, e109_87, e109_88, e109_89, e109_90, e109_91, e109_93, e109_94, e109_97, e109_99, hnc, z10, or_true, true_or, if_true, if_false, Option.bind_some, Option.toList_some, Option.toList_none, List.nil_append, List.cons_append]
  | some k =>
    rw [hC, dN] at hnc
    obtain ⟨hk, hs⟩ := yC_k hC
    obtain ⟨-, ip, ic⟩ := yC_ix hC
    have hpl := fun M => R_place (sp := sp) (M := M) hC
    have q3 : zin (nI k) 30 = true := zin_nI hk (by decide)
    have q4 : (nI k).toNatClampNeg = k := nI_clamp (by omega)
    have g := (h.2.2.2.1 k hk).1
    have gt := (h.2.2.2.1 k hk).2.2 hs
    have v8 : zi M 138 k = nI (yn S 8 k) := gt 8 (by decide) (by decide)
    have v9 : zi M 139 k = nI (yn S 9 k) := gt 9 (by decide) (by decide)
    have gi := hK.2.1 k hk
    have w3 : (nI (yn S 5 k) = 3) = (yn S 5 k = 3) := st_eq (m := 3) hK.2.1 hk (by decide)
    dsimp only
    unfold aSnd
    by_cases h1 : v < 0
    · rw [if_pos (Or.inl h1)]
      have p1 := eq_true h1
      refine ⟨M, ?_, h⟩
      simp only [e109_0, e109_1, e109_2, e109_5, e109_8, e109_9, e109_12, e109_13, e109_16, e109_19, e109_20, e109_23, e109_24, e109_25, e109_28, e109_29, e109_30, e109_33, e109_34, e109_35, e109_36, e109_37, e109_40, e109_42, e109_43, e109_46, e109_48, e109_49, e109_51, e109_53, e109_54, e109_57, e109_59, e109_60, e109_61, e109_62, e109_64, e109_65, e109_68, e109_70, e109_71, e109_72, e109_75, e109_77, e109_79, e109_80, e109_81, e109_83, e109_84, e109_85, e109_86, e109_87, e109_88, e109_89, e109_90, e109_91, e109_93, e109_94, e109_97, e109_99, hnc, p1, or_true, true_or, if_true, if_false, Option.bind_some, Option.toList_some, Option.toList_none, List.nil_append, List.cons_append]
    · have p1 := eq_false h1
      by_cases h2 : 255 < v
      · rw [if_pos (Or.inr (Or.inl h2))]
        have p2 := eq_true h2
        refine ⟨M, ?_, h⟩
        simp only [e109_0, e109_1, e109_2, e109_5, e109_8, e109_9, e109_12, e109_13, e109_16, e109_19, e109_20, e109_23, e109_24, e109_25, e109_28, e109_29, e109_30, e109_33, e109_34, e109_35, e109_36, e109_37, e109_40, e109_42, e109_43, e109_46, e109_48, e109_49, e109_51, e109_53, e109_54, e109_57, e109_59, e109_60, e109_61, e109_62, e109_64, e109_65, e109_68, e109_70, e109_71, e109_72, e109_75, e109_77, e109_79, e109_80, e109_81, e109_83, e109_84, e109_85, e109_86, e109_87, e109_88, e109_89, e109_90, e109_91, e109_93, e109_94, e109_97, e109_99, hnc, p1, p2, or_true, true_or, if_true, if_false, Option.bind_some, Option.toList_some, Option.toList_none, List.nil_append, List.cons_append]
      · have p2 := eq_false h2
        by_cases h3 : yn S 5 k = 3
        · rw [if_neg (fun z => z.elim h1 (fun z => z.elim h2 (fun z => z h3)))]
          have w3 := w3.trans (eq_true h3)
          have e3 : nI (yn S 9 k) + 3 = nI (yn S 9 k + 3) := nI_add _ 3
          have hm := nrem8 (a := yn S 9 k + 3) (by omega)
          by_cases h4 : yn S 8 k = (yn S 9 k + 3) % 8
          · rw [if_pos h4]
            have p4 : (nI (yn S 8 k) = nI ((yn S 9 k + 3) % 8)) = True := eq_true (by rw [← h4])
            refine ⟨M, ?_, h⟩
            simp only [e109_0, e109_1, e109_2, e109_5, e109_8, e109_9, e109_12, e109_13, e109_16, e109_19, e109_20, e109_23, e109_24, e109_25, e109_28, e109_29, e109_30, e109_33, e109_34, e109_35, e109_36, e109_37, e109_40, e109_42, e109_43, e109_46, e109_48, e109_49, e109_51, e109_53, e109_54, e109_57, e109_59, e109_60, e109_61, e109_62, e109_64, e109_65, e109_68, e109_70, e109_71, e109_72, e109_75, e109_77, e109_79, e109_80, e109_81, e109_83, e109_84, e109_85, e109_86, e109_87, e109_88, e109_89, e109_90, e109_91, e109_93, e109_94, e109_97, e109_99, zG1, zG2, zG3, zG4, zG5, zG6, zG7, zG8, zNn, s3, s4, bk119 B, bk120 B, bk121 B, bk122 B, bk123 B, bk124 B, bk125 B, bk126 B, bk127 B, bk128 B, bk129 B, bk130 B, bk131 B, bk132 B, bk133 B, bk134 B, bk135 B, bk136 B, bk137 B, bk138 B, bk139 B, bk140 B, bk141 B, bk142 B, br1 B, br2 B, br3 B, br4 B, br5 B, br6 B, br7 B, br8 B, br9 B, br10 B, br11 B, br12 B, br13 B, br14 B, br15 B, br16 B, br17 B, br18 B, br19 B, br20 B, br21 B, br22 B, br23 B, hnc, hpl, q3, q4, g, p1, p2, w3, v8, v9, e3, z80', hm, p4, or_true, true_or, if_true, if_false, Option.bind_some, Option.toList_some, Option.toList_none, List.nil_append, List.cons_append]
          · rw [if_neg h4]
            have p4 : (nI (yn S 8 k) = nI ((yn S 9 k + 3) % 8)) = False := eq_false (fun z => h4 ((nI_eq (by omega) (by omega)).mp z))
            obtain ⟨v', hv, rfl⟩ := nI_rl (n := 255) (by decide) h1 h2
            rw [nI_clamp (by omega)]
            have e1 : nI (yn S 8 k) + 1 = nI (yn S 8 k + 1) := nI_1 _
            have hm1 := nrem8 (a := yn S 8 k + 1) (by omega)
            have a1 : RR M0 (zwi M 138 k (nI ((yn S 8 k + 1) % 8))) (ynS S 8 k ((yn S 8 k + 1) % 8)) := RR_t (f := 8) h (by decide) (by decide)
            obtain ⟨M1, r1, r2⟩ := R_put (sp := sp) (e := k / 3) (k := 4) (c := k % 3 + 1) (a := yn S 8 k) (b := v') a1 (yK_n hK (Or.inl ⟨by decide, by omega⟩)) (by omega) (by omega) (yPk_k (by decide) (by omega) hv (fun z => by cases z))
            rw [← ip, ← ic] at r1
            have r1 : zV (zPr sp) (84, 0, [.ref 119, .int (2 * p), .int 4, .int c, .int (nI (yn S 8 k)), .int (nI v')], [], zwi M 138 k (nI ((yn S 8 k + 1) % 8))) = some (none, M1) := r1
            refine ⟨M1, ?_, r2⟩
            simp only [e109_0, e109_1, e109_2, e109_5, e109_8, e109_9, e109_12, e109_13, e109_16, e109_19, e109_20, e109_23, e109_24, e109_25, e109_28, e109_29, e109_30, e109_33, e109_34, e109_35, e109_36, e109_37, e109_40, e109_42, e109_43, e109_46, e109_48, e109_49, e109_51, e109_53, e109_54, e109_57, e109_59, e109_60, e109_61, e109_62, e109_64, e109_65, e109_68, e109_70, e109_71, e109_72, e109_75, e109_77, e109_79, e109_80, e109_81, e109_83, e109_84, e109_85, e109_86, e109_87, e109_88, e109_89, e109_90, e109_91, e109_93, e109_94, e109_97, e109_99, zG1, zG2, zG3, zG4, zG5, zG6, zG7, zG8, zNn, s3, s4, zk_wi, zr_wi, bk119 B, bk120 B, bk121 B, bk122 B, bk123 B, bk124 B, bk125 B, bk126 B, bk127 B, bk128 B, bk129 B, bk130 B, bk131 B, bk132 B, bk133 B, bk134 B, bk135 B, bk136 B, bk137 B, bk138 B, bk139 B, bk140 B, bk141 B, bk142 B, br1 B, br2 B, br3 B, br4 B, br5 B, br6 B, br7 B, br8 B, br9 B, br10 B, br11 B, br12 B, br13 B, br14 B, br15 B, br16 B, br17 B, br18 B, br19 B, br20 B, br21 B, br22 B, br23 B, hnc, hpl, q3, q4, g, p1, p2, w3, v8, v9, e3, e1, z80', hm, hm1, p4, r1, or_true, true_or, if_true, if_false, Option.bind_some, Option.toList_some, Option.toList_none, List.nil_append, List.cons_append]
        · rw [if_pos (Or.inr (Or.inr h3))]
          have w3 := w3.trans (eq_false h3)
          refine ⟨M, ?_, h⟩
          simp only [e109_0, e109_1, e109_2, e109_5, e109_8, e109_9, e109_12, e109_13, e109_16, e109_19, e109_20, e109_23, e109_24, e109_25, e109_28, e109_29, e109_30, e109_33, e109_34, e109_35, e109_36, e109_37, e109_40, e109_42, e109_43, e109_46, e109_48, e109_49, e109_51, e109_53, e109_54, e109_57, e109_59, e109_60, e109_61, e109_62, e109_64, e109_65, e109_68, e109_70, e109_71, e109_72, e109_75, e109_77, e109_79, e109_80, e109_81, e109_83, e109_84, e109_85, e109_86, e109_87, e109_88, e109_89, e109_90, e109_91, e109_93, e109_94, e109_97, e109_99, zG1, zG2, zG3, zG4, zG5, zG6, zG7, zG8, zNn, s3, s4, bk119 B, bk120 B, bk121 B, bk122 B, bk123 B, bk124 B, bk125 B, bk126 B, bk127 B, bk128 B, bk129 B, bk130 B, bk131 B, bk132 B, bk133 B, bk134 B, bk135 B, bk136 B, bk137 B, bk138 B, bk139 B, bk140 B, bk141 B, bk142 B, br1 B, br2 B, br3 B, br4 B, br5 B, br6 B, br7 B, br8 B, br9 B, br10 B, br11 B, br12 B, br13 B, br14 B, br15 B, br16 B, br17 B, br18 B, br19 B, br20 B, br21 B, br22 B, br23 B, hnc, hpl, q3, q4, g, p1, p2, w3, or_true, true_or, if_true, if_false, Option.bind_some, Option.toList_some, Option.toList_none, List.nil_append, List.cons_append]
/-- values move up by one -/
def ySv (M M' : zM) (b j : Nat) : Prop := (∀ a i, a ≠ 142 → zi M' a i = zi M a i) ∧ ∀ i, zi M' 142 i = if b ≤ i ∧ i < b + j then zi M 142 (i + 1) else zi M 142 i
theorem R_rdL {sp : Nat × (Nat → Int32)} {M0 M : zM} {s l : Nat} {v1 v2 v3 v5 : Value} (B : RB M0) (hs : s < 12) (hl : l < 512) (hz : zi M 141 s = nI l) : ∀ (m j : Nat) (M1 : zM), j + m = l → RSt M0 M1 → ySv M M1 (512 * s) j → ∃ M2, zV (zPr sp) (110, 75, [.ref 119, v1, v2, v3, .int (nI s), v5, .int (nI j)], [], M1) = zV (zPr sp) (110, 123, [.ref 119, v1, v2, v3, .int (nI s), v5, .int (nI l)], [], M2) ∧ RSt M0 M2 ∧ ySv M M2 (512 * s) l := by
  have q5 : zin (nI s) 12 = true := zin_nI hs (by decide)
  have q6 : (nI s).toNatClampNeg = s := nI_clamp (by omega)
  have m512 : 512 * nI s = nI (512 * s) := pk_mul 512 s
  intro m
  induction m with
  | zero =>
    intro j M1 hj hst h
    have hst' := hst
    obtain ⟨-, -, s3, s4, -⟩ := hst
    have hj : j = l := by omega
    subst hj
    have hz1 : zi M1 141 s = nI j := by rw [h.1 _ _ (by decide)]; exact hz
    have p1 : (nI j < nI j) = False := eq_false (nI_nlt (Nat.le_refl _) (by omega))
    refine ⟨M1, ?_, hst', h⟩
    simp only [e110_75, e110_77, e110_78, e110_81, e110_83, e110_84, zG1, zG2, zG3, zG4, zG5, zG6, zG7, zG8, zNn, s3, s4, bk119 B, bk120 B, bk121 B, bk122 B, bk123 B, bk124 B, bk125 B, bk126 B, bk127 B, bk128 B, bk129 B, bk130 B, bk131 B, bk132 B, bk133 B, bk134 B, bk135 B, bk136 B, bk137 B, bk138 B, bk139 B, bk140 B, bk141 B, bk142 B, br1 B, br2 B, br3 B, br4 B, br5 B, br6 B, br7 B, br8 B, br9 B, br10 B, br11 B, br12 B, br13 B, br14 B, br15 B, br16 B, br17 B, br18 B, br19 B, br20 B, br21 B, br22 B, br23 B, q5, q6, hz1, p1, or_true, true_or, if_true, if_false, Option.bind_some, Option.toList_some, Option.toList_none, List.nil_append, List.cons_append]
  | succ m ih =>
    intro j M1 hj hst h
    have hst' := hst
    obtain ⟨-, -, s3, s4, -⟩ := hst
    have hz1 : zi M1 141 s = nI l := by rw [h.1 _ _ (by decide)]; exact hz
    have p1 : (nI j < nI l) = True := eq_true (nI_lt (by omega) (by omega))
    have a1 : nI (512 * s) + nI j = nI (512 * s + j) := nI_add _ _
    have a2 : nI (512 * s + j) + 1 = nI (512 * s + j + 1) := nI_1 _
    have b1 : zin (nI (512 * s + j)) 6144 = true := zin_nI (by omega) (by decide)
    have b2 : zin (nI (512 * s + j + 1)) 6144 = true := zin_nI (by omega) (by decide)
    have c1 : (nI (512 * s + j)).toNatClampNeg = 512 * s + j := nI_clamp (by omega)
    have c2 : (nI (512 * s + j + 1)).toNatClampNeg = 512 * s + j + 1 := nI_clamp (by omega)
    have a3 : nI j + 1 = nI (j + 1) := nI_1 _
    have h' : ySv M (zwi M1 142 (512 * s + j) (zi M1 142 (512 * s + j + 1))) (512 * s) (j + 1) := by
      refine ⟨fun a i ha => by rw [zi_ne ha]; exact h.1 a i ha, fun i => ?_⟩
      by_cases hi : i = 512 * s + j
      · subst hi
        rw [zi_eq, h.2, if_neg (by omega), if_pos ⟨by omega, by omega⟩]
      · rw [zi_nj hi, h.2]
        by_cases hc : 512 * s ≤ i ∧ i < 512 * s + j
        · rw [if_pos hc, if_pos ⟨hc.1, by omega⟩]
        · rw [if_neg hc, if_neg (fun z => hc ⟨z.1, by omega⟩)]
    obtain ⟨M2, r1, r2, r3⟩ := ih (j + 1) _ (by omega) (RSt_wi hst' (by omega) (by omega)) h'
    refine ⟨M2, ?_, r2, r3⟩
    rw [← r1]
    refine Eq.trans ?_ e110_120
    simp only [e110_75, e110_77, e110_78, e110_81, e110_83, e110_84, e110_87, e110_88, e110_91, e110_94, e110_96, e110_97, e110_99, e110_100, e110_101, e110_104, e110_107, e110_109, e110_110, e110_112, e110_113, e110_114, e110_115, e110_116, e110_117, zG1, zG2, zG3, zG4, zG5, zG6, zG7, zG8, zNn, s3, s4, bk119 B, bk120 B, bk121 B, bk122 B, bk123 B, bk124 B, bk125 B, bk126 B, bk127 B, bk128 B, bk129 B, bk130 B, bk131 B, bk132 B, bk133 B, bk134 B, bk135 B, bk136 B, bk137 B, bk138 B, bk139 B, bk140 B, bk141 B, bk142 B, br1 B, br2 B, br3 B, br4 B, br5 B, br6 B, br7 B, br8 B, br9 B, br10 B, br11 B, br12 B, br13 B, br14 B, br15 B, br16 B, br17 B, br18 B, br19 B, br20 B, br21 B, br22 B, br23 B, q5, q6, hz1, p1, m512, a1, a2, a3, b1, b2, c1, c2, or_true, true_or, if_true, if_false, Option.bind_some, Option.toList_some, Option.toList_none, List.nil_append, List.cons_append]
theorem R_rd {sp : Nat × (Nat → Int32)} {M0 M : zM} {S : yS} {n t : Nat} {p c : Int32} (h : RR M0 M S) (hK : yK n t S) (hn : n < 1597) (ht : t ≤ 512) : zOr sp M0 M 110 [.ref 119, .int p, .int c, .double 0, .double 0, .double 0, .double 0] (oC S p c (-1) (aRd S)) := by
  have B := h.1
  obtain ⟨-, -, s3, s4, -⟩ := h.2.1
  have hnc := @R_noC sp M p c
  unfold oC
  cases hC : yC p c with
  | none =>
    rw [hC, dY] at hnc
    refine ⟨M, ?_, h⟩
    simp only [e110_0, e110_1, e110_2, e110_5, e110_8, e110_9, e110_12, e110_13, e110_14, e110_17, e110_18, e110_19, e110_22, e110_23, hnc, z10, or_true, true_or, if_true, if_false, Option.bind_some, Option.toList_some, Option.toList_none, List.nil_append, List.cons_append]
  | some k =>
    rw [hC, dN] at hnc
    obtain ⟨hk, hs⟩ := yC_k hC
    obtain ⟨-, ip, ic⟩ := yC_ix hC
    have hpl := fun M => R_place (sp := sp) (M := M) hC
    have hslt := fun M => R_slot (sp := sp) (M := M) hk
    have q3 : zin (nI k) 30 = true := zin_nI hk (by decide)
    have q4 : (nI k).toNatClampNeg = k := nI_clamp (by omega)
    have hsl : ysl k < 12 := (by decide +kernel : ∀ k, k < 30 → ysw (k / 3) = false → ysl k < 12) k hk hs
    have q5 : zin (nI (ysl k)) 12 = true := zin_nI hsl (by decide)
    have q6 : (nI (ysl k)).toNatClampNeg = ysl k := nI_clamp (by omega)
    have g := (h.2.2.2.1 k hk).1
    have gt := (h.2.2.2.1 k hk).2.2 hs
    have v10 : zi M 140 k = nI (yn S 10 k) := gt 10 (by decide) (by decide)
    have gi := hK.2.1 k hk
    have w3 : (nI (yn S 5 k) = 3) = (yn S 5 k = 3) := st_eq (m := 3) hK.2.1 hk (by decide)
    have gv := h.2.2.2.2.1 (ysl k) hsl
    have hlv := hK.2.2.1 (ysl k) hsl
    dsimp only
    unfold aRd
    by_cases h3 : yn S 5 k = 3
    · rw [if_pos h3]
      have w3 := w3.trans (eq_true h3)
      cases hv : yv S (ysl k) with
      | nil =>
        rw [hv] at gv
        have p2 : (nI ([] : List Nat).length = 0) = True := by decide
        refine ⟨M, ?_, h⟩
        simp only [e110_0, e110_1, e110_2, e110_5, e110_8, e110_9, e110_12, e110_13, e110_14, e110_17, e110_18, e110_19, e110_22, e110_23, e110_24, e110_25, e110_26, e110_29, e110_30, e110_31, e110_34, e110_36, e110_37, e110_40, e110_42, e110_43, e110_46, e110_47, zG1, zG2, zG3, zG4, zG5, zG6, zG7, zG8, zNn, s3, s4, bk119 B, bk120 B, bk121 B, bk122 B, bk123 B, bk124 B, bk125 B, bk126 B, bk127 B, bk128 B, bk129 B, bk130 B, bk131 B, bk132 B, bk133 B, bk134 B, bk135 B, bk136 B, bk137 B, bk138 B, bk139 B, bk140 B, bk141 B, bk142 B, br1 B, br2 B, br3 B, br4 B, br5 B, br6 B, br7 B, br8 B, br9 B, br10 B, br11 B, br12 B, br13 B, br14 B, br15 B, br16 B, br17 B, br18 B, br19 B, br20 B, br21 B, br22 B, br23 B, hnc, hpl, hslt, q3, q4, q5, q6, g, w3, gv.1, p2, or_true, true_or, if_true, if_false, Option.bind_some, Option.toList_some, Option.toList_none, List.nil_append, List.cons_append]
      | cons v vs =>
        rw [hv] at gv hlv
        rw [List.length_cons] at gv hlv
        have p2 : (nI (vs.length + 1) = 0) = False := eq_false (nI_ne0 (by omega) (by omega))
        have m512 : 512 * nI (ysl k) = nI (512 * ysl k) := pk_mul 512 _
        have b1 : zin (nI (512 * ysl k)) 6144 = true := zin_nI (by omega) (by decide)
        have c1 : (nI (512 * ysl k)).toNatClampNeg = 512 * ysl k := nI_clamp (by omega)
        have z0 : zi M 142 (512 * ysl k) = nI v := gv.2 0 v rfl
        have l1 : nI (vs.length + 1) - 1 = nI vs.length := nI_pred _
        have hst1 : RSt M0 (zwi M 141 (ysl k) (nI vs.length)) := RSt_wi h.2.1 (by omega) (by omega)
        obtain ⟨M2, r1, r2, r3⟩ := R_rdL (sp := sp) (M := zwi M 141 (ysl k) (nI vs.length)) (s := ysl k) (l := vs.length) (v1 := .int p) (v2 := .int c) (v3 := .int (nI k)) (v5 := .int (nI v)) B hsl (by omega) zi_eq vs.length 0 (zwi M 141 (ysl k) (nI vs.length)) (by omega) hst1 ⟨fun _ _ _ => rfl, fun i => by rw [if_neg (by omega)]⟩
        have r1 : zV (zPr sp) (110, 75, [.ref 119, .int p, .int c, .int (nI k), .int (nI (ysl k)), .int (nI v), .int 0], [], zwi M 141 (ysl k) (nI vs.length)) = zV (zPr sp) (110, 123, [.ref 119, .int p, .int c, .int (nI k), .int (nI (ysl k)), .int (nI v), .int (nI vs.length)], [], M2) := r1
        have r2' := r2
        obtain ⟨-, -, t3, t4, -⟩ := r2
        have hR2 : RR M0 M2 (yvS S (ysl k) vs) := by
          refine RR_v h r2' (fun a j ha => by rw [r3.1 a j (by omega), zi_ne (by omega)]) (fun s' hs' => ?_) (fun _ => rfl) (fun _ => rfl) (fun _ _ => rfl) (fun _ => rfl) (fun _ => rfl) (fun _ => rfl)
          have gv' := h.2.2.2.2.1 s' hs'
          have hlv' := (hK.2.2.1 s' hs').1
          rw [yv_v, r3.1 141 _ (by decide)]
          by_cases hss : s' = ysl k
          · subst hss
            rw [if_pos rfl, zi_eq]
            refine ⟨rfl, fun i w hw => ?_⟩
            have hi : i < vs.length := by
              refine Classical.byContradiction fun z => ?_
              rw [List.getElem?_eq_none (by omega)] at hw
              cases hw
            rw [r3.2, if_pos ⟨by omega, by omega⟩, zi_ne (by decide)]
            exact gv.2 (i + 1) w (by rw [List.getElem?_cons_succ]; exact hw)
          · rw [if_neg hss, zi_nj hss]
            refine ⟨gv'.1, fun i w hw => ?_⟩
            have hi : i < (yv S s').length := by
              refine Classical.byContradiction fun z => ?_
              rw [List.getElem?_eq_none (by omega)] at hw
              cases hw
            rw [r3.2, if_neg (by omega), zi_ne (by decide)]
            exact gv'.2 i w hw
        have x10 : zi M2 140 k = nI (yn S 10 k) := (hR2.2.2.2.1 k hk).2.2 hs 10 (by decide) (by decide)
        have e1 : nI (yn S 10 k) + 1 = nI (yn S 10 k + 1) := nI_1 _
        have hm1 := nrem8 (a := yn S 10 k + 1) (by omega)
        have a1 : RR M0 (zwi M2 140 k (nI ((yn S 10 k + 1) % 8))) (ynS (yvS S (ysl k) vs) 10 k ((yn S 10 k + 1) % 8)) := RR_t (f := 10) hR2 (by decide) (by decide)
        have x10' : zi (zwi M2 140 k (nI ((yn S 10 k + 1) % 8))) 140 k = nI ((yn S 10 k + 1) % 8) := zi_eq
        have hK1 : yK n t (yvS S (ysl k) vs) := yK_vals hK (Nat.le_refl _) (by omega) (fun x hx => hlv.2 x (List.mem_cons_of_mem _ hx))
        obtain ⟨M3, u1, u2⟩ := R_put (sp := sp) (e := k / 3) (k := 5) (c := k % 3 + 1) (a := (yn S 10 k + 1) % 8) (b := 0) a1 (yK_n hK1 (Or.inl ⟨by decide, by omega⟩)) (by omega) (by omega) (yPk_k (by decide) (by omega) (by decide) (fun z => by cases z))
        rw [← ip, ← ic] at u1
        have u1 : zV (zPr sp) (84, 0, [.ref 119, .int (2 * p), .int 5, .int c, .int (nI ((yn S 10 k + 1) % 8)), .int 0], [], zwi M2 140 k (nI ((yn S 10 k + 1) % 8))) = some (none, M3) := u1
        refine ⟨M3, ?_, u2⟩
        simp only [e110_0, e110_1, e110_2, e110_5, e110_8, e110_9, e110_12, e110_13, e110_14, e110_17, e110_18, e110_19, e110_22, e110_23, e110_24, e110_25, e110_26, e110_29, e110_30, e110_31, e110_34, e110_36, e110_37, e110_40, e110_42, e110_43, e110_46, e110_47, e110_48, e110_49, e110_52, e110_55, e110_57, e110_58, e110_59, e110_61, e110_62, e110_65, e110_67, e110_68, e110_69, e110_70, e110_71, e110_72, e110_73, e110_123, e110_124, e110_127, e110_128, e110_129, e110_132, e110_133, e110_134, e110_135, e110_136, e110_138, e110_139, e110_140, e110_141, e110_142, e110_143, e110_144, e110_145, e110_146, e110_147, e110_150, e110_151, e110_152, e110_153, e110_156, e110_158, zG1, zG2, zG3, zG4, zG5, zG6, zG7, zG8, zNn, s3, s4, t3, t4, zk_wi, zr_wi, bk119 B, bk120 B, bk121 B, bk122 B, bk123 B, bk124 B, bk125 B, bk126 B, bk127 B, bk128 B, bk129 B, bk130 B, bk131 B, bk132 B, bk133 B, bk134 B, bk135 B, bk136 B, bk137 B, bk138 B, bk139 B, bk140 B, bk141 B, bk142 B, br1 B, br2 B, br3 B, br4 B, br5 B, br6 B, br7 B, br8 B, br9 B, br10 B, br11 B, br12 B, br13 B, br14 B, br15 B, br16 B, br17 B, br18 B, br19 B, br20 B, br21 B, br22 B, br23 B, hnc, hpl, hslt, q3, q4, q5, q6, g, w3, gv.1, p2, m512, b1, c1, z0, l1, r1, x10, e1, z80', hm1, x10', u1, or_true, true_or, if_true, if_false, Option.bind_some, Option.toList_some, Option.toList_none, List.nil_append, List.cons_append]
    · rw [if_neg h3]
      have w3 := w3.trans (eq_false h3)
      refine ⟨M, ?_, h⟩
      simp only [e110_0, e110_1, e110_2, e110_5, e110_8, e110_9, e110_12, e110_13, e110_14, e110_17, e110_18, e110_19, e110_22, e110_23, zG1, zG2, zG3, zG4, zG5, zG6, zG7, zG8, zNn, s3, s4, bk119 B, bk120 B, bk121 B, bk122 B, bk123 B, bk124 B, bk125 B, bk126 B, bk127 B, bk128 B, bk129 B, bk130 B, bk131 B, bk132 B, bk133 B, bk134 B, bk135 B, bk136 B, bk137 B, bk138 B, bk139 B, bk140 B, bk141 B, bk142 B, br1 B, br2 B, br3 B, br4 B, br5 B, br6 B, br7 B, br8 B, br9 B, br10 B, br11 B, br12 B, br13 B, br14 B, br15 B, br16 B, br17 B, br18 B, br19 B, br20 B, br21 B, br22 B, br23 B, hnc, hpl, q3, q4, g, w3, or_true, true_or, if_true, if_false, Option.bind_some, Option.toList_some, Option.toList_none, List.nil_append, List.cons_append]
theorem R_sta {sp : Nat × (Nat → Int32)} {M0 M : zM} {S : yS} {p c : Int32} (h : RR M0 M S) : zOr sp M0 M 111 [.ref 119, .int p, .int c] (oC S p c (-1) (fun k => (nI (yn S 5 k), S))) := by
  have B := h.1
  obtain ⟨-, -, s3, s4, -⟩ := h.2.1
  have hnc := @R_noC sp M p c
  unfold oC
  cases hC : yC p c with
  | none =>
    rw [hC, dY] at hnc
    refine ⟨M, ?_, h⟩
    simp only [e111_0, e111_1, e111_2, e111_5, e111_8, e111_9, e111_12, e111_13, e111_16, e111_17, e111_18, e111_21, e111_22, hnc, z10, or_true, true_or, if_true, if_false, Option.bind_some, Option.toList_some, Option.toList_none, List.nil_append, List.cons_append]
  | some k =>
    rw [hC, dN] at hnc
    obtain ⟨hk, hs⟩ := yC_k hC
    have hpl := fun M => R_place (sp := sp) (M := M) hC
    have q3 : zin (nI k) 30 = true := zin_nI hk (by decide)
    have q4 : (nI k).toNatClampNeg = k := nI_clamp (by omega)
    have g := (h.2.2.2.1 k hk).1
    refine ⟨M, ?_, h⟩
    simp only [e111_0, e111_1, e111_2, e111_5, e111_8, e111_9, e111_12, e111_13, e111_16, e111_17, e111_18, e111_21, e111_22, zG1, zG2, zG3, zG4, zG5, zG6, zG7, zG8, zNn, s3, s4, bk119 B, bk120 B, bk121 B, bk122 B, bk123 B, bk124 B, bk125 B, bk126 B, bk127 B, bk128 B, bk129 B, bk130 B, bk131 B, bk132 B, bk133 B, bk134 B, bk135 B, bk136 B, bk137 B, bk138 B, bk139 B, bk140 B, bk141 B, bk142 B, br1 B, br2 B, br3 B, br4 B, br5 B, br6 B, br7 B, br8 B, br9 B, br10 B, br11 B, br12 B, br13 B, br14 B, br15 B, br16 B, br17 B, br18 B, br19 B, br20 B, br21 B, br22 B, br23 B, hnc, hpl, q3, q4, g, or_true, true_or, if_true, if_false, Option.bind_some, Option.toList_some, Option.toList_none, List.nil_append, List.cons_append]
theorem R_peer {sp : Nat × (Nat → Int32)} {M0 M : zM} {S : yS} {p c : Int32} (h : RR M0 M S) (hI : yIk S) : zOr sp M0 M 112 [.ref 119, .int p, .int c] (oC S p c (-1) (fun k => (aPeer S k, S))) := by
  have B := h.1
  obtain ⟨-, -, s3, s4, -⟩ := h.2.1
  have hnc := @R_noC sp M p c
  unfold oC
  cases hC : yC p c with
  | none =>
    rw [hC, dY] at hnc
    refine ⟨M, ?_, h⟩
    simp only [e112_0, e112_1, e112_2, e112_5, e112_8, e112_9, e112_12, e112_13, e112_14, e112_17, e112_18, e112_21, e112_22, e112_25, e112_26, e112_27, e112_30, e112_31, e112_32, e112_35, e112_36, e112_37, e112_38, e112_41, e112_42, e112_43, e112_46, e112_47, hnc, z10, or_true, true_or, if_true, if_false, Option.bind_some, Option.toList_some, Option.toList_none, List.nil_append, List.cons_append]
  | some k =>
    rw [hC, dN] at hnc
    obtain ⟨hk, hs⟩ := yC_k hC
    have hpl := fun M => R_place (sp := sp) (M := M) hC
    have q3 : zin (nI k) 30 = true := zin_nI hk (by decide)
    have q4 : (nI k).toNatClampNeg = k := nI_clamp (by omega)
    have g := (h.2.2.2.1 k hk).1
    have v7 : zi M 137 k = nI (yn S 7 k) := (h.2.2.2.1 k hk).2.2 hs 7 (by decide) (by decide)
    have s0 : (nI (yn S 5 k) = 0) = (yn S 5 k = 0) := st_eq (m := 0) hI hk (by decide)
    have s5 : (nI (yn S 5 k) = 5) = (yn S 5 k = 5) := st_eq (m := 5) hI hk (by decide)
    refine ⟨M, ?_, h⟩
    dsimp only
    unfold aPeer
    by_cases h0 : yn S 5 k = 0
    · rw [if_pos (Or.inl h0)]
      have s0 := s0.trans (eq_true h0)
      simp only [e112_0, e112_1, e112_2, e112_5, e112_8, e112_9, e112_12, e112_13, e112_14, e112_17, e112_18, e112_21, e112_22, e112_25, e112_26, e112_27, e112_30, e112_31, e112_32, e112_35, e112_36, e112_37, e112_38, e112_41, e112_42, e112_43, e112_46, e112_47, zG1, zG2, zG3, zG4, zG5, zG6, zG7, zG8, zNn, s3, s4, bk119 B, bk120 B, bk121 B, bk122 B, bk123 B, bk124 B, bk125 B, bk126 B, bk127 B, bk128 B, bk129 B, bk130 B, bk131 B, bk132 B, bk133 B, bk134 B, bk135 B, bk136 B, bk137 B, bk138 B, bk139 B, bk140 B, bk141 B, bk142 B, br1 B, br2 B, br3 B, br4 B, br5 B, br6 B, br7 B, br8 B, br9 B, br10 B, br11 B, br12 B, br13 B, br14 B, br15 B, br16 B, br17 B, br18 B, br19 B, br20 B, br21 B, br22 B, br23 B, hnc, hpl, q3, q4, g, s0, or_true, true_or, if_true, if_false, Option.bind_some, Option.toList_some, Option.toList_none, List.nil_append, List.cons_append]
    · have s0 := s0.trans (eq_false h0)
      by_cases h5 : yn S 5 k = 5
      · rw [if_pos (Or.inr h5)]
        have s5 := s5.trans (eq_true h5)
        simp only [e112_0, e112_1, e112_2, e112_5, e112_8, e112_9, e112_12, e112_13, e112_14, e112_17, e112_18, e112_21, e112_22, e112_25, e112_26, e112_27, e112_30, e112_31, e112_32, e112_35, e112_36, e112_37, e112_38, e112_41, e112_42, e112_43, e112_46, e112_47, zG1, zG2, zG3, zG4, zG5, zG6, zG7, zG8, zNn, s3, s4, bk119 B, bk120 B, bk121 B, bk122 B, bk123 B, bk124 B, bk125 B, bk126 B, bk127 B, bk128 B, bk129 B, bk130 B, bk131 B, bk132 B, bk133 B, bk134 B, bk135 B, bk136 B, bk137 B, bk138 B, bk139 B, bk140 B, bk141 B, bk142 B, br1 B, br2 B, br3 B, br4 B, br5 B, br6 B, br7 B, br8 B, br9 B, br10 B, br11 B, br12 B, br13 B, br14 B, br15 B, br16 B, br17 B, br18 B, br19 B, br20 B, br21 B, br22 B, br23 B, hnc, hpl, q3, q4, g, s0, s5, or_true, true_or, if_true, if_false, Option.bind_some, Option.toList_some, Option.toList_none, List.nil_append, List.cons_append]
      · rw [if_neg (fun z => z.elim h0 h5)]
        have s5 := s5.trans (eq_false h5)
        simp only [e112_0, e112_1, e112_2, e112_5, e112_8, e112_9, e112_12, e112_13, e112_14, e112_17, e112_18, e112_21, e112_22, e112_25, e112_26, e112_27, e112_30, e112_31, e112_32, e112_35, e112_36, e112_37, e112_38, e112_41, e112_42, e112_43, e112_46, e112_47, zG1, zG2, zG3, zG4, zG5, zG6, zG7, zG8, zNn, s3, s4, bk119 B, bk120 B, bk121 B, bk122 B, bk123 B, bk124 B, bk125 B, bk126 B, bk127 B, bk128 B, bk129 B, bk130 B, bk131 B, bk132 B, bk133 B, bk134 B, bk135 B, bk136 B, bk137 B, bk138 B, bk139 B, bk140 B, bk141 B, bk142 B, br1 B, br2 B, br3 B, br4 B, br5 B, br6 B, br7 B, br8 B, br9 B, br10 B, br11 B, br12 B, br13 B, br14 B, br15 B, br16 B, br17 B, br18 B, br19 B, br20 B, br21 B, br22 B, br23 B, hnc, hpl, q3, q4, g, s0, s5, v7, or_true, true_or, if_true, if_false, Option.bind_some, Option.toList_some, Option.toList_none, List.nil_append, List.cons_append]
theorem R_unr {sp : Nat × (Nat → Int32)} {M0 M : zM} {S : yS} {p c : Int32} (h : RR M0 M S) (hI : yIk S) : zOr sp M0 M 113 [.ref 119, .int p, .int c, .double 0] (oC S p c (-1) (fun k => (aUnr S k, S))) := by
  have B := h.1
  obtain ⟨-, -, s3, s4, -⟩ := h.2.1
  have hnc := @R_noC sp M p c
  unfold oC
  cases hC : yC p c with
  | none =>
    rw [hC, dY] at hnc
    refine ⟨M, ?_, h⟩
    simp only [e113_0, e113_1, e113_2, e113_5, e113_8, e113_9, e113_10, e113_11, e113_12, e113_15, e113_16, e113_17, e113_20, e113_21, e113_22, e113_23, e113_26, e113_27, e113_30, e113_31, e113_34, e113_35, e113_38, e113_39, hnc, z10, or_true, true_or, if_true, if_false, Option.bind_some, Option.toList_some, Option.toList_none, List.nil_append, List.cons_append]
  | some k =>
    rw [hC, dN] at hnc
    obtain ⟨hk, hs⟩ := yC_k hC
    have hpl := fun M => R_place (sp := sp) (M := M) hC
    have hslt := fun M => R_slot (sp := sp) (M := M) hk
    have q3 : zin (nI k) 30 = true := zin_nI hk (by decide)
    have q4 : (nI k).toNatClampNeg = k := nI_clamp (by omega)
    have hsl : ysl k < 12 := (by decide +kernel : ∀ k, k < 30 → ysw (k / 3) = false → ysl k < 12) k hk hs
    have q5 : zin (nI (ysl k)) 12 = true := zin_nI hsl (by decide)
    have q6 : (nI (ysl k)).toNatClampNeg = ysl k := nI_clamp (by omega)
    have g := (h.2.2.2.1 k hk).1
    have gv := (h.2.2.2.2.1 (ysl k) hsl).1
    have w3 : (nI (yn S 5 k) = 3) = (yn S 5 k = 3) := st_eq (m := 3) hI hk (by decide)
    refine ⟨M, ?_, h⟩
    dsimp only
    unfold aUnr
    by_cases h3 : yn S 5 k = 3
    · rw [if_pos h3]
      have w3 := w3.trans (eq_true h3)
      simp only [e113_0, e113_1, e113_2, e113_5, e113_8, e113_9, e113_10, e113_11, e113_12, e113_15, e113_16, e113_17, e113_20, e113_21, e113_22, e113_23, e113_26, e113_27, e113_30, e113_31, e113_34, e113_35, e113_38, e113_39, zG1, zG2, zG3, zG4, zG5, zG6, zG7, zG8, zNn, s3, s4, bk119 B, bk120 B, bk121 B, bk122 B, bk123 B, bk124 B, bk125 B, bk126 B, bk127 B, bk128 B, bk129 B, bk130 B, bk131 B, bk132 B, bk133 B, bk134 B, bk135 B, bk136 B, bk137 B, bk138 B, bk139 B, bk140 B, bk141 B, bk142 B, br1 B, br2 B, br3 B, br4 B, br5 B, br6 B, br7 B, br8 B, br9 B, br10 B, br11 B, br12 B, br13 B, br14 B, br15 B, br16 B, br17 B, br18 B, br19 B, br20 B, br21 B, br22 B, br23 B, hnc, hpl, hslt, q3, q4, q5, q6, g, w3, gv, or_true, true_or, if_true, if_false, Option.bind_some, Option.toList_some, Option.toList_none, List.nil_append, List.cons_append]
    · rw [if_neg h3]
      have w3 := w3.trans (eq_false h3)
      simp only [e113_0, e113_1, e113_2, e113_5, e113_8, e113_9, e113_10, e113_11, e113_12, e113_15, e113_16, e113_17, e113_20, e113_21, e113_22, e113_23, e113_26, e113_27, e113_30, e113_31, e113_34, e113_35, e113_38, e113_39, zG1, zG2, zG3, zG4, zG5, zG6, zG7, zG8, zNn, s3, s4, bk119 B, bk120 B, bk121 B, bk122 B, bk123 B, bk124 B, bk125 B, bk126 B, bk127 B, bk128 B, bk129 B, bk130 B, bk131 B, bk132 B, bk133 B, bk134 B, bk135 B, bk136 B, bk137 B, bk138 B, bk139 B, bk140 B, bk141 B, bk142 B, br1 B, br2 B, br3 B, br4 B, br5 B, br6 B, br7 B, br8 B, br9 B, br10 B, br11 B, br12 B, br13 B, br14 B, br15 B, br16 B, br17 B, br18 B, br19 B, br20 B, br21 B, br22 B, br23 B, hnc, hpl, q3, q4, g, w3, or_true, true_or, if_true, if_false, Option.bind_some, Option.toList_some, Option.toList_none, List.nil_append, List.cons_append]
theorem R_call {sp : Nat × (Nat → Int32)} {M0 M : zM} {S : yS} {n t : Nat} {p q : Int32} (h : RR M0 M S) (hK : yK n t S) (hn : n < 1597) : zOr sp M0 M 103 [.ref 119, .int p, .int q, .double 0] (oCall S p q) := by
  have B := h.1
  obtain ⟨-, -, s3, s4, -⟩ := h.2.1
  have i1 := @R_bel sp M p 4
  have i2 := @R_bel sp M q 4
  have i1 : zV (zPr sp) (91, 0, [.int p, .int 4], [], M) = some (some (.int (yb (yT p))), M) := i1
  have i2 : zV (zPr sp) (91, 0, [.int q, .int 4], [], M) = some (some (.int (yb (yT q))), M) := i2
  unfold oCall
  cases hp : yT p
  · rw [if_neg (fun z => by cases z.1)]
    rw [hp] at i1
    refine ⟨M, ?_, h⟩
    simp only [e103_0, e103_1, e103_2, e103_5, e103_8, e103_9, e103_10, e103_13, e103_16, e103_17, e103_18, e103_21, e103_22, e103_25, e103_26, e103_27, e103_28, e103_29, e103_32, e103_33, i1, zyb0, or_true, true_or, if_true, if_false, Option.bind_some, Option.toList_some, Option.toList_none, List.nil_append, List.cons_append]
  · rw [hp] at i1
    cases hq : yT q
    · rw [if_neg (fun z => by cases z.2)]
      rw [hq] at i2
      refine ⟨M, ?_, h⟩
      simp only [e103_0, e103_1, e103_2, e103_5, e103_8, e103_9, e103_10, e103_13, e103_16, e103_17, e103_18, e103_21, e103_22, e103_25, e103_26, e103_27, e103_28, e103_29, e103_32, e103_33, i1, i2, zyb0, zyb1, or_true, true_or, if_true, if_false, Option.bind_some, Option.toList_some, Option.toList_none, List.nil_append, List.cons_append]
    · rw [hq] at i2
      rw [if_pos ⟨rfl, rfl⟩]
      obtain ⟨p', hp', rfl⟩ := yT_k hp
      obtain ⟨q', hq', rfl⟩ := yT_k hq
      rw [nI_clamp (by omega), nI_clamp (by omega)]
      unfold aCall
      by_cases hpq : p' = q'
      · rw [if_pos (Or.inl hpq)]
        have p1 : (nI p' = nI q') = True := eq_true (by rw [hpq])
        refine ⟨M, ?_, h⟩
        simp only [e103_0, e103_1, e103_2, e103_5, e103_8, e103_9, e103_10, e103_13, e103_16, e103_17, e103_18, e103_21, e103_22, e103_25, e103_26, e103_27, e103_28, e103_29, e103_32, e103_33, i1, i2, zyb1, p1, or_true, true_or, if_true, if_false, Option.bind_some, Option.toList_some, Option.toList_none, List.nil_append, List.cons_append]
      · have p1 : (nI p' = nI q') = False := eq_false (fun z => hpq ((nI_eq (by omega) (by omega)).mp z))
        have ix : 2 * nI p' = nI (2 * p') := pk_mul 2 p'
        have p3 : zin (nI (2 * p')) 10 = true := zin_nI (by omega) (by decide)
        have p4 : (nI (2 * p')).toNatClampNeg = 2 * p' := nI_clamp (by omega)
        have hE := (h.2.2.1 (2 * p') (by omega)).2.1
        cases hu : yu S (2 * p')
        · rw [if_pos (Or.inr rfl)]
          rw [hu] at hE
          refine ⟨M, ?_, h⟩
          simp only [e103_0, e103_1, e103_2, e103_5, e103_8, e103_9, e103_10, e103_13, e103_16, e103_17, e103_18, e103_21, e103_22, e103_25, e103_26, e103_27, e103_28, e103_29, e103_32, e103_33, zG1, zG2, zG3, zG4, zG5, zG6, zG7, zG8, zNn, s3, s4, bk119 B, bk120 B, bk121 B, bk122 B, bk123 B, bk124 B, bk125 B, bk126 B, bk127 B, bk128 B, bk129 B, bk130 B, bk131 B, bk132 B, bk133 B, bk134 B, bk135 B, bk136 B, bk137 B, bk138 B, bk139 B, bk140 B, bk141 B, bk142 B, br1 B, br2 B, br3 B, br4 B, br5 B, br6 B, br7 B, br8 B, br9 B, br10 B, br11 B, br12 B, br13 B, br14 B, br15 B, br16 B, br17 B, br18 B, br19 B, br20 B, br21 B, br22 B, br23 B, i1, i2, zyb1, p1, ix, p3, p4, hE, zyn0, or_true, true_or, if_true, if_false, Option.bind_some, Option.toList_some, Option.toList_none, List.nil_append, List.cons_append]
        · rw [if_neg (fun z => z.elim hpq (fun z => by cases z))]
          rw [hu] at hE
          have hfr := R_free (sp := sp) h hK.2.1 (show 2 * p' < 10 by omega)
          cases hw : yFree S (2 * p') with
          | none =>
            rw [hw] at hfr
            have hfr : zV (zPr sp) (101, 0, [.ref 119, .int (nI (2 * p')), .double 0, .double 0], [], M) = some (some (.int (-1)), M) := hfr
            have neg : ((-1 : Int32) < 0) = True := by decide
            refine ⟨M, ?_, h⟩
            simp only [e103_0, e103_1, e103_2, e103_5, e103_8, e103_9, e103_10, e103_13, e103_16, e103_17, e103_18, e103_21, e103_22, e103_25, e103_26, e103_27, e103_28, e103_29, e103_32, e103_33, e103_34, e103_35, e103_36, e103_37, e103_38, e103_41, e103_42, e103_43, e103_46, e103_47, zG1, zG2, zG3, zG4, zG5, zG6, zG7, zG8, zNn, s3, s4, bk119 B, bk120 B, bk121 B, bk122 B, bk123 B, bk124 B, bk125 B, bk126 B, bk127 B, bk128 B, bk129 B, bk130 B, bk131 B, bk132 B, bk133 B, bk134 B, bk135 B, bk136 B, bk137 B, bk138 B, bk139 B, bk140 B, bk141 B, bk142 B, br1 B, br2 B, br3 B, br4 B, br5 B, br6 B, br7 B, br8 B, br9 B, br10 B, br11 B, br12 B, br13 B, br14 B, br15 B, br16 B, br17 B, br18 B, br19 B, br20 B, br21 B, br22 B, br23 B, i1, i2, zyb1, p1, ix, p3, p4, hE, zyn1, hfr, neg, or_true, true_or, if_true, if_false, Option.bind_some, Option.toList_some, Option.toList_none, List.nil_append, List.cons_append]
          | some k =>
            rw [hw] at hfr
            have hfr : zV (zPr sp) (101, 0, [.ref 119, .int (nI (2 * p')), .double 0, .double 0], [], M) = some (some (.int (nI k)), M) := hfr
            have hd := yFree_d hw
            have hk : k < 30 := by omega
            have hs : ysw (k / 3) = false := by
              rw [hd]
              exact (by decide +kernel : ∀ p', p' < 4 → ysw (2 * p') = false) p' hp'
            have pk : (nI k < 0) = False := eq_false (nI_pos (by omega))
            have q3 : zin (nI k) 30 = true := zin_nI hk (by decide)
            have q4 : (nI k).toNatClampNeg = k := nI_clamp (by omega)
            have a1 : RR M0 (zwi M 134 k 1) (ynS S 5 k 1) := RR_st (m := 1) h (fun z => by rw [hs] at z; cases z)
            have a2 : RR M0 (zwi (zwi M 134 k 1) 137 k (nI q')) (ynS (ynS S 5 k 1) 7 k q') := RR_t (f := 7) a1 (by decide) (by decide)
            obtain ⟨M1, r1, r2⟩ := R_renew (sp := sp) a2 hk hs
            obtain ⟨-, -, t3, t4, -⟩ := r2.2.1
            have hK1 : yK n t (yRenew (ynS (ynS S 5 k 1) 7 k q') k) := yK_renew (yK_n (yK_st hK (by decide) hk (fun z => by rw [hs] at z; cases z)).1 (Or.inr ⟨rfl, by omega⟩))
            obtain ⟨M2, u1, u2⟩ := R_put (sp := sp) (e := k / 3) (k := 0) (c := k % 3 + 1) (a := q') (b := p') r2 hK1 (by omega) (by omega) (yPk_k (by decide) (by omega) (by omega) (fun _ => hq'))
            have u2 : RR M0 M2 (yPutOn (yRenew (ynS (ynS S 5 k 1) 7 k q') k) k 0 q' p') := u2
            rw [hd] at u1
            have u1 : zV (zPr sp) (84, 0, [.ref 119, .int (nI (2 * p')), .int 0, .int (nI (k % 3 + 1)), .int (nI q'), .int (nI p')], [], M1) = some (none, M2) := u1
            have m3 := nrem3 (a := k) (by omega)
            refine ⟨M2, ?_, u2⟩
            simp only [e103_0, e103_1, e103_2, e103_5, e103_8, e103_9, e103_10, e103_13, e103_16, e103_17, e103_18, e103_21, e103_22, e103_25, e103_26, e103_27, e103_28, e103_29, e103_32, e103_33, e103_34, e103_35, e103_36, e103_37, e103_38, e103_41, e103_42, e103_43, e103_46, e103_47, e103_48, e103_49, e103_52, e103_53, e103_54, e103_55, e103_56, e103_59, e103_60, e103_61, e103_62, e103_63, e103_64, e103_67, e103_68, e103_69, e103_70, e103_71, e103_72, e103_73, e103_74, e103_75, e103_76, e103_77, e103_78, e103_79, e103_82, e103_83, e103_84, e103_85, e103_86, e103_87, zG1, zG2, zG3, zG4, zG5, zG6, zG7, zG8, zNn, s3, s4, t3, t4, zk_wi, zr_wi, bk119 B, bk120 B, bk121 B, bk122 B, bk123 B, bk124 B, bk125 B, bk126 B, bk127 B, bk128 B, bk129 B, bk130 B, bk131 B, bk132 B, bk133 B, bk134 B, bk135 B, bk136 B, bk137 B, bk138 B, bk139 B, bk140 B, bk141 B, bk142 B, br1 B, br2 B, br3 B, br4 B, br5 B, br6 B, br7 B, br8 B, br9 B, br10 B, br11 B, br12 B, br13 B, br14 B, br15 B, br16 B, br17 B, br18 B, br19 B, br20 B, br21 B, br22 B, br23 B, i1, i2, zyb1, p1, ix, p3, p4, hE, zyn1, hfr, pk, q3, q4, r1, z30', m3, nI_1, u1, or_true, true_or, if_true, if_false, Option.bind_some, Option.toList_some, Option.toList_none, List.nil_append, List.cons_append]
