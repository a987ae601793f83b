/-! The class's own methods on a circuit. -/
def aAns (S : yS) (k : Nat) : Int32 × yS := if yn S 5 k = 2 then (1, yPutOn (ynS S 5 k 3) k 1 0 0) else (0, S)
def aClr (S : yS) (k : Nat) : Int32 × yS := if yn S 5 k = 0 ∨ yn S 5 k = 5 then (0, S) else (1, yCut S k)
def aRes (S : yS) (k : Nat) : Int32 × yS := if yn S 5 k = 3 then (1, ynS (yPutOn (yRenew S k) k 6 0 0) 5 k 4) else (0, S)
def aSnd (S : yS) (k : Nat) (v : Int32) : Int32 × yS := if v < 0 ∨ 255 < v ∨ yn S 5 k ≠ 3 then (-1, S) else if yn S 8 k = (yn S 9 k + 3) % 8 then (-2, S) else (nI (yn S 8 k), yPutOn (ynS S 8 k ((yn S 8 k + 1) % 8)) k 4 (yn S 8 k) v.toNatClampNeg)
def aRd (S : yS) (k : Nat) : Int32 × yS := if yn S 5 k = 3 then (match yv S (ysl k) with
  | [] => (-1, S)
  | v :: vs => (nI v, yPutOn (ynS (yvS S (ysl k) vs) 10 k ((yn S 10 k + 1) % 8)) k 5 ((yn S 10 k + 1) % 8) 0)) else (-1, S)
def aPeer (S : yS) (k : Nat) : Int32 := if yn S 5 k = 0 ∨ yn S 5 k = 5 then -1 else nI (yn S 7 k)
def aUnr (S : yS) (k : Nat) : Int32 := if yn S 5 k = 3 then nI (yv S (ysl k)).length else 0
def oC (S : yS) (p c d : Int32) (f : Nat → Int32 × yS) : Int32 × yS := match yC p c with
  | none => (d, S)
  | some k => f k
def zOk (sp : Nat × (Nat → Int32)) (M0 M : zM) (i : Nat) (ls : List Value) (r : Int32 × yS) : Prop := ∃ M', zV (zPr sp) (i, 0, ls, [], M) = some (some (.int r.1), M') ∧ RC M0 M' r.2
theorem st_eq {S : yS} {k m : Nat} (hI : yIk S) (hk : k < 30) (hm : m < 6) : (nI (yn S 5 k) = nI m) = (yn S 5 k = m) := propext (nI_eq (by have := (hI k hk).1; omega) (by omega))
theorem T_has {sp : Nat × (Nat → Int32)} {M0 M : zM} {S : yS} {k : Nat} (h : RC M0 M S) (hI : yIk S) (hk : k < 30) (hs : ysw (k / 3) = false) : zV (zPr sp) (27, 0, [.ref (zCh k)], [], M) = some (some (.int (if yn S 5 k = 0 ∨ yn S 5 k = 5 then 0 else 1)), M) := by
  obtain ⟨c1, c2, c3, c4, c5⟩ := RC_cT h hk hs
  have g := h.2.2.2.1 k hk hs
  have s0 : (nI (yn S 5 k) = 0) = (yn S 5 k = 0) := st_eq (m := 0) hI hk (by decide)
  have s5 : (nI (yn S 5 k) = 5) = (yn S 5 k = 5) := st_eq (m := 5) hI hk (by decide)
  by_cases h0 : yn S 5 k = 0
  · rw [if_pos (Or.inl h0)]
    have p1 := s0.trans (eq_true h0)
    simp only [e27_0, e27_1, e27_4, e27_7, e27_8, e27_11, e27_12, e27_15, e27_16, e27_19, e27_20, zG1, zG2, zG3, zG4, zG5, zG6, zG7, zG8, zNn, c1, g.1, p1, or_true, true_or, if_true, if_false, Option.bind_some, Option.toList_some, Option.toList_none, List.nil_append, List.cons_append]
  · have p1 := s0.trans (eq_false h0)
    by_cases h5 : yn S 5 k = 5
    · rw [if_pos (Or.inr h5)]
      have p2 := s5.trans (eq_true h5)
      simp only [e27_0, e27_1, e27_4, e27_7, e27_8, e27_11, e27_12, e27_15, e27_16, e27_19, e27_20, zG1, zG2, zG3, zG4, zG5, zG6, zG7, zG8, zNn, c1, g.1, p1, p2, or_true, true_or, if_true, if_false, Option.bind_some, Option.toList_some, Option.toList_none, List.nil_append, List.cons_append]
    · rw [if_neg (fun z => z.elim h0 h5)]
      have p2 := s5.trans (eq_false h5)
      simp only [e27_0, e27_1, e27_4, e27_7, e27_8, e27_11, e27_12, e27_15, e27_16, e27_19, e27_20, zG1, zG2, zG3, zG4, zG5, zG6, zG7, zG8, zNn, c1, g.1, p1, p2, or_true, true_or, if_true, if_false, Option.bind_some, Option.toList_some, Option.toList_none, List.nil_append, List.cons_append]
theorem z10 : ((1 : Int32) = 0) = False := by decide
theorem N_ans {sp : Nat × (Nat → Int32)} {M0 M : zM} {S : yS} {n t : Nat} {p c : Int32} (h : RC M0 M S) (hK : yK n t S) (hn : n < 2043) : zOk sp M0 M 25 [.ref 0, .int p, .int c, .double 0] (oC S p c 0 (aAns S)) := by
  have ha := N_at (sp := sp) (p := p) (c := c) h
  obtain ⟨k1, k2, k3, k4, k5, k6, k7⟩ := RC_0 h
  unfold oC
  cases hC : yC p c with
  | none =>
    rw [hC] at ha
    refine ⟨M, ?_, h⟩
    simp only [e25_0, e25_1, e25_2, e25_3, e25_6, e25_7, e25_8, e25_11, e25_12, e25_15, e25_16, e25_19, e25_20, e25_21, e25_22, e25_23, e25_26, e25_27, e25_28, e25_29, e25_30, e25_33, e25_34, zG1, zG2, zG3, zG4, zG5, zG6, zG7, zG8, zNn, k1, ha, Option.map_none, or_true, true_or, if_true, if_false, Option.bind_some, Option.toList_some, Option.toList_none, List.nil_append, List.cons_append]
  | some k =>
    rw [hC] at ha
    obtain ⟨hk, hs⟩ := yC_k hC
    obtain ⟨c1, c2, c3, c4, c5⟩ := RC_cT h hk hs
    have g := h.2.2.2.1 k hk hs
    have s2 : (nI (yn S 5 k) = 2) = (yn S 5 k = 2) := st_eq (m := 2) hK.2.1 hk (by decide)
    dsimp only
    unfold aAns
    by_cases h2 : yn S 5 k = 2
    · rw [if_pos h2]
      have p1 := s2.trans (eq_true h2)
      have a1 : RC M0 (zwi M (zCh k) 7 3) (ynS S 5 k 3) := RC_tn (f := 5) (j := 7) (n := 3) h hk hs (by omega)
      obtain ⟨M1, r1, r2⟩ := C_put (sp := sp) (kind := 1) (a := 0) (b := 0) a1 (yK_st hK (by decide) hk (fun _ => by decide)).1 (by omega) hk (yPk_k (by decide) (by decide) (by decide) (fun z => by cases z))
      have r1 : zV (zPr sp) (18, 0, [.ref (zCh k), .int 1, .int 0, .int 0], [], zwi M (zCh k) 7 3) = some (none, M1) := r1
      refine ⟨M1, ?_, r2⟩
      simp only [e25_0, e25_1, e25_2, e25_3, e25_6, e25_7, e25_8, e25_11, e25_12, e25_15, e25_16, e25_19, e25_20, e25_21, e25_22, e25_23, e25_26, e25_27, e25_28, e25_29, e25_30, e25_33, e25_34, zG1, zG2, zG3, zG4, zG5, zG6, zG7, zG8, zNn, k1, ha, Option.map_some, c1, zk_wi, g.1, p1, r1, or_true, true_or, if_true, if_false, Option.bind_some, Option.toList_some, Option.toList_none, List.nil_append, List.cons_append]
    · rw [if_neg h2]
      have p1 := s2.trans (eq_false h2)
      refine ⟨M, ?_, h⟩
      simp only [e25_0, e25_1, e25_2, e25_3, e25_6, e25_7, e25_8, e25_11, e25_12, e25_15, e25_16, e25_19, e25_20, e25_21, e25_22, e25_23, e25_26, e25_27, e25_28, e25_29, e25_30, e25_33, e25_34, zG1, zG2, zG3, zG4, zG5, zG6, zG7, zG8, zNn, k1, ha, Option.map_some, c1, g.1, p1, or_true, true_or, if_true, if_false, Option.bind_some, Option.toList_some, Option.toList_none, List.nil_append, List.cons_append]
theorem N_clr {sp : Nat × (Nat → Int32)} {M0 M : zM} {S : yS} {n t : Nat} {p c : Int32} (h : RC M0 M S) (hK : yK n t S) (hn : n < 2043) : zOk sp M0 M 26 [.ref 0, .int p, .int c, .double 0] (oC S p c 0 (aClr S)) := by
  have ha := N_at (sp := sp) (p := p) (c := c) h
  obtain ⟨k1, k2, k3, k4, k5, k6, k7⟩ := RC_0 h
  unfold oC
  cases hC : yC p c with
  | none =>
    rw [hC] at ha
    refine ⟨M, ?_, h⟩
    simp only [e26_0, e26_1, e26_2, e26_3, e26_6, e26_7, e26_8, e26_11, e26_12, e26_15, e26_18, e26_19, e26_20, e26_21, e26_24, e26_25, zG1, zG2, zG3, zG4, zG5, zG6, zG7, zG8, zNn, k1, ha, Option.map_none, or_true, true_or, if_true, if_false, Option.bind_some, Option.toList_some, Option.toList_none, List.nil_append, List.cons_append]
  | some k =>
    rw [hC] at ha
    obtain ⟨hk, hs⟩ := yC_k hC
    obtain ⟨c1, c2, c3, c4, c5⟩ := RC_cT h hk hs
    have hh := T_has (sp := sp) h hK.2.1 hk hs
    dsimp only
    unfold aClr
    by_cases h2 : yn S 5 k = 0 ∨ yn S 5 k = 5
    · rw [if_pos h2]
      rw [if_pos h2] at hh
      refine ⟨M, ?_, h⟩
      simp only [e26_0, e26_1, e26_2, e26_3, e26_6, e26_7, e26_8, e26_11, e26_12, e26_15, e26_18, e26_19, e26_20, e26_21, e26_24, e26_25, zG1, zG2, zG3, zG4, zG5, zG6, zG7, zG8, zNn, k1, ha, Option.map_some, c1, hh, or_true, true_or, if_true, if_false, Option.bind_some, Option.toList_some, Option.toList_none, List.nil_append, List.cons_append]
    · rw [if_neg h2]
      rw [if_neg h2] at hh
      obtain ⟨M1, r1, r2⟩ := C_clr (sp := sp) h hK (by omega) hk
      refine ⟨M1, ?_, r2⟩
      simp only [e26_0, e26_1, e26_2, e26_3, e26_6, e26_7, e26_8, e26_11, e26_12, e26_15, e26_18, e26_19, e26_20, e26_21, e26_24, e26_25, zG1, zG2, zG3, zG4, zG5, zG6, zG7, zG8, zNn, k1, ha, Option.map_some, c1, hh, z10, r1, or_true, true_or, if_true, if_false, Option.bind_some, Option.toList_some, Option.toList_none, List.nil_append, List.cons_append]
theorem N_res {sp : Nat × (Nat → Int32)} {M0 M : zM} {S : yS} {n t : Nat} {p c : Int32} (h : RC M0 M S) (hK : yK n t S) (hn : n < 2043) : zOk sp M0 M 29 [.ref 0, .int p, .int c, .double 0] (oC S p c 0 (aRes S)) := by
  have ha := N_at (sp := sp) (p := p) (c := c) h
  obtain ⟨k1, k2, k3, k4, k5, k6, k7⟩ := RC_0 h
  unfold oC
  cases hC : yC p c with
  | none =>
    rw [hC] at ha
    refine ⟨M, ?_, h⟩
    simp only [e29_0, e29_1, e29_2, e29_3, e29_6, e29_7, e29_8, e29_11, e29_12, e29_15, e29_16, e29_19, e29_20, e29_21, e29_22, e29_25, e29_26, e29_28, e29_29, e29_30, e29_33, e29_34, e29_35, e29_38, e29_39, zG1, zG2, zG3, zG4, zG5, zG6, zG7, zG8, zNn, k1, ha, Option.map_none, or_true, true_or, if_true, if_false, Option.bind_some, Option.toList_some, Option.toList_none, List.nil_append, List.cons_append]
  | some k =>
    rw [hC] at ha
    obtain ⟨hk, hs⟩ := yC_k hC
    obtain ⟨c1, c2, c3, c4, c5⟩ := RC_cT h hk hs
    have g := h.2.2.2.1 k hk hs
    have s3 : (nI (yn S 5 k) = 3) = (yn S 5 k = 3) := st_eq (m := 3) hK.2.1 hk (by decide)
    dsimp only
    unfold aRes
    by_cases h3 : yn S 5 k = 3
    · rw [if_pos h3]
      have p1 := s3.trans (eq_true h3)
      obtain ⟨M1, r1, r2⟩ := T_renew (sp := sp) h hk hs
      obtain ⟨M2, q1, q2⟩ := C_put (sp := sp) (kind := 6) (a := 0) (b := 0) r2 (yK_renew hK) (by omega) hk (yPk_k (by decide) (by decide) (by decide) (fun z => by cases z))
      have q1 : zV (zPr sp) (18, 0, [.ref (zCh k), .int 6, .int 0, .int 0], [], M1) = some (none, M2) := q1
      have a1 : RC M0 (zwi M2 (zCh k) 7 4) (ynS (yPutOn (yRenew S k) k 6 0 0) 5 k 4) := RC_tn (f := 5) (j := 7) (n := 4) q2 hk hs (by omega)
      have d1 := (RC_cT r2 hk hs).1
      have d2 := (RC_cT q2 hk hs).1
      refine ⟨_, ?_, a1⟩
      simp only [e29_0, e29_1, e29_2, e29_3, e29_6, e29_7, e29_8, e29_11, e29_12, e29_15, e29_16, e29_19, e29_20, e29_21, e29_22, e29_25, e29_26, e29_28, e29_29, e29_30, e29_33, e29_34, e29_35, e29_38, e29_39, zG1, zG2, zG3, zG4, zG5, zG6, zG7, zG8, zNn, k1, ha, Option.map_some, c1, d1, d2, g.1, p1, r1, q1, or_true, true_or, if_true, if_false, Option.bind_some, Option.toList_some, Option.toList_none, List.nil_append, List.cons_append]
    · rw [if_neg h3]
      have p1 := s3.trans (eq_false h3)
      refine ⟨M, ?_, h⟩
      simp only [e29_0, e29_1, e29_2, e29_3, e29_6, e29_7, e29_8, e29_11, e29_12, e29_15, e29_16, e29_19, e29_20, e29_21, e29_22, e29_25, e29_26, e29_28, e29_29, e29_30, e29_33, e29_34, e29_35, e29_38, e29_39, zG1, zG2, zG3, zG4, zG5, zG6, zG7, zG8, zNn, k1, ha, Option.map_some, c1, g.1, p1, or_true, true_or, if_true, if_false, Option.bind_some, Option.toList_some, Option.toList_none, List.nil_append, List.cons_append]
theorem T_full {sp : Nat × (Nat → Int32)} {M0 M : zM} {S : yS} {k : Nat} (h : RC M0 M S) (hI : yIk S) (hk : k < 30) (hs : ysw (k / 3) = false) : zV (zPr sp) (31, 0, [.ref (zCh k)], [], M) = some (some (.int (if yn S 8 k = (yn S 9 k + 3) % 8 then 1 else 0)), M) := by
  obtain ⟨c1, c2, c3, c4, c5⟩ := RC_cT h hk hs
  have g := h.2.2.2.1 k hk hs
  have gi := hI k hk
  have e3 : nI (yn S 9 k) + 3 = nI (yn S 9 k + 3) := nI_add _ 3
  have hm : nI (yn S 9 k + 3) &&& 7 = nI ((yn S 9 k + 3) % 8) := n7 (by omega)
  by_cases hq : yn S 8 k = (yn S 9 k + 3) % 8
  · rw [if_pos hq]
    have p1 : (nI (yn S 8 k) = nI ((yn S 9 k + 3) % 8)) = True := eq_true (by rw [← hq])
    simp only [e31_0, e31_1, e31_4, e31_5, e31_8, e31_9, e31_10, e31_12, e31_13, e31_16, e31_17, e31_20, e31_21, zG1, zG2, zG3, zG4, zG5, zG6, zG7, zG8, zNn, c1, g.2.2.1, g.2.2.2.1, e3, hm, p1, or_true, true_or, if_true, if_false, Option.bind_some, Option.toList_some, Option.toList_none, List.nil_append, List.cons_append]
  · rw [if_neg hq]
    have p1 : (nI (yn S 8 k) = nI ((yn S 9 k + 3) % 8)) = False := eq_false (fun z => hq ((nI_eq (by omega) (by omega)).mp z))
    simp only [e31_0, e31_1, e31_4, e31_5, e31_8, e31_9, e31_10, e31_12, e31_13, e31_16, e31_17, e31_20, e31_21, zG1, zG2, zG3, zG4, zG5, zG6, zG7, zG8, zNn, c1, g.2.2.1, g.2.2.2.1, e3, hm, p1, or_true, true_or, if_true, if_false, Option.bind_some, Option.toList_some, Option.toList_none, List.nil_append, List.cons_append]
theorem T_putv {sp : Nat × (Nat → Int32)} {M0 M : zM} {S : yS} {k v n t : Nat} (h : RC M0 M S) (hK : yK n t S) (hn : n < 2043) (hk : k < 30) (hs : ysw (k / 3) = false) (hv : v < 256) : ∃ M', zV (zPr sp) (32, 0, [.ref (zCh k), .int (nI v), .double 0], [], M) = some (some (.int (nI (yn S 8 k))), M') ∧ RC M0 M' (yPutOn (ynS S 8 k ((yn S 8 k + 1) % 8)) k 4 (yn S 8 k) v) := by
  obtain ⟨c1, c2, c3, c4, c5⟩ := RC_cT h hk hs
  have g := h.2.2.2.1 k hk hs
  have gi := hK.2.1 k hk
  have hm : nI (yn S 8 k + 1) &&& 7 = nI ((yn S 8 k + 1) % 8) := n7 (by omega)
  have a1 : RC M0 (zwi M (zCh k) 2 (nI ((yn S 8 k + 1) % 8))) (ynS S 8 k ((yn S 8 k + 1) % 8)) := RC_tn (f := 8) (j := 2) h hk hs (by omega)
  obtain ⟨M1, r1, r2⟩ := C_put (sp := sp) (kind := 4) (a := yn S 8 k) (b := v) a1 (yK_n hK (Or.inl ⟨by decide, by omega⟩)) (by omega) hk (yPk_k (by decide) (by omega) hv (fun z => by cases z))
  have r1 : zV (zPr sp) (18, 0, [.ref (zCh k), .int 4, .int (nI (yn S 8 k)), .int (nI v)], [], zwi M (zCh k) 2 (nI ((yn S 8 k + 1) % 8))) = some (none, M1) := r1
  refine ⟨M1, ?_, r2⟩
  simp only [e32_0, e32_1, e32_4, e32_5, e32_6, e32_7, e32_10, e32_11, e32_12, e32_14, e32_15, e32_18, e32_19, e32_20, e32_21, e32_22, e32_25, e32_26, zG1, zG2, zG3, zG4, zG5, zG6, zG7, zG8, zNn, c1, zk_wi, g.2.2.1, nI_1, hm, r1, or_true, true_or, if_true, if_false, Option.bind_some, Option.toList_some, Option.toList_none, List.nil_append, List.cons_append]
theorem N_snd {sp : Nat × (Nat → Int32)} {M0 M : zM} {S : yS} {n t : Nat} {p c v : Int32} (h : RC M0 M S) (hK : yK n t S) (hn : n < 2043) : zOk sp M0 M 30 [.ref 0, .int p, .int c, .int v, .double 0] (oC S p c (-1) (fun k => aSnd S k v)) := by
  have ha := N_at (sp := sp) (p := p) (c := c) h
  obtain ⟨k1, k2, k3, k4, k5, k6, k7⟩ := RC_0 h
  unfold oC
  cases hC : yC p c with
  | none =>
    rw [hC] at ha
    refine ⟨M, ?_, h⟩
    simp only [e30_0, e30_1, e30_2, e30_3, e30_6, e30_8, e30_10, e30_13, e30_14, e30_17, e30_18, e30_21, e30_24, e30_26, e30_29, e30_30, e30_33, e30_34, e30_35, e30_37, e30_40, e30_43, e30_45, e30_46, e30_48, e30_49, e30_52, zG1, zG2, zG3, zG4, zG5, zG6, zG7, zG8, zNn, k1, ha, Option.map_none, or_true, true_or, if_true, if_false, Option.bind_some, Option.toList_some, Option.toList_none, List.nil_append, List.cons_append]
  | some k =>
    rw [hC] at ha
    obtain ⟨hk, hs⟩ := yC_k hC
    obtain ⟨c1, c2, c3, c4, c5⟩ := RC_cT h hk hs
    have g := h.2.2.2.1 k hk hs
    have s3 : (nI (yn S 5 k) = 3) = (yn S 5 k = 3) := st_eq (m := 3) hK.2.1 hk (by decide)
    dsimp only
    unfold aSnd
    by_cases h1 : v < 0
    · rw [if_pos (Or.inl h1)]
      have p1 := eq_true h1
      refine ⟨M, ?_, h⟩
      simp only [e30_0, e30_1, e30_2, e30_3, e30_6, e30_8, e30_10, e30_13, e30_14, e30_17, e30_18, e30_21, e30_24, e30_26, e30_29, e30_30, e30_33, e30_34, e30_35, e30_37, e30_40, e30_43, e30_45, e30_46, e30_48, e30_49, e30_52, zG1, zG2, zG3, zG4, zG5, zG6, zG7, zG8, zNn, k1, ha, Option.map_some, p1, or_true, true_or, if_true, if_false, Option.bind_some, Option.toList_some, Option.toList_none, List.nil_append, List.cons_append]
    · have p1 := eq_false h1
      by_cases h2 : 255 < v
      · rw [if_pos (Or.inr (Or.inl h2))]
        have p2 := eq_true h2
        refine ⟨M, ?_, h⟩
        simp only [e30_0, e30_1, e30_2, e30_3, e30_6, e30_8, e30_10, e30_13, e30_14, e30_17, e30_18, e30_21, e30_24, e30_26, e30_29, e30_30, e30_33, e30_34, e30_35, e30_37, e30_40, e30_43, e30_45, e30_46, e30_48, e30_49, e30_52, zG1, zG2, zG3, zG4, zG5, zG6, zG7, zG8, zNn, k1, ha, Option.map_some, p1, p2, or_true, true_or, if_true, if_false, Option.bind_some, Option.toList_some, Option.toList_none, List.nil_append, List.cons_append]
      · have p2 := eq_false h2
        by_cases h3 : yn S 5 k = 3
        · rw [if_neg (fun z => z.elim h1 (fun z => z.elim h2 (fun z => z h3)))]
          have p3 := s3.trans (eq_true h3)
          have hf := T_full (sp := sp) h hK.2.1 hk hs
          by_cases h4 : yn S 8 k = (yn S 9 k + 3) % 8
          · rw [if_pos h4]
            rw [if_pos h4] at hf
            refine ⟨M, ?_, h⟩
            simp only [e30_0, e30_1, e30_2, e30_3, e30_6, e30_8, e30_10, e30_13, e30_14, e30_17, e30_18, e30_21, e30_24, e30_26, e30_29, e30_30, e30_33, e30_34, e30_35, e30_37, e30_40, e30_43, e30_45, e30_46, e30_48, e30_49, e30_52, zG1, zG2, zG3, zG4, zG5, zG6, zG7, zG8, zNn, k1, ha, Option.map_some, c1, g.1, p1, p2, p3, hf, z10, or_true, true_or, if_true, if_false, Option.bind_some, Option.toList_some, Option.toList_none, List.nil_append, List.cons_append]
          · rw [if_neg h4]
            rw [if_neg h4] at hf
            obtain ⟨v', hv, rfl⟩ := nI_rl (n := 255) (by decide) h1 h2
            obtain ⟨M1, r1, r2⟩ := T_putv (sp := sp) h hK hn hk hs hv
            rw [nI_clamp (by omega)]
            refine ⟨M1, ?_, r2⟩
            simp only [e30_0, e30_1, e30_2, e30_3, e30_6, e30_8, e30_10, e30_13, e30_14, e30_17, e30_18, e30_21, e30_24, e30_26, e30_29, e30_30, e30_33, e30_34, e30_35, e30_37, e30_40, e30_43, e30_45, e30_46, e30_48, e30_49, e30_52, zG1, zG2, zG3, zG4, zG5, zG6, zG7, zG8, zNn, k1, ha, Option.map_some, c1, g.1, p1, p2, p3, hf, r1, or_true, true_or, if_true, if_false, Option.bind_some, Option.toList_some, Option.toList_none, List.nil_append, List.cons_append]
        · rw [if_pos (Or.inr (Or.inr h3))]
          have p3 := s3.trans (eq_false h3)
          refine ⟨M, ?_, h⟩
          simp only [e30_0, e30_1, e30_2, e30_3, e30_6, e30_8, e30_10, e30_13, e30_14, e30_17, e30_18, e30_21, e30_24, e30_26, e30_29, e30_30, e30_33, e30_34, e30_35, e30_37, e30_40, e30_43, e30_45, e30_46, e30_48, e30_49, e30_52, zG1, zG2, zG3, zG4, zG5, zG6, zG7, zG8, zNn, k1, ha, Option.map_some, c1, g.1, p1, p2, p3, or_true, true_or, if_true, if_false, Option.bind_some, Option.toList_some, Option.toList_none, List.nil_append, List.cons_append]
theorem N_rd {sp : Nat × (Nat → Int32)} {M0 M : zM} {S : yS} {n t : Nat} {p c : Int32} (h : RC M0 M S) (hK : yK n t S) (hn : n < 2043) (ht : t < 2048) : zOk sp M0 M 33 [.ref 0, .int p, .int c, .double 0] (oC S p c (-1) (aRd S)) := by
  have ha := N_at (sp := sp) (p := p) (c := c) h
  obtain ⟨k1, k2, k3, k4, k5, k6, k7⟩ := RC_0 h
  unfold oC
  cases hC : yC p c with
  | none =>
    rw [hC] at ha
    refine ⟨M, ?_, h⟩
    simp only [e33_0, e33_1, e33_2, e33_3, e33_6, e33_7, e33_8, e33_11, e33_12, e33_15, e33_16, e33_19, e33_20, e33_23, e33_26, e33_29, e33_30, e33_31, e33_32, e33_35, zG1, zG2, zG3, zG4, zG5, zG6, zG7, zG8, zNn, k1, ha, Option.map_none, or_true, true_or, if_true, if_false, Option.bind_some, Option.toList_some, Option.toList_none, List.nil_append, List.cons_append]
  | some k =>
    rw [hC] at ha
    obtain ⟨hk, hs⟩ := yC_k hC
    obtain ⟨c1, c2, c3, c4, c5⟩ := RC_cT h hk hs
    have g := h.2.2.2.1 k hk hs
    have gi := hK.2.1 k hk
    have s3 : (nI (yn S 5 k) = 3) = (yn S 5 k = 3) := st_eq (m := 3) hK.2.1 hk (by decide)
    have kl := RC_l h (show 10 + ysl k < 22 by omega)
    have hsz := L_size (sp := sp) h (show 10 + ysl k < 22 by omega)
    rw [yXs_v, List.length_map] at hsz
    have hvl := (hK.2.2.1 (ysl k) c5).1
    dsimp only
    unfold aRd
    by_cases h3 : yn S 5 k = 3
    · rw [if_pos h3]
      have p1 := s3.trans (eq_true h3)
      cases hv : yv S (ysl k) with
      | nil =>
        rw [hv] at hsz
        have p2 : (nI ([] : List Nat).length = 0) = True := by decide
        refine ⟨M, ?_, h⟩
        simp only [e33_0, e33_1, e33_2, e33_3, e33_6, e33_7, e33_8, e33_11, e33_12, e33_15, e33_16, e33_19, e33_20, e33_23, e33_26, e33_29, e33_30, e33_31, e33_32, e33_35, zG1, zG2, zG3, zG4, zG5, zG6, zG7, zG8, zNn, k1, ha, Option.map_some, c1, c4, kl, g.1, p1, hsz, p2, or_true, true_or, if_true, if_false, Option.bind_some, Option.toList_some, Option.toList_none, List.nil_append, List.cons_append]
      | cons v vs =>
        rw [hv] at hsz hvl
        have p2 : (nI (v :: vs).length = 0) = False := eq_false (nI_ne0 (by simp) (by omega))
        have hat := L_at (sp := sp) (k := 0) (v := nI v) h (show 10 + ysl k < 22 by omega) (by rw [yXs_v, hv]; rfl)
        have hat : zV (zPr sp) (23, 0, [.ref (zLn (10 + ysl k)), .int 0], [], M) = some (some (.int (nI v)), M) := hat
        obtain ⟨M1, r1, r2⟩ := L_drop (sp := sp) (d := 1) h (show 10 + ysl k < 22 by omega) (by rw [yXs_v, List.length_map, hv]; simp)
        rw [yXS_v, show 10 + ysl k - 10 = ysl k by omega, hv] at r2
        have r2 : RC M0 M1 (yvS S (ysl k) vs) := r2
        have r1 : zV (zPr sp) (17, 0, [.ref (zLn (10 + ysl k)), .int 1, .double 0], [], M) = some (none, M1) := r1
        obtain ⟨d1, d2, d3, d4, d5⟩ := RC_cT r2 hk hs
        have g1 := r2.2.2.2.1 k hk hs
        have z4 : zi M1 (zCh k) 4 = nI (yn S 10 k) := g1.2.2.2.2
        have hm : nI (yn S 10 k + 1) &&& 7 = nI ((yn S 10 k + 1) % 8) := n7 (by omega)
        have a1 : RC M0 (zwi M1 (zCh k) 4 (nI ((yn S 10 k + 1) % 8))) (ynS (yvS S (ysl k) vs) 10 k ((yn S 10 k + 1) % 8)) := RC_tn (f := 10) (j := 4) r2 hk hs (by omega)
        have z4' : zi (zwi M1 (zCh k) 4 (nI ((yn S 10 k + 1) % 8))) (zCh k) 4 = nI ((yn S 10 k + 1) % 8) := zi_eq
        have hv256 := (hK.2.2.1 (ysl k) c5).2
        rw [hv] at hv256
        have hK1 : yK n t (yvS S (ysl k) vs) := yK_vals hK (Nat.le_refl _) (by simp at hvl; omega) (fun x hx => hv256 x (List.mem_cons_of_mem _ hx))
        obtain ⟨M2, q1, q2⟩ := C_put (sp := sp) (kind := 5) (a := (yn S 10 k + 1) % 8) (b := 0) a1 (yK_n hK1 (Or.inl ⟨by decide, by omega⟩)) (by omega) hk (yPk_k (by decide) (by omega) (by decide) (fun z => by cases z))
        have q1 : zV (zPr sp) (18, 0, [.ref (zCh k), .int 5, .int (nI ((yn S 10 k + 1) % 8)), .int 0], [], zwi M1 (zCh k) 4 (nI ((yn S 10 k + 1) % 8))) = some (none, M2) := q1
        have ht : zV (zPr sp) (34, 0, [.ref (zCh k), .double 0], [], M) = some (some (.int (nI v)), M2) := by
          simp only [e34_0, e34_1, e34_4, e34_5, e34_8, e34_9, e34_10, e34_13, e34_14, e34_17, e34_18, e34_19, e34_22, e34_23, e34_24, e34_26, e34_27, e34_30, e34_31, e34_32, e34_33, e34_36, e34_37, e34_40, e34_41, zG1, zG2, zG3, zG4, zG5, zG6, zG7, zG8, zNn, c1, c4, kl, d1, zk_wi, z4, z4', hat, r1, nI_1, hm, q1, or_true, true_or, if_true, if_false, Option.bind_some, Option.toList_some, Option.toList_none, List.nil_append, List.cons_append]
        refine ⟨M2, ?_, q2⟩
        simp only [e33_0, e33_1, e33_2, e33_3, e33_6, e33_7, e33_8, e33_11, e33_12, e33_15, e33_16, e33_19, e33_20, e33_23, e33_26, e33_29, e33_30, e33_31, e33_32, e33_35, zG1, zG2, zG3, zG4, zG5, zG6, zG7, zG8, zNn, k1, ha, Option.map_some, c1, c4, kl, g.1, p1, hsz, p2, ht, or_true, true_or, if_true, if_false, Option.bind_some, Option.toList_some, Option.toList_none, List.nil_append, List.cons_append]
    · rw [if_neg h3]
      have p1 := s3.trans (eq_false h3)
      refine ⟨M, ?_, h⟩
      simp only [e33_0, e33_1, e33_2, e33_3, e33_6, e33_7, e33_8, e33_11, e33_12, e33_15, e33_16, e33_19, e33_20, e33_23, e33_26, e33_29, e33_30, e33_31, e33_32, e33_35, zG1, zG2, zG3, zG4, zG5, zG6, zG7, zG8, zNn, k1, ha, Option.map_some, c1, g.1, p1, or_true, true_or, if_true, if_false, Option.bind_some, Option.toList_some, Option.toList_none, List.nil_append, List.cons_append]
theorem N_sta {sp : Nat × (Nat → Int32)} {M0 M : zM} {S : yS} {p c : Int32} (h : RC M0 M S) : zOk sp M0 M 64 [.ref 0, .int p, .int c, .double 0] (oC S p c (-1) (fun k => (nI (yn S 5 k), S))) := by
  have ha := N_at (sp := sp) (p := p) (c := c) h
  obtain ⟨k1, k2, k3, k4, k5, k6, k7⟩ := RC_0 h
  unfold oC
  cases hC : yC p c with
  | none =>
    rw [hC] at ha
    refine ⟨M, ?_, h⟩
    simp only [e64_0, e64_1, e64_2, e64_3, e64_6, e64_7, e64_8, e64_11, e64_12, e64_15, e64_16, e64_19, zG1, zG2, zG3, zG4, zG5, zG6, zG7, zG8, zNn, k1, ha, Option.map_none, or_true, true_or, if_true, if_false, Option.bind_some, Option.toList_some, Option.toList_none, List.nil_append, List.cons_append]
  | some k =>
    rw [hC] at ha
    obtain ⟨hk, hs⟩ := yC_k hC
    obtain ⟨c1, c2, c3, c4, c5⟩ := RC_cT h hk hs
    have g := h.2.2.2.1 k hk hs
    refine ⟨M, ?_, h⟩
    simp only [e64_0, e64_1, e64_2, e64_3, e64_6, e64_7, e64_8, e64_11, e64_12, e64_15, e64_16, e64_19, zG1, zG2, zG3, zG4, zG5, zG6, zG7, zG8, zNn, k1, ha, Option.map_some, c1, g.1, or_true, true_or, if_true, if_false, Option.bind_some, Option.toList_some, Option.toList_none, List.nil_append, List.cons_append]
theorem N_peer {sp : Nat × (Nat → Int32)} {M0 M : zM} {S : yS} {p c : Int32} (h : RC M0 M S) (hI : yIk S) : zOk sp M0 M 65 [.ref 0, .int p, .int c, .double 0] (oC S p c (-1) (fun k => (aPeer S k, S))) := by
  have ha := N_at (sp := sp) (p := p) (c := c) h
  obtain ⟨k1, k2, k3, k4, k5, k6, k7⟩ := RC_0 h
  unfold oC
  cases hC : yC p c with
  | none =>
    rw [hC] at ha
    refine ⟨M, ?_, h⟩
    simp only [e65_0, e65_1, e65_2, e65_3, e65_6, e65_7, e65_8, e65_11, e65_12, e65_15, e65_18, e65_19, e65_22, e65_23, e65_26, zG1, zG2, zG3, zG4, zG5, zG6, zG7, zG8, zNn, k1, ha, Option.map_none, or_true, true_or, if_true, if_false, Option.bind_some, Option.toList_some, Option.toList_none, List.nil_append, List.cons_append]
  | some k =>
    rw [hC] at ha
    obtain ⟨hk, hs⟩ := yC_k hC
    obtain ⟨c1, c2, c3, c4, c5⟩ := RC_cT h hk hs
    have g := h.2.2.2.1 k hk hs
    have hh := T_has (sp := sp) h hI hk hs
    refine ⟨M, ?_, h⟩
    dsimp only
    unfold aPeer
    by_cases h2 : yn S 5 k = 0 ∨ yn S 5 k = 5
    · rw [if_pos h2]
      rw [if_pos h2] at hh
      simp only [e65_0, e65_1, e65_2, e65_3, e65_6, e65_7, e65_8, e65_11, e65_12, e65_15, e65_18, e65_19, e65_22, e65_23, e65_26, zG1, zG2, zG3, zG4, zG5, zG6, zG7, zG8, zNn, k1, ha, Option.map_some, c1, hh, or_true, true_or, if_true, if_false, Option.bind_some, Option.toList_some, Option.toList_none, List.nil_append, List.cons_append]
    · rw [if_neg h2]
      rw [if_neg h2] at hh
      simp only [e65_0, e65_1, e65_2, e65_3, e65_6, e65_7, e65_8, e65_11, e65_12, e65_15, e65_18, e65_19, e65_22, e65_23, e65_26, zG1, zG2, zG3, zG4, zG5, zG6, zG7, zG8, zNn, k1, ha, Option.map_some, c1, hh, z10, g.2.1, or_true, true_or, if_true, if_false, Option.bind_some, Option.toList_some, Option.toList_none, List.nil_append, List.cons_append]
theorem N_unr {sp : Nat × (Nat → Int32)} {M0 M : zM} {S : yS} {p c : Int32} (h : RC M0 M S) (hI : yIk S) : zOk sp M0 M 66 [.ref 0, .int p, .int c, .double 0] (oC S p c (-1) (fun k => (aUnr S k, S))) := by
  have ha := N_at (sp := sp) (p := p) (c := c) h
  obtain ⟨k1, k2, k3, k4, k5, k6, k7⟩ := RC_0 h
  unfold oC
  cases hC : yC p c with
  | none =>
    rw [hC] at ha
    refine ⟨M, ?_, h⟩
    simp only [e66_0, e66_1, e66_2, e66_3, e66_6, e66_7, e66_8, e66_11, e66_12, e66_13, e66_14, e66_17, e66_18, e66_21, e66_22, e66_25, e66_28, e66_31, e66_32, zG1, zG2, zG3, zG4, zG5, zG6, zG7, zG8, zNn, k1, ha, Option.map_none, or_true, true_or, if_true, if_false, Option.bind_some, Option.toList_some, Option.toList_none, List.nil_append, List.cons_append]
  | some k =>
    rw [hC] at ha
    obtain ⟨hk, hs⟩ := yC_k hC
    obtain ⟨c1, c2, c3, c4, c5⟩ := RC_cT h hk hs
    have g := h.2.2.2.1 k hk hs
    have s3 : (nI (yn S 5 k) = 3) = (yn S 5 k = 3) := st_eq (m := 3) hI hk (by decide)
    have kl := RC_l h (show 10 + ysl k < 22 by omega)
    have hsz := L_size (sp := sp) h (show 10 + ysl k < 22 by omega)
    rw [yXs_v, List.length_map] at hsz
    refine ⟨M, ?_, h⟩
    dsimp only
    unfold aUnr
    by_cases h3 : yn S 5 k = 3
    · rw [if_pos h3]
      have p1 := s3.trans (eq_true h3)
      simp only [e66_0, e66_1, e66_2, e66_3, e66_6, e66_7, e66_8, e66_11, e66_12, e66_13, e66_14, e66_17, e66_18, e66_21, e66_22, e66_25, e66_28, e66_31, e66_32, zG1, zG2, zG3, zG4, zG5, zG6, zG7, zG8, zNn, k1, ha, Option.map_some, c1, c4, kl, g.1, p1, hsz, or_true, true_or, if_true, if_false, Option.bind_some, Option.toList_some, Option.toList_none, List.nil_append, List.cons_append]
    · rw [if_neg h3]
      have p1 := s3.trans (eq_false h3)
      simp only [e66_0, e66_1, e66_2, e66_3, e66_6, e66_7, e66_8, e66_11, e66_12, e66_13, e66_14, e66_17, e66_18, e66_21, e66_22, e66_25, e66_28, e66_31, e66_32, zG1, zG2, zG3, zG4, zG5, zG6, zG7, zG8, zNn, k1, ha, Option.map_some, c1, g.1, p1, or_true, true_or, if_true, if_false, Option.bind_some, Option.toList_some, Option.toList_none, List.nil_append, List.cons_append]
