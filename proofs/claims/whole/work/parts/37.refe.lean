/-! The reference's own methods on an end. -/
theorem R_lose {sp : Nat × (Nat → Int32)} {M0 M : zM} {S : yS} {n t : Nat} {l e : Int32} (h : RR M0 M S) (hK : yK n t S) : zOr sp M0 M 102 [.ref 119, .int l, .int e] (oE S l e 0 (aLose S)) := by
  have B := h.1
  obtain ⟨-, -, s3, s4, -⟩ := h.2.1
  have hnc := @R_noE sp M l e
  unfold oE
  cases hC : yE l e with
  | none =>
    rw [hC, dY] at hnc
    refine ⟨M, ?_, h⟩
    simp only [e102_0, e102_1, e102_2, e102_5, e102_8, e102_9, e102_12, e102_13, e102_14, e102_15, e102_16, e102_17, e102_18, e102_21, e102_22, e102_23, e102_24, e102_25, e102_26, e102_27, e102_28, e102_29, e102_32, e102_33, hnc, z10, or_true, true_or, if_true, if_false, Option.bind_some, Option.toList_some, Option.toList_none, List.nil_append, List.cons_append]
  | some k =>
    rw [hC, dN] at hnc
    have hk := yE_k hC
    have ix := yE_ix hC
    have q3 : zin (nI k) 10 = true := zin_nI hk (by decide)
    have q4 : (nI k).toNatClampNeg = k := nI_clamp (by omega)
    have g := (h.2.2.2.2.2.1 k hk).1
    have hl := (hK.1 k hk).2.2.2.2.2.2.2.2.1
    dsimp only
    unfold aLose
    cases hv : yw S k with
    | nil =>
      rw [hv] at g
      have p2 : (nI ([] : List yF).length = 0) = True := by decide
      refine ⟨M, ?_, h⟩
      simp only [e102_0, e102_1, e102_2, e102_5, e102_8, e102_9, e102_12, e102_13, e102_14, e102_15, e102_16, e102_17, e102_18, e102_21, e102_22, e102_23, e102_24, e102_25, e102_26, e102_27, e102_28, e102_29, e102_32, e102_33, zG1, zG2, zG3, zG4, zG5, zG6, zG7, zG8, zNn, s3, s4, bk119 B, bk120 B, bk121 B, bk122 B, bk123 B, bk124 B, bk125 B, bk126 B, bk127 B, bk128 B, bk129 B, bk130 B, bk131 B, bk132 B, bk133 B, bk134 B, bk135 B, bk136 B, bk137 B, bk138 B, bk139 B, bk140 B, bk141 B, bk142 B, br1 B, br2 B, br3 B, br4 B, br5 B, br6 B, br7 B, br8 B, br9 B, br10 B, br11 B, br12 B, br13 B, br14 B, br15 B, br16 B, br17 B, br18 B, br19 B, br20 B, br21 B, br22 B, br23 B, hnc, ix, q3, q4, g, p2, or_true, true_or, if_true, if_false, Option.bind_some, Option.toList_some, Option.toList_none, List.nil_append, List.cons_append]
    | cons f fs =>
      rw [hv] at g hl
      have p2 : (nI (f :: fs).length = 0) = False := eq_false (nI_ne0 (by simp) (by omega))
      obtain ⟨M1, r1, r2⟩ := R_shift (sp := sp) h hK hk hv
      refine ⟨M1, ?_, r2⟩
      simp only [e102_0, e102_1, e102_2, e102_5, e102_8, e102_9, e102_12, e102_13, e102_14, e102_15, e102_16, e102_17, e102_18, e102_21, e102_22, e102_23, e102_24, e102_25, e102_26, e102_27, e102_28, e102_29, e102_32, e102_33, zG1, zG2, zG3, zG4, zG5, zG6, zG7, zG8, zNn, s3, s4, bk119 B, bk120 B, bk121 B, bk122 B, bk123 B, bk124 B, bk125 B, bk126 B, bk127 B, bk128 B, bk129 B, bk130 B, bk131 B, bk132 B, bk133 B, bk134 B, bk135 B, bk136 B, bk137 B, bk138 B, bk139 B, bk140 B, bk141 B, bk142 B, br1 B, br2 B, br3 B, br4 B, br5 B, br6 B, br7 B, br8 B, br9 B, br10 B, br11 B, br12 B, br13 B, br14 B, br15 B, br16 B, br17 B, br18 B, br19 B, br20 B, br21 B, br22 B, br23 B, hnc, ix, q3, q4, g, p2, r1, or_true, true_or, if_true, if_false, Option.bind_some, Option.toList_some, Option.toList_none, List.nil_append, List.cons_append]
theorem R_frs {sp : Nat × (Nat → Int32)} {M0 M : zM} {S : yS} {l e : Int32} (h : RR M0 M S) : zOr sp M0 M 114 [.ref 119, .int l, .int e] (oE S l e (-1) (fun e => (nI (yw S e).length, S))) := by
  have B := h.1
  obtain ⟨-, -, s3, s4, -⟩ := h.2.1
  have hnc := @R_noE sp M l e
  unfold oE
  cases hC : yE l e with
  | none =>
    rw [hC, dY] at hnc
    refine ⟨M, ?_, h⟩
    simp only [e114_0, e114_1, e114_2, e114_5, e114_8, e114_9, e114_12, e114_13, e114_16, e114_17, e114_18, e114_19, e114_20, e114_21, e114_22, hnc, z10, or_true, true_or, if_true, if_false, Option.bind_some, Option.toList_some, Option.toList_none, List.nil_append, List.cons_append]
  | some k =>
    rw [hC, dN] at hnc
    have hk := yE_k hC
    have ix := yE_ix hC
    have q3 : zin (nI k) 10 = true := zin_nI hk (by decide)
    have q4 : (nI k).toNatClampNeg = k := nI_clamp (by omega)
    have g := (h.2.2.2.2.2.1 k hk).1
    refine ⟨M, ?_, h⟩
    simp only [e114_0, e114_1, e114_2, e114_5, e114_8, e114_9, e114_12, e114_13, e114_16, e114_17, e114_18, e114_19, e114_20, e114_21, e114_22, zG1, zG2, zG3, zG4, zG5, zG6, zG7, zG8, zNn, s3, s4, bk119 B, bk120 B, bk121 B, bk122 B, bk123 B, bk124 B, bk125 B, bk126 B, bk127 B, bk128 B, bk129 B, bk130 B, bk131 B, bk132 B, bk133 B, bk134 B, bk135 B, bk136 B, bk137 B, bk138 B, bk139 B, bk140 B, bk141 B, bk142 B, br1 B, br2 B, br3 B, br4 B, br5 B, br6 B, br7 B, br8 B, br9 B, br10 B, br11 B, br12 B, br13 B, br14 B, br15 B, br16 B, br17 B, br18 B, br19 B, br20 B, br21 B, br22 B, br23 B, hnc, ix, q3, q4, g, or_true, true_or, if_true, if_false, Option.bind_some, Option.toList_some, Option.toList_none, List.nil_append, List.cons_append]
theorem R_row {sp : Nat × (Nat → Int32)} {M0 M : zM} {S : yS} {n t : Nat} {l e : Int32} (h : RR M0 M S) (hK : yK n t S) (hn : n ≤ 1600) : zOr sp M0 M 116 [.ref 119, .int l, .int e] (oE S l e (-1) (fun e => (nI (yr S e).length, S))) := by
  have B := h.1
  obtain ⟨-, -, s3, s4, -⟩ := h.2.1
  have hnc := @R_noE sp M l e
  unfold oE
  cases hC : yE l e with
  | none =>
    rw [hC, dY] at hnc
    refine ⟨M, ?_, h⟩
    simp only [e116_0, e116_1, e116_2, e116_5, e116_8, e116_9, e116_12, e116_13, e116_14, e116_15, e116_16, e116_17, e116_18, e116_21, hnc, z10, or_true, true_or, if_true, if_false, Option.bind_some, Option.toList_some, Option.toList_none, List.nil_append, List.cons_append]
  | some k =>
    rw [hC, dN] at hnc
    have hk := yE_k hC
    have ix := yE_ix hC
    obtain ⟨pl, g1, g2, g3⟩ := RR_pl h hK
    have hl := R_len (sp := sp) B h.2.1 g1 (by omega) hk
    rw [← g2 k hk] at hl
    refine ⟨M, ?_, h⟩
    simp only [e116_0, e116_1, e116_2, e116_5, e116_8, e116_9, e116_12, e116_13, e116_14, e116_15, e116_16, e116_17, e116_18, e116_21, zG1, zG2, zG3, zG4, zG5, zG6, zG7, zG8, zNn, s3, s4, bk119 B, bk120 B, bk121 B, bk122 B, bk123 B, bk124 B, bk125 B, bk126 B, bk127 B, bk128 B, bk129 B, bk130 B, bk131 B, bk132 B, bk133 B, bk134 B, bk135 B, bk136 B, bk137 B, bk138 B, bk139 B, bk140 B, bk141 B, bk142 B, br1 B, br2 B, br3 B, br4 B, br5 B, br6 B, br7 B, br8 B, br9 B, br10 B, br11 B, br12 B, br13 B, br14 B, br15 B, br16 B, br17 B, br18 B, br19 B, br20 B, br21 B, br22 B, br23 B, hnc, ix, hl, or_true, true_or, if_true, if_false, Option.bind_some, Option.toList_some, Option.toList_none, List.nil_append, List.cons_append]
theorem R_ep {sp : Nat × (Nat → Int32)} {M0 M : zM} {S : yS} {l e : Int32} (h : RR M0 M S) : zOr sp M0 M 117 [.ref 119, .int l, .int e] (oE S l e (-1) (fun e => (ye S e, S))) := by
  have B := h.1
  obtain ⟨-, -, s3, s4, -⟩ := h.2.1
  have hnc := @R_noE sp M l e
  unfold oE
  cases hC : yE l e with
  | none =>
    rw [hC, dY] at hnc
    refine ⟨M, ?_, h⟩
    simp only [e117_0, e117_1, e117_2, e117_5, e117_8, e117_9, e117_12, e117_13, e117_16, e117_17, e117_18, e117_19, e117_20, e117_21, e117_22, hnc, z10, or_true, true_or, if_true, if_false, Option.bind_some, Option.toList_some, Option.toList_none, List.nil_append, List.cons_append]
  | some k =>
    rw [hC, dN] at hnc
    have hk := yE_k hC
    have ix := yE_ix hC
    have q3 : zin (nI k) 10 = true := zin_nI hk (by decide)
    have q4 : (nI k).toNatClampNeg = k := nI_clamp (by omega)
    have g := (h.2.2.1 k hk).1
    refine ⟨M, ?_, h⟩
    simp only [e117_0, e117_1, e117_2, e117_5, e117_8, e117_9, e117_12, e117_13, e117_16, e117_17, e117_18, e117_19, e117_20, e117_21, e117_22, zG1, zG2, zG3, zG4, zG5, zG6, zG7, zG8, zNn, s3, s4, bk119 B, bk120 B, bk121 B, bk122 B, bk123 B, bk124 B, bk125 B, bk126 B, bk127 B, bk128 B, bk129 B, bk130 B, bk131 B, bk132 B, bk133 B, bk134 B, bk135 B, bk136 B, bk137 B, bk138 B, bk139 B, bk140 B, bk141 B, bk142 B, br1 B, br2 B, br3 B, br4 B, br5 B, br6 B, br7 B, br8 B, br9 B, br10 B, br11 B, br12 B, br13 B, br14 B, br15 B, br16 B, br17 B, br18 B, br19 B, br20 B, br21 B, br22 B, br23 B, hnc, ix, q3, q4, g, or_true, true_or, if_true, if_false, Option.bind_some, Option.toList_some, Option.toList_none, List.nil_append, List.cons_append]
theorem R_up {sp : Nat × (Nat → Int32)} {M0 M : zM} {S : yS} {l e : Int32} (h : RR M0 M S) : zOr sp M0 M 118 [.ref 119, .int l, .int e] (oE S l e 0 (fun e => (yb (yu S e), S))) := by
  have B := h.1
  obtain ⟨-, -, s3, s4, -⟩ := h.2.1
  have hnc := @R_noE sp M l e
  unfold oE
  cases hC : yE l e with
  | none =>
    rw [hC, dY] at hnc
    refine ⟨M, ?_, h⟩
    simp only [e118_0, e118_1, e118_2, e118_5, e118_8, e118_9, e118_12, e118_13, e118_14, e118_15, e118_16, e118_17, e118_18, e118_21, e118_22, e118_25, e118_26, hnc, z10, or_true, true_or, if_true, if_false, Option.bind_some, Option.toList_some, Option.toList_none, List.nil_append, List.cons_append]
  | some k =>
    rw [hC, dN] at hnc
    have hk := yE_k hC
    have ix := yE_ix hC
    have q3 : zin (nI k) 10 = true := zin_nI hk (by decide)
    have q4 : (nI k).toNatClampNeg = k := nI_clamp (by omega)
    have g := (h.2.2.1 k hk).2.1
    refine ⟨M, ?_, h⟩
    dsimp only
    cases hu : yu S k
    · rw [hu] at g
      simp only [e118_0, e118_1, e118_2, e118_5, e118_8, e118_9, e118_12, e118_13, e118_14, e118_15, e118_16, e118_17, e118_18, e118_21, e118_22, e118_25, e118_26, zG1, zG2, zG3, zG4, zG5, zG6, zG7, zG8, zNn, s3, s4, bk119 B, bk120 B, bk121 B, bk122 B, bk123 B, bk124 B, bk125 B, bk126 B, bk127 B, bk128 B, bk129 B, bk130 B, bk131 B, bk132 B, bk133 B, bk134 B, bk135 B, bk136 B, bk137 B, bk138 B, bk139 B, bk140 B, bk141 B, bk142 B, br1 B, br2 B, br3 B, br4 B, br5 B, br6 B, br7 B, br8 B, br9 B, br10 B, br11 B, br12 B, br13 B, br14 B, br15 B, br16 B, br17 B, br18 B, br19 B, br20 B, br21 B, br22 B, br23 B, hnc, ix, q3, q4, g, zyn0, or_true, true_or, if_true, if_false, Option.bind_some, Option.toList_some, Option.toList_none, List.nil_append, List.cons_append]
      rfl
    · rw [hu] at g
      simp only [e118_0, e118_1, e118_2, e118_5, e118_8, e118_9, e118_12, e118_13, e118_14, e118_15, e118_16, e118_17, e118_18, e118_21, e118_22, e118_25, e118_26, zG1, zG2, zG3, zG4, zG5, zG6, zG7, zG8, zNn, s3, s4, bk119 B, bk120 B, bk121 B, bk122 B, bk123 B, bk124 B, bk125 B, bk126 B, bk127 B, bk128 B, bk129 B, bk130 B, bk131 B, bk132 B, bk133 B, bk134 B, bk135 B, bk136 B, bk137 B, bk138 B, bk139 B, bk140 B, bk141 B, bk142 B, br1 B, br2 B, br3 B, br4 B, br5 B, br6 B, br7 B, br8 B, br9 B, br10 B, br11 B, br12 B, br13 B, br14 B, br15 B, br16 B, br17 B, br18 B, br19 B, br20 B, br21 B, br22 B, br23 B, hnc, ix, q3, q4, g, zyn1, or_true, true_or, if_true, if_false, Option.bind_some, Option.toList_some, Option.toList_none, List.nil_append, List.cons_append]
      rfl
theorem R_bs {sp : Nat × (Nat → Int32)} {M0 M : zM} {S : yS} {e c m : Nat} {v1 v2 : Value} (h : RR M0 M S) (hI : yIk S) (he : e < 10) (hc : c < 3) : zV (zPr sp) (119, 24, [.ref 119, v1, v2, .int (nI e), .int (nI m), .int (nI (3 * e + c))], [], M) = zV (zPr sp) (119, 24, [.ref 119, v1, v2, .int (nI e), .int (nI (m + yBz S (3 * e + c))), .int (nI (3 * e + (c + 1)))], [], M) := by
  have B := h.1
  obtain ⟨-, -, s3, s4, -⟩ := h.2.1
  have hk : 3 * e + c < 30 := by omega
  have q3 : zin (nI (3 * e + c)) 30 = true := zin_nI hk (by decide)
  have q4 : (nI (3 * e + c)).toNatClampNeg = 3 * e + c := nI_clamp (by omega)
  have g := (h.2.2.2.1 _ hk).1
  have m3 : 3 * nI e = nI (3 * e) := pk_mul 3 e
  have a3 : nI (3 * e) + 3 = nI (3 * e + 3) := nI_add _ 3
  have p1 : (nI (3 * e + c) < nI (3 * e + 3)) = True := eq_true (nI_lt (by omega) (by omega))
  have s0 : (nI (yn S 5 (3 * e + c)) = 0) = (yn S 5 (3 * e + c) = 0) := st_eq (m := 0) hI hk (by decide)
  unfold yBz
  refine Eq.trans ?_ e119_57
  by_cases h0 : yn S 5 (3 * e + c) = 0
  · rw [if_pos h0]
    have s0 := s0.trans (eq_true h0)
    have a0 : nI m + 0 = nI (m + 0) := Int32.add_zero _
    simp only [e119_24, e119_26, e119_27, e119_28, e119_29, e119_30, e119_31, e119_34, e119_36, e119_37, e119_40, e119_42, e119_43, e119_46, e119_47, e119_50, e119_51, e119_52, e119_54, zG1, zG2, zG3, zG4, zG5, zG6, zG7, zG8, zNn, s3, s4, bk119 B, bk120 B, bk121 B, bk122 B, bk123 B, bk124 B, bk125 B, bk126 B, bk127 B, bk128 B, bk129 B, bk130 B, bk131 B, bk132 B, bk133 B, bk134 B, bk135 B, bk136 B, bk137 B, bk138 B, bk139 B, bk140 B, bk141 B, bk142 B, br1 B, br2 B, br3 B, br4 B, br5 B, br6 B, br7 B, br8 B, br9 B, br10 B, br11 B, br12 B, br13 B, br14 B, br15 B, br16 B, br17 B, br18 B, br19 B, br20 B, br21 B, br22 B, br23 B, q3, q4, g, m3, a3, p1, s0, a0, nI_1, Nat.add_assoc, or_true, true_or, if_true, if_false, Option.bind_some, Option.toList_some, Option.toList_none, List.nil_append, List.cons_append]
  · rw [if_neg h0]
    have s0 := s0.trans (eq_false h0)
    simp only [e119_24, e119_26, e119_27, e119_28, e119_29, e119_30, e119_31, e119_34, e119_36, e119_37, e119_40, e119_42, e119_43, e119_46, e119_47, e119_50, e119_51, e119_52, e119_54, zG1, zG2, zG3, zG4, zG5, zG6, zG7, zG8, zNn, s3, s4, bk119 B, bk120 B, bk121 B, bk122 B, bk123 B, bk124 B, bk125 B, bk126 B, bk127 B, bk128 B, bk129 B, bk130 B, bk131 B, bk132 B, bk133 B, bk134 B, bk135 B, bk136 B, bk137 B, bk138 B, bk139 B, bk140 B, bk141 B, bk142 B, br1 B, br2 B, br3 B, br4 B, br5 B, br6 B, br7 B, br8 B, br9 B, br10 B, br11 B, br12 B, br13 B, br14 B, br15 B, br16 B, br17 B, br18 B, br19 B, br20 B, br21 B, br22 B, br23 B, q3, q4, g, m3, a3, p1, s0, nI_1, Nat.add_assoc, or_true, true_or, if_true, if_false, Option.bind_some, Option.toList_some, Option.toList_none, List.nil_append, List.cons_append]
theorem R_busy {sp : Nat × (Nat → Int32)} {M0 M : zM} {S : yS} {l e : Int32} (h : RR M0 M S) (hI : yIk S) : zOr sp M0 M 119 [.ref 119, .int l, .int e, .double 0, .double 0, .double 0] (oE S l e (-1) (fun e => (aBusy S e, S))) := by
  have hnc := @R_noE sp M l e
  unfold oE
  cases hC : yE l e with
  | none =>
    rw [hC, dY] at hnc
    refine ⟨M, ?_, h⟩
    simp only [e119_0, e119_1, e119_2, e119_5, e119_8, e119_9, hnc, z10, or_true, true_or, if_true, if_false, Option.bind_some, Option.toList_some, Option.toList_none, List.nil_append, List.cons_append]
  | some k =>
    rw [hC, dN] at hnc
    have hk := yE_k hC
    have ix := yE_ix hC
    have m3 : 3 * nI k = nI (3 * k) := pk_mul 3 k
    have a3 : nI (3 * k) + 3 = nI (3 * k + 3) := nI_add _ 3
    refine ⟨M, ?_, h⟩
    have s0 := R_bs (sp := sp) (v1 := .int l) (v2 := .int e) (m := 0) (c := 0) h hI hk (by decide)
    have s1 := R_bs (sp := sp) (v1 := .int l) (v2 := .int e) (m := 0 + yBz S (3 * k + 0)) (c := 0 + 1) h hI hk (by decide)
    have s2 := R_bs (sp := sp) (v1 := .int l) (v2 := .int e) (m := 0 + yBz S (3 * k + 0) + yBz S (3 * k + (0 + 1))) (c := 0 + 1 + 1) h hI hk (by decide)
    have s0 := s0.trans (s1.trans s2)
    have s0 : zV (zPr sp) (119, 24, [.ref 119, .int l, .int e, .int (nI k), .int 0, .int (nI (3 * k))], [], M) = zV (zPr sp) (119, 24, [.ref 119, .int l, .int e, .int (nI k), .int (nI (0 + yBz S (3 * k + 0) + yBz S (3 * k + (0 + 1)) + yBz S (3 * k + (0 + 1 + 1)))), .int (nI (3 * k + 3))], [], M) := s0
    have p1 : (nI (3 * k + 3) < nI (3 * k + 3)) = False := eq_false (nI_nlt (Nat.le_refl _) (by omega))
    have st : zV (zPr sp) (119, 0, [.ref 119, .int l, .int e, .double 0, .double 0, .double 0], [], M) = zV (zPr sp) (119, 24, [.ref 119, .int l, .int e, .int (nI k), .int 0, .int (nI (3 * k))], [], M) := by
      simp only [e119_0, e119_1, e119_2, e119_5, e119_8, e119_9, e119_10, e119_11, e119_12, e119_13, e119_14, e119_15, e119_16, e119_17, e119_19, e119_20, e119_21, e119_22, hnc, ix, m3, or_true, true_or, if_true, if_false, Option.bind_some, Option.toList_some, Option.toList_none, List.nil_append, List.cons_append]
    rw [st, s0]
    simp only [e119_24, e119_26, e119_27, e119_28, e119_29, e119_30, e119_31, e119_60, e119_62, m3, a3, p1, if_false]
    unfold aBusy
    simp only [Nat.zero_add, Nat.add_zero]
theorem yF8 {M : zM} {b : Nat} {f : yF} (h : yFw M b f) (hf : f.1 ≤ 3) : ∀ w, w < 8 → ((w < 2 ∨ f.1 = 2 ∨ (w = 3 ∧ f.1 = 3)) → zi M 126 (b + w) = yf8 f w) ∧ (¬ (w < 2 ∨ f.1 = 2 ∨ (w = 3 ∧ f.1 = 3)) → yf8 f w = -1) := by
  obtain ⟨g1, g2, g3, g4⟩ := h
  intro w hw
  have hc : w = 0 ∨ w = 1 ∨ w = 2 ∨ w = 3 ∨ w = 4 ∨ w = 5 ∨ w = 6 ∨ w = 7 := by omega
  rcases hc with rfl | rfl | rfl | rfl | rfl | rfl | rfl | rfl
  · exact ⟨fun _ => g1, fun z => absurd (Or.inl (by decide)) z⟩
  · exact ⟨fun _ => g2, fun z => absurd (Or.inl (by decide)) z⟩
  · have e : yf8 f 2 = if f.1 = 2 then nI f.2.2.1 else -1 := rfl
    rw [e]
    refine ⟨fun z => ?_, fun z => ?_⟩
    · have h2 : f.1 = 2 := by omega
      rw [if_pos h2]; exact (g4 h2).1
    · rw [if_neg (fun y => z (Or.inr (Or.inl y)))]
  · have e : yf8 f 3 = if 2 ≤ f.1 then nI f.2.2.2.1 else -1 := rfl
    rw [e]
    refine ⟨fun z => ?_, fun z => ?_⟩
    · have h2 : 2 ≤ f.1 := by omega
      rw [if_pos h2]; exact g3 h2
    · rw [if_neg (fun y => z (by omega))]
  · have e : yf8 f 4 = if f.1 = 2 then nI f.2.2.2.2.1 else -1 := rfl
    rw [e]
    refine ⟨fun z => ?_, fun z => ?_⟩
    · have h2 : f.1 = 2 := by omega
      rw [if_pos h2]; exact (g4 h2).2.1
    · rw [if_neg (fun y => z (Or.inr (Or.inl y)))]
  · have e : yf8 f 5 = if f.1 = 2 then nI f.2.2.2.2.2.1 else -1 := rfl
    rw [e]
    refine ⟨fun z => ?_, fun z => ?_⟩
    · have h2 : f.1 = 2 := by omega
      rw [if_pos h2]; exact (g4 h2).2.2.1
    · rw [if_neg (fun y => z (Or.inr (Or.inl y)))]
  · have e : yf8 f 6 = if f.1 = 2 then nI f.2.2.2.2.2.2.1 else -1 := rfl
    rw [e]
    refine ⟨fun z => ?_, fun z => ?_⟩
    · have h2 : f.1 = 2 := by omega
      rw [if_pos h2]; exact (g4 h2).2.2.2.1
    · rw [if_neg (fun y => z (Or.inr (Or.inl y)))]
  · have e : yf8 f 7 = if f.1 = 2 then nI f.2.2.2.2.2.2.2 else -1 := rfl
    rw [e]
    refine ⟨fun z => ?_, fun z => ?_⟩
    · have h2 : f.1 = 2 := by omega
      rw [if_pos h2]; exact (g4 h2).2.2.2.2
    · rw [if_neg (fun y => z (Or.inr (Or.inl y)))]
theorem R_frm {sp : Nat × (Nat → Int32)} {M0 M : zM} {S : yS} {n t : Nat} {l e k w : Int32} (h : RR M0 M S) (hK : yK n t S) : zOr sp M0 M 115 [.ref 119, .int l, .int e, .int k, .int w, .double 0, .double 0, .double 0] (oE S l e (-1) (fun e => (aFrm S e k w, S))) := by
  have B := h.1
  obtain ⟨-, -, s3, s4, -⟩ := h.2.1
  have hnc := @R_noE sp M l e
  unfold oE
  cases hC : yE l e with
  | none =>
    rw [hC, dY] at hnc
    refine ⟨M, ?_, h⟩
    simp only [e115_0, e115_1, e115_2, e115_5, e115_8, e115_10, e115_12, e115_15, e115_18, e115_19, e115_20, e115_23, e115_24, e115_25, e115_26, e115_27, e115_28, e115_29, e115_32, e115_35, e115_36, hnc, z10, or_true, true_or, if_true, if_false, Option.bind_some, Option.toList_some, Option.toList_none, List.nil_append, List.cons_append]
  | some e' =>
    rw [hC, dN] at hnc
    have he := yE_k hC
    have ix := yE_ix hC
    have q3 : zin (nI e') 10 = true := zin_nI he (by decide)
    have q4 : (nI e').toNatClampNeg = e' := nI_clamp (by omega)
    have g := h.2.2.2.2.2.1 e' he
    have hl := (hK.1 e' he).2.2.2.2.2.2.2.2.1
    have bw := @R_bel sp M w 8
    have bk := @R_bel sp M k (nI (yw S e').length)
    refine ⟨M, ?_, h⟩
    dsimp only
    unfold aFrm
    by_cases hw : ¬ w < 0 ∧ w < 8
    · rw [decide_eq_true hw] at bw
      obtain ⟨w', hw', rfl⟩ := nI_rg (n := 8) (by decide) hw.1 hw.2
      by_cases hk : ¬ k < 0 ∧ k < nI (yw S e').length
      · rw [decide_eq_true hk] at bk
        obtain ⟨k', hk', rfl⟩ := nI_rg (n := (yw S e').length) (by omega) hk.1 hk.2
        rw [if_neg (fun z => z.elim hw.1 (fun z => z.elim (fun z => z hw.2) hk.1)), nI_clamp (by omega), gE hk', nI_clamp (by omega)]
        dsimp only
        have hfw := g.2 k' _ (gE hk')
        have hfr := (hK.1 e' he).2.2.2.2.2.2.2.2.2 _ (List.getElem_mem hk')
        obtain ⟨f8, f9⟩ := yF8 hfw hfr.1 w' hw'
        have hkd : zi M 126 (64 * e' + 8 * k') = nI (yw S e')[k'].1 := hfw.1
        generalize (yw S e')[k'] = f at f8 f9 hkd hfr
        have i1 : 64 * nI e' + 8 * nI k' = nI (64 * e' + 8 * k') := by
          have a1 : (64 : Int32) = nI 64 := rfl
          rw [a1, nI_8, pk_mul, pk_mul, nI_add]
        have i2 : nI (64 * e' + 8 * k') + nI w' = nI (64 * e' + 8 * k' + w') := nI_add _ _
        have b1 : zin (nI (64 * e' + 8 * k')) 640 = true := zin_nI (by omega) (by decide)
        have b2 : zin (nI (64 * e' + 8 * k' + w')) 640 = true := zin_nI (by omega) (by decide)
        have c1 : (nI (64 * e' + 8 * k')).toNatClampNeg = 64 * e' + 8 * k' := nI_clamp (by omega)
        have c2 : (nI (64 * e' + 8 * k' + w')).toNatClampNeg = 64 * e' + 8 * k' + w' := nI_clamp (by omega)
        have w2 : (nI w' < 2) = (w' < 2) := propext (nI_ltI (b := 2) (by omega) (by decide))
        have w3 : (nI w' = 3) = (w' = 3) := propext (nI_eq (b := 3) (by omega) (by decide))
        have k2 : (nI f.1 = 2) = (f.1 = 2) := propext (nI_eq (b := 2) (by have := hfr.1; omega) (by decide))
        have k3 : (nI f.1 = 3) = (f.1 = 3) := propext (nI_eq (b := 3) (by have := hfr.1; omega) (by decide))
        by_cases hh : w' < 2 ∨ f.1 = 2 ∨ (w' = 3 ∧ f.1 = 3)
        · have f8 := f8 hh
          by_cases h2 : w' < 2
          · have w2 := w2.trans (eq_true h2)
            simp only [e115_0, e115_1, e115_2, e115_5, e115_8, e115_10, e115_12, e115_15, e115_18, e115_19, e115_20, e115_23, e115_24, e115_25, e115_26, e115_27, e115_28, e115_29, e115_32, e115_35, e115_36, e115_37, e115_39, e115_40, e115_41, e115_42, e115_43, e115_44, e115_45, e115_47, e115_48, e115_49, e115_50, e115_52, e115_53, e115_56, e115_58, e115_59, e115_61, e115_63, e115_64, e115_67, e115_69, e115_70, e115_73, e115_75, e115_76, e115_79, e115_81, e115_82, e115_85, e115_86, e115_89, e115_90, e115_92, e115_94, e115_97, e115_98, e115_101, e115_103, e115_105, e115_106, e115_107, e115_110, e115_111, zG1, zG2, zG3, zG4, zG5, zG6, zG7, zG8, zNn, s3, s4, bk119 B, bk120 B, bk121 B, bk122 B, bk123 B, bk124 B, bk125 B, bk126 B, bk127 B, bk128 B, bk129 B, bk130 B, bk131 B, bk132 B, bk133 B, bk134 B, bk135 B, bk136 B, bk137 B, bk138 B, bk139 B, bk140 B, bk141 B, bk142 B, br1 B, br2 B, br3 B, br4 B, br5 B, br6 B, br7 B, br8 B, br9 B, br10 B, br11 B, br12 B, br13 B, br14 B, br15 B, br16 B, br17 B, br18 B, br19 B, br20 B, br21 B, br22 B, br23 B, hnc, ix, q3, q4, g.1, bw, bk, zyb1, i1, i2, b1, b2, c1, c2, w2, f8, z10, or_true, true_or, if_true, if_false, Option.bind_some, Option.toList_some, Option.toList_none, List.nil_append, List.cons_append]
          · have w2 := w2.trans (eq_false h2)
            by_cases hk2 : f.1 = 2
            · have k2 := k2.trans (eq_true hk2)
              simp only [e115_0, e115_1, e115_2, e115_5, e115_8, e115_10, e115_12, e115_15, e115_18, e115_19, e115_20, e115_23, e115_24, e115_25, e115_26, e115_27, e115_28, e115_29, e115_32, e115_35, e115_36, e115_37, e115_39, e115_40, e115_41, e115_42, e115_43, e115_44, e115_45, e115_47, e115_48, e115_49, e115_50, e115_52, e115_53, e115_56, e115_58, e115_59, e115_61, e115_63, e115_64, e115_67, e115_69, e115_70, e115_73, e115_75, e115_76, e115_79, e115_81, e115_82, e115_85, e115_86, e115_89, e115_90, e115_92, e115_94, e115_97, e115_98, e115_101, e115_103, e115_105, e115_106, e115_107, e115_110, e115_111, zG1, zG2, zG3, zG4, zG5, zG6, zG7, zG8, zNn, s3, s4, bk119 B, bk120 B, bk121 B, bk122 B, bk123 B, bk124 B, bk125 B, bk126 B, bk127 B, bk128 B, bk129 B, bk130 B, bk131 B, bk132 B, bk133 B, bk134 B, bk135 B, bk136 B, bk137 B, bk138 B, bk139 B, bk140 B, bk141 B, bk142 B, br1 B, br2 B, br3 B, br4 B, br5 B, br6 B, br7 B, br8 B, br9 B, br10 B, br11 B, br12 B, br13 B, br14 B, br15 B, br16 B, br17 B, br18 B, br19 B, br20 B, br21 B, br22 B, br23 B, hnc, ix, q3, q4, g.1, bw, bk, zyb1, i1, i2, b1, b2, c1, c2, w2, hkd, k2, f8, z10, or_true, true_or, if_true, if_false, Option.bind_some, Option.toList_some, Option.toList_none, List.nil_append, List.cons_append]
            · have k2 := k2.trans (eq_false hk2)
              have h3 : w' = 3 ∧ f.1 = 3 := by omega
              have w3 := w3.trans (eq_true h3.1)
              have k3 := k3.trans (eq_true h3.2)
              simp only [e115_0, e115_1, e115_2, e115_5, e115_8, e115_10, e115_12, e115_15, e115_18, e115_19, e115_20, e115_23, e115_24, e115_25, e115_26, e115_27, e115_28, e115_29, e115_32, e115_35, e115_36, e115_37, e115_39, e115_40, e115_41, e115_42, e115_43, e115_44, e115_45, e115_47, e115_48, e115_49, e115_50, e115_52, e115_53, e115_56, e115_58, e115_59, e115_61, e115_63, e115_64, e115_67, e115_69, e115_70, e115_73, e115_75, e115_76, e115_79, e115_81, e115_82, e115_85, e115_86, e115_89, e115_90, e115_92, e115_94, e115_97, e115_98, e115_101, e115_103, e115_105, e115_106, e115_107, e115_110, e115_111, zG1, zG2, zG3, zG4, zG5, zG6, zG7, zG8, zNn, s3, s4, bk119 B, bk120 B, bk121 B, bk122 B, bk123 B, bk124 B, bk125 B, bk126 B, bk127 B, bk128 B, bk129 B, bk130 B, bk131 B, bk132 B, bk133 B, bk134 B, bk135 B, bk136 B, bk137 B, bk138 B, bk139 B, bk140 B, bk141 B, bk142 B, br1 B, br2 B, br3 B, br4 B, br5 B, br6 B, br7 B, br8 B, br9 B, br10 B, br11 B, br12 B, br13 B, br14 B, br15 B, br16 B, br17 B, br18 B, br19 B, br20 B, br21 B, br22 B, br23 B, hnc, ix, q3, q4, g.1, bw, bk, zyb1, i1, i2, b1, b2, c1, c2, w2, hkd, k2, w3, k3, f8, z10, or_true, true_or, if_true, if_false, Option.bind_some, Option.toList_some, Option.toList_none, List.nil_append, List.cons_append]
        · have f9 := f9 hh
          have w2 := w2.trans (eq_false (fun z => hh (Or.inl z)))
          have k2 := k2.trans (eq_false (fun z => hh (Or.inr (Or.inl z))))
          rw [f9]
          by_cases h3 : w' = 3
          · have w3 := w3.trans (eq_true h3)
            have k3 := k3.trans (eq_false (fun z => hh (Or.inr (Or.inr ⟨h3, z⟩))))
            simp only [e115_0, e115_1, e115_2, e115_5, e115_8, e115_10, e115_12, e115_15, e115_18, e115_19, e115_20, e115_23, e115_24, e115_25, e115_26, e115_27, e115_28, e115_29, e115_32, e115_35, e115_36, e115_37, e115_39, e115_40, e115_41, e115_42, e115_43, e115_44, e115_45, e115_47, e115_48, e115_49, e115_50, e115_52, e115_53, e115_56, e115_58, e115_59, e115_61, e115_63, e115_64, e115_67, e115_69, e115_70, e115_73, e115_75, e115_76, e115_79, e115_81, e115_82, e115_85, e115_86, e115_89, e115_90, e115_92, e115_94, e115_97, e115_98, e115_101, e115_103, e115_105, e115_106, e115_107, e115_110, e115_111, zG1, zG2, zG3, zG4, zG5, zG6, zG7, zG8, zNn, s3, s4, bk119 B, bk120 B, bk121 B, bk122 B, bk123 B, bk124 B, bk125 B, bk126 B, bk127 B, bk128 B, bk129 B, bk130 B, bk131 B, bk132 B, bk133 B, bk134 B, bk135 B, bk136 B, bk137 B, bk138 B, bk139 B, bk140 B, bk141 B, bk142 B, br1 B, br2 B, br3 B, br4 B, br5 B, br6 B, br7 B, br8 B, br9 B, br10 B, br11 B, br12 B, br13 B, br14 B, br15 B, br16 B, br17 B, br18 B, br19 B, br20 B, br21 B, br22 B, br23 B, hnc, ix, q3, q4, g.1, bw, bk, zyb1, i1, b1, c1, w2, hkd, k2, w3, k3, or_true, true_or, if_true, if_false, Option.bind_some, Option.toList_some, Option.toList_none, List.nil_append, List.cons_append]
          · have w3 := w3.trans (eq_false h3)
            simp only [e115_0, e115_1, e115_2, e115_5, e115_8, e115_10, e115_12, e115_15, e115_18, e115_19, e115_20, e115_23, e115_24, e115_25, e115_26, e115_27, e115_28, e115_29, e115_32, e115_35, e115_36, e115_37, e115_39, e115_40, e115_41, e115_42, e115_43, e115_44, e115_45, e115_47, e115_48, e115_49, e115_50, e115_52, e115_53, e115_56, e115_58, e115_59, e115_61, e115_63, e115_64, e115_67, e115_69, e115_70, e115_73, e115_75, e115_76, e115_79, e115_81, e115_82, e115_85, e115_86, e115_89, e115_90, e115_92, e115_94, e115_97, e115_98, e115_101, e115_103, e115_105, e115_106, e115_107, e115_110, e115_111, zG1, zG2, zG3, zG4, zG5, zG6, zG7, zG8, zNn, s3, s4, bk119 B, bk120 B, bk121 B, bk122 B, bk123 B, bk124 B, bk125 B, bk126 B, bk127 B, bk128 B, bk129 B, bk130 B, bk131 B, bk132 B, bk133 B, bk134 B, bk135 B, bk136 B, bk137 B, bk138 B, bk139 B, bk140 B, bk141 B, bk142 B, br1 B, br2 B, br3 B, br4 B, br5 B, br6 B, br7 B, br8 B, br9 B, br10 B, br11 B, br12 B, br13 B, br14 B, br15 B, br16 B, br17 B, br18 B, br19 B, br20 B, br21 B, br22 B, br23 B, hnc, ix, q3, q4, g.1, bw, bk, zyb1, i1, b1, c1, w2, hkd, k2, w3, or_true, true_or, if_true, if_false, Option.bind_some, Option.toList_some, Option.toList_none, List.nil_append, List.cons_append]
      · rw [decide_eq_false hk] at bk
        have e1 : aFrm S e' k (nI w') = -1 := by
          unfold aFrm
          by_cases hk0 : k < 0
          · rw [if_pos (Or.inr (Or.inr hk0))]
          · obtain ⟨j, hj, rfl⟩ := nI_of hk0
            have hjl : (yw S e').length ≤ j := Nat.le_of_not_lt fun z => hk ⟨hk0, nI_lt z (by omega)⟩
            rw [nI_clamp hj, List.getElem?_eq_none hjl]
            exact ite_self _
        show _ = some (some (Value.int (aFrm S e' k (nI w'))), M)
        rw [e1]
        simp only [e115_0, e115_1, e115_2, e115_5, e115_8, e115_10, e115_12, e115_15, e115_18, e115_19, e115_20, e115_23, e115_24, e115_25, e115_26, e115_27, e115_28, e115_29, e115_32, e115_35, e115_36, zG1, zG2, zG3, zG4, zG5, zG6, zG7, zG8, zNn, s3, s4, bk119 B, bk120 B, bk121 B, bk122 B, bk123 B, bk124 B, bk125 B, bk126 B, bk127 B, bk128 B, bk129 B, bk130 B, bk131 B, bk132 B, bk133 B, bk134 B, bk135 B, bk136 B, bk137 B, bk138 B, bk139 B, bk140 B, bk141 B, bk142 B, br1 B, br2 B, br3 B, br4 B, br5 B, br6 B, br7 B, br8 B, br9 B, br10 B, br11 B, br12 B, br13 B, br14 B, br15 B, br16 B, br17 B, br18 B, br19 B, br20 B, br21 B, br22 B, br23 B, hnc, ix, q3, q4, g.1, bw, bk, zyb0, zyb1, or_true, true_or, if_true, if_false, Option.bind_some, Option.toList_some, Option.toList_none, List.nil_append, List.cons_append]
    · rw [decide_eq_false hw] at bw
      have e1 : w < 0 ∨ ¬ w < 8 ∨ k < 0 := by
        by_cases h0 : w < 0
        · exact Or.inl h0
        · exact Or.inr (Or.inl (fun z => hw ⟨h0, z⟩))
      rw [if_pos e1]
      simp only [e115_0, e115_1, e115_2, e115_5, e115_8, e115_10, e115_12, e115_15, e115_18, e115_19, e115_20, e115_23, e115_24, e115_25, e115_26, e115_27, e115_28, e115_29, e115_32, e115_35, e115_36, hnc, bw, zyb0, or_true, true_or, if_true, if_false, Option.bind_some, Option.toList_some, Option.toList_none, List.nil_append, List.cons_append]
/-- from the frame's words on -/
theorem Q_tail {sp : Nat × (Nat → Int32)} {M0 M : zM} {S : yS} {e n t : Nat} {f : yF} {v1 v2 v4 : Value} {x2 x3 y0 y1 y2 y3 : Int32} (h : RR M0 M S) (hK : yK n t S) (hn : n < 1597) (ht : t < 512) (he : e < 10) (hf : yFr f) (hx3 : 2 ≤ f.1 → x3 = nI f.2.2.2.1) (hx2 : f.1 = 2 → x2 = nI f.2.2.1 ∧ y0 = nI f.2.2.2.2.1 ∧ y1 = nI f.2.2.2.2.2.1 ∧ y2 = nI f.2.2.2.2.2.2.1 ∧ y3 = nI f.2.2.2.2.2.2.2) : ∃ M', zV (zPr sp) (89, 128, [.ref 119, v1, v2, .int (nI e), v4, .int (nI f.1), .int f.2.1, .int x2, .int x3, .int y0, .int y1, .int y2, .int y3, .double 0], [], M) = some (some (.int 1), M') ∧ RR M0 M' (yMeet S e f) := by
  have B := h.1
  obtain ⟨-, -, s3, s4, -⟩ := h.2.1
  have q3 : zin (nI e) 10 = true := zin_nI he (by decide)
  have q4 : (nI e).toNatClampNeg = e := nI_clamp (by omega)
  have hE := h.2.2.1 e he
  have hf3 := hf.1
  rw [yMeet_def]
  by_cases f0 : f.1 = 0
  · rw [if_pos f0]
    have p0 : (nI f.1 = 0) = True := by rw [f0]; decide
    obtain ⟨M1, r1, r2⟩ := R_set (sp := sp) (x := f.2.1) h hK (by omega) he
    refine ⟨M1, ?_, r2⟩
    simp only [e89_128, e89_130, e89_133, e89_134, e89_135, e89_137, e89_140, e89_305, e89_306, zG1, zG2, zG3, zG4, zG5, zG6, zG7, zG8, zNn, s3, s4, bk119 B, bk120 B, bk121 B, bk122 B, bk123 B, bk124 B, bk125 B, bk126 B, bk127 B, bk128 B, bk129 B, bk130 B, bk131 B, bk132 B, bk133 B, bk134 B, bk135 B, bk136 B, bk137 B, bk138 B, bk139 B, bk140 B, bk141 B, bk142 B, br1 B, br2 B, br3 B, br4 B, br5 B, br6 B, br7 B, br8 B, br9 B, br10 B, br11 B, br12 B, br13 B, br14 B, br15 B, br16 B, br17 B, br18 B, br19 B, br20 B, br21 B, br22 B, br23 B, p0, r1, or_true, true_or, if_true, if_false, Option.bind_some, Option.toList_some, Option.toList_none, List.nil_append, List.cons_append]
  rw [if_neg f0]
  have p0 : (nI f.1 = 0) = False := eq_false (fun z => f0 ((nI_eq (by omega) (by decide)).mp z))
  by_cases f1 : f.1 = 1
  · rw [if_pos f1]
    have p1 : (nI f.1 = 1) = True := by rw [f1]; decide
    unfold yMstd
    cases hu : yu S e
    · rw [hu] at hE
      by_cases hx : f.2.1 = ye S e
      · rw [if_pos ⟨hx, rfl⟩]
        have p2 := eq_true hx
        have a1 : RR M0 (zwi M 128 e 0) (yuS S e true) := RR_up (b := true) h
        have a2 : RR M0 (zwi (zwi M 128 e 0) 132 e 0) _ := RR_en (f := 3) (n := 0) a1 (by decide)
        have a3 : RR M0 (zwi (zwi (zwi M 128 e 0) 132 e 0) 133 e 0) (ynS (ynS (yuS S e true) 3 e 0) 4 e 0) := RR_en (f := 4) (n := 0) a2 (by decide)
        obtain ⟨M1, r1, r2⟩ := R_on (sp := sp) a3 (yK_std hK) (by omega) he
        refine ⟨M1, ?_, r2⟩
        simp only [e89_128, e89_130, e89_143, e89_145, e89_146, e89_149, e89_150, e89_153, e89_154, e89_155, e89_158, e89_160, e89_161, e89_164, e89_165, e89_166, e89_169, e89_170, e89_173, e89_174, e89_175, e89_176, e89_177, e89_180, e89_181, e89_182, e89_183, e89_184, e89_187, e89_188, e89_189, e89_190, e89_191, e89_192, e89_195, e89_305, e89_306, zG1, zG2, zG3, zG4, zG5, zG6, zG7, zG8, zNn, s3, s4, zk_wi, zr_wi, bk119 B, bk120 B, bk121 B, bk122 B, bk123 B, bk124 B, bk125 B, bk126 B, bk127 B, bk128 B, bk129 B, bk130 B, bk131 B, bk132 B, bk133 B, bk134 B, bk135 B, bk136 B, bk137 B, bk138 B, bk139 B, bk140 B, bk141 B, bk142 B, br1 B, br2 B, br3 B, br4 B, br5 B, br6 B, br7 B, br8 B, br9 B, br10 B, br11 B, br12 B, br13 B, br14 B, br15 B, br16 B, br17 B, br18 B, br19 B, br20 B, br21 B, br22 B, br23 B, q3, q4, p0, p1, hE.1, hE.2.1, zyn0, p2, nar0, r1, or_true, true_or, if_true, if_false, Option.bind_some, Option.toList_some, Option.toList_none, List.nil_append, List.cons_append]
      · rw [if_neg (fun z => hx z.1)]
        have p2 := eq_false hx
        refine ⟨M, ?_, h⟩
        simp only [e89_128, e89_130, e89_143, e89_145, e89_146, e89_149, e89_150, e89_153, e89_154, e89_155, e89_158, e89_160, e89_161, e89_164, e89_165, e89_166, e89_169, e89_170, e89_173, e89_174, e89_175, e89_176, e89_177, e89_180, e89_181, e89_182, e89_183, e89_184, e89_187, e89_188, e89_189, e89_190, e89_191, e89_192, e89_195, e89_305, e89_306, zG1, zG2, zG3, zG4, zG5, zG6, zG7, zG8, zNn, s3, s4, bk119 B, bk120 B, bk121 B, bk122 B, bk123 B, bk124 B, bk125 B, bk126 B, bk127 B, bk128 B, bk129 B, bk130 B, bk131 B, bk132 B, bk133 B, bk134 B, bk135 B, bk136 B, bk137 B, bk138 B, bk139 B, bk140 B, bk141 B, bk142 B, br1 B, br2 B, br3 B, br4 B, br5 B, br6 B, br7 B, br8 B, br9 B, br10 B, br11 B, br12 B, br13 B, br14 B, br15 B, br16 B, br17 B, br18 B, br19 B, br20 B, br21 B, br22 B, br23 B, q3, q4, p0, p1, hE.1, hE.2.1, zyn0, p2, or_true, true_or, if_true, if_false, Option.bind_some, Option.toList_some, Option.toList_none, List.nil_append, List.cons_append]
    · rw [hu] at hE
      rw [if_neg (fun z => by cases z.2)]
      refine ⟨M, ?_, h⟩
      simp only [e89_128, e89_130, e89_143, e89_145, e89_146, e89_149, e89_150, e89_153, e89_154, e89_155, e89_158, e89_160, e89_161, e89_164, e89_165, e89_166, e89_169, e89_170, e89_173, e89_174, e89_175, e89_176, e89_177, e89_180, e89_181, e89_182, e89_183, e89_184, e89_187, e89_188, e89_189, e89_190, e89_191, e89_192, e89_195, e89_305, e89_306, zG1, zG2, zG3, zG4, zG5, zG6, zG7, zG8, zNn, s3, s4, bk119 B, bk120 B, bk121 B, bk122 B, bk123 B, bk124 B, bk125 B, bk126 B, bk127 B, bk128 B, bk129 B, bk130 B, bk131 B, bk132 B, bk133 B, bk134 B, bk135 B, bk136 B, bk137 B, bk138 B, bk139 B, bk140 B, bk141 B, bk142 B, br1 B, br2 B, br3 B, br4 B, br5 B, br6 B, br7 B, br8 B, br9 B, br10 B, br11 B, br12 B, br13 B, br14 B, br15 B, br16 B, br17 B, br18 B, br19 B, br20 B, br21 B, br22 B, br23 B, q3, q4, p0, p1, hE.2.1, zyn1, or_true, true_or, if_true, if_false, Option.bind_some, Option.toList_some, Option.toList_none, List.nil_append, List.cons_append]
  rw [if_neg f1]
  have p1 : (nI f.1 = 1) = False := eq_false (fun z => f1 ((nI_eq (by omega) (by decide)).mp z))
  cases hu : yu S e
  · rw [if_neg (fun z => by cases z.1)]
    rw [hu] at hE
    refine ⟨M, ?_, h⟩
    simp only [e89_128, e89_130, e89_143, e89_145, e89_146, e89_198, e89_199, e89_202, e89_203, e89_204, e89_207, e89_209, e89_210, e89_213, e89_214, e89_215, e89_305, e89_306, zG1, zG2, zG3, zG4, zG5, zG6, zG7, zG8, zNn, s3, s4, bk119 B, bk120 B, bk121 B, bk122 B, bk123 B, bk124 B, bk125 B, bk126 B, bk127 B, bk128 B, bk129 B, bk130 B, bk131 B, bk132 B, bk133 B, bk134 B, bk135 B, bk136 B, bk137 B, bk138 B, bk139 B, bk140 B, bk141 B, bk142 B, br1 B, br2 B, br3 B, br4 B, br5 B, br6 B, br7 B, br8 B, br9 B, br10 B, br11 B, br12 B, br13 B, br14 B, br15 B, br16 B, br17 B, br18 B, br19 B, br20 B, br21 B, br22 B, br23 B, q3, q4, p0, p1, hE.2.1, zyn0, or_true, true_or, if_true, if_false, Option.bind_some, Option.toList_some, Option.toList_none, List.nil_append, List.cons_append]
  · rw [hu] at hE
    by_cases hx : ye S e = f.2.1
    · rw [if_pos ⟨rfl, hx⟩]
      have p2 : (f.2.1 = ye S e) = True := eq_true hx.symm
      have hx3 := hx3 (by omega)
      obtain ⟨M1, r1, r2⟩ := R_conf (sp := sp) h hK (by omega) he hf.2.2.1
      have hK1 := yK_conf (u := f.2.2.2.1) hK he
      dsimp only
      generalize yConf S e f.2.2.2.1 = S1 at r2 hK1
      obtain ⟨-, -, t3, t4, -⟩ := r2.2.1
      have d2 : zi M1 131 e = nI (yn S1 2 e) := (r2.2.2.1 e he).2.2 2 (by decide)
      have gd := (hK1.1 e he).2.2.2.1
      by_cases f2 : f.1 = 2
      · rw [if_pos f2]
        have p3 : (nI f.1 = 2) = True := by rw [f2]; decide
        obtain ⟨hx2, hy0, hy1, hy2, hy3⟩ := hx2 f2
        have hp := hf.2.2.2 f2
        have hd : (yn S1 2 e + 1) % 8 < 8 := Nat.mod_lt _ (by decide)
        by_cases hq : f.2.2.1 = yn S1 2 e
        · rw [if_pos hq]
          have p4 : (nI f.2.2.1 = nI (yn S1 2 e)) = True := eq_true (by rw [hq])
          have e1 : nI (yn S1 2 e) + 1 = nI (yn S1 2 e + 1) := nI_1 _
          have hm1 := nrem8 (a := yn S1 2 e + 1) (by omega)
          have a1 : RR M0 (zwi M1 131 e (nI ((yn S1 2 e + 1) % 8))) (ynS S1 2 e ((yn S1 2 e + 1) % 8)) := RR_en (f := 2) r2 (by decide)
          have hK2 := yK_num (f := 2) (e := e) (m := (yn S1 2 e + 1) % 8) hK1 (Or.inr (Or.inl ⟨rfl, hd⟩))
          obtain ⟨M2, y, u1, u2⟩ := R_pst (sp := sp) (k := 3) (d := yn (ynS S1 2 e ((yn S1 2 e + 1) % 8)) 2 e) a1 hK2 he (by decide) rfl (fun _ => rfl)
          have u1 : zV (zPr sp) (76, 0, [.ref 119, .int (nI e), .int 3, .double 0, .double 0], [], zwi M1 131 e (nI ((yn S1 2 e + 1) % 8))) = some (some (.int y), M2) := u1
          have hK3 : yK n t (yPost (ynS S1 2 e ((yn S1 2 e + 1) % 8)) e (3, ye (ynS S1 2 e ((yn S1 2 e + 1) % 8)) e, 0, yn (ynS S1 2 e ((yn S1 2 e + 1) % 8)) 2 e, 0, 0, 0, 0)) := yK_post hK2 (yFr_3 (x := 0) (by decide) (by decide) (by rw [yn_nn]; exact hd))
          obtain ⟨-, -, v3, v4', -⟩ := u2.2.1
          obtain ⟨M3, w1, w2⟩ := R_arr (sp := sp) u2 hK3 hn ht he hp
          refine ⟨M3, ?_, w2⟩
          simp only [e89_128, e89_130, e89_143, e89_145, e89_146, e89_198, e89_199, e89_202, e89_203, e89_204, e89_207, e89_209, e89_210, e89_213, e89_214, e89_215, e89_218, e89_219, e89_220, e89_222, e89_225, e89_227, e89_228, e89_231, e89_233, e89_234, e89_237, e89_238, e89_239, e89_242, e89_243, e89_246, e89_247, e89_249, e89_250, e89_253, e89_254, e89_256, e89_259, e89_260, e89_263, e89_264, e89_265, e89_266, e89_267, e89_269, e89_270, e89_273, e89_274, e89_277, e89_278, e89_279, e89_280, e89_281, e89_282, e89_283, e89_286, e89_287, e89_289, e89_292, e89_293, e89_294, e89_296, e89_298, e89_300, e89_302, e89_305, e89_306, zG1, zG2, zG3, zG4, zG5, zG6, zG7, zG8, zNn, s3, s4, t3, t4, v3, v4', zk_wi, zr_wi, bk119 B, bk120 B, bk121 B, bk122 B, bk123 B, bk124 B, bk125 B, bk126 B, bk127 B, bk128 B, bk129 B, bk130 B, bk131 B, bk132 B, bk133 B, bk134 B, bk135 B, bk136 B, bk137 B, bk138 B, bk139 B, bk140 B, bk141 B, bk142 B, br1 B, br2 B, br3 B, br4 B, br5 B, br6 B, br7 B, br8 B, br9 B, br10 B, br11 B, br12 B, br13 B, br14 B, br15 B, br16 B, br17 B, br18 B, br19 B, br20 B, br21 B, br22 B, br23 B, q3, q4, p0, p1, p2, p3, p4, hE.1, hE.2.1, zyn1, hx3, r1, hx2, d2, z10, e1, z80', hm1, u1, hy0, hy1, hy2, hy3, w1, or_true, true_or, if_true, if_false, Option.bind_some, Option.toList_some, Option.toList_none, List.nil_append, List.cons_append]
        · rw [if_neg hq]
          have p4 : (nI f.2.2.1 = nI (yn S1 2 e)) = False := eq_false (fun z => hq ((nI_eq (by have := hf.2.1; omega) (by omega)).mp z))
          have a1 : RR M0 (zwi M1 131 e (nI (yn S1 2 e))) S1 := RR_id r2 (by decide) (by decide) d2
          obtain ⟨M2, y, u1, u2⟩ := R_pst (sp := sp) (k := 3) (d := yn S1 2 e) a1 hK1 he (by decide) rfl (fun _ => rfl)
          have u1 : zV (zPr sp) (76, 0, [.ref 119, .int (nI e), .int 3, .double 0, .double 0], [], zwi M1 131 e (nI (yn S1 2 e))) = some (some (.int y), M2) := u1
          refine ⟨M2, ?_, u2⟩
          simp only [e89_128, e89_130, e89_143, e89_145, e89_146, e89_198, e89_199, e89_202, e89_203, e89_204, e89_207, e89_209, e89_210, e89_213, e89_214, e89_215, e89_218, e89_219, e89_220, e89_222, e89_225, e89_227, e89_228, e89_231, e89_233, e89_234, e89_237, e89_238, e89_239, e89_242, e89_243, e89_246, e89_247, e89_249, e89_250, e89_253, e89_254, e89_256, e89_259, e89_260, e89_263, e89_264, e89_265, e89_266, e89_267, e89_269, e89_270, e89_273, e89_274, e89_277, e89_278, e89_279, e89_280, e89_281, e89_282, e89_283, e89_286, e89_287, e89_289, e89_292, e89_293, e89_294, e89_296, e89_298, e89_300, e89_302, e89_305, e89_306, zG1, zG2, zG3, zG4, zG5, zG6, zG7, zG8, zNn, s3, s4, t3, t4, zk_wi, zr_wi, bk119 B, bk120 B, bk121 B, bk122 B, bk123 B, bk124 B, bk125 B, bk126 B, bk127 B, bk128 B, bk129 B, bk130 B, bk131 B, bk132 B, bk133 B, bk134 B, bk135 B, bk136 B, bk137 B, bk138 B, bk139 B, bk140 B, bk141 B, bk142 B, br1 B, br2 B, br3 B, br4 B, br5 B, br6 B, br7 B, br8 B, br9 B, br10 B, br11 B, br12 B, br13 B, br14 B, br15 B, br16 B, br17 B, br18 B, br19 B, br20 B, br21 B, br22 B, br23 B, q3, q4, p0, p1, p2, p3, p4, hE.1, hE.2.1, zyn1, hx3, r1, hx2, d2, u1, or_true, true_or, if_true, if_false, Option.bind_some, Option.toList_some, Option.toList_none, List.nil_append, List.cons_append]
      · rw [if_neg f2]
        have p3 : (nI f.1 = 2) = False := eq_false (fun z => f2 ((nI_eq (by omega) (by decide)).mp z))
        refine ⟨M1, ?_, r2⟩
        simp only [e89_128, e89_130, e89_143, e89_145, e89_146, e89_198, e89_199, e89_202, e89_203, e89_204, e89_207, e89_209, e89_210, e89_213, e89_214, e89_215, e89_218, e89_219, e89_220, e89_222, e89_225, e89_227, e89_228, e89_305, e89_306, zG1, zG2, zG3, zG4, zG5, zG6, zG7, zG8, zNn, s3, s4, bk119 B, bk120 B, bk121 B, bk122 B, bk123 B, bk124 B, bk125 B, bk126 B, bk127 B, bk128 B, bk129 B, bk130 B, bk131 B, bk132 B, bk133 B, bk134 B, bk135 B, bk136 B, bk137 B, bk138 B, bk139 B, bk140 B, bk141 B, bk142 B, br1 B, br2 B, br3 B, br4 B, br5 B, br6 B, br7 B, br8 B, br9 B, br10 B, br11 B, br12 B, br13 B, br14 B, br15 B, br16 B, br17 B, br18 B, br19 B, br20 B, br21 B, br22 B, br23 B, q3, q4, p0, p1, p2, p3, hE.1, hE.2.1, zyn1, hx3, r1, or_true, true_or, if_true, if_false, Option.bind_some, Option.toList_some, Option.toList_none, List.nil_append, List.cons_append]
    · rw [if_neg (fun z => hx z.2)]
      have p2 : (f.2.1 = ye S e) = False := eq_false (fun z => hx z.symm)
      refine ⟨M, ?_, h⟩
      simp only [e89_128, e89_130, e89_143, e89_145, e89_146, e89_198, e89_199, e89_202, e89_203, e89_204, e89_207, e89_209, e89_210, e89_213, e89_214, e89_215, e89_305, e89_306, zG1, zG2, zG3, zG4, zG5, zG6, zG7, zG8, zNn, s3, s4, bk119 B, bk120 B, bk121 B, bk122 B, bk123 B, bk124 B, bk125 B, bk126 B, bk127 B, bk128 B, bk129 B, bk130 B, bk131 B, bk132 B, bk133 B, bk134 B, bk135 B, bk136 B, bk137 B, bk138 B, bk139 B, bk140 B, bk141 B, bk142 B, br1 B, br2 B, br3 B, br4 B, br5 B, br6 B, br7 B, br8 B, br9 B, br10 B, br11 B, br12 B, br13 B, br14 B, br15 B, br16 B, br17 B, br18 B, br19 B, br20 B, br21 B, br22 B, br23 B, q3, q4, p0, p1, p2, hE.1, hE.2.1, zyn1, or_true, true_or, if_true, if_false, Option.bind_some, Option.toList_some, Option.toList_none, List.nil_append, List.cons_append]
theorem R_del {sp : Nat × (Nat → Int32)} {M0 M : zM} {S : yS} {n t : Nat} {l e : Int32} (h : RR M0 M S) (hK : yK n t S) (hn : n < 1597) (ht : t < 512) : zOr sp M0 M 89 [.ref 119, .int l, .int e, .double 0, .double 0, .double 0, .double 0, .double 0, .double 0, .double 0, .double 0, .double 0, .double 0, .double 0] (oE S l e 0 (aDel S)) := by
  have B := h.1
  obtain ⟨-, -, s3, s4, -⟩ := h.2.1
  have hnc := @R_noE sp M l e
  unfold oE
  cases hC : yE l e with
  | none =>
    rw [hC, dY] at hnc
    refine ⟨M, ?_, h⟩
    simp only [e89_0, e89_1, e89_2, e89_5, e89_8, e89_9, e89_12, e89_13, e89_14, e89_15, e89_16, e89_17, e89_18, e89_21, e89_22, hnc, z10, or_true, true_or, if_true, if_false, Option.bind_some, Option.toList_some, Option.toList_none, List.nil_append, List.cons_append]
  | some k =>
    rw [hC, dN] at hnc
    have hk := yE_k hC
    have ix := yE_ix hC
    have q3 : zin (nI k) 10 = true := zin_nI hk (by decide)
    have q4 : (nI k).toNatClampNeg = k := nI_clamp (by omega)
    have g := h.2.2.2.2.2.1 k hk
    have hl := (hK.1 k hk).2.2.2.2.2.2.2.2.1
    dsimp only
    unfold aDel
    cases hv : yw S k with
    | nil =>
      rw [hv] at g
      have p2 : (nI ([] : List yF).length = 0) = True := by decide
      refine ⟨M, ?_, h⟩
      simp only [e89_0, e89_1, e89_2, e89_5, e89_8, e89_9, e89_12, e89_13, e89_14, e89_15, e89_16, e89_17, e89_18, e89_21, e89_22, zG1, zG2, zG3, zG4, zG5, zG6, zG7, zG8, zNn, s3, s4, bk119 B, bk120 B, bk121 B, bk122 B, bk123 B, bk124 B, bk125 B, bk126 B, bk127 B, bk128 B, bk129 B, bk130 B, bk131 B, bk132 B, bk133 B, bk134 B, bk135 B, bk136 B, bk137 B, bk138 B, bk139 B, bk140 B, bk141 B, bk142 B, br1 B, br2 B, br3 B, br4 B, br5 B, br6 B, br7 B, br8 B, br9 B, br10 B, br11 B, br12 B, br13 B, br14 B, br15 B, br16 B, br17 B, br18 B, br19 B, br20 B, br21 B, br22 B, br23 B, hnc, ix, q3, q4, g.1, p2, or_true, true_or, if_true, if_false, Option.bind_some, Option.toList_some, Option.toList_none, List.nil_append, List.cons_append]
    | cons f fs =>
      rw [hv] at g hl
      have p2 : (nI (f :: fs).length = 0) = False := eq_false (nI_ne0 (by simp) (by omega))
      have hfw := g.2 0 f rfl
      have hfr := (hK.1 k hk).2.2.2.2.2.2.2.2.2 f (by rw [hv]; exact List.mem_cons_self)
      obtain ⟨M1, r1, r2⟩ := R_shift (sp := sp) h hK hk hv
      obtain ⟨w0, w1, w3, w4⟩ := hfw
      have w0 : zi M 126 (64 * k) = nI f.1 := w0
      have w1 : zi M 126 (64 * k + 1) = f.2.1 := w1
      obtain ⟨M2, u1, u2⟩ := Q_tail (sp := sp) (v1 := .int l) (v2 := .int e) (v4 := .int (nI (64 * k))) (x2 := zi M 126 (64 * k + 2)) (x3 := zi M 126 (64 * k + 3)) (y0 := zi M 126 (64 * k + 4)) (y1 := zi M 126 (64 * k + 5)) (y2 := zi M 126 (64 * k + 6)) (y3 := zi M 126 (64 * k + 7)) r2 (yK_wdrop hK hv) hn ht hk hfr w3 w4
      have m64 : 64 * nI k = nI (64 * k) := pk_mul 64 k
      have i1 : nI (64 * k) + 1 = nI (64 * k + 1) := nI_add _ 1
      have i2 : nI (64 * k) + 2 = nI (64 * k + 2) := nI_add _ 2
      have i3 : nI (64 * k) + 3 = nI (64 * k + 3) := nI_add _ 3
      have i4 : nI (64 * k) + 4 = nI (64 * k + 4) := nI_add _ 4
      have i5 : nI (64 * k) + 5 = nI (64 * k + 5) := nI_add _ 5
      have i6 : nI (64 * k) + 6 = nI (64 * k + 6) := nI_add _ 6
      have i7 : nI (64 * k) + 7 = nI (64 * k + 7) := nI_add _ 7
      have b0 : zin (nI (64 * k)) 640 = true := zin_nI (by omega) (by decide)
      have b1 : zin (nI (64 * k + 1)) 640 = true := zin_nI (by omega) (by decide)
      have b2 : zin (nI (64 * k + 2)) 640 = true := zin_nI (by omega) (by decide)
      have b3 : zin (nI (64 * k + 3)) 640 = true := zin_nI (by omega) (by decide)
      have b4 : zin (nI (64 * k + 4)) 640 = true := zin_nI (by omega) (by decide)
      have b5 : zin (nI (64 * k + 5)) 640 = true := zin_nI (by omega) (by decide)
      have b6 : zin (nI (64 * k + 6)) 640 = true := zin_nI (by omega) (by decide)
      have b7 : zin (nI (64 * k + 7)) 640 = true := zin_nI (by omega) (by decide)
      have c0 : (nI (64 * k)).toNatClampNeg = 64 * k := nI_clamp (by omega)
      have c1 : (nI (64 * k + 1)).toNatClampNeg = 64 * k + 1 := nI_clamp (by omega)
      have c2 : (nI (64 * k + 2)).toNatClampNeg = 64 * k + 2 := nI_clamp (by omega)
      have c3 : (nI (64 * k + 3)).toNatClampNeg = 64 * k + 3 := nI_clamp (by omega)
      have c4 : (nI (64 * k + 4)).toNatClampNeg = 64 * k + 4 := nI_clamp (by omega)
      have c5 : (nI (64 * k + 5)).toNatClampNeg = 64 * k + 5 := nI_clamp (by omega)
      have c6 : (nI (64 * k + 6)).toNatClampNeg = 64 * k + 6 := nI_clamp (by omega)
      have c7 : (nI (64 * k + 7)).toNatClampNeg = 64 * k + 7 := nI_clamp (by omega)
      refine ⟨M2, ?_, u2⟩
      simp only [e89_0, e89_1, e89_2, e89_5, e89_8, e89_9, e89_12, e89_13, e89_14, e89_15, e89_16, e89_17, e89_18, e89_21, e89_22, e89_23, e89_24, e89_25, e89_26, e89_27, e89_28, e89_29, e89_31, e89_32, e89_33, e89_35, e89_36, e89_39, e89_41, e89_42, e89_44, e89_45, e89_48, e89_50, e89_51, e89_52, e89_53, e89_55, e89_56, e89_59, e89_61, e89_62, e89_63, e89_64, e89_66, e89_67, e89_70, e89_72, e89_73, e89_74, e89_75, e89_77, e89_78, e89_81, e89_83, e89_84, e89_85, e89_86, e89_88, e89_89, e89_92, e89_94, e89_95, e89_96, e89_97, e89_99, e89_100, e89_103, e89_105, e89_107, e89_108, e89_109, e89_111, e89_112, e89_115, e89_117, e89_119, e89_120, e89_121, e89_123, e89_124, e89_125, zG1, zG2, zG3, zG4, zG5, zG6, zG7, zG8, zNn, s3, s4, bk119 B, bk120 B, bk121 B, bk122 B, bk123 B, bk124 B, bk125 B, bk126 B, bk127 B, bk128 B, bk129 B, bk130 B, bk131 B, bk132 B, bk133 B, bk134 B, bk135 B, bk136 B, bk137 B, bk138 B, bk139 B, bk140 B, bk141 B, bk142 B, br1 B, br2 B, br3 B, br4 B, br5 B, br6 B, br7 B, br8 B, br9 B, br10 B, br11 B, br12 B, br13 B, br14 B, br15 B, br16 B, br17 B, br18 B, br19 B, br20 B, br21 B, br22 B, br23 B, hnc, ix, q3, q4, g.1, p2, m64, i1, i2, i3, i4, i5, i6, i7, b0, b1, b2, b3, b4, b5, b6, b7, c0, c1, c2, c3, c4, c5, c6, c7, w0, w1, r1, u1, or_true, true_or, if_true, if_false, Option.bind_some, Option.toList_some, Option.toList_none, List.nil_append, List.cons_append]
