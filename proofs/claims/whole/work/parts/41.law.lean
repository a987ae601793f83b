/-! The law: its calls, one after another. -/
theorem zG14 : zAL (.long 0) = true := rfl
theorem law_0 {sp : Nat × (Nat → Int32)} {M : zM} {S : yS} {t : Nat} (h : Bo M S) (hK : yK (3 * t) t S) (hL : sp.1 ≤ 2560) (ht : 5 * t + 5 ≤ sp.1) (hx : sp.2 (5 * t) &&& 31 = nI 0) : ∃ M' S', zV (zPr sp) (120, 18, [.long 0, .ref 0, .ref 119, .int (nI (5 * t))], [], M) = zV (zPr sp) (120, 18, [.long 0, .ref 0, .ref 119, .int (nI (5 * (t + 1)))], [], M') ∧ Bo M' S' ∧ yK (3 * (t + 1)) (t + 1) S' := by
  have l0 : Int32.ofNat sp.1 - 5 = nI (sp.1 - 5) := pk_sub (b := 5) (by omega)
  have p0 : (nI (sp.1 - 5) < nI (5 * t)) = False := eq_false (nI_nlt (by omega) (by omega))
  have z0 : zin (nI (5 * t)) sp.1 = true := zin_nI (by omega) (by omega)
  have c0 : (nI (5 * t)).toNatClampNeg = 5 * t := nI_clamp (by omega)
  have a5 : nI (5 * t) + 5 = nI (5 * (t + 1)) := nI_add _ 5
  have a1 : nI (5 * t) + 1 = nI (5 * t + 1) := nI_add _ 1
  have z1 : zin (nI (5 * t + 1)) sp.1 = true := zin_nI (by omega) (by omega)
  have c1 : (nI (5 * t + 1)).toNatClampNeg = 5 * t + 1 := nI_clamp (by omega)
  have a2 : nI (5 * t) + 2 = nI (5 * t + 2) := nI_add _ 2
  have z2 : zin (nI (5 * t + 2)) sp.1 = true := zin_nI (by omega) (by omega)
  have c2 : (nI (5 * t + 2)).toNatClampNeg = 5 * t + 2 := nI_clamp (by omega)
  have a3 : nI (5 * t) + 3 = nI (5 * t + 3) := nI_add _ 3
  have z3 : zin (nI (5 * t + 3)) sp.1 = true := zin_nI (by omega) (by omega)
  have c3 : (nI (5 * t + 3)).toNatClampNeg = 5 * t + 3 := nI_clamp (by omega)
  have a4 : nI (5 * t) + 4 = nI (5 * t + 4) := nI_add _ 4
  have z4 : zin (nI (5 * t + 4)) sp.1 = true := zin_nI (by omega) (by omega)
  have c4 : (nI (5 * t + 4)).toNatClampNeg = 5 * t + 4 := nI_clamp (by omega)
  have s0 : (nI 0 = Int32.ofNat 0) = True := by decide
  have hC := N_call (sp := sp) (p := sp.2 (5 * t + 1)) (q := sp.2 (5 * t + 2)) h.1 hK (by omega)
  obtain ⟨M1, M2, r1, r2, r3, r4, r5⟩ := Bo_st h hC (fun M1 h1 => R_call h1 hK (by omega))
  refine ⟨M2, _, ?_, r3, yK_oCall hK⟩
  refine Eq.trans ?_ e120_737
  simp only [e120_18, e120_19, e120_20, e120_21, e120_22, e120_23, e120_26, e120_27, e120_28, e120_29, e120_31, e120_32, e120_120, e120_121, e120_122, e120_123, e120_124, e120_125, e120_126, e120_127, e120_128, e120_129, e120_130, e120_131, e120_134, e120_135, e120_136, e120_137, e120_138, e120_139, e120_140, e120_141, e120_142, e120_143, e120_144, e120_145, e120_148, e120_151, e120_152, e120_734, zG1, zG2, zG3, zG4, zG5, zG6, zG7, zG8, zNn, zG14, l0, p0, z0, z1, z2, z3, z4, c0, c1, c2, c3, c4, a1, a2, a3, a4, a5, hx, s0, r1, r2, r4, r5, or_true, true_or, if_true, if_false, Option.bind_some, Option.toList_some, Option.toList_none, List.nil_append, List.cons_append]
theorem law_1 {sp : Nat × (Nat → Int32)} {M : zM} {S : yS} {t : Nat} (h : Bo M S) (hK : yK (3 * t) t S) (hL : sp.1 ≤ 2560) (ht : 5 * t + 5 ≤ sp.1) (hx : sp.2 (5 * t) &&& 31 = nI 1) : ∃ M' S', zV (zPr sp) (120, 18, [.long 0, .ref 0, .ref 119, .int (nI (5 * t))], [], M) = zV (zPr sp) (120, 18, [.long 0, .ref 0, .ref 119, .int (nI (5 * (t + 1)))], [], M') ∧ Bo M' S' ∧ yK (3 * (t + 1)) (t + 1) S' := by
  have l0 : Int32.ofNat sp.1 - 5 = nI (sp.1 - 5) := pk_sub (b := 5) (by omega)
  have p0 : (nI (sp.1 - 5) < nI (5 * t)) = False := eq_false (nI_nlt (by omega) (by omega))
  have z0 : zin (nI (5 * t)) sp.1 = true := zin_nI (by omega) (by omega)
  have c0 : (nI (5 * t)).toNatClampNeg = 5 * t := nI_clamp (by omega)
  have a5 : nI (5 * t) + 5 = nI (5 * (t + 1)) := nI_add _ 5
  have a1 : nI (5 * t) + 1 = nI (5 * t + 1) := nI_add _ 1
  have z1 : zin (nI (5 * t + 1)) sp.1 = true := zin_nI (by omega) (by omega)
  have c1 : (nI (5 * t + 1)).toNatClampNeg = 5 * t + 1 := nI_clamp (by omega)
  have a2 : nI (5 * t) + 2 = nI (5 * t + 2) := nI_add _ 2
  have z2 : zin (nI (5 * t + 2)) sp.1 = true := zin_nI (by omega) (by omega)
  have c2 : (nI (5 * t + 2)).toNatClampNeg = 5 * t + 2 := nI_clamp (by omega)
  have a3 : nI (5 * t) + 3 = nI (5 * t + 3) := nI_add _ 3
  have z3 : zin (nI (5 * t + 3)) sp.1 = true := zin_nI (by omega) (by omega)
  have c3 : (nI (5 * t + 3)).toNatClampNeg = 5 * t + 3 := nI_clamp (by omega)
  have a4 : nI (5 * t) + 4 = nI (5 * t + 4) := nI_add _ 4
  have z4 : zin (nI (5 * t + 4)) sp.1 = true := zin_nI (by omega) (by omega)
  have c4 : (nI (5 * t + 4)).toNatClampNeg = 5 * t + 4 := nI_clamp (by omega)
  have s0 : (nI 1 = Int32.ofNat 0) = False := by decide
  have s1 : (nI 1 = Int32.ofNat 1) = True := by decide
  have hC := N_ans (sp := sp) (p := sp.2 (5 * t + 1)) (c := sp.2 (5 * t + 2)) h.1 hK (by omega)
  obtain ⟨M1, M2, r1, r2, r3, r4, r5⟩ := Bo_st h hC (fun M1 h1 => R_ans h1 hK (by omega))
  refine ⟨M2, _, ?_, r3, yK_oC hK (fun k hk _ => yK_aAns hK hk)⟩
  refine Eq.trans ?_ e120_737
  simp only [e120_18, e120_19, e120_20, e120_21, e120_22, e120_23, e120_26, e120_27, e120_28, e120_29, e120_31, e120_32, e120_153, e120_154, e120_155, e120_156, e120_157, e120_158, e120_159, e120_160, e120_161, e120_162, e120_163, e120_164, e120_167, e120_168, e120_169, e120_170, e120_171, e120_172, e120_173, e120_174, e120_175, e120_176, e120_177, e120_178, e120_181, e120_184, e120_185, e120_734, zG1, zG2, zG3, zG4, zG5, zG6, zG7, zG8, zNn, zG14, l0, p0, z0, z1, z2, z3, z4, c0, c1, c2, c3, c4, a1, a2, a3, a4, a5, hx, s0, s1, r1, r2, r4, r5, or_true, true_or, if_true, if_false, Option.bind_some, Option.toList_some, Option.toList_none, List.nil_append, List.cons_append]
theorem law_2 {sp : Nat × (Nat → Int32)} {M : zM} {S : yS} {t : Nat} (h : Bo M S) (hK : yK (3 * t) t S) (hL : sp.1 ≤ 2560) (ht : 5 * t + 5 ≤ sp.1) (hx : sp.2 (5 * t) &&& 31 = nI 2) : ∃ M' S', zV (zPr sp) (120, 18, [.long 0, .ref 0, .ref 119, .int (nI (5 * t))], [], M) = zV (zPr sp) (120, 18, [.long 0, .ref 0, .ref 119, .int (nI (5 * (t + 1)))], [], M') ∧ Bo M' S' ∧ yK (3 * (t + 1)) (t + 1) S' := by
  have l0 : Int32.ofNat sp.1 - 5 = nI (sp.1 - 5) := pk_sub (b := 5) (by omega)
  have p0 : (nI (sp.1 - 5) < nI (5 * t)) = False := eq_false (nI_nlt (by omega) (by omega))
  have z0 : zin (nI (5 * t)) sp.1 = true := zin_nI (by omega) (by omega)
  have c0 : (nI (5 * t)).toNatClampNeg = 5 * t := nI_clamp (by omega)
  have a5 : nI (5 * t) + 5 = nI (5 * (t + 1)) := nI_add _ 5
  have a1 : nI (5 * t) + 1 = nI (5 * t + 1) := nI_add _ 1
  have z1 : zin (nI (5 * t + 1)) sp.1 = true := zin_nI (by omega) (by omega)
  have c1 : (nI (5 * t + 1)).toNatClampNeg = 5 * t + 1 := nI_clamp (by omega)
  have a2 : nI (5 * t) + 2 = nI (5 * t + 2) := nI_add _ 2
  have z2 : zin (nI (5 * t + 2)) sp.1 = true := zin_nI (by omega) (by omega)
  have c2 : (nI (5 * t + 2)).toNatClampNeg = 5 * t + 2 := nI_clamp (by omega)
  have a3 : nI (5 * t) + 3 = nI (5 * t + 3) := nI_add _ 3
  have z3 : zin (nI (5 * t + 3)) sp.1 = true := zin_nI (by omega) (by omega)
  have c3 : (nI (5 * t + 3)).toNatClampNeg = 5 * t + 3 := nI_clamp (by omega)
  have a4 : nI (5 * t) + 4 = nI (5 * t + 4) := nI_add _ 4
  have z4 : zin (nI (5 * t + 4)) sp.1 = true := zin_nI (by omega) (by omega)
  have c4 : (nI (5 * t + 4)).toNatClampNeg = 5 * t + 4 := nI_clamp (by omega)
  have s0 : (nI 2 = Int32.ofNat 0) = False := by decide
  have s1 : (nI 2 = Int32.ofNat 1) = False := by decide
  have s2 : (nI 2 = Int32.ofNat 2) = True := by decide
  have hC := N_clr (sp := sp) (p := sp.2 (5 * t + 1)) (c := sp.2 (5 * t + 2)) h.1 hK (by omega)
  obtain ⟨M1, M2, r1, r2, r3, r4, r5⟩ := Bo_st h hC (fun M1 h1 => R_clr h1 hK (by omega))
  refine ⟨M2, _, ?_, r3, yK_oC hK (fun k hk _ => yK_aClr hK hk)⟩
  refine Eq.trans ?_ e120_737
  simp only [e120_18, e120_19, e120_20, e120_21, e120_22, e120_23, e120_26, e120_27, e120_28, e120_29, e120_31, e120_32, e120_186, e120_187, e120_188, e120_189, e120_190, e120_191, e120_192, e120_193, e120_194, e120_195, e120_196, e120_197, e120_200, e120_201, e120_202, e120_203, e120_204, e120_205, e120_206, e120_207, e120_208, e120_209, e120_210, e120_211, e120_214, e120_217, e120_218, e120_734, zG1, zG2, zG3, zG4, zG5, zG6, zG7, zG8, zNn, zG14, l0, p0, z0, z1, z2, z3, z4, c0, c1, c2, c3, c4, a1, a2, a3, a4, a5, hx, s0, s1, s2, r1, r2, r4, r5, or_true, true_or, if_true, if_false, Option.bind_some, Option.toList_some, Option.toList_none, List.nil_append, List.cons_append]
theorem law_3 {sp : Nat × (Nat → Int32)} {M : zM} {S : yS} {t : Nat} (h : Bo M S) (hK : yK (3 * t) t S) (hL : sp.1 ≤ 2560) (ht : 5 * t + 5 ≤ sp.1) (hx : sp.2 (5 * t) &&& 31 = nI 3) : ∃ M' S', zV (zPr sp) (120, 18, [.long 0, .ref 0, .ref 119, .int (nI (5 * t))], [], M) = zV (zPr sp) (120, 18, [.long 0, .ref 0, .ref 119, .int (nI (5 * (t + 1)))], [], M') ∧ Bo M' S' ∧ yK (3 * (t + 1)) (t + 1) S' := by
  have l0 : Int32.ofNat sp.1 - 5 = nI (sp.1 - 5) := pk_sub (b := 5) (by omega)
  have p0 : (nI (sp.1 - 5) < nI (5 * t)) = False := eq_false (nI_nlt (by omega) (by omega))
  have z0 : zin (nI (5 * t)) sp.1 = true := zin_nI (by omega) (by omega)
  have c0 : (nI (5 * t)).toNatClampNeg = 5 * t := nI_clamp (by omega)
  have a5 : nI (5 * t) + 5 = nI (5 * (t + 1)) := nI_add _ 5
  have a1 : nI (5 * t) + 1 = nI (5 * t + 1) := nI_add _ 1
  have z1 : zin (nI (5 * t + 1)) sp.1 = true := zin_nI (by omega) (by omega)
  have c1 : (nI (5 * t + 1)).toNatClampNeg = 5 * t + 1 := nI_clamp (by omega)
  have a2 : nI (5 * t) + 2 = nI (5 * t + 2) := nI_add _ 2
  have z2 : zin (nI (5 * t + 2)) sp.1 = true := zin_nI (by omega) (by omega)
  have c2 : (nI (5 * t + 2)).toNatClampNeg = 5 * t + 2 := nI_clamp (by omega)
  have a3 : nI (5 * t) + 3 = nI (5 * t + 3) := nI_add _ 3
  have z3 : zin (nI (5 * t + 3)) sp.1 = true := zin_nI (by omega) (by omega)
  have c3 : (nI (5 * t + 3)).toNatClampNeg = 5 * t + 3 := nI_clamp (by omega)
  have a4 : nI (5 * t) + 4 = nI (5 * t + 4) := nI_add _ 4
  have z4 : zin (nI (5 * t + 4)) sp.1 = true := zin_nI (by omega) (by omega)
  have c4 : (nI (5 * t + 4)).toNatClampNeg = 5 * t + 4 := nI_clamp (by omega)
  have s0 : (nI 3 = Int32.ofNat 0) = False := by decide
  have s1 : (nI 3 = Int32.ofNat 1) = False := by decide
  have s2 : (nI 3 = Int32.ofNat 2) = False := by decide
  have s3 : (nI 3 = Int32.ofNat 3) = True := by decide
  have hC := N_res (sp := sp) (p := sp.2 (5 * t + 1)) (c := sp.2 (5 * t + 2)) h.1 hK (by omega)
  obtain ⟨M1, M2, r1, r2, r3, r4, r5⟩ := Bo_st h hC (fun M1 h1 => R_res h1 hK (by omega))
  refine ⟨M2, _, ?_, r3, yK_oC hK (fun k hk _ => yK_aRes hK hk)⟩
  refine Eq.trans ?_ e120_737
  simp only [e120_18, e120_19, e120_20, e120_21, e120_22, e120_23, e120_26, e120_27, e120_28, e120_29, e120_31, e120_32, e120_219, e120_220, e120_221, e120_222, e120_223, e120_224, e120_225, e120_226, e120_227, e120_228, e120_229, e120_230, e120_233, e120_234, e120_235, e120_236, e120_237, e120_238, e120_239, e120_240, e120_241, e120_242, e120_243, e120_244, e120_247, e120_250, e120_251, e120_734, zG1, zG2, zG3, zG4, zG5, zG6, zG7, zG8, zNn, zG14, l0, p0, z0, z1, z2, z3, z4, c0, c1, c2, c3, c4, a1, a2, a3, a4, a5, hx, s0, s1, s2, s3, r1, r2, r4, r5, or_true, true_or, if_true, if_false, Option.bind_some, Option.toList_some, Option.toList_none, List.nil_append, List.cons_append]
theorem law_4 {sp : Nat × (Nat → Int32)} {M : zM} {S : yS} {t : Nat} (h : Bo M S) (hK : yK (3 * t) t S) (hL : sp.1 ≤ 2560) (ht : 5 * t + 5 ≤ sp.1) (hx : sp.2 (5 * t) &&& 31 = nI 4) : ∃ M' S', zV (zPr sp) (120, 18, [.long 0, .ref 0, .ref 119, .int (nI (5 * t))], [], M) = zV (zPr sp) (120, 18, [.long 0, .ref 0, .ref 119, .int (nI (5 * (t + 1)))], [], M') ∧ Bo M' S' ∧ yK (3 * (t + 1)) (t + 1) S' := by
  have l0 : Int32.ofNat sp.1 - 5 = nI (sp.1 - 5) := pk_sub (b := 5) (by omega)
  have p0 : (nI (sp.1 - 5) < nI (5 * t)) = False := eq_false (nI_nlt (by omega) (by omega))
  have z0 : zin (nI (5 * t)) sp.1 = true := zin_nI (by omega) (by omega)
  have c0 : (nI (5 * t)).toNatClampNeg = 5 * t := nI_clamp (by omega)
  have a5 : nI (5 * t) + 5 = nI (5 * (t + 1)) := nI_add _ 5
  have a1 : nI (5 * t) + 1 = nI (5 * t + 1) := nI_add _ 1
  have z1 : zin (nI (5 * t + 1)) sp.1 = true := zin_nI (by omega) (by omega)
  have c1 : (nI (5 * t + 1)).toNatClampNeg = 5 * t + 1 := nI_clamp (by omega)
  have a2 : nI (5 * t) + 2 = nI (5 * t + 2) := nI_add _ 2
  have z2 : zin (nI (5 * t + 2)) sp.1 = true := zin_nI (by omega) (by omega)
  have c2 : (nI (5 * t + 2)).toNatClampNeg = 5 * t + 2 := nI_clamp (by omega)
  have a3 : nI (5 * t) + 3 = nI (5 * t + 3) := nI_add _ 3
  have z3 : zin (nI (5 * t + 3)) sp.1 = true := zin_nI (by omega) (by omega)
  have c3 : (nI (5 * t + 3)).toNatClampNeg = 5 * t + 3 := nI_clamp (by omega)
  have a4 : nI (5 * t) + 4 = nI (5 * t + 4) := nI_add _ 4
  have z4 : zin (nI (5 * t + 4)) sp.1 = true := zin_nI (by omega) (by omega)
  have c4 : (nI (5 * t + 4)).toNatClampNeg = 5 * t + 4 := nI_clamp (by omega)
  have s0 : (nI 4 = Int32.ofNat 0) = False := by decide
  have s1 : (nI 4 = Int32.ofNat 1) = False := by decide
  have s2 : (nI 4 = Int32.ofNat 2) = False := by decide
  have s3 : (nI 4 = Int32.ofNat 3) = False := by decide
  have s4 : (nI 4 = Int32.ofNat 4) = True := by decide
  have hC := N_snd (sp := sp) (p := sp.2 (5 * t + 1)) (c := sp.2 (5 * t + 2)) (v := sp.2 (5 * t + 3)) h.1 hK (by omega)
  obtain ⟨M1, M2, r1, r2, r3, r4, r5⟩ := Bo_st h hC (fun M1 h1 => R_snd h1 hK (by omega))
  refine ⟨M2, _, ?_, r3, yK_oC hK (fun k hk _ => yK_aSnd hK hk)⟩
  refine Eq.trans ?_ e120_737
  simp only [e120_18, e120_19, e120_20, e120_21, e120_22, e120_23, e120_26, e120_27, e120_28, e120_29, e120_31, e120_32, e120_252, e120_253, e120_254, e120_255, e120_256, e120_257, e120_258, e120_259, e120_260, e120_261, e120_262, e120_263, e120_264, e120_265, e120_266, e120_267, e120_268, e120_271, e120_272, e120_273, e120_274, e120_275, e120_276, e120_277, e120_278, e120_279, e120_280, e120_281, e120_282, e120_283, e120_284, e120_285, e120_286, e120_287, e120_290, e120_293, e120_294, e120_734, zG1, zG2, zG3, zG4, zG5, zG6, zG7, zG8, zNn, zG14, l0, p0, z0, z1, z2, z3, z4, c0, c1, c2, c3, c4, a1, a2, a3, a4, a5, hx, s0, s1, s2, s3, s4, r1, r2, r4, r5, or_true, true_or, if_true, if_false, Option.bind_some, Option.toList_some, Option.toList_none, List.nil_append, List.cons_append]
theorem law_5 {sp : Nat × (Nat → Int32)} {M : zM} {S : yS} {t : Nat} (h : Bo M S) (hK : yK (3 * t) t S) (hL : sp.1 ≤ 2560) (ht : 5 * t + 5 ≤ sp.1) (hx : sp.2 (5 * t) &&& 31 = nI 5) : ∃ M' S', zV (zPr sp) (120, 18, [.long 0, .ref 0, .ref 119, .int (nI (5 * t))], [], M) = zV (zPr sp) (120, 18, [.long 0, .ref 0, .ref 119, .int (nI (5 * (t + 1)))], [], M') ∧ Bo M' S' ∧ yK (3 * (t + 1)) (t + 1) S' := by
  have l0 : Int32.ofNat sp.1 - 5 = nI (sp.1 - 5) := pk_sub (b := 5) (by omega)
  have p0 : (nI (sp.1 - 5) < nI (5 * t)) = False := eq_false (nI_nlt (by omega) (by omega))
  have z0 : zin (nI (5 * t)) sp.1 = true := zin_nI (by omega) (by omega)
  have c0 : (nI (5 * t)).toNatClampNeg = 5 * t := nI_clamp (by omega)
  have a5 : nI (5 * t) + 5 = nI (5 * (t + 1)) := nI_add _ 5
  have a1 : nI (5 * t) + 1 = nI (5 * t + 1) := nI_add _ 1
  have z1 : zin (nI (5 * t + 1)) sp.1 = true := zin_nI (by omega) (by omega)
  have c1 : (nI (5 * t + 1)).toNatClampNeg = 5 * t + 1 := nI_clamp (by omega)
  have a2 : nI (5 * t) + 2 = nI (5 * t + 2) := nI_add _ 2
  have z2 : zin (nI (5 * t + 2)) sp.1 = true := zin_nI (by omega) (by omega)
  have c2 : (nI (5 * t + 2)).toNatClampNeg = 5 * t + 2 := nI_clamp (by omega)
  have a3 : nI (5 * t) + 3 = nI (5 * t + 3) := nI_add _ 3
  have z3 : zin (nI (5 * t + 3)) sp.1 = true := zin_nI (by omega) (by omega)
  have c3 : (nI (5 * t + 3)).toNatClampNeg = 5 * t + 3 := nI_clamp (by omega)
  have a4 : nI (5 * t) + 4 = nI (5 * t + 4) := nI_add _ 4
  have z4 : zin (nI (5 * t + 4)) sp.1 = true := zin_nI (by omega) (by omega)
  have c4 : (nI (5 * t + 4)).toNatClampNeg = 5 * t + 4 := nI_clamp (by omega)
  have s0 : (nI 5 = Int32.ofNat 0) = False := by decide
  have s1 : (nI 5 = Int32.ofNat 1) = False := by decide
  have s2 : (nI 5 = Int32.ofNat 2) = False := by decide
  have s3 : (nI 5 = Int32.ofNat 3) = False := by decide
  have s4 : (nI 5 = Int32.ofNat 4) = False := by decide
  have s5 : (nI 5 = Int32.ofNat 5) = True := by decide
  have hC := N_rd (sp := sp) (p := sp.2 (5 * t + 1)) (c := sp.2 (5 * t + 2)) h.1 hK (by omega) (by omega)
  obtain ⟨M1, M2, r1, r2, r3, r4, r5⟩ := Bo_st h hC (fun M1 h1 => R_rd h1 hK (by omega) (by omega))
  refine ⟨M2, _, ?_, r3, yK_oC hK (fun k hk hs => yK_aRd hK hk hs)⟩
  refine Eq.trans ?_ e120_737
  simp only [e120_18, e120_19, e120_20, e120_21, e120_22, e120_23, e120_26, e120_27, e120_28, e120_29, e120_31, e120_32, e120_295, e120_296, e120_297, e120_298, e120_299, e120_300, e120_301, e120_302, e120_303, e120_304, e120_305, e120_306, e120_309, e120_310, e120_311, e120_312, e120_313, e120_314, e120_315, e120_316, e120_317, e120_318, e120_319, e120_320, e120_323, e120_326, e120_327, e120_734, zG1, zG2, zG3, zG4, zG5, zG6, zG7, zG8, zNn, zG14, l0, p0, z0, z1, z2, z3, z4, c0, c1, c2, c3, c4, a1, a2, a3, a4, a5, hx, s0, s1, s2, s3, s4, s5, r1, r2, r4, r5, or_true, true_or, if_true, if_false, Option.bind_some, Option.toList_some, Option.toList_none, List.nil_append, List.cons_append]
theorem law_6 {sp : Nat × (Nat → Int32)} {M : zM} {S : yS} {t : Nat} (h : Bo M S) (hK : yK (3 * t) t S) (hL : sp.1 ≤ 2560) (ht : 5 * t + 5 ≤ sp.1) (hx : sp.2 (5 * t) &&& 31 = nI 6) : ∃ M' S', zV (zPr sp) (120, 18, [.long 0, .ref 0, .ref 119, .int (nI (5 * t))], [], M) = zV (zPr sp) (120, 18, [.long 0, .ref 0, .ref 119, .int (nI (5 * (t + 1)))], [], M') ∧ Bo M' S' ∧ yK (3 * (t + 1)) (t + 1) S' := by
  have l0 : Int32.ofNat sp.1 - 5 = nI (sp.1 - 5) := pk_sub (b := 5) (by omega)
  have p0 : (nI (sp.1 - 5) < nI (5 * t)) = False := eq_false (nI_nlt (by omega) (by omega))
  have z0 : zin (nI (5 * t)) sp.1 = true := zin_nI (by omega) (by omega)
  have c0 : (nI (5 * t)).toNatClampNeg = 5 * t := nI_clamp (by omega)
  have a5 : nI (5 * t) + 5 = nI (5 * (t + 1)) := nI_add _ 5
  have a1 : nI (5 * t) + 1 = nI (5 * t + 1) := nI_add _ 1
  have z1 : zin (nI (5 * t + 1)) sp.1 = true := zin_nI (by omega) (by omega)
  have c1 : (nI (5 * t + 1)).toNatClampNeg = 5 * t + 1 := nI_clamp (by omega)
  have a2 : nI (5 * t) + 2 = nI (5 * t + 2) := nI_add _ 2
  have z2 : zin (nI (5 * t + 2)) sp.1 = true := zin_nI (by omega) (by omega)
  have c2 : (nI (5 * t + 2)).toNatClampNeg = 5 * t + 2 := nI_clamp (by omega)
  have a3 : nI (5 * t) + 3 = nI (5 * t + 3) := nI_add _ 3
  have z3 : zin (nI (5 * t + 3)) sp.1 = true := zin_nI (by omega) (by omega)
  have c3 : (nI (5 * t + 3)).toNatClampNeg = 5 * t + 3 := nI_clamp (by omega)
  have a4 : nI (5 * t) + 4 = nI (5 * t + 4) := nI_add _ 4
  have z4 : zin (nI (5 * t + 4)) sp.1 = true := zin_nI (by omega) (by omega)
  have c4 : (nI (5 * t + 4)).toNatClampNeg = 5 * t + 4 := nI_clamp (by omega)
  have s0 : (nI 6 = Int32.ofNat 0) = False := by decide
  have s1 : (nI 6 = Int32.ofNat 1) = False := by decide
  have s2 : (nI 6 = Int32.ofNat 2) = False := by decide
  have s3 : (nI 6 = Int32.ofNat 3) = False := by decide
  have s4 : (nI 6 = Int32.ofNat 4) = False := by decide
  have s5 : (nI 6 = Int32.ofNat 5) = False := by decide
  have s6 : (nI 6 = Int32.ofNat 6) = True := by decide
  have hC := N_del (sp := sp) (l := sp.2 (5 * t + 1)) (e := sp.2 (5 * t + 2)) h.1 hK (by omega) (by omega)
  obtain ⟨M1, M2, r1, r2, r3, r4, r5⟩ := Bo_st h hC (fun M1 h1 => R_del h1 hK (by omega) (by omega))
  refine ⟨M2, _, ?_, r3, yK_oE hK (fun k hk => yK_aDel hK hk)⟩
  refine Eq.trans ?_ e120_737
  simp only [e120_18, e120_19, e120_20, e120_21, e120_22, e120_23, e120_26, e120_27, e120_28, e120_29, e120_31, e120_32, e120_328, e120_329, e120_330, e120_331, e120_332, e120_333, e120_334, e120_335, e120_336, e120_337, e120_338, e120_339, e120_342, e120_343, e120_344, e120_345, e120_346, e120_347, e120_348, e120_349, e120_350, e120_351, e120_352, e120_353, e120_356, e120_359, e120_360, e120_734, zG1, zG2, zG3, zG4, zG5, zG6, zG7, zG8, zNn, zG14, l0, p0, z0, z1, z2, z3, z4, c0, c1, c2, c3, c4, a1, a2, a3, a4, a5, hx, s0, s1, s2, s3, s4, s5, s6, r1, r2, r4, r5, or_true, true_or, if_true, if_false, Option.bind_some, Option.toList_some, Option.toList_none, List.nil_append, List.cons_append]
theorem law_7 {sp : Nat × (Nat → Int32)} {M : zM} {S : yS} {t : Nat} (h : Bo M S) (hK : yK (3 * t) t S) (hL : sp.1 ≤ 2560) (ht : 5 * t + 5 ≤ sp.1) (hx : sp.2 (5 * t) &&& 31 = nI 7) : ∃ M' S', zV (zPr sp) (120, 18, [.long 0, .ref 0, .ref 119, .int (nI (5 * t))], [], M) = zV (zPr sp) (120, 18, [.long 0, .ref 0, .ref 119, .int (nI (5 * (t + 1)))], [], M') ∧ Bo M' S' ∧ yK (3 * (t + 1)) (t + 1) S' := by
  have l0 : Int32.ofNat sp.1 - 5 = nI (sp.1 - 5) := pk_sub (b := 5) (by omega)
  have p0 : (nI (sp.1 - 5) < nI (5 * t)) = False := eq_false (nI_nlt (by omega) (by omega))
  have z0 : zin (nI (5 * t)) sp.1 = true := zin_nI (by omega) (by omega)
  have c0 : (nI (5 * t)).toNatClampNeg = 5 * t := nI_clamp (by omega)
  have a5 : nI (5 * t) + 5 = nI (5 * (t + 1)) := nI_add _ 5
  have a1 : nI (5 * t) + 1 = nI (5 * t + 1) := nI_add _ 1
  have z1 : zin (nI (5 * t + 1)) sp.1 = true := zin_nI (by omega) (by omega)
  have c1 : (nI (5 * t + 1)).toNatClampNeg = 5 * t + 1 := nI_clamp (by omega)
  have a2 : nI (5 * t) + 2 = nI (5 * t + 2) := nI_add _ 2
  have z2 : zin (nI (5 * t + 2)) sp.1 = true := zin_nI (by omega) (by omega)
  have c2 : (nI (5 * t + 2)).toNatClampNeg = 5 * t + 2 := nI_clamp (by omega)
  have a3 : nI (5 * t) + 3 = nI (5 * t + 3) := nI_add _ 3
  have z3 : zin (nI (5 * t + 3)) sp.1 = true := zin_nI (by omega) (by omega)
  have c3 : (nI (5 * t + 3)).toNatClampNeg = 5 * t + 3 := nI_clamp (by omega)
  have a4 : nI (5 * t) + 4 = nI (5 * t + 4) := nI_add _ 4
  have z4 : zin (nI (5 * t + 4)) sp.1 = true := zin_nI (by omega) (by omega)
  have c4 : (nI (5 * t + 4)).toNatClampNeg = 5 * t + 4 := nI_clamp (by omega)
  have s0 : (nI 7 = Int32.ofNat 0) = False := by decide
  have s1 : (nI 7 = Int32.ofNat 1) = False := by decide
  have s2 : (nI 7 = Int32.ofNat 2) = False := by decide
  have s3 : (nI 7 = Int32.ofNat 3) = False := by decide
  have s4 : (nI 7 = Int32.ofNat 4) = False := by decide
  have s5 : (nI 7 = Int32.ofNat 5) = False := by decide
  have s6 : (nI 7 = Int32.ofNat 6) = False := by decide
  have s7 : (nI 7 = Int32.ofNat 7) = True := by decide
  have hC := N_lose (sp := sp) (l := sp.2 (5 * t + 1)) (e := sp.2 (5 * t + 2)) h.1 hK
  obtain ⟨M1, M2, r1, r2, r3, r4, r5⟩ := Bo_st h hC (fun M1 h1 => R_lose h1 hK)
  refine ⟨M2, _, ?_, r3, yK_oE hK (fun k _ => yK_aLose hK)⟩
  refine Eq.trans ?_ e120_737
  simp only [e120_18, e120_19, e120_20, e120_21, e120_22, e120_23, e120_26, e120_27, e120_28, e120_29, e120_31, e120_32, e120_361, e120_362, e120_363, e120_364, e120_365, e120_366, e120_367, e120_368, e120_369, e120_370, e120_371, e120_372, e120_375, e120_376, e120_377, e120_378, e120_379, e120_380, e120_381, e120_382, e120_383, e120_384, e120_385, e120_386, e120_389, e120_392, e120_393, e120_734, zG1, zG2, zG3, zG4, zG5, zG6, zG7, zG8, zNn, zG14, l0, p0, z0, z1, z2, z3, z4, c0, c1, c2, c3, c4, a1, a2, a3, a4, a5, hx, s0, s1, s2, s3, s4, s5, s6, s7, r1, r2, r4, r5, or_true, true_or, if_true, if_false, Option.bind_some, Option.toList_some, Option.toList_none, List.nil_append, List.cons_append]
theorem law_8 {sp : Nat × (Nat → Int32)} {M : zM} {S : yS} {t : Nat} (h : Bo M S) (hK : yK (3 * t) t S) (hL : sp.1 ≤ 2560) (ht : 5 * t + 5 ≤ sp.1) (hx : sp.2 (5 * t) &&& 31 = nI 8) : ∃ M' S', zV (zPr sp) (120, 18, [.long 0, .ref 0, .ref 119, .int (nI (5 * t))], [], M) = zV (zPr sp) (120, 18, [.long 0, .ref 0, .ref 119, .int (nI (5 * (t + 1)))], [], M') ∧ Bo M' S' ∧ yK (3 * (t + 1)) (t + 1) S' := by
  have l0 : Int32.ofNat sp.1 - 5 = nI (sp.1 - 5) := pk_sub (b := 5) (by omega)
  have p0 : (nI (sp.1 - 5) < nI (5 * t)) = False := eq_false (nI_nlt (by omega) (by omega))
  have z0 : zin (nI (5 * t)) sp.1 = true := zin_nI (by omega) (by omega)
  have c0 : (nI (5 * t)).toNatClampNeg = 5 * t := nI_clamp (by omega)
  have a5 : nI (5 * t) + 5 = nI (5 * (t + 1)) := nI_add _ 5
  have a1 : nI (5 * t) + 1 = nI (5 * t + 1) := nI_add _ 1
  have z1 : zin (nI (5 * t + 1)) sp.1 = true := zin_nI (by omega) (by omega)
  have c1 : (nI (5 * t + 1)).toNatClampNeg = 5 * t + 1 := nI_clamp (by omega)
  have a2 : nI (5 * t) + 2 = nI (5 * t + 2) := nI_add _ 2
  have z2 : zin (nI (5 * t + 2)) sp.1 = true := zin_nI (by omega) (by omega)
  have c2 : (nI (5 * t + 2)).toNatClampNeg = 5 * t + 2 := nI_clamp (by omega)
  have a3 : nI (5 * t) + 3 = nI (5 * t + 3) := nI_add _ 3
  have z3 : zin (nI (5 * t + 3)) sp.1 = true := zin_nI (by omega) (by omega)
  have c3 : (nI (5 * t + 3)).toNatClampNeg = 5 * t + 3 := nI_clamp (by omega)
  have a4 : nI (5 * t) + 4 = nI (5 * t + 4) := nI_add _ 4
  have z4 : zin (nI (5 * t + 4)) sp.1 = true := zin_nI (by omega) (by omega)
  have c4 : (nI (5 * t + 4)).toNatClampNeg = 5 * t + 4 := nI_clamp (by omega)
  have s0 : (nI 8 = Int32.ofNat 0) = False := by decide
  have s1 : (nI 8 = Int32.ofNat 1) = False := by decide
  have s2 : (nI 8 = Int32.ofNat 2) = False := by decide
  have s3 : (nI 8 = Int32.ofNat 3) = False := by decide
  have s4 : (nI 8 = Int32.ofNat 4) = False := by decide
  have s5 : (nI 8 = Int32.ofNat 5) = False := by decide
  have s6 : (nI 8 = Int32.ofNat 6) = False := by decide
  have s7 : (nI 8 = Int32.ofNat 7) = False := by decide
  have s8 : (nI 8 = Int32.ofNat 8) = True := by decide
  have hC : zOk sp M M 61 [.ref 0, .int (sp.2 (5 * t + 1)), .double 0, .double 0] (yTickA (sp.2 (5 * t + 1)), yTickS S (sp.2 (5 * t + 1))) := N_tick h.1 hK (by omega)
  obtain ⟨M1, M2, r1, r2, r3, r4, r5⟩ := Bo_st h hC (fun M1 h1 => R_tick h1 hK (by omega))
  refine ⟨M2, _, ?_, r3, yK_tickS hK⟩
  refine Eq.trans ?_ e120_737
  simp only [e120_18, e120_19, e120_20, e120_21, e120_22, e120_23, e120_26, e120_27, e120_28, e120_29, e120_31, e120_32, e120_394, e120_395, e120_396, e120_397, e120_398, e120_399, e120_400, e120_403, e120_404, e120_405, e120_406, e120_407, e120_408, e120_409, e120_412, e120_415, e120_416, e120_734, zG1, zG2, zG3, zG4, zG5, zG6, zG7, zG8, zNn, zG14, l0, p0, z0, z1, z2, z3, z4, c0, c1, c2, c3, c4, a1, a2, a3, a4, a5, hx, s0, s1, s2, s3, s4, s5, s6, s7, s8, r1, r2, r4, r5, or_true, true_or, if_true, if_false, Option.bind_some, Option.toList_some, Option.toList_none, List.nil_append, List.cons_append]
theorem law_9 {sp : Nat × (Nat → Int32)} {M : zM} {S : yS} {t : Nat} (h : Bo M S) (hK : yK (3 * t) t S) (hL : sp.1 ≤ 2560) (ht : 5 * t + 5 ≤ sp.1) (hx : sp.2 (5 * t) &&& 31 = nI 9) : ∃ M' S', zV (zPr sp) (120, 18, [.long 0, .ref 0, .ref 119, .int (nI (5 * t))], [], M) = zV (zPr sp) (120, 18, [.long 0, .ref 0, .ref 119, .int (nI (5 * (t + 1)))], [], M') ∧ Bo M' S' ∧ yK (3 * (t + 1)) (t + 1) S' := by
  have l0 : Int32.ofNat sp.1 - 5 = nI (sp.1 - 5) := pk_sub (b := 5) (by omega)
  have p0 : (nI (sp.1 - 5) < nI (5 * t)) = False := eq_false (nI_nlt (by omega) (by omega))
  have z0 : zin (nI (5 * t)) sp.1 = true := zin_nI (by omega) (by omega)
  have c0 : (nI (5 * t)).toNatClampNeg = 5 * t := nI_clamp (by omega)
  have a5 : nI (5 * t) + 5 = nI (5 * (t + 1)) := nI_add _ 5
  have a1 : nI (5 * t) + 1 = nI (5 * t + 1) := nI_add _ 1
  have z1 : zin (nI (5 * t + 1)) sp.1 = true := zin_nI (by omega) (by omega)
  have c1 : (nI (5 * t + 1)).toNatClampNeg = 5 * t + 1 := nI_clamp (by omega)
  have a2 : nI (5 * t) + 2 = nI (5 * t + 2) := nI_add _ 2
  have z2 : zin (nI (5 * t + 2)) sp.1 = true := zin_nI (by omega) (by omega)
  have c2 : (nI (5 * t + 2)).toNatClampNeg = 5 * t + 2 := nI_clamp (by omega)
  have a3 : nI (5 * t) + 3 = nI (5 * t + 3) := nI_add _ 3
  have z3 : zin (nI (5 * t + 3)) sp.1 = true := zin_nI (by omega) (by omega)
  have c3 : (nI (5 * t + 3)).toNatClampNeg = 5 * t + 3 := nI_clamp (by omega)
  have a4 : nI (5 * t) + 4 = nI (5 * t + 4) := nI_add _ 4
  have z4 : zin (nI (5 * t + 4)) sp.1 = true := zin_nI (by omega) (by omega)
  have c4 : (nI (5 * t + 4)).toNatClampNeg = 5 * t + 4 := nI_clamp (by omega)
  have s0 : (nI 9 = Int32.ofNat 0) = False := by decide
  have s1 : (nI 9 = Int32.ofNat 1) = False := by decide
  have s2 : (nI 9 = Int32.ofNat 2) = False := by decide
  have s3 : (nI 9 = Int32.ofNat 3) = False := by decide
  have s4 : (nI 9 = Int32.ofNat 4) = False := by decide
  have s5 : (nI 9 = Int32.ofNat 5) = False := by decide
  have s6 : (nI 9 = Int32.ofNat 6) = False := by decide
  have s7 : (nI 9 = Int32.ofNat 7) = False := by decide
  have s8 : (nI 9 = Int32.ofNat 8) = False := by decide
  have s9 : (nI 9 = Int32.ofNat 9) = True := by decide
  have hC := N_sta (sp := sp) (p := sp.2 (5 * t + 1)) (c := sp.2 (5 * t + 2)) h.1
  obtain ⟨M1, M2, r1, r2, r3, r4, r5⟩ := Bo_st h hC (fun M1 h1 => R_sta h1)
  refine ⟨M2, _, ?_, r3, yK_oC hK (fun k _ _ => yK_up3 hK)⟩
  refine Eq.trans ?_ e120_737
  simp only [e120_18, e120_19, e120_20, e120_21, e120_22, e120_23, e120_26, e120_27, e120_28, e120_29, e120_31, e120_32, e120_417, e120_418, e120_419, e120_420, e120_421, e120_422, e120_423, e120_424, e120_425, e120_426, e120_427, e120_428, e120_431, e120_432, e120_433, e120_434, e120_435, e120_436, e120_437, e120_438, e120_439, e120_440, e120_441, e120_442, e120_445, e120_448, e120_449, e120_734, zG1, zG2, zG3, zG4, zG5, zG6, zG7, zG8, zNn, zG14, l0, p0, z0, z1, z2, z3, z4, c0, c1, c2, c3, c4, a1, a2, a3, a4, a5, hx, s0, s1, s2, s3, s4, s5, s6, s7, s8, s9, r1, r2, r4, r5, or_true, true_or, if_true, if_false, Option.bind_some, Option.toList_some, Option.toList_none, List.nil_append, List.cons_append]
theorem law_10 {sp : Nat × (Nat → Int32)} {M : zM} {S : yS} {t : Nat} (h : Bo M S) (hK : yK (3 * t) t S) (hL : sp.1 ≤ 2560) (ht : 5 * t + 5 ≤ sp.1) (hx : sp.2 (5 * t) &&& 31 = nI 10) : ∃ M' S', zV (zPr sp) (120, 18, [.long 0, .ref 0, .ref 119, .int (nI (5 * t))], [], M) = zV (zPr sp) (120, 18, [.long 0, .ref 0, .ref 119, .int (nI (5 * (t + 1)))], [], M') ∧ Bo M' S' ∧ yK (3 * (t + 1)) (t + 1) S' := by
  have l0 : Int32.ofNat sp.1 - 5 = nI (sp.1 - 5) := pk_sub (b := 5) (by omega)
  have p0 : (nI (sp.1 - 5) < nI (5 * t)) = False := eq_false (nI_nlt (by omega) (by omega))
  have z0 : zin (nI (5 * t)) sp.1 = true := zin_nI (by omega) (by omega)
  have c0 : (nI (5 * t)).toNatClampNeg = 5 * t := nI_clamp (by omega)
  have a5 : nI (5 * t) + 5 = nI (5 * (t + 1)) := nI_add _ 5
  have a1 : nI (5 * t) + 1 = nI (5 * t + 1) := nI_add _ 1
  have z1 : zin (nI (5 * t + 1)) sp.1 = true := zin_nI (by omega) (by omega)
  have c1 : (nI (5 * t + 1)).toNatClampNeg = 5 * t + 1 := nI_clamp (by omega)
  have a2 : nI (5 * t) + 2 = nI (5 * t + 2) := nI_add _ 2
  have z2 : zin (nI (5 * t + 2)) sp.1 = true := zin_nI (by omega) (by omega)
  have c2 : (nI (5 * t + 2)).toNatClampNeg = 5 * t + 2 := nI_clamp (by omega)
  have a3 : nI (5 * t) + 3 = nI (5 * t + 3) := nI_add _ 3
  have z3 : zin (nI (5 * t + 3)) sp.1 = true := zin_nI (by omega) (by omega)
  have c3 : (nI (5 * t + 3)).toNatClampNeg = 5 * t + 3 := nI_clamp (by omega)
  have a4 : nI (5 * t) + 4 = nI (5 * t + 4) := nI_add _ 4
  have z4 : zin (nI (5 * t + 4)) sp.1 = true := zin_nI (by omega) (by omega)
  have c4 : (nI (5 * t + 4)).toNatClampNeg = 5 * t + 4 := nI_clamp (by omega)
  have s0 : (nI 10 = Int32.ofNat 0) = False := by decide
  have s1 : (nI 10 = Int32.ofNat 1) = False := by decide
  have s2 : (nI 10 = Int32.ofNat 2) = False := by decide
  have s3 : (nI 10 = Int32.ofNat 3) = False := by decide
  have s4 : (nI 10 = Int32.ofNat 4) = False := by decide
  have s5 : (nI 10 = Int32.ofNat 5) = False := by decide
  have s6 : (nI 10 = Int32.ofNat 6) = False := by decide
  have s7 : (nI 10 = Int32.ofNat 7) = False := by decide
  have s8 : (nI 10 = Int32.ofNat 8) = False := by decide
  have s9 : (nI 10 = Int32.ofNat 9) = False := by decide
  have s10 : (nI 10 = Int32.ofNat 10) = True := by decide
  have hC := N_peer (sp := sp) (p := sp.2 (5 * t + 1)) (c := sp.2 (5 * t + 2)) h.1 hK.2.1
  obtain ⟨M1, M2, r1, r2, r3, r4, r5⟩ := Bo_st h hC (fun M1 h1 => R_peer h1 hK.2.1)
  refine ⟨M2, _, ?_, r3, yK_oC hK (fun k _ _ => yK_up3 hK)⟩
  refine Eq.trans ?_ e120_737
  simp only [e120_18, e120_19, e120_20, e120_21, e120_22, e120_23, e120_26, e120_27, e120_28, e120_29, e120_31, e120_32, e120_450, e120_451, e120_452, e120_453, e120_454, e120_455, e120_456, e120_457, e120_458, e120_459, e120_460, e120_461, e120_464, e120_465, e120_466, e120_467, e120_468, e120_469, e120_470, e120_471, e120_472, e120_473, e120_474, e120_475, e120_478, e120_481, e120_482, e120_734, zG1, zG2, zG3, zG4, zG5, zG6, zG7, zG8, zNn, zG14, l0, p0, z0, z1, z2, z3, z4, c0, c1, c2, c3, c4, a1, a2, a3, a4, a5, hx, s0, s1, s2, s3, s4, s5, s6, s7, s8, s9, s10, r1, r2, r4, r5, or_true, true_or, if_true, if_false, Option.bind_some, Option.toList_some, Option.toList_none, List.nil_append, List.cons_append]
theorem law_11 {sp : Nat × (Nat → Int32)} {M : zM} {S : yS} {t : Nat} (h : Bo M S) (hK : yK (3 * t) t S) (hL : sp.1 ≤ 2560) (ht : 5 * t + 5 ≤ sp.1) (hx : sp.2 (5 * t) &&& 31 = nI 11) : ∃ M' S', zV (zPr sp) (120, 18, [.long 0, .ref 0, .ref 119, .int (nI (5 * t))], [], M) = zV (zPr sp) (120, 18, [.long 0, .ref 0, .ref 119, .int (nI (5 * (t + 1)))], [], M') ∧ Bo M' S' ∧ yK (3 * (t + 1)) (t + 1) S' := by
  have l0 : Int32.ofNat sp.1 - 5 = nI (sp.1 - 5) := pk_sub (b := 5) (by omega)
  have p0 : (nI (sp.1 - 5) < nI (5 * t)) = False := eq_false (nI_nlt (by omega) (by omega))
  have z0 : zin (nI (5 * t)) sp.1 = true := zin_nI (by omega) (by omega)
  have c0 : (nI (5 * t)).toNatClampNeg = 5 * t := nI_clamp (by omega)
  have a5 : nI (5 * t) + 5 = nI (5 * (t + 1)) := nI_add _ 5
  have a1 : nI (5 * t) + 1 = nI (5 * t + 1) := nI_add _ 1
  have z1 : zin (nI (5 * t + 1)) sp.1 = true := zin_nI (by omega) (by omega)
  have c1 : (nI (5 * t + 1)).toNatClampNeg = 5 * t + 1 := nI_clamp (by omega)
  have a2 : nI (5 * t) + 2 = nI (5 * t + 2) := nI_add _ 2
  have z2 : zin (nI (5 * t + 2)) sp.1 = true := zin_nI (by omega) (by omega)
  have c2 : (nI (5 * t + 2)).toNatClampNeg = 5 * t + 2 := nI_clamp (by omega)
  have a3 : nI (5 * t) + 3 = nI (5 * t + 3) := nI_add _ 3
  have z3 : zin (nI (5 * t + 3)) sp.1 = true := zin_nI (by omega) (by omega)
  have c3 : (nI (5 * t + 3)).toNatClampNeg = 5 * t + 3 := nI_clamp (by omega)
  have a4 : nI (5 * t) + 4 = nI (5 * t + 4) := nI_add _ 4
  have z4 : zin (nI (5 * t + 4)) sp.1 = true := zin_nI (by omega) (by omega)
  have c4 : (nI (5 * t + 4)).toNatClampNeg = 5 * t + 4 := nI_clamp (by omega)
  have s0 : (nI 11 = Int32.ofNat 0) = False := by decide
  have s1 : (nI 11 = Int32.ofNat 1) = False := by decide
  have s2 : (nI 11 = Int32.ofNat 2) = False := by decide
  have s3 : (nI 11 = Int32.ofNat 3) = False := by decide
  have s4 : (nI 11 = Int32.ofNat 4) = False := by decide
  have s5 : (nI 11 = Int32.ofNat 5) = False := by decide
  have s6 : (nI 11 = Int32.ofNat 6) = False := by decide
  have s7 : (nI 11 = Int32.ofNat 7) = False := by decide
  have s8 : (nI 11 = Int32.ofNat 8) = False := by decide
  have s9 : (nI 11 = Int32.ofNat 9) = False := by decide
  have s10 : (nI 11 = Int32.ofNat 10) = False := by decide
  have s11 : (nI 11 = Int32.ofNat 11) = True := by decide
  have hC := N_unr (sp := sp) (p := sp.2 (5 * t + 1)) (c := sp.2 (5 * t + 2)) h.1 hK.2.1
  obtain ⟨M1, M2, r1, r2, r3, r4, r5⟩ := Bo_st h hC (fun M1 h1 => R_unr h1 hK.2.1)
  refine ⟨M2, _, ?_, r3, yK_oC hK (fun k _ _ => yK_up3 hK)⟩
  refine Eq.trans ?_ e120_737
  simp only [e120_18, e120_19, e120_20, e120_21, e120_22, e120_23, e120_26, e120_27, e120_28, e120_29, e120_31, e120_32, e120_483, e120_484, e120_485, e120_486, e120_487, e120_488, e120_489, e120_490, e120_491, e120_492, e120_493, e120_494, e120_497, e120_498, e120_499, e120_500, e120_501, e120_502, e120_503, e120_504, e120_505, e120_506, e120_507, e120_508, e120_511, e120_514, e120_515, e120_734, zG1, zG2, zG3, zG4, zG5, zG6, zG7, zG8, zNn, zG14, l0, p0, z0, z1, z2, z3, z4, c0, c1, c2, c3, c4, a1, a2, a3, a4, a5, hx, s0, s1, s2, s3, s4, s5, s6, s7, s8, s9, s10, s11, r1, r2, r4, r5, or_true, true_or, if_true, if_false, Option.bind_some, Option.toList_some, Option.toList_none, List.nil_append, List.cons_append]
theorem law_12 {sp : Nat × (Nat → Int32)} {M : zM} {S : yS} {t : Nat} (h : Bo M S) (hK : yK (3 * t) t S) (hL : sp.1 ≤ 2560) (ht : 5 * t + 5 ≤ sp.1) (hx : sp.2 (5 * t) &&& 31 = nI 12) : ∃ M' S', zV (zPr sp) (120, 18, [.long 0, .ref 0, .ref 119, .int (nI (5 * t))], [], M) = zV (zPr sp) (120, 18, [.long 0, .ref 0, .ref 119, .int (nI (5 * (t + 1)))], [], M') ∧ Bo M' S' ∧ yK (3 * (t + 1)) (t + 1) S' := by
  have l0 : Int32.ofNat sp.1 - 5 = nI (sp.1 - 5) := pk_sub (b := 5) (by omega)
  have p0 : (nI (sp.1 - 5) < nI (5 * t)) = False := eq_false (nI_nlt (by omega) (by omega))
  have z0 : zin (nI (5 * t)) sp.1 = true := zin_nI (by omega) (by omega)
  have c0 : (nI (5 * t)).toNatClampNeg = 5 * t := nI_clamp (by omega)
  have a5 : nI (5 * t) + 5 = nI (5 * (t + 1)) := nI_add _ 5
  have a1 : nI (5 * t) + 1 = nI (5 * t + 1) := nI_add _ 1
  have z1 : zin (nI (5 * t + 1)) sp.1 = true := zin_nI (by omega) (by omega)
  have c1 : (nI (5 * t + 1)).toNatClampNeg = 5 * t + 1 := nI_clamp (by omega)
  have a2 : nI (5 * t) + 2 = nI (5 * t + 2) := nI_add _ 2
  have z2 : zin (nI (5 * t + 2)) sp.1 = true := zin_nI (by omega) (by omega)
  have c2 : (nI (5 * t + 2)).toNatClampNeg = 5 * t + 2 := nI_clamp (by omega)
  have a3 : nI (5 * t) + 3 = nI (5 * t + 3) := nI_add _ 3
  have z3 : zin (nI (5 * t + 3)) sp.1 = true := zin_nI (by omega) (by omega)
  have c3 : (nI (5 * t + 3)).toNatClampNeg = 5 * t + 3 := nI_clamp (by omega)
  have a4 : nI (5 * t) + 4 = nI (5 * t + 4) := nI_add _ 4
  have z4 : zin (nI (5 * t + 4)) sp.1 = true := zin_nI (by omega) (by omega)
  have c4 : (nI (5 * t + 4)).toNatClampNeg = 5 * t + 4 := nI_clamp (by omega)
  have s0 : (nI 12 = Int32.ofNat 0) = False := by decide
  have s1 : (nI 12 = Int32.ofNat 1) = False := by decide
  have s2 : (nI 12 = Int32.ofNat 2) = False := by decide
  have s3 : (nI 12 = Int32.ofNat 3) = False := by decide
  have s4 : (nI 12 = Int32.ofNat 4) = False := by decide
  have s5 : (nI 12 = Int32.ofNat 5) = False := by decide
  have s6 : (nI 12 = Int32.ofNat 6) = False := by decide
  have s7 : (nI 12 = Int32.ofNat 7) = False := by decide
  have s8 : (nI 12 = Int32.ofNat 8) = False := by decide
  have s9 : (nI 12 = Int32.ofNat 9) = False := by decide
  have s10 : (nI 12 = Int32.ofNat 10) = False := by decide
  have s11 : (nI 12 = Int32.ofNat 11) = False := by decide
  have s12 : (nI 12 = Int32.ofNat 12) = True := by decide
  have hC := N_frs (sp := sp) (l := sp.2 (5 * t + 1)) (e := sp.2 (5 * t + 2)) h.1
  obtain ⟨M1, M2, r1, r2, r3, r4, r5⟩ := Bo_st h hC (fun M1 h1 => R_frs h1)
  refine ⟨M2, _, ?_, r3, yK_oE hK (fun k _ => yK_up3 hK)⟩
  refine Eq.trans ?_ e120_737
  simp only [e120_18, e120_19, e120_20, e120_21, e120_22, e120_23, e120_26, e120_27, e120_28, e120_29, e120_31, e120_32, e120_516, e120_517, e120_518, e120_519, e120_520, e120_521, e120_522, e120_523, e120_524, e120_525, e120_526, e120_527, e120_530, e120_531, e120_532, e120_533, e120_534, e120_535, e120_536, e120_537, e120_538, e120_539, e120_540, e120_541, e120_544, e120_547, e120_548, e120_734, zG1, zG2, zG3, zG4, zG5, zG6, zG7, zG8, zNn, zG14, l0, p0, z0, z1, z2, z3, z4, c0, c1, c2, c3, c4, a1, a2, a3, a4, a5, hx, s0, s1, s2, s3, s4, s5, s6, s7, s8, s9, s10, s11, s12, r1, r2, r4, r5, or_true, true_or, if_true, if_false, Option.bind_some, Option.toList_some, Option.toList_none, List.nil_append, List.cons_append]
theorem law_13 {sp : Nat × (Nat → Int32)} {M : zM} {S : yS} {t : Nat} (h : Bo M S) (hK : yK (3 * t) t S) (hL : sp.1 ≤ 2560) (ht : 5 * t + 5 ≤ sp.1) (hx : sp.2 (5 * t) &&& 31 = nI 13) : ∃ M' S', zV (zPr sp) (120, 18, [.long 0, .ref 0, .ref 119, .int (nI (5 * t))], [], M) = zV (zPr sp) (120, 18, [.long 0, .ref 0, .ref 119, .int (nI (5 * (t + 1)))], [], M') ∧ Bo M' S' ∧ yK (3 * (t + 1)) (t + 1) S' := by
  have l0 : Int32.ofNat sp.1 - 5 = nI (sp.1 - 5) := pk_sub (b := 5) (by omega)
  have p0 : (nI (sp.1 - 5) < nI (5 * t)) = False := eq_false (nI_nlt (by omega) (by omega))
  have z0 : zin (nI (5 * t)) sp.1 = true := zin_nI (by omega) (by omega)
  have c0 : (nI (5 * t)).toNatClampNeg = 5 * t := nI_clamp (by omega)
  have a5 : nI (5 * t) + 5 = nI (5 * (t + 1)) := nI_add _ 5
  have a1 : nI (5 * t) + 1 = nI (5 * t + 1) := nI_add _ 1
  have z1 : zin (nI (5 * t + 1)) sp.1 = true := zin_nI (by omega) (by omega)
  have c1 : (nI (5 * t + 1)).toNatClampNeg = 5 * t + 1 := nI_clamp (by omega)
  have a2 : nI (5 * t) + 2 = nI (5 * t + 2) := nI_add _ 2
  have z2 : zin (nI (5 * t + 2)) sp.1 = true := zin_nI (by omega) (by omega)
  have c2 : (nI (5 * t + 2)).toNatClampNeg = 5 * t + 2 := nI_clamp (by omega)
  have a3 : nI (5 * t) + 3 = nI (5 * t + 3) := nI_add _ 3
  have z3 : zin (nI (5 * t + 3)) sp.1 = true := zin_nI (by omega) (by omega)
  have c3 : (nI (5 * t + 3)).toNatClampNeg = 5 * t + 3 := nI_clamp (by omega)
  have a4 : nI (5 * t) + 4 = nI (5 * t + 4) := nI_add _ 4
  have z4 : zin (nI (5 * t + 4)) sp.1 = true := zin_nI (by omega) (by omega)
  have c4 : (nI (5 * t + 4)).toNatClampNeg = 5 * t + 4 := nI_clamp (by omega)
  have s0 : (nI 13 = Int32.ofNat 0) = False := by decide
  have s1 : (nI 13 = Int32.ofNat 1) = False := by decide
  have s2 : (nI 13 = Int32.ofNat 2) = False := by decide
  have s3 : (nI 13 = Int32.ofNat 3) = False := by decide
  have s4 : (nI 13 = Int32.ofNat 4) = False := by decide
  have s5 : (nI 13 = Int32.ofNat 5) = False := by decide
  have s6 : (nI 13 = Int32.ofNat 6) = False := by decide
  have s7 : (nI 13 = Int32.ofNat 7) = False := by decide
  have s8 : (nI 13 = Int32.ofNat 8) = False := by decide
  have s9 : (nI 13 = Int32.ofNat 9) = False := by decide
  have s10 : (nI 13 = Int32.ofNat 10) = False := by decide
  have s11 : (nI 13 = Int32.ofNat 11) = False := by decide
  have s12 : (nI 13 = Int32.ofNat 12) = False := by decide
  have s13 : (nI 13 = Int32.ofNat 13) = True := by decide
  have hC := N_frm (sp := sp) (l := sp.2 (5 * t + 1)) (e := sp.2 (5 * t + 2)) (k := sp.2 (5 * t + 3)) (w := sp.2 (5 * t + 4)) h.1 hK
  obtain ⟨M1, M2, r1, r2, r3, r4, r5⟩ := Bo_st h hC (fun M1 h1 => R_frm h1 hK)
  refine ⟨M2, _, ?_, r3, yK_oE hK (fun k _ => yK_up3 hK)⟩
  refine Eq.trans ?_ e120_737
  simp only [e120_18, e120_19, e120_20, e120_21, e120_22, e120_23, e120_26, e120_27, e120_28, e120_29, e120_31, e120_32, e120_549, e120_550, e120_551, e120_552, e120_553, e120_554, e120_555, e120_556, e120_557, e120_558, e120_559, e120_560, e120_561, e120_562, e120_563, e120_564, e120_565, e120_566, e120_567, e120_568, e120_569, e120_570, e120_573, e120_574, e120_575, e120_576, e120_577, e120_578, e120_579, e120_580, e120_581, e120_582, e120_583, e120_584, e120_585, e120_586, e120_587, e120_588, e120_589, e120_590, e120_591, e120_592, e120_593, e120_594, e120_597, e120_600, e120_601, e120_734, zG1, zG2, zG3, zG4, zG5, zG6, zG7, zG8, zNn, zG14, l0, p0, z0, z1, z2, z3, z4, c0, c1, c2, c3, c4, a1, a2, a3, a4, a5, hx, s0, s1, s2, s3, s4, s5, s6, s7, s8, s9, s10, s11, s12, s13, r1, r2, r4, r5, or_true, true_or, if_true, if_false, Option.bind_some, Option.toList_some, Option.toList_none, List.nil_append, List.cons_append]
theorem law_14 {sp : Nat × (Nat → Int32)} {M : zM} {S : yS} {t : Nat} (h : Bo M S) (hK : yK (3 * t) t S) (hL : sp.1 ≤ 2560) (ht : 5 * t + 5 ≤ sp.1) (hx : sp.2 (5 * t) &&& 31 = nI 14) : ∃ M' S', zV (zPr sp) (120, 18, [.long 0, .ref 0, .ref 119, .int (nI (5 * t))], [], M) = zV (zPr sp) (120, 18, [.long 0, .ref 0, .ref 119, .int (nI (5 * (t + 1)))], [], M') ∧ Bo M' S' ∧ yK (3 * (t + 1)) (t + 1) S' := by
  have l0 : Int32.ofNat sp.1 - 5 = nI (sp.1 - 5) := pk_sub (b := 5) (by omega)
  have p0 : (nI (sp.1 - 5) < nI (5 * t)) = False := eq_false (nI_nlt (by omega) (by omega))
  have z0 : zin (nI (5 * t)) sp.1 = true := zin_nI (by omega) (by omega)
  have c0 : (nI (5 * t)).toNatClampNeg = 5 * t := nI_clamp (by omega)
  have a5 : nI (5 * t) + 5 = nI (5 * (t + 1)) := nI_add _ 5
  have a1 : nI (5 * t) + 1 = nI (5 * t + 1) := nI_add _ 1
  have z1 : zin (nI (5 * t + 1)) sp.1 = true := zin_nI (by omega) (by omega)
  have c1 : (nI (5 * t + 1)).toNatClampNeg = 5 * t + 1 := nI_clamp (by omega)
  have a2 : nI (5 * t) + 2 = nI (5 * t + 2) := nI_add _ 2
  have z2 : zin (nI (5 * t + 2)) sp.1 = true := zin_nI (by omega) (by omega)
  have c2 : (nI (5 * t + 2)).toNatClampNeg = 5 * t + 2 := nI_clamp (by omega)
  have a3 : nI (5 * t) + 3 = nI (5 * t + 3) := nI_add _ 3
  have z3 : zin (nI (5 * t + 3)) sp.1 = true := zin_nI (by omega) (by omega)
  have c3 : (nI (5 * t + 3)).toNatClampNeg = 5 * t + 3 := nI_clamp (by omega)
  have a4 : nI (5 * t) + 4 = nI (5 * t + 4) := nI_add _ 4
  have z4 : zin (nI (5 * t + 4)) sp.1 = true := zin_nI (by omega) (by omega)
  have c4 : (nI (5 * t + 4)).toNatClampNeg = 5 * t + 4 := nI_clamp (by omega)
  have s0 : (nI 14 = Int32.ofNat 0) = False := by decide
  have s1 : (nI 14 = Int32.ofNat 1) = False := by decide
  have s2 : (nI 14 = Int32.ofNat 2) = False := by decide
  have s3 : (nI 14 = Int32.ofNat 3) = False := by decide
  have s4 : (nI 14 = Int32.ofNat 4) = False := by decide
  have s5 : (nI 14 = Int32.ofNat 5) = False := by decide
  have s6 : (nI 14 = Int32.ofNat 6) = False := by decide
  have s7 : (nI 14 = Int32.ofNat 7) = False := by decide
  have s8 : (nI 14 = Int32.ofNat 8) = False := by decide
  have s9 : (nI 14 = Int32.ofNat 9) = False := by decide
  have s10 : (nI 14 = Int32.ofNat 10) = False := by decide
  have s11 : (nI 14 = Int32.ofNat 11) = False := by decide
  have s12 : (nI 14 = Int32.ofNat 12) = False := by decide
  have s13 : (nI 14 = Int32.ofNat 13) = False := by decide
  have s14 : (nI 14 = Int32.ofNat 14) = True := by decide
  have hC := N_row (sp := sp) (l := sp.2 (5 * t + 1)) (e := sp.2 (5 * t + 2)) h.1
  obtain ⟨M1, M2, r1, r2, r3, r4, r5⟩ := Bo_st h hC (fun M1 h1 => R_row h1 hK (by omega))
  refine ⟨M2, _, ?_, r3, yK_oE hK (fun k _ => yK_up3 hK)⟩
  refine Eq.trans ?_ e120_737
  simp only [e120_18, e120_19, e120_20, e120_21, e120_22, e120_23, e120_26, e120_27, e120_28, e120_29, e120_31, e120_32, e120_602, e120_603, e120_604, e120_605, e120_606, e120_607, e120_608, e120_609, e120_610, e120_611, e120_612, e120_613, e120_616, e120_617, e120_618, e120_619, e120_620, e120_621, e120_622, e120_623, e120_624, e120_625, e120_626, e120_627, e120_630, e120_633, e120_634, e120_734, zG1, zG2, zG3, zG4, zG5, zG6, zG7, zG8, zNn, zG14, l0, p0, z0, z1, z2, z3, z4, c0, c1, c2, c3, c4, a1, a2, a3, a4, a5, hx, s0, s1, s2, s3, s4, s5, s6, s7, s8, s9, s10, s11, s12, s13, s14, r1, r2, r4, r5, or_true, true_or, if_true, if_false, Option.bind_some, Option.toList_some, Option.toList_none, List.nil_append, List.cons_append]
theorem law_15 {sp : Nat × (Nat → Int32)} {M : zM} {S : yS} {t : Nat} (h : Bo M S) (hK : yK (3 * t) t S) (hL : sp.1 ≤ 2560) (ht : 5 * t + 5 ≤ sp.1) (hx : sp.2 (5 * t) &&& 31 = nI 15) : ∃ M' S', zV (zPr sp) (120, 18, [.long 0, .ref 0, .ref 119, .int (nI (5 * t))], [], M) = zV (zPr sp) (120, 18, [.long 0, .ref 0, .ref 119, .int (nI (5 * (t + 1)))], [], M') ∧ Bo M' S' ∧ yK (3 * (t + 1)) (t + 1) S' := by
  have l0 : Int32.ofNat sp.1 - 5 = nI (sp.1 - 5) := pk_sub (b := 5) (by omega)
  have p0 : (nI (sp.1 - 5) < nI (5 * t)) = False := eq_false (nI_nlt (by omega) (by omega))
  have z0 : zin (nI (5 * t)) sp.1 = true := zin_nI (by omega) (by omega)
  have c0 : (nI (5 * t)).toNatClampNeg = 5 * t := nI_clamp (by omega)
  have a5 : nI (5 * t) + 5 = nI (5 * (t + 1)) := nI_add _ 5
  have a1 : nI (5 * t) + 1 = nI (5 * t + 1) := nI_add _ 1
  have z1 : zin (nI (5 * t + 1)) sp.1 = true := zin_nI (by omega) (by omega)
  have c1 : (nI (5 * t + 1)).toNatClampNeg = 5 * t + 1 := nI_clamp (by omega)
  have a2 : nI (5 * t) + 2 = nI (5 * t + 2) := nI_add _ 2
  have z2 : zin (nI (5 * t + 2)) sp.1 = true := zin_nI (by omega) (by omega)
  have c2 : (nI (5 * t + 2)).toNatClampNeg = 5 * t + 2 := nI_clamp (by omega)
  have a3 : nI (5 * t) + 3 = nI (5 * t + 3) := nI_add _ 3
  have z3 : zin (nI (5 * t + 3)) sp.1 = true := zin_nI (by omega) (by omega)
  have c3 : (nI (5 * t + 3)).toNatClampNeg = 5 * t + 3 := nI_clamp (by omega)
  have a4 : nI (5 * t) + 4 = nI (5 * t + 4) := nI_add _ 4
  have z4 : zin (nI (5 * t + 4)) sp.1 = true := zin_nI (by omega) (by omega)
  have c4 : (nI (5 * t + 4)).toNatClampNeg = 5 * t + 4 := nI_clamp (by omega)
  have s0 : (nI 15 = Int32.ofNat 0) = False := by decide
  have s1 : (nI 15 = Int32.ofNat 1) = False := by decide
  have s2 : (nI 15 = Int32.ofNat 2) = False := by decide
  have s3 : (nI 15 = Int32.ofNat 3) = False := by decide
  have s4 : (nI 15 = Int32.ofNat 4) = False := by decide
  have s5 : (nI 15 = Int32.ofNat 5) = False := by decide
  have s6 : (nI 15 = Int32.ofNat 6) = False := by decide
  have s7 : (nI 15 = Int32.ofNat 7) = False := by decide
  have s8 : (nI 15 = Int32.ofNat 8) = False := by decide
  have s9 : (nI 15 = Int32.ofNat 9) = False := by decide
  have s10 : (nI 15 = Int32.ofNat 10) = False := by decide
  have s11 : (nI 15 = Int32.ofNat 11) = False := by decide
  have s12 : (nI 15 = Int32.ofNat 12) = False := by decide
  have s13 : (nI 15 = Int32.ofNat 13) = False := by decide
  have s14 : (nI 15 = Int32.ofNat 14) = False := by decide
  have s15 : (nI 15 = Int32.ofNat 15) = True := by decide
  have hC := N_ep (sp := sp) (l := sp.2 (5 * t + 1)) (e := sp.2 (5 * t + 2)) h.1
  obtain ⟨M1, M2, r1, r2, r3, r4, r5⟩ := Bo_st h hC (fun M1 h1 => R_ep h1)
  refine ⟨M2, _, ?_, r3, yK_oE hK (fun k _ => yK_up3 hK)⟩
  refine Eq.trans ?_ e120_737
  simp only [e120_18, e120_19, e120_20, e120_21, e120_22, e120_23, e120_26, e120_27, e120_28, e120_29, e120_31, e120_32, e120_635, e120_636, e120_637, e120_638, e120_639, e120_640, e120_641, e120_642, e120_643, e120_644, e120_645, e120_646, e120_649, e120_650, e120_651, e120_652, e120_653, e120_654, e120_655, e120_656, e120_657, e120_658, e120_659, e120_660, e120_663, e120_666, e120_667, e120_734, zG1, zG2, zG3, zG4, zG5, zG6, zG7, zG8, zNn, zG14, l0, p0, z0, z1, z2, z3, z4, c0, c1, c2, c3, c4, a1, a2, a3, a4, a5, hx, s0, s1, s2, s3, s4, s5, s6, s7, s8, s9, s10, s11, s12, s13, s14, s15, r1, r2, r4, r5, or_true, true_or, if_true, if_false, Option.bind_some, Option.toList_some, Option.toList_none, List.nil_append, List.cons_append]
theorem law_16 {sp : Nat × (Nat → Int32)} {M : zM} {S : yS} {t : Nat} (h : Bo M S) (hK : yK (3 * t) t S) (hL : sp.1 ≤ 2560) (ht : 5 * t + 5 ≤ sp.1) (hx : sp.2 (5 * t) &&& 31 = nI 16) : ∃ M' S', zV (zPr sp) (120, 18, [.long 0, .ref 0, .ref 119, .int (nI (5 * t))], [], M) = zV (zPr sp) (120, 18, [.long 0, .ref 0, .ref 119, .int (nI (5 * (t + 1)))], [], M') ∧ Bo M' S' ∧ yK (3 * (t + 1)) (t + 1) S' := by
  have l0 : Int32.ofNat sp.1 - 5 = nI (sp.1 - 5) := pk_sub (b := 5) (by omega)
  have p0 : (nI (sp.1 - 5) < nI (5 * t)) = False := eq_false (nI_nlt (by omega) (by omega))
  have z0 : zin (nI (5 * t)) sp.1 = true := zin_nI (by omega) (by omega)
  have c0 : (nI (5 * t)).toNatClampNeg = 5 * t := nI_clamp (by omega)
  have a5 : nI (5 * t) + 5 = nI (5 * (t + 1)) := nI_add _ 5
  have a1 : nI (5 * t) + 1 = nI (5 * t + 1) := nI_add _ 1
  have z1 : zin (nI (5 * t + 1)) sp.1 = true := zin_nI (by omega) (by omega)
  have c1 : (nI (5 * t + 1)).toNatClampNeg = 5 * t + 1 := nI_clamp (by omega)
  have a2 : nI (5 * t) + 2 = nI (5 * t + 2) := nI_add _ 2
  have z2 : zin (nI (5 * t + 2)) sp.1 = true := zin_nI (by omega) (by omega)
  have c2 : (nI (5 * t + 2)).toNatClampNeg = 5 * t + 2 := nI_clamp (by omega)
  have a3 : nI (5 * t) + 3 = nI (5 * t + 3) := nI_add _ 3
  have z3 : zin (nI (5 * t + 3)) sp.1 = true := zin_nI (by omega) (by omega)
  have c3 : (nI (5 * t + 3)).toNatClampNeg = 5 * t + 3 := nI_clamp (by omega)
  have a4 : nI (5 * t) + 4 = nI (5 * t + 4) := nI_add _ 4
  have z4 : zin (nI (5 * t + 4)) sp.1 = true := zin_nI (by omega) (by omega)
  have c4 : (nI (5 * t + 4)).toNatClampNeg = 5 * t + 4 := nI_clamp (by omega)
  have s0 : (nI 16 = Int32.ofNat 0) = False := by decide
  have s1 : (nI 16 = Int32.ofNat 1) = False := by decide
  have s2 : (nI 16 = Int32.ofNat 2) = False := by decide
  have s3 : (nI 16 = Int32.ofNat 3) = False := by decide
  have s4 : (nI 16 = Int32.ofNat 4) = False := by decide
  have s5 : (nI 16 = Int32.ofNat 5) = False := by decide
  have s6 : (nI 16 = Int32.ofNat 6) = False := by decide
  have s7 : (nI 16 = Int32.ofNat 7) = False := by decide
  have s8 : (nI 16 = Int32.ofNat 8) = False := by decide
  have s9 : (nI 16 = Int32.ofNat 9) = False := by decide
  have s10 : (nI 16 = Int32.ofNat 10) = False := by decide
  have s11 : (nI 16 = Int32.ofNat 11) = False := by decide
  have s12 : (nI 16 = Int32.ofNat 12) = False := by decide
  have s13 : (nI 16 = Int32.ofNat 13) = False := by decide
  have s14 : (nI 16 = Int32.ofNat 14) = False := by decide
  have s15 : (nI 16 = Int32.ofNat 15) = False := by decide
  have s16 : (nI 16 = Int32.ofNat 16) = True := by decide
  have hC := N_up (sp := sp) (l := sp.2 (5 * t + 1)) (e := sp.2 (5 * t + 2)) h.1
  obtain ⟨M1, M2, r1, r2, r3, r4, r5⟩ := Bo_st h hC (fun M1 h1 => R_up h1)
  refine ⟨M2, _, ?_, r3, yK_oE hK (fun k _ => yK_up3 hK)⟩
  refine Eq.trans ?_ e120_737
  simp only [e120_18, e120_19, e120_20, e120_21, e120_22, e120_23, e120_26, e120_27, e120_28, e120_29, e120_31, e120_32, e120_668, e120_669, e120_670, e120_671, e120_672, e120_673, e120_674, e120_675, e120_676, e120_677, e120_678, e120_679, e120_682, e120_683, e120_684, e120_685, e120_686, e120_687, e120_688, e120_689, e120_690, e120_691, e120_692, e120_693, e120_696, e120_699, e120_700, e120_734, zG1, zG2, zG3, zG4, zG5, zG6, zG7, zG8, zNn, zG14, l0, p0, z0, z1, z2, z3, z4, c0, c1, c2, c3, c4, a1, a2, a3, a4, a5, hx, s0, s1, s2, s3, s4, s5, s6, s7, s8, s9, s10, s11, s12, s13, s14, s15, s16, r1, r2, r4, r5, or_true, true_or, if_true, if_false, Option.bind_some, Option.toList_some, Option.toList_none, List.nil_append, List.cons_append]
theorem law_17 {sp : Nat × (Nat → Int32)} {M : zM} {S : yS} {t : Nat} (h : Bo M S) (hK : yK (3 * t) t S) (hL : sp.1 ≤ 2560) (ht : 5 * t + 5 ≤ sp.1) (hx : sp.2 (5 * t) &&& 31 = nI 17) : ∃ M' S', zV (zPr sp) (120, 18, [.long 0, .ref 0, .ref 119, .int (nI (5 * t))], [], M) = zV (zPr sp) (120, 18, [.long 0, .ref 0, .ref 119, .int (nI (5 * (t + 1)))], [], M') ∧ Bo M' S' ∧ yK (3 * (t + 1)) (t + 1) S' := by
  have l0 : Int32.ofNat sp.1 - 5 = nI (sp.1 - 5) := pk_sub (b := 5) (by omega)
  have p0 : (nI (sp.1 - 5) < nI (5 * t)) = False := eq_false (nI_nlt (by omega) (by omega))
  have z0 : zin (nI (5 * t)) sp.1 = true := zin_nI (by omega) (by omega)
  have c0 : (nI (5 * t)).toNatClampNeg = 5 * t := nI_clamp (by omega)
  have a5 : nI (5 * t) + 5 = nI (5 * (t + 1)) := nI_add _ 5
  have a1 : nI (5 * t) + 1 = nI (5 * t + 1) := nI_add _ 1
  have z1 : zin (nI (5 * t + 1)) sp.1 = true := zin_nI (by omega) (by omega)
  have c1 : (nI (5 * t + 1)).toNatClampNeg = 5 * t + 1 := nI_clamp (by omega)
  have a2 : nI (5 * t) + 2 = nI (5 * t + 2) := nI_add _ 2
  have z2 : zin (nI (5 * t + 2)) sp.1 = true := zin_nI (by omega) (by omega)
  have c2 : (nI (5 * t + 2)).toNatClampNeg = 5 * t + 2 := nI_clamp (by omega)
  have a3 : nI (5 * t) + 3 = nI (5 * t + 3) := nI_add _ 3
  have z3 : zin (nI (5 * t + 3)) sp.1 = true := zin_nI (by omega) (by omega)
  have c3 : (nI (5 * t + 3)).toNatClampNeg = 5 * t + 3 := nI_clamp (by omega)
  have a4 : nI (5 * t) + 4 = nI (5 * t + 4) := nI_add _ 4
  have z4 : zin (nI (5 * t + 4)) sp.1 = true := zin_nI (by omega) (by omega)
  have c4 : (nI (5 * t + 4)).toNatClampNeg = 5 * t + 4 := nI_clamp (by omega)
  have s0 : (nI 17 = Int32.ofNat 0) = False := by decide
  have s1 : (nI 17 = Int32.ofNat 1) = False := by decide
  have s2 : (nI 17 = Int32.ofNat 2) = False := by decide
  have s3 : (nI 17 = Int32.ofNat 3) = False := by decide
  have s4 : (nI 17 = Int32.ofNat 4) = False := by decide
  have s5 : (nI 17 = Int32.ofNat 5) = False := by decide
  have s6 : (nI 17 = Int32.ofNat 6) = False := by decide
  have s7 : (nI 17 = Int32.ofNat 7) = False := by decide
  have s8 : (nI 17 = Int32.ofNat 8) = False := by decide
  have s9 : (nI 17 = Int32.ofNat 9) = False := by decide
  have s10 : (nI 17 = Int32.ofNat 10) = False := by decide
  have s11 : (nI 17 = Int32.ofNat 11) = False := by decide
  have s12 : (nI 17 = Int32.ofNat 12) = False := by decide
  have s13 : (nI 17 = Int32.ofNat 13) = False := by decide
  have s14 : (nI 17 = Int32.ofNat 14) = False := by decide
  have s15 : (nI 17 = Int32.ofNat 15) = False := by decide
  have s16 : (nI 17 = Int32.ofNat 16) = False := by decide
  have s17 : (nI 17 = Int32.ofNat 17) = True := by decide
  have hC := N_busy (sp := sp) (l := sp.2 (5 * t + 1)) (e := sp.2 (5 * t + 2)) h.1 hK.2.1
  obtain ⟨M1, M2, r1, r2, r3, r4, r5⟩ := Bo_st h hC (fun M1 h1 => R_busy h1 hK.2.1)
  refine ⟨M2, _, ?_, r3, yK_oE hK (fun k _ => yK_up3 hK)⟩
  refine Eq.trans ?_ e120_737
  simp only [e120_18, e120_19, e120_20, e120_21, e120_22, e120_23, e120_26, e120_27, e120_28, e120_29, e120_31, e120_32, e120_701, e120_702, e120_703, e120_704, e120_705, e120_706, e120_707, e120_708, e120_709, e120_710, e120_711, e120_712, e120_715, e120_716, e120_717, e120_718, e120_719, e120_720, e120_721, e120_722, e120_723, e120_724, e120_725, e120_726, e120_729, e120_732, e120_733, e120_734, zG1, zG2, zG3, zG4, zG5, zG6, zG7, zG8, zNn, zG14, l0, p0, z0, z1, z2, z3, z4, c0, c1, c2, c3, c4, a1, a2, a3, a4, a5, hx, s0, s1, s2, s3, s4, s5, s6, s7, s8, s9, s10, s11, s12, s13, s14, s15, s16, s17, r1, r2, r4, r5, or_true, true_or, if_true, if_false, Option.bind_some, Option.toList_some, Option.toList_none, List.nil_append, List.cons_append]
theorem law_18 {sp : Nat × (Nat → Int32)} {M : zM} {S : yS} {t j : Nat} (h : Bo M S) (hK : yK (3 * t) t S) (hL : sp.1 ≤ 2560) (ht : 5 * t + 5 ≤ sp.1) (hj : 18 ≤ j) (hj2 : j < 32) (hx : sp.2 (5 * t) &&& 31 = nI j) : ∃ M' S', zV (zPr sp) (120, 18, [.long 0, .ref 0, .ref 119, .int (nI (5 * t))], [], M) = zV (zPr sp) (120, 18, [.long 0, .ref 0, .ref 119, .int (nI (5 * (t + 1)))], [], M') ∧ Bo M' S' ∧ yK (3 * (t + 1)) (t + 1) S' := by
  have l0 : Int32.ofNat sp.1 - 5 = nI (sp.1 - 5) := pk_sub (b := 5) (by omega)
  have p0 : (nI (sp.1 - 5) < nI (5 * t)) = False := eq_false (nI_nlt (by omega) (by omega))
  have z0 : zin (nI (5 * t)) sp.1 = true := zin_nI (by omega) (by omega)
  have c0 : (nI (5 * t)).toNatClampNeg = 5 * t := nI_clamp (by omega)
  have a5 : nI (5 * t) + 5 = nI (5 * (t + 1)) := nI_add _ 5
  have a1 : nI (5 * t) + 1 = nI (5 * t + 1) := nI_add _ 1
  have z1 : zin (nI (5 * t + 1)) sp.1 = true := zin_nI (by omega) (by omega)
  have c1 : (nI (5 * t + 1)).toNatClampNeg = 5 * t + 1 := nI_clamp (by omega)
  have a2 : nI (5 * t) + 2 = nI (5 * t + 2) := nI_add _ 2
  have z2 : zin (nI (5 * t + 2)) sp.1 = true := zin_nI (by omega) (by omega)
  have c2 : (nI (5 * t + 2)).toNatClampNeg = 5 * t + 2 := nI_clamp (by omega)
  have a3 : nI (5 * t) + 3 = nI (5 * t + 3) := nI_add _ 3
  have z3 : zin (nI (5 * t + 3)) sp.1 = true := zin_nI (by omega) (by omega)
  have c3 : (nI (5 * t + 3)).toNatClampNeg = 5 * t + 3 := nI_clamp (by omega)
  have a4 : nI (5 * t) + 4 = nI (5 * t + 4) := nI_add _ 4
  have z4 : zin (nI (5 * t + 4)) sp.1 = true := zin_nI (by omega) (by omega)
  have c4 : (nI (5 * t + 4)).toNatClampNeg = 5 * t + 4 := nI_clamp (by omega)
  have s0 : (nI j = Int32.ofNat 0) = False := eq_false (fun z => by have := (nI_eq (b := 0) (by omega) (by decide)).mp z; omega)
  have s1 : (nI j = Int32.ofNat 1) = False := eq_false (fun z => by have := (nI_eq (b := 1) (by omega) (by decide)).mp z; omega)
  have s2 : (nI j = Int32.ofNat 2) = False := eq_false (fun z => by have := (nI_eq (b := 2) (by omega) (by decide)).mp z; omega)
  have s3 : (nI j = Int32.ofNat 3) = False := eq_false (fun z => by have := (nI_eq (b := 3) (by omega) (by decide)).mp z; omega)
  have s4 : (nI j = Int32.ofNat 4) = False := eq_false (fun z => by have := (nI_eq (b := 4) (by omega) (by decide)).mp z; omega)
  have s5 : (nI j = Int32.ofNat 5) = False := eq_false (fun z => by have := (nI_eq (b := 5) (by omega) (by decide)).mp z; omega)
  have s6 : (nI j = Int32.ofNat 6) = False := eq_false (fun z => by have := (nI_eq (b := 6) (by omega) (by decide)).mp z; omega)
  have s7 : (nI j = Int32.ofNat 7) = False := eq_false (fun z => by have := (nI_eq (b := 7) (by omega) (by decide)).mp z; omega)
  have s8 : (nI j = Int32.ofNat 8) = False := eq_false (fun z => by have := (nI_eq (b := 8) (by omega) (by decide)).mp z; omega)
  have s9 : (nI j = Int32.ofNat 9) = False := eq_false (fun z => by have := (nI_eq (b := 9) (by omega) (by decide)).mp z; omega)
  have s10 : (nI j = Int32.ofNat 10) = False := eq_false (fun z => by have := (nI_eq (b := 10) (by omega) (by decide)).mp z; omega)
  have s11 : (nI j = Int32.ofNat 11) = False := eq_false (fun z => by have := (nI_eq (b := 11) (by omega) (by decide)).mp z; omega)
  have s12 : (nI j = Int32.ofNat 12) = False := eq_false (fun z => by have := (nI_eq (b := 12) (by omega) (by decide)).mp z; omega)
  have s13 : (nI j = Int32.ofNat 13) = False := eq_false (fun z => by have := (nI_eq (b := 13) (by omega) (by decide)).mp z; omega)
  have s14 : (nI j = Int32.ofNat 14) = False := eq_false (fun z => by have := (nI_eq (b := 14) (by omega) (by decide)).mp z; omega)
  have s15 : (nI j = Int32.ofNat 15) = False := eq_false (fun z => by have := (nI_eq (b := 15) (by omega) (by decide)).mp z; omega)
  have s16 : (nI j = Int32.ofNat 16) = False := eq_false (fun z => by have := (nI_eq (b := 16) (by omega) (by decide)).mp z; omega)
  have s17 : (nI j = Int32.ofNat 17) = False := eq_false (fun z => by have := (nI_eq (b := 17) (by omega) (by decide)).mp z; omega)
  refine ⟨M, S, ?_, h, yK_up3 hK⟩
  refine Eq.trans ?_ e120_737
  simp only [e120_18, e120_19, e120_20, e120_21, e120_22, e120_23, e120_26, e120_27, e120_28, e120_29, e120_31, e120_32, e120_734, zG1, zG2, zG3, zG4, zG5, zG6, zG7, zG8, zNn, zG14, l0, p0, z0, z1, z2, z3, z4, c0, c1, c2, c3, c4, a1, a2, a3, a4, a5, hx, s0, s1, s2, s3, s4, s5, s6, s7, s8, s9, s10, s11, s12, s13, s14, s15, s16, s17, or_true, true_or, if_true, if_false, Option.bind_some, Option.toList_some, Option.toList_none, List.nil_append, List.cons_append]
theorem law_step {sp : Nat × (Nat → Int32)} {M : zM} {S : yS} {t : Nat} (h : Bo M S) (hK : yK (3 * t) t S) (hL : sp.1 ≤ 2560) (ht : 5 * t + 5 ≤ sp.1) : ∃ M' S', zV (zPr sp) (120, 18, [.long 0, .ref 0, .ref 119, .int (nI (5 * t))], [], M) = zV (zPr sp) (120, 18, [.long 0, .ref 0, .ref 119, .int (nI (5 * (t + 1)))], [], M') ∧ Bo M' S' ∧ yK (3 * (t + 1)) (t + 1) S' := by
  obtain ⟨j, hj, hx⟩ := pk_andE (sp.2 (5 * t)) (m := 31) 5 (by decide)
  have hj : j < 32 := hj
  have hc : j = 0 ∨ j = 1 ∨ j = 2 ∨ j = 3 ∨ j = 4 ∨ j = 5 ∨ j = 6 ∨ j = 7 ∨ j = 8 ∨ j = 9 ∨ j = 10 ∨ j = 11 ∨ j = 12 ∨ j = 13 ∨ j = 14 ∨ j = 15 ∨ j = 16 ∨ j = 17 ∨ 18 ≤ j := by omega
  rcases hc with rfl | rfl | rfl | rfl | rfl | rfl | rfl | rfl | rfl | rfl | rfl | rfl | rfl | rfl | rfl | rfl | rfl | rfl | hc
  · exact law_0 h hK hL ht hx
  · exact law_1 h hK hL ht hx
  · exact law_2 h hK hL ht hx
  · exact law_3 h hK hL ht hx
  · exact law_4 h hK hL ht hx
  · exact law_5 h hK hL ht hx
  · exact law_6 h hK hL ht hx
  · exact law_7 h hK hL ht hx
  · exact law_8 h hK hL ht hx
  · exact law_9 h hK hL ht hx
  · exact law_10 h hK hL ht hx
  · exact law_11 h hK hL ht hx
  · exact law_12 h hK hL ht hx
  · exact law_13 h hK hL ht hx
  · exact law_14 h hK hL ht hx
  · exact law_15 h hK hL ht hx
  · exact law_16 h hK hL ht hx
  · exact law_17 h hK hL ht hx
  · exact law_18 h hK hL ht hc hj hx
theorem law_loop {sp : Nat × (Nat → Int32)} (hL : sp.1 ≤ 2560) : ∀ (m t : Nat) {M : zM} {S : yS}, 5 * (t + m) ≤ sp.1 → sp.1 < 5 * (t + m) + 5 → Bo M S → yK (3 * t) t S → ∃ M' S', zV (zPr sp) (120, 18, [.long 0, .ref 0, .ref 119, .int (nI (5 * t))], [], M) = some (some (.int 1), M') ∧ Bo M' S' := by
  intro m
  induction m with
  | zero =>
    intro t M S h1 h2 h hK
    have p0 : (Int32.ofNat sp.1 - 5 < nI (5 * t)) = True := by
      refine eq_true ?_
      by_cases h5 : 5 ≤ sp.1
      · have l0 : Int32.ofNat sp.1 - 5 = nI (sp.1 - 5) := pk_sub (b := 5) h5
        rw [l0]
        exact nI_lt (by omega) (by omega)
      · have ht : t = 0 := by omega
        subst ht
        exact pk_sneg (a := sp.1) (b := 5) (by decide) (by omega)
    refine ⟨M, S, ?_, h⟩
    simp only [e120_18, e120_19, e120_20, e120_21, e120_22, e120_23, e120_740, e120_741, zG14, p0, or_true, true_or, if_true, if_false, Option.bind_some, Option.toList_some, Option.toList_none, List.nil_append, List.cons_append]
  | succ m ih =>
    intro t M S h1 h2 h hK
    obtain ⟨M1, S1, r1, r2, r3⟩ := law_step (sp := sp) h hK hL (by omega)
    obtain ⟨M2, S2, u1, u2⟩ := ih (t + 1) (by omega) (by omega) r2 r3
    exact ⟨M2, S2, r1.trans u1, u2⟩
theorem law_run {sp : Nat × (Nat → Int32)} (hL : sp.1 ≤ 2560) : ∃ M' S', zV (zPr sp) (120, 0, [.long 0, .double 0, .double 0, .double 0], [], zM0) = some (some (.int 1), M') ∧ Bo M' S' := by
  obtain ⟨M1, M2, h1, h2, h3, h4⟩ := zr_start
  have r1 := zV_of (h1 sp)
  have r2 := zV_of (h3 sp)
  have n0 : zn zM0 = 0 := rfl
  obtain ⟨M', S', u1, u2⟩ := law_loop (sp := sp) hL (sp.1 / 5) 0 (by omega) (by omega) (Bo_0 h4) yK_0
  have u1 : zV (zPr sp) (120, 18, [.long 0, .ref 0, .ref 119, .int 0], [], M2) = some (some (.int 1), M') := u1
  refine ⟨M', S', ?_, u2⟩
  simp only [e120_0, e120_3, e120_4, e120_7, e120_8, e120_11, e120_12, e120_15, e120_16, e120_17, zG1, zG2, zG3, zG4, zG5, zG6, zG7, zG8, zNn, n0, r1, h2, r2, u1, or_true, true_or, if_true, if_false, Option.bind_some, Option.toList_some, Option.toList_none, List.nil_append, List.cons_append]
theorem Bo_room {M : zM} {S : yS} (h : Bo M S) : zn M ≤ 600000 ∧ zz M ≤ 7302250 := by
  obtain ⟨h1, it, cap, -, h2, h3⟩ := h.1.2.2.2.2.2.1
  have hb : ysum (fun q => 2 * cap q) 22 ≤ ysum (fun _ => 8192) 22 := ysum_le (fun q hq => by
    obtain ⟨-, -, ⟨x, -, hx, hc⟩, -⟩ := h2 q hq
    have := two_le hx
    show 2 * cap q ≤ 8192
    omega)
  have h8 : ysum (fun _ => 8192) 22 = 180224 := rfl
  omega
/-- from the entry, for every script of at most 2560 ints, the law comes to its end with true -/
theorem whole_start {p : Program} {e : Env} {s : State} {m : MethodId} {below : List Frame} {meth : Method} {c : Code} (l : Launch) {b L : Nat} {xs : Nat → Int32} (hL : L ≤ 2560) (C0 : lw_At p s m meth c b L xs) : W p l e room_1 s m #[Value.ref b] below meth c s.heap [] 0 0 (lw_Z below #[Value.ref b] s) (entryFrame m ([Value.ref b] : List Value).toArray 4) := by
  obtain ⟨M', S', h1, h2⟩ := law_run (sp := (L, xs)) hL
  obtain ⟨k, hk⟩ := zV_iff.mp h1
  exact z_top l C0 hk (Bo_room h2).1 (Bo_room h2).2
