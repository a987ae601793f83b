/-! The reference: what arrives. -/
theorem z60' : ((6 : Int32) = 0) = False := by decide
theorem RR_id {M0 M : zM} {S : yS} {a j : Nat} {x : Int32} (h : RR M0 M S) (h1 : 119 ≤ a) (h2 : a < 143) (hx : zi M a j = x) : RR M0 (zwi M a j x) S := by
  have hz : ∀ a' j', zi (zwi M a j x) a' j' = zi M a' j' := fun a' j' => by
    rw [zi_wi]
    by_cases hc : a' = a ∧ j' = j
    · rw [if_pos hc, hc.1, hc.2]; exact hx.symm
    · rw [if_neg hc]
  obtain ⟨g0, g1, g2, g3, g4, g5, g6⟩ := h
  exact ⟨g0, RSt_wi g1 h1 h2, g2.kept (fun a j _ _ => hz a j) (fun _ => rfl) (fun _ => rfl) (fun _ _ _ => rfl), g3.kept (fun a j _ _ => hz a j) (fun _ _ _ => rfl) (fun _ => rfl), g4.kept (fun a j _ _ => hz a j) (fun _ => rfl), g5.kept (fun a j _ _ => hz a j) (fun _ => rfl), g6.kept (fun a j _ _ => hz a j) (fun _ => rfl)⟩
theorem R_slot {sp : Nat × (Nat → Int32)} {M : zM} {k : Nat} (hk : k < 30) : zV (zPr sp) (98, 0, [.int (nI k)], [], M) = some (some (.int (nI (ysl k))), M) := by
  have d6 : nI k / 6 = nI (k / 6) := pk_div (d := 6) (by omega) (by decide) (by decide)
  have m3 := nrem3 (a := k) (by omega)
  have m : 3 * nI (k / 6) = nI (3 * (k / 6)) := pk_mul 3 _
  have aa : nI (3 * (k / 6)) + nI (k % 3) = nI (ysl k) := nI_add _ _
  simp only [e98_0, e98_1, e98_2, e98_4, e98_5, e98_6, e98_7, e98_8, e98_9, e98_10, z60', z30', d6, m3, m, aa, if_false]
theorem R_renew {sp : Nat × (Nat → Int32)} {M0 M : zM} {S : yS} {k : Nat} (h : RR M0 M S) (hk : k < 30) (hs : ysw (k / 3) = false) : ∃ M', zV (zPr sp) (97, 0, [.ref 119, .int (nI k)], [], M) = some (none, M') ∧ RR M0 M' (yRenew S k) := by
  have B := h.1
  obtain ⟨-, -, s3, s4, -⟩ := h.2.1
  have q3 : zin (nI k) 30 = true := zin_nI hk (by decide)
  have q4 : (nI k).toNatClampNeg = k := nI_clamp (by omega)
  have hsl : ysl k < 12 := (by decide +kernel : ∀ k, k < 30 → ysw (k / 3) = false → ysl k < 12) k hk hs
  have q5 : zin (nI (ysl k)) 12 = true := zin_nI hsl (by decide)
  have q6 : (nI (ysl k)).toNatClampNeg = ysl k := nI_clamp (by omega)
  have a1 : RR M0 (zwi M 138 k 0) (ynS S 8 k 0) := RR_t (f := 8) (n := 0) h (by decide) (by decide)
  have a2 : RR M0 (zwi (zwi M 138 k 0) 139 k 0) (ynS (ynS S 8 k 0) 9 k 0) := RR_t (f := 9) (n := 0) a1 (by decide) (by decide)
  have a3 : RR M0 (zwi (zwi (zwi M 138 k 0) 139 k 0) 140 k 0) (ynS (ynS (ynS S 8 k 0) 9 k 0) 10 k 0) := RR_t (f := 10) (n := 0) a2 (by decide) (by decide)
  have a4 : RR M0 (zwi (zwi (zwi (zwi M 138 k 0) 139 k 0) 140 k 0) 141 (ysl k) 0) (yRenew S k) := RR_v0 a3
  have hsl' := R_slot (sp := sp) (M := zwi (zwi (zwi M 138 k 0) 139 k 0) 140 k 0) hk
  refine ⟨_, ?_, a4⟩
  simp only [e97_0, e97_1, e97_4, e97_5, e97_6, e97_7, e97_8, e97_11, e97_12, e97_13, e97_14, e97_15, e97_18, e97_19, e97_20, e97_21, e97_22, e97_25, e97_26, e97_29, e97_30, e97_31, zG1, zG2, zG3, zG4, zG5, zG6, zG7, zG8, zNn, s3, s4, zk_wi, zr_wi, bk119 B, bk120 B, bk121 B, bk122 B, bk123 B, bk124 B, bk125 B, bk126 B, bk127 B, bk128 B, bk129 B, bk130 B, bk131 B, bk132 B, bk133 B, bk134 B, bk135 B, bk136 B, bk137 B, bk138 B, bk139 B, bk140 B, bk141 B, bk142 B, br1 B, br2 B, br3 B, br4 B, br5 B, br6 B, br7 B, br8 B, br9 B, br10 B, br11 B, br12 B, br13 B, br14 B, br15 B, br16 B, br17 B, br18 B, br19 B, br20 B, br21 B, br22 B, br23 B, q3, q4, q5, q6, hsl', or_true, true_or, if_true, if_false, Option.bind_some, Option.toList_some, Option.toList_none, List.nil_append, List.cons_append]
theorem R_term {sp : Nat × (Nat → Int32)} {M0 M : zM} {S : yS} {k kind a b n t : Nat} (h : RR M0 M S) (hK : yK n t S) (hn : n < 1600) (ht : t < 512) (hk : k < 30) (hs : ysw (k / 3) = false) (hkd : kind < 8) : ∃ M', zV (zPr sp) (96, 0, [.ref 119, .int (nI k), .int (nI kind), .int (nI a), .int (nI b), .double 0], [], M) = some (none, M') ∧ RR M0 M' (yArrT S k kind a b) := by
  have B := h.1
  obtain ⟨-, -, s3, s4, -⟩ := h.2.1
  have q3 : zin (nI k) 30 = true := zin_nI hk (by decide)
  have q4 : (nI k).toNatClampNeg = k := nI_clamp (by omega)
  have hsl : ysl k < 12 := (by decide +kernel : ∀ k, k < 30 → ysw (k / 3) = false → ysl k < 12) k hk hs
  have q5 : zin (nI (ysl k)) 12 = true := zin_nI hsl (by decide)
  have q6 : (nI (ysl k)).toNatClampNeg = ysl k := nI_clamp (by omega)
  have g := (h.2.2.2.1 k hk).1
  have st : ∀ m, RR M0 (zwi M 134 k (nI m)) (ynS S 5 k m) := fun m => RR_st h (fun z => by rw [hs] at z; cases z)
  have hKs : ∀ m, m ≤ 5 → yK n t (ynS S 5 k m) := fun m hm => (yK_st hK hm hk (fun z => by rw [hs] at z; cases z)).1
  have gi := (hK.2.1 k hk).1
  have w : ∀ m, m < 6 → (nI (yn S 5 k) = nI m) = (yn S 5 k = m) := fun m hm => st_eq hK.2.1 hk hm
  have w0 : (nI (yn S 5 k) = 0) = (yn S 5 k = 0) := w 0 (by decide)
  have w1 : (nI (yn S 5 k) = 1) = (yn S 5 k = 1) := w 1 (by decide)
  have w3 : (nI (yn S 5 k) = 3) = (yn S 5 k = 3) := w 3 (by decide)
  have w4 : (nI (yn S 5 k) = 4) = (yn S 5 k = 4) := w 4 (by decide)
  have w5 : (nI (yn S 5 k) = 5) = (yn S 5 k = 5) := w 5 (by decide)
  have c : ∀ m, m < 8 → (nI kind = nI m) = (kind = m) := fun m hm => propext (nI_eq (by omega) (by omega))
  have c0 : (nI kind = 0) = (kind = 0) := c 0 (by decide)
  have c1 : (nI kind = 1) = (kind = 1) := c 1 (by decide)
  have c2 : (nI kind = 2) = (kind = 2) := c 2 (by decide)
  have c3 : (nI kind = 3) = (kind = 3) := c 3 (by decide)
  have c4 : (nI kind = 4) = (kind = 4) := c 4 (by decide)
  have c5 : (nI kind = 5) = (kind = 5) := c 5 (by decide)
  have c6 : (nI kind = 6) = (kind = 6) := c 6 (by decide)
  have c7 : (nI kind = 7) = (kind = 7) := c 7 (by decide)
  clear c w
  unfold yArrT
  have hsl' := fun M => R_slot (sp := sp) (M := M) hk
  by_cases k0 : kind = 0
  · rw [if_pos k0]
    have c0 := c0.trans (eq_true k0)
    have c1 := c1.trans (eq_false (by omega))
    have c2 := c2.trans (eq_false (by omega))
    have c3 := c3.trans (eq_false (by omega))
    have c4 := c4.trans (eq_false (by omega))
    have c5 := c5.trans (eq_false (by omega))
    have c6 := c6.trans (eq_false (by omega))
    have c7 := c7.trans (eq_false (by omega))
    by_cases hq : yn S 5 k = 0
    · rw [if_pos hq]
      have w0 := w0.trans (eq_true hq)
      have a1 : RR M0 (zwi M 134 k 2) (ynS S 5 k 2) := st 2
      have a2 : RR M0 (zwi (zwi M 134 k 2) 137 k (nI b)) (ynS (ynS S 5 k 2) 7 k b) := RR_t (f := 7) a1 (by decide) (by decide)
      obtain ⟨M1, r1, r2⟩ := R_renew (sp := sp) a2 hk hs
      refine ⟨M1, ?_, r2⟩
      simp only [e96_0, e96_1, e96_4, e96_5, e96_6, e96_8, e96_9, e96_12, e96_14, e96_17, e96_18, e96_21, e96_22, e96_23, e96_24, e96_25, e96_28, e96_29, e96_31, e96_32, e96_33, e96_34, e96_37, e96_40, e96_41, e96_42, e96_45, e96_47, e96_48, e96_51, e96_52, e96_55, e96_56, e96_57, e96_58, e96_61, e96_62, e96_63, e96_66, e96_67, e96_70, e96_71, e96_72, e96_73, e96_75, e96_76, e96_79, e96_80, e96_81, e96_82, e96_85, e96_88, e96_89, e96_90, e96_93, e96_95, e96_96, e96_99, e96_100, e96_103, e96_104, e96_105, e96_106, e96_109, e96_110, e96_111, e96_114, e96_116, e96_117, e96_120, e96_121, e96_124, e96_127, e96_128, e96_131, e96_132, e96_133, e96_136, e96_137, e96_140, e96_141, e96_142, e96_144, e96_145, e96_146, e96_149, e96_150, e96_153, e96_154, e96_155, e96_156, e96_157, e96_158, e96_161, e96_162, e96_163, e96_166, e96_168, e96_169, e96_172, e96_173, e96_176, e96_177, e96_178, e96_179, e96_182, e96_183, e96_185, e96_188, e96_190, e96_191, e96_194, e96_195, e96_196, e96_199, e96_200, e96_201, e96_203, e96_206, e96_209, e96_210, e96_212, e96_215, e96_216, e96_218, e96_221, e96_223, e96_224, e96_227, e96_228, e96_231, e96_232, e96_233, e96_234, zG1, zG2, zG3, zG4, zG5, zG6, zG7, zG8, zNn, s3, s4, zk_wi, zr_wi, bk119 B, bk120 B, bk121 B, bk122 B, bk123 B, bk124 B, bk125 B, bk126 B, bk127 B, bk128 B, bk129 B, bk130 B, bk131 B, bk132 B, bk133 B, bk134 B, bk135 B, bk136 B, bk137 B, bk138 B, bk139 B, bk140 B, bk141 B, bk142 B, br1 B, br2 B, br3 B, br4 B, br5 B, br6 B, br7 B, br8 B, br9 B, br10 B, br11 B, br12 B, br13 B, br14 B, br15 B, br16 B, br17 B, br18 B, br19 B, br20 B, br21 B, br22 B, br23 B, q3, q4, g, c0, w0, r1, or_true, true_or, if_true, if_false, Option.bind_some, Option.toList_some, Option.toList_none, List.nil_append, List.cons_append]
    · rw [if_neg hq]
      have w0 := w0.trans (eq_false hq)
      refine ⟨M, ?_, h⟩
      simp only [e96_0, e96_1, e96_4, e96_5, e96_6, e96_8, e96_9, e96_12, e96_14, e96_17, e96_18, e96_21, e96_22, e96_23, e96_24, e96_25, e96_28, e96_29, e96_31, e96_32, e96_33, e96_34, e96_37, e96_40, e96_41, e96_42, e96_45, e96_47, e96_48, e96_51, e96_52, e96_55, e96_56, e96_57, e96_58, e96_61, e96_62, e96_63, e96_66, e96_67, e96_70, e96_71, e96_72, e96_73, e96_75, e96_76, e96_79, e96_80, e96_81, e96_82, e96_85, e96_88, e96_89, e96_90, e96_93, e96_95, e96_96, e96_99, e96_100, e96_103, e96_104, e96_105, e96_106, e96_109, e96_110, e96_111, e96_114, e96_116, e96_117, e96_120, e96_121, e96_124, e96_127, e96_128, e96_131, e96_132, e96_133, e96_136, e96_137, e96_140, e96_141, e96_142, e96_144, e96_145, e96_146, e96_149, e96_150, e96_153, e96_154, e96_155, e96_156, e96_157, e96_158, e96_161, e96_162, e96_163, e96_166, e96_168, e96_169, e96_172, e96_173, e96_176, e96_177, e96_178, e96_179, e96_182, e96_183, e96_185, e96_188, e96_190, e96_191, e96_194, e96_195, e96_196, e96_199, e96_200, e96_201, e96_203, e96_206, e96_209, e96_210, e96_212, e96_215, e96_216, e96_218, e96_221, e96_223, e96_224, e96_227, e96_228, e96_231, e96_232, e96_233, e96_234, zG1, zG2, zG3, zG4, zG5, zG6, zG7, zG8, zNn, s3, s4, zk_wi, zr_wi, bk119 B, bk120 B, bk121 B, bk122 B, bk123 B, bk124 B, bk125 B, bk126 B, bk127 B, bk128 B, bk129 B, bk130 B, bk131 B, bk132 B, bk133 B, bk134 B, bk135 B, bk136 B, bk137 B, bk138 B, bk139 B, bk140 B, bk141 B, bk142 B, br1 B, br2 B, br3 B, br4 B, br5 B, br6 B, br7 B, br8 B, br9 B, br10 B, br11 B, br12 B, br13 B, br14 B, br15 B, br16 B, br17 B, br18 B, br19 B, br20 B, br21 B, br22 B, br23 B, q3, q4, g, c0, c1, c2, c3, c4, c5, c6, c7, w0, or_true, true_or, if_true, if_false, Option.bind_some, Option.toList_some, Option.toList_none, List.nil_append, List.cons_append]
  rw [if_neg k0]
  have c0 := c0.trans (eq_false k0)
  by_cases k1 : kind = 1
  · rw [if_pos k1]
    have c1 := c1.trans (eq_true k1)
    have c2 := c2.trans (eq_false (by omega))
    have c3 := c3.trans (eq_false (by omega))
    have c4 := c4.trans (eq_false (by omega))
    have c5 := c5.trans (eq_false (by omega))
    have c6 := c6.trans (eq_false (by omega))
    have c7 := c7.trans (eq_false (by omega))
    by_cases hq : yn S 5 k = 1
    · rw [if_pos hq]
      have w1 := w1.trans (eq_true hq)
      have a1 : RR M0 (zwi M 134 k 3) (ynS S 5 k 3) := st 3
      refine ⟨_, ?_, a1⟩
      simp only [e96_0, e96_1, e96_4, e96_5, e96_6, e96_8, e96_9, e96_12, e96_14, e96_17, e96_18, e96_21, e96_22, e96_23, e96_24, e96_25, e96_28, e96_29, e96_31, e96_32, e96_33, e96_34, e96_37, e96_40, e96_41, e96_42, e96_45, e96_47, e96_48, e96_51, e96_52, e96_55, e96_56, e96_57, e96_58, e96_61, e96_62, e96_63, e96_66, e96_67, e96_70, e96_71, e96_72, e96_73, e96_75, e96_76, e96_79, e96_80, e96_81, e96_82, e96_85, e96_88, e96_89, e96_90, e96_93, e96_95, e96_96, e96_99, e96_100, e96_103, e96_104, e96_105, e96_106, e96_109, e96_110, e96_111, e96_114, e96_116, e96_117, e96_120, e96_121, e96_124, e96_127, e96_128, e96_131, e96_132, e96_133, e96_136, e96_137, e96_140, e96_141, e96_142, e96_144, e96_145, e96_146, e96_149, e96_150, e96_153, e96_154, e96_155, e96_156, e96_157, e96_158, e96_161, e96_162, e96_163, e96_166, e96_168, e96_169, e96_172, e96_173, e96_176, e96_177, e96_178, e96_179, e96_182, e96_183, e96_185, e96_188, e96_190, e96_191, e96_194, e96_195, e96_196, e96_199, e96_200, e96_201, e96_203, e96_206, e96_209, e96_210, e96_212, e96_215, e96_216, e96_218, e96_221, e96_223, e96_224, e96_227, e96_228, e96_231, e96_232, e96_233, e96_234, zG1, zG2, zG3, zG4, zG5, zG6, zG7, zG8, zNn, s3, s4, zk_wi, zr_wi, bk119 B, bk120 B, bk121 B, bk122 B, bk123 B, bk124 B, bk125 B, bk126 B, bk127 B, bk128 B, bk129 B, bk130 B, bk131 B, bk132 B, bk133 B, bk134 B, bk135 B, bk136 B, bk137 B, bk138 B, bk139 B, bk140 B, bk141 B, bk142 B, br1 B, br2 B, br3 B, br4 B, br5 B, br6 B, br7 B, br8 B, br9 B, br10 B, br11 B, br12 B, br13 B, br14 B, br15 B, br16 B, br17 B, br18 B, br19 B, br20 B, br21 B, br22 B, br23 B, q3, q4, g, c0, c1, w1, or_true, true_or, if_true, if_false, Option.bind_some, Option.toList_some, Option.toList_none, List.nil_append, List.cons_append]
    · rw [if_neg hq]
      have w1 := w1.trans (eq_false hq)
      refine ⟨M, ?_, h⟩
      simp only [e96_0, e96_1, e96_4, e96_5, e96_6, e96_8, e96_9, e96_12, e96_14, e96_17, e96_18, e96_21, e96_22, e96_23, e96_24, e96_25, e96_28, e96_29, e96_31, e96_32, e96_33, e96_34, e96_37, e96_40, e96_41, e96_42, e96_45, e96_47, e96_48, e96_51, e96_52, e96_55, e96_56, e96_57, e96_58, e96_61, e96_62, e96_63, e96_66, e96_67, e96_70, e96_71, e96_72, e96_73, e96_75, e96_76, e96_79, e96_80, e96_81, e96_82, e96_85, e96_88, e96_89, e96_90, e96_93, e96_95, e96_96, e96_99, e96_100, e96_103, e96_104, e96_105, e96_106, e96_109, e96_110, e96_111, e96_114, e96_116, e96_117, e96_120, e96_121, e96_124, e96_127, e96_128, e96_131, e96_132, e96_133, e96_136, e96_137, e96_140, e96_141, e96_142, e96_144, e96_145, e96_146, e96_149, e96_150, e96_153, e96_154, e96_155, e96_156, e96_157, e96_158, e96_161, e96_162, e96_163, e96_166, e96_168, e96_169, e96_172, e96_173, e96_176, e96_177, e96_178, e96_179, e96_182, e96_183, e96_185, e96_188, e96_190, e96_191, e96_194, e96_195, e96_196, e96_199, e96_200, e96_201, e96_203, e96_206, e96_209, e96_210, e96_212, e96_215, e96_216, e96_218, e96_221, e96_223, e96_224, e96_227, e96_228, e96_231, e96_232, e96_233, e96_234, zG1, zG2, zG3, zG4, zG5, zG6, zG7, zG8, zNn, s3, s4, zk_wi, zr_wi, bk119 B, bk120 B, bk121 B, bk122 B, bk123 B, bk124 B, bk125 B, bk126 B, bk127 B, bk128 B, bk129 B, bk130 B, bk131 B, bk132 B, bk133 B, bk134 B, bk135 B, bk136 B, bk137 B, bk138 B, bk139 B, bk140 B, bk141 B, bk142 B, br1 B, br2 B, br3 B, br4 B, br5 B, br6 B, br7 B, br8 B, br9 B, br10 B, br11 B, br12 B, br13 B, br14 B, br15 B, br16 B, br17 B, br18 B, br19 B, br20 B, br21 B, br22 B, br23 B, q3, q4, g, c0, c1, c2, c3, c4, c5, c6, c7, w1, or_true, true_or, if_true, if_false, Option.bind_some, Option.toList_some, Option.toList_none, List.nil_append, List.cons_append]
  rw [if_neg k1]
  have c1 := c1.trans (eq_false k1)
  by_cases k2 : kind = 2
  · rw [if_pos k2]
    have c2 := c2.trans (eq_true k2)
    have a1 : RR M0 (zwi M 134 k 0) (ynS S 5 k 0) := st 0
    by_cases hq : yn S 5 k = 5
    · rw [if_pos hq]
      have w5 := w5.trans (eq_true hq)
      refine ⟨_, ?_, a1⟩
      simp only [e96_0, e96_1, e96_4, e96_5, e96_6, e96_8, e96_9, e96_12, e96_14, e96_17, e96_18, e96_21, e96_22, e96_23, e96_24, e96_25, e96_28, e96_29, e96_31, e96_32, e96_33, e96_34, e96_37, e96_40, e96_41, e96_42, e96_45, e96_47, e96_48, e96_51, e96_52, e96_55, e96_56, e96_57, e96_58, e96_61, e96_62, e96_63, e96_66, e96_67, e96_70, e96_71, e96_72, e96_73, e96_75, e96_76, e96_79, e96_80, e96_81, e96_82, e96_85, e96_88, e96_89, e96_90, e96_93, e96_95, e96_96, e96_99, e96_100, e96_103, e96_104, e96_105, e96_106, e96_109, e96_110, e96_111, e96_114, e96_116, e96_117, e96_120, e96_121, e96_124, e96_127, e96_128, e96_131, e96_132, e96_133, e96_136, e96_137, e96_140, e96_141, e96_142, e96_144, e96_145, e96_146, e96_149, e96_150, e96_153, e96_154, e96_155, e96_156, e96_157, e96_158, e96_161, e96_162, e96_163, e96_166, e96_168, e96_169, e96_172, e96_173, e96_176, e96_177, e96_178, e96_179, e96_182, e96_183, e96_185, e96_188, e96_190, e96_191, e96_194, e96_195, e96_196, e96_199, e96_200, e96_201, e96_203, e96_206, e96_209, e96_210, e96_212, e96_215, e96_216, e96_218, e96_221, e96_223, e96_224, e96_227, e96_228, e96_231, e96_232, e96_233, e96_234, zG1, zG2, zG3, zG4, zG5, zG6, zG7, zG8, zNn, s3, s4, zk_wi, zr_wi, bk119 B, bk120 B, bk121 B, bk122 B, bk123 B, bk124 B, bk125 B, bk126 B, bk127 B, bk128 B, bk129 B, bk130 B, bk131 B, bk132 B, bk133 B, bk134 B, bk135 B, bk136 B, bk137 B, bk138 B, bk139 B, bk140 B, bk141 B, bk142 B, br1 B, br2 B, br3 B, br4 B, br5 B, br6 B, br7 B, br8 B, br9 B, br10 B, br11 B, br12 B, br13 B, br14 B, br15 B, br16 B, br17 B, br18 B, br19 B, br20 B, br21 B, br22 B, br23 B, q3, q4, g, c0, c1, c2, w5, or_true, true_or, if_true, if_false, Option.bind_some, Option.toList_some, Option.toList_none, List.nil_append, List.cons_append]
    · rw [if_neg hq]
      have w5 := w5.trans (eq_false hq)
      obtain ⟨M1, r1, r2⟩ := R_puto (sp := sp) (kd := 3) a1 (hKs 0 (by decide)) hn hk (by decide) (by decide)
      have r1 : zV (zPr sp) (83, 0, [.ref 119, .int (nI k), .int 3], [], zwi M 134 k 0) = some (none, M1) := r1
      refine ⟨M1, ?_, r2⟩
      simp only [e96_0, e96_1, e96_4, e96_5, e96_6, e96_8, e96_9, e96_12, e96_14, e96_17, e96_18, e96_21, e96_22, e96_23, e96_24, e96_25, e96_28, e96_29, e96_31, e96_32, e96_33, e96_34, e96_37, e96_40, e96_41, e96_42, e96_45, e96_47, e96_48, e96_51, e96_52, e96_55, e96_56, e96_57, e96_58, e96_61, e96_62, e96_63, e96_66, e96_67, e96_70, e96_71, e96_72, e96_73, e96_75, e96_76, e96_79, e96_80, e96_81, e96_82, e96_85, e96_88, e96_89, e96_90, e96_93, e96_95, e96_96, e96_99, e96_100, e96_103, e96_104, e96_105, e96_106, e96_109, e96_110, e96_111, e96_114, e96_116, e96_117, e96_120, e96_121, e96_124, e96_127, e96_128, e96_131, e96_132, e96_133, e96_136, e96_137, e96_140, e96_141, e96_142, e96_144, e96_145, e96_146, e96_149, e96_150, e96_153, e96_154, e96_155, e96_156, e96_157, e96_158, e96_161, e96_162, e96_163, e96_166, e96_168, e96_169, e96_172, e96_173, e96_176, e96_177, e96_178, e96_179, e96_182, e96_183, e96_185, e96_188, e96_190, e96_191, e96_194, e96_195, e96_196, e96_199, e96_200, e96_201, e96_203, e96_206, e96_209, e96_210, e96_212, e96_215, e96_216, e96_218, e96_221, e96_223, e96_224, e96_227, e96_228, e96_231, e96_232, e96_233, e96_234, zG1, zG2, zG3, zG4, zG5, zG6, zG7, zG8, zNn, s3, s4, zk_wi, zr_wi, bk119 B, bk120 B, bk121 B, bk122 B, bk123 B, bk124 B, bk125 B, bk126 B, bk127 B, bk128 B, bk129 B, bk130 B, bk131 B, bk132 B, bk133 B, bk134 B, bk135 B, bk136 B, bk137 B, bk138 B, bk139 B, bk140 B, bk141 B, bk142 B, br1 B, br2 B, br3 B, br4 B, br5 B, br6 B, br7 B, br8 B, br9 B, br10 B, br11 B, br12 B, br13 B, br14 B, br15 B, br16 B, br17 B, br18 B, br19 B, br20 B, br21 B, br22 B, br23 B, q3, q4, g, c0, c1, c2, w5, r1, or_true, true_or, if_true, if_false, Option.bind_some, Option.toList_some, Option.toList_none, List.nil_append, List.cons_append]
  rw [if_neg k2]
  have c2 := c2.trans (eq_false k2)
  by_cases k3 : kind = 3
  · rw [if_pos k3]
    have c3 := c3.trans (eq_true k3)
    have c4 := c4.trans (eq_false (by omega))
    have c5 := c5.trans (eq_false (by omega))
    have c6 := c6.trans (eq_false (by omega))
    have c7 := c7.trans (eq_false (by omega))
    by_cases hq : yn S 5 k = 5
    · rw [if_pos hq]
      have w5 := w5.trans (eq_true hq)
      have a1 : RR M0 (zwi M 134 k 0) (ynS S 5 k 0) := st 0
      refine ⟨_, ?_, a1⟩
      simp only [e96_0, e96_1, e96_4, e96_5, e96_6, e96_8, e96_9, e96_12, e96_14, e96_17, e96_18, e96_21, e96_22, e96_23, e96_24, e96_25, e96_28, e96_29, e96_31, e96_32, e96_33, e96_34, e96_37, e96_40, e96_41, e96_42, e96_45, e96_47, e96_48, e96_51, e96_52, e96_55, e96_56, e96_57, e96_58, e96_61, e96_62, e96_63, e96_66, e96_67, e96_70, e96_71, e96_72, e96_73, e96_75, e96_76, e96_79, e96_80, e96_81, e96_82, e96_85, e96_88, e96_89, e96_90, e96_93, e96_95, e96_96, e96_99, e96_100, e96_103, e96_104, e96_105, e96_106, e96_109, e96_110, e96_111, e96_114, e96_116, e96_117, e96_120, e96_121, e96_124, e96_127, e96_128, e96_131, e96_132, e96_133, e96_136, e96_137, e96_140, e96_141, e96_142, e96_144, e96_145, e96_146, e96_149, e96_150, e96_153, e96_154, e96_155, e96_156, e96_157, e96_158, e96_161, e96_162, e96_163, e96_166, e96_168, e96_169, e96_172, e96_173, e96_176, e96_177, e96_178, e96_179, e96_182, e96_183, e96_185, e96_188, e96_190, e96_191, e96_194, e96_195, e96_196, e96_199, e96_200, e96_201, e96_203, e96_206, e96_209, e96_210, e96_212, e96_215, e96_216, e96_218, e96_221, e96_223, e96_224, e96_227, e96_228, e96_231, e96_232, e96_233, e96_234, zG1, zG2, zG3, zG4, zG5, zG6, zG7, zG8, zNn, s3, s4, zk_wi, zr_wi, bk119 B, bk120 B, bk121 B, bk122 B, bk123 B, bk124 B, bk125 B, bk126 B, bk127 B, bk128 B, bk129 B, bk130 B, bk131 B, bk132 B, bk133 B, bk134 B, bk135 B, bk136 B, bk137 B, bk138 B, bk139 B, bk140 B, bk141 B, bk142 B, br1 B, br2 B, br3 B, br4 B, br5 B, br6 B, br7 B, br8 B, br9 B, br10 B, br11 B, br12 B, br13 B, br14 B, br15 B, br16 B, br17 B, br18 B, br19 B, br20 B, br21 B, br22 B, br23 B, q3, q4, g, c0, c1, c2, c3, w5, or_true, true_or, if_true, if_false, Option.bind_some, Option.toList_some, Option.toList_none, List.nil_append, List.cons_append]
    · rw [if_neg hq]
      have w5 := w5.trans (eq_false hq)
      refine ⟨M, ?_, h⟩
      simp only [e96_0, e96_1, e96_4, e96_5, e96_6, e96_8, e96_9, e96_12, e96_14, e96_17, e96_18, e96_21, e96_22, e96_23, e96_24, e96_25, e96_28, e96_29, e96_31, e96_32, e96_33, e96_34, e96_37, e96_40, e96_41, e96_42, e96_45, e96_47, e96_48, e96_51, e96_52, e96_55, e96_56, e96_57, e96_58, e96_61, e96_62, e96_63, e96_66, e96_67, e96_70, e96_71, e96_72, e96_73, e96_75, e96_76, e96_79, e96_80, e96_81, e96_82, e96_85, e96_88, e96_89, e96_90, e96_93, e96_95, e96_96, e96_99, e96_100, e96_103, e96_104, e96_105, e96_106, e96_109, e96_110, e96_111, e96_114, e96_116, e96_117, e96_120, e96_121, e96_124, e96_127, e96_128, e96_131, e96_132, e96_133, e96_136, e96_137, e96_140, e96_141, e96_142, e96_144, e96_145, e96_146, e96_149, e96_150, e96_153, e96_154, e96_155, e96_156, e96_157, e96_158, e96_161, e96_162, e96_163, e96_166, e96_168, e96_169, e96_172, e96_173, e96_176, e96_177, e96_178, e96_179, e96_182, e96_183, e96_185, e96_188, e96_190, e96_191, e96_194, e96_195, e96_196, e96_199, e96_200, e96_201, e96_203, e96_206, e96_209, e96_210, e96_212, e96_215, e96_216, e96_218, e96_221, e96_223, e96_224, e96_227, e96_228, e96_231, e96_232, e96_233, e96_234, zG1, zG2, zG3, zG4, zG5, zG6, zG7, zG8, zNn, s3, s4, zk_wi, zr_wi, bk119 B, bk120 B, bk121 B, bk122 B, bk123 B, bk124 B, bk125 B, bk126 B, bk127 B, bk128 B, bk129 B, bk130 B, bk131 B, bk132 B, bk133 B, bk134 B, bk135 B, bk136 B, bk137 B, bk138 B, bk139 B, bk140 B, bk141 B, bk142 B, br1 B, br2 B, br3 B, br4 B, br5 B, br6 B, br7 B, br8 B, br9 B, br10 B, br11 B, br12 B, br13 B, br14 B, br15 B, br16 B, br17 B, br18 B, br19 B, br20 B, br21 B, br22 B, br23 B, q3, q4, g, c0, c1, c2, c3, c4, c5, c6, c7, w5, or_true, true_or, if_true, if_false, Option.bind_some, Option.toList_some, Option.toList_none, List.nil_append, List.cons_append]
  rw [if_neg k3]
  have c3 := c3.trans (eq_false k3)
  by_cases k4 : kind = 4
  · rw [if_pos k4]
    have c4 := c4.trans (eq_true k4)
    have c5 := c5.trans (eq_false (by omega))
    have c6 := c6.trans (eq_false (by omega))
    have c7 := c7.trans (eq_false (by omega))
    by_cases hq : yn S 5 k = 3
    · rw [if_pos hq]
      have w3 := w3.trans (eq_true hq)
      have hl := (hK.2.2.1 (ysl k) hsl).1
      have a1 : RR M0 (zwi (zwi M 142 (512 * ysl k + (yv S (ysl k)).length) (nI b)) 141 (ysl k) (nI ((yv S (ysl k)).length + 1))) (yvS S (ysl k) (yv S (ysl k) ++ [b])) := RR_va h hsl (fun s hs => by have := (hK.2.2.1 s hs).1; omega) (by omega)
      have v1 := (h.2.2.2.2.1 (ysl k) hsl).1
      have m512 : 512 * nI (ysl k) = nI (512 * ysl k) := pk_mul 512 _
      have aa : nI (512 * ysl k) + nI (yv S (ysl k)).length = nI (512 * ysl k + (yv S (ysl k)).length) := nI_add _ _
      have q7 : zin (nI (512 * ysl k + (yv S (ysl k)).length)) 6144 = true := zin_nI (by omega) (by decide)
      have q8 : (nI (512 * ysl k + (yv S (ysl k)).length)).toNatClampNeg = 512 * ysl k + (yv S (ysl k)).length := nI_clamp (by omega)
      refine ⟨_, ?_, a1⟩
      simp only [e96_0, e96_1, e96_4, e96_5, e96_6, e96_8, e96_9, e96_12, e96_14, e96_17, e96_18, e96_21, e96_22, e96_23, e96_24, e96_25, e96_28, e96_29, e96_31, e96_32, e96_33, e96_34, e96_37, e96_40, e96_41, e96_42, e96_45, e96_47, e96_48, e96_51, e96_52, e96_55, e96_56, e96_57, e96_58, e96_61, e96_62, e96_63, e96_66, e96_67, e96_70, e96_71, e96_72, e96_73, e96_75, e96_76, e96_79, e96_80, e96_81, e96_82, e96_85, e96_88, e96_89, e96_90, e96_93, e96_95, e96_96, e96_99, e96_100, e96_103, e96_104, e96_105, e96_106, e96_109, e96_110, e96_111, e96_114, e96_116, e96_117, e96_120, e96_121, e96_124, e96_127, e96_128, e96_131, e96_132, e96_133, e96_136, e96_137, e96_140, e96_141, e96_142, e96_144, e96_145, e96_146, e96_149, e96_150, e96_153, e96_154, e96_155, e96_156, e96_157, e96_158, e96_161, e96_162, e96_163, e96_166, e96_168, e96_169, e96_172, e96_173, e96_176, e96_177, e96_178, e96_179, e96_182, e96_183, e96_185, e96_188, e96_190, e96_191, e96_194, e96_195, e96_196, e96_199, e96_200, e96_201, e96_203, e96_206, e96_209, e96_210, e96_212, e96_215, e96_216, e96_218, e96_221, e96_223, e96_224, e96_227, e96_228, e96_231, e96_232, e96_233, e96_234, zG1, zG2, zG3, zG4, zG5, zG6, zG7, zG8, zNn, s3, s4, zk_wi, zr_wi, bk119 B, bk120 B, bk121 B, bk122 B, bk123 B, bk124 B, bk125 B, bk126 B, bk127 B, bk128 B, bk129 B, bk130 B, bk131 B, bk132 B, bk133 B, bk134 B, bk135 B, bk136 B, bk137 B, bk138 B, bk139 B, bk140 B, bk141 B, bk142 B, br1 B, br2 B, br3 B, br4 B, br5 B, br6 B, br7 B, br8 B, br9 B, br10 B, br11 B, br12 B, br13 B, br14 B, br15 B, br16 B, br17 B, br18 B, br19 B, br20 B, br21 B, br22 B, br23 B, q3, q4, q5, q6, g, c0, c1, c2, c3, c4, w3, hsl', m512, zi_wi, Nat.reduceEqDiff, false_and, v1, aa, q7, q8, nI_1, or_true, true_or, if_true, if_false, Option.bind_some, Option.toList_some, Option.toList_none, List.nil_append, List.cons_append]
    · rw [if_neg hq]
      have w3 := w3.trans (eq_false hq)
      refine ⟨M, ?_, h⟩
      simp only [e96_0, e96_1, e96_4, e96_5, e96_6, e96_8, e96_9, e96_12, e96_14, e96_17, e96_18, e96_21, e96_22, e96_23, e96_24, e96_25, e96_28, e96_29, e96_31, e96_32, e96_33, e96_34, e96_37, e96_40, e96_41, e96_42, e96_45, e96_47, e96_48, e96_51, e96_52, e96_55, e96_56, e96_57, e96_58, e96_61, e96_62, e96_63, e96_66, e96_67, e96_70, e96_71, e96_72, e96_73, e96_75, e96_76, e96_79, e96_80, e96_81, e96_82, e96_85, e96_88, e96_89, e96_90, e96_93, e96_95, e96_96, e96_99, e96_100, e96_103, e96_104, e96_105, e96_106, e96_109, e96_110, e96_111, e96_114, e96_116, e96_117, e96_120, e96_121, e96_124, e96_127, e96_128, e96_131, e96_132, e96_133, e96_136, e96_137, e96_140, e96_141, e96_142, e96_144, e96_145, e96_146, e96_149, e96_150, e96_153, e96_154, e96_155, e96_156, e96_157, e96_158, e96_161, e96_162, e96_163, e96_166, e96_168, e96_169, e96_172, e96_173, e96_176, e96_177, e96_178, e96_179, e96_182, e96_183, e96_185, e96_188, e96_190, e96_191, e96_194, e96_195, e96_196, e96_199, e96_200, e96_201, e96_203, e96_206, e96_209, e96_210, e96_212, e96_215, e96_216, e96_218, e96_221, e96_223, e96_224, e96_227, e96_228, e96_231, e96_232, e96_233, e96_234, zG1, zG2, zG3, zG4, zG5, zG6, zG7, zG8, zNn, s3, s4, zk_wi, zr_wi, bk119 B, bk120 B, bk121 B, bk122 B, bk123 B, bk124 B, bk125 B, bk126 B, bk127 B, bk128 B, bk129 B, bk130 B, bk131 B, bk132 B, bk133 B, bk134 B, bk135 B, bk136 B, bk137 B, bk138 B, bk139 B, bk140 B, bk141 B, bk142 B, br1 B, br2 B, br3 B, br4 B, br5 B, br6 B, br7 B, br8 B, br9 B, br10 B, br11 B, br12 B, br13 B, br14 B, br15 B, br16 B, br17 B, br18 B, br19 B, br20 B, br21 B, br22 B, br23 B, q3, q4, g, c0, c1, c2, c3, c4, c5, c6, c7, w3, or_true, true_or, if_true, if_false, Option.bind_some, Option.toList_some, Option.toList_none, List.nil_append, List.cons_append]
  rw [if_neg k4]
  have c4 := c4.trans (eq_false k4)
  by_cases k5 : kind = 5
  · rw [if_pos k5]
    have c5 := c5.trans (eq_true k5)
    have c6 := c6.trans (eq_false (by omega))
    have c7 := c7.trans (eq_false (by omega))
    by_cases hq : yn S 5 k = 3
    · rw [if_pos hq]
      have w3 := w3.trans (eq_true hq)
      have a1 : RR M0 (zwi M 139 k (nI a)) (ynS S 9 k a) := RR_t (f := 9) h (by decide) (by decide)
      refine ⟨_, ?_, a1⟩
      simp only [e96_0, e96_1, e96_4, e96_5, e96_6, e96_8, e96_9, e96_12, e96_14, e96_17, e96_18, e96_21, e96_22, e96_23, e96_24, e96_25, e96_28, e96_29, e96_31, e96_32, e96_33, e96_34, e96_37, e96_40, e96_41, e96_42, e96_45, e96_47, e96_48, e96_51, e96_52, e96_55, e96_56, e96_57, e96_58, e96_61, e96_62, e96_63, e96_66, e96_67, e96_70, e96_71, e96_72, e96_73, e96_75, e96_76, e96_79, e96_80, e96_81, e96_82, e96_85, e96_88, e96_89, e96_90, e96_93, e96_95, e96_96, e96_99, e96_100, e96_103, e96_104, e96_105, e96_106, e96_109, e96_110, e96_111, e96_114, e96_116, e96_117, e96_120, e96_121, e96_124, e96_127, e96_128, e96_131, e96_132, e96_133, e96_136, e96_137, e96_140, e96_141, e96_142, e96_144, e96_145, e96_146, e96_149, e96_150, e96_153, e96_154, e96_155, e96_156, e96_157, e96_158, e96_161, e96_162, e96_163, e96_166, e96_168, e96_169, e96_172, e96_173, e96_176, e96_177, e96_178, e96_179, e96_182, e96_183, e96_185, e96_188, e96_190, e96_191, e96_194, e96_195, e96_196, e96_199, e96_200, e96_201, e96_203, e96_206, e96_209, e96_210, e96_212, e96_215, e96_216, e96_218, e96_221, e96_223, e96_224, e96_227, e96_228, e96_231, e96_232, e96_233, e96_234, zG1, zG2, zG3, zG4, zG5, zG6, zG7, zG8, zNn, s3, s4, zk_wi, zr_wi, bk119 B, bk120 B, bk121 B, bk122 B, bk123 B, bk124 B, bk125 B, bk126 B, bk127 B, bk128 B, bk129 B, bk130 B, bk131 B, bk132 B, bk133 B, bk134 B, bk135 B, bk136 B, bk137 B, bk138 B, bk139 B, bk140 B, bk141 B, bk142 B, br1 B, br2 B, br3 B, br4 B, br5 B, br6 B, br7 B, br8 B, br9 B, br10 B, br11 B, br12 B, br13 B, br14 B, br15 B, br16 B, br17 B, br18 B, br19 B, br20 B, br21 B, br22 B, br23 B, q3, q4, g, c0, c1, c2, c3, c4, c5, w3, or_true, true_or, if_true, if_false, Option.bind_some, Option.toList_some, Option.toList_none, List.nil_append, List.cons_append]
    · rw [if_neg hq]
      have w3 := w3.trans (eq_false hq)
      refine ⟨M, ?_, h⟩
      simp only [e96_0, e96_1, e96_4, e96_5, e96_6, e96_8, e96_9, e96_12, e96_14, e96_17, e96_18, e96_21, e96_22, e96_23, e96_24, e96_25, e96_28, e96_29, e96_31, e96_32, e96_33, e96_34, e96_37, e96_40, e96_41, e96_42, e96_45, e96_47, e96_48, e96_51, e96_52, e96_55, e96_56, e96_57, e96_58, e96_61, e96_62, e96_63, e96_66, e96_67, e96_70, e96_71, e96_72, e96_73, e96_75, e96_76, e96_79, e96_80, e96_81, e96_82, e96_85, e96_88, e96_89, e96_90, e96_93, e96_95, e96_96, e96_99, e96_100, e96_103, e96_104, e96_105, e96_106, e96_109, e96_110, e96_111, e96_114, e96_116, e96_117, e96_120, e96_121, e96_124, e96_127, e96_128, e96_131, e96_132, e96_133, e96_136, e96_137, e96_140, e96_141, e96_142, e96_144, e96_145, e96_146, e96_149, e96_150, e96_153, e96_154, e96_155, e96_156, e96_157, e96_158, e96_161, e96_162, e96_163, e96_166, e96_168, e96_169, e96_172, e96_173, e96_176, e96_177, e96_178, e96_179, e96_182, e96_183, e96_185, e96_188, e96_190, e96_191, e96_194, e96_195, e96_196, e96_199, e96_200, e96_201, e96_203, e96_206, e96_209, e96_210, e96_212, e96_215, e96_216, e96_218, e96_221, e96_223, e96_224, e96_227, e96_228, e96_231, e96_232, e96_233, e96_234, zG1, zG2, zG3, zG4, zG5, zG6, zG7, zG8, zNn, s3, s4, zk_wi, zr_wi, bk119 B, bk120 B, bk121 B, bk122 B, bk123 B, bk124 B, bk125 B, bk126 B, bk127 B, bk128 B, bk129 B, bk130 B, bk131 B, bk132 B, bk133 B, bk134 B, bk135 B, bk136 B, bk137 B, bk138 B, bk139 B, bk140 B, bk141 B, bk142 B, br1 B, br2 B, br3 B, br4 B, br5 B, br6 B, br7 B, br8 B, br9 B, br10 B, br11 B, br12 B, br13 B, br14 B, br15 B, br16 B, br17 B, br18 B, br19 B, br20 B, br21 B, br22 B, br23 B, q3, q4, g, c0, c1, c2, c3, c4, c5, c6, c7, w3, or_true, true_or, if_true, if_false, Option.bind_some, Option.toList_some, Option.toList_none, List.nil_append, List.cons_append]
  rw [if_neg k5]
  have c5 := c5.trans (eq_false k5)
  by_cases k6 : kind = 6
  · rw [if_pos k6]
    have c6 := c6.trans (eq_true k6)
    by_cases hq : yn S 5 k = 3
    · rw [if_pos hq]
      have w3 := w3.trans (eq_true hq)
      obtain ⟨M1, r1, r2⟩ := R_renew (sp := sp) h hk hs
      obtain ⟨-, -, t3, t4, -⟩ := r2.2.1
      obtain ⟨M2, u1, u2⟩ := R_puto (sp := sp) (kd := 7) r2 (yK_renew hK) hn hk (by decide) (by decide)
      have u1 : zV (zPr sp) (83, 0, [.ref 119, .int (nI k), .int 7], [], M1) = some (none, M2) := u1
      refine ⟨M2, ?_, u2⟩
      simp only [e96_0, e96_1, e96_4, e96_5, e96_6, e96_8, e96_9, e96_12, e96_14, e96_17, e96_18, e96_21, e96_22, e96_23, e96_24, e96_25, e96_28, e96_29, e96_31, e96_32, e96_33, e96_34, e96_37, e96_40, e96_41, e96_42, e96_45, e96_47, e96_48, e96_51, e96_52, e96_55, e96_56, e96_57, e96_58, e96_61, e96_62, e96_63, e96_66, e96_67, e96_70, e96_71, e96_72, e96_73, e96_75, e96_76, e96_79, e96_80, e96_81, e96_82, e96_85, e96_88, e96_89, e96_90, e96_93, e96_95, e96_96, e96_99, e96_100, e96_103, e96_104, e96_105, e96_106, e96_109, e96_110, e96_111, e96_114, e96_116, e96_117, e96_120, e96_121, e96_124, e96_127, e96_128, e96_131, e96_132, e96_133, e96_136, e96_137, e96_140, e96_141, e96_142, e96_144, e96_145, e96_146, e96_149, e96_150, e96_153, e96_154, e96_155, e96_156, e96_157, e96_158, e96_161, e96_162, e96_163, e96_166, e96_168, e96_169, e96_172, e96_173, e96_176, e96_177, e96_178, e96_179, e96_182, e96_183, e96_185, e96_188, e96_190, e96_191, e96_194, e96_195, e96_196, e96_199, e96_200, e96_201, e96_203, e96_206, e96_209, e96_210, e96_212, e96_215, e96_216, e96_218, e96_221, e96_223, e96_224, e96_227, e96_228, e96_231, e96_232, e96_233, e96_234, zG1, zG2, zG3, zG4, zG5, zG6, zG7, zG8, zNn, s3, s4, t3, t4, zk_wi, zr_wi, bk119 B, bk120 B, bk121 B, bk122 B, bk123 B, bk124 B, bk125 B, bk126 B, bk127 B, bk128 B, bk129 B, bk130 B, bk131 B, bk132 B, bk133 B, bk134 B, bk135 B, bk136 B, bk137 B, bk138 B, bk139 B, bk140 B, bk141 B, bk142 B, br1 B, br2 B, br3 B, br4 B, br5 B, br6 B, br7 B, br8 B, br9 B, br10 B, br11 B, br12 B, br13 B, br14 B, br15 B, br16 B, br17 B, br18 B, br19 B, br20 B, br21 B, br22 B, br23 B, q3, q4, g, c0, c1, c2, c3, c4, c5, c6, w3, r1, u1, or_true, true_or, if_true, if_false, Option.bind_some, Option.toList_some, Option.toList_none, List.nil_append, List.cons_append]
    · rw [if_neg hq]
      have w3 := w3.trans (eq_false hq)
      by_cases hr : yn S 5 k = 4
      · rw [if_pos hr]
        have w4 := w4.trans (eq_true hr)
        have a1 : RR M0 (zwi M 134 k 3) (ynS S 5 k 3) := st 3
        refine ⟨_, ?_, a1⟩
        simp only [e96_0, e96_1, e96_4, e96_5, e96_6, e96_8, e96_9, e96_12, e96_14, e96_17, e96_18, e96_21, e96_22, e96_23, e96_24, e96_25, e96_28, e96_29, e96_31, e96_32, e96_33, e96_34, e96_37, e96_40, e96_41, e96_42, e96_45, e96_47, e96_48, e96_51, e96_52, e96_55, e96_56, e96_57, e96_58, e96_61, e96_62, e96_63, e96_66, e96_67, e96_70, e96_71, e96_72, e96_73, e96_75, e96_76, e96_79, e96_80, e96_81, e96_82, e96_85, e96_88, e96_89, e96_90, e96_93, e96_95, e96_96, e96_99, e96_100, e96_103, e96_104, e96_105, e96_106, e96_109, e96_110, e96_111, e96_114, e96_116, e96_117, e96_120, e96_121, e96_124, e96_127, e96_128, e96_131, e96_132, e96_133, e96_136, e96_137, e96_140, e96_141, e96_142, e96_144, e96_145, e96_146, e96_149, e96_150, e96_153, e96_154, e96_155, e96_156, e96_157, e96_158, e96_161, e96_162, e96_163, e96_166, e96_168, e96_169, e96_172, e96_173, e96_176, e96_177, e96_178, e96_179, e96_182, e96_183, e96_185, e96_188, e96_190, e96_191, e96_194, e96_195, e96_196, e96_199, e96_200, e96_201, e96_203, e96_206, e96_209, e96_210, e96_212, e96_215, e96_216, e96_218, e96_221, e96_223, e96_224, e96_227, e96_228, e96_231, e96_232, e96_233, e96_234, zG1, zG2, zG3, zG4, zG5, zG6, zG7, zG8, zNn, s3, s4, zk_wi, zr_wi, bk119 B, bk120 B, bk121 B, bk122 B, bk123 B, bk124 B, bk125 B, bk126 B, bk127 B, bk128 B, bk129 B, bk130 B, bk131 B, bk132 B, bk133 B, bk134 B, bk135 B, bk136 B, bk137 B, bk138 B, bk139 B, bk140 B, bk141 B, bk142 B, br1 B, br2 B, br3 B, br4 B, br5 B, br6 B, br7 B, br8 B, br9 B, br10 B, br11 B, br12 B, br13 B, br14 B, br15 B, br16 B, br17 B, br18 B, br19 B, br20 B, br21 B, br22 B, br23 B, q3, q4, g, c0, c1, c2, c3, c4, c5, c6, w3, w4, or_true, true_or, if_true, if_false, Option.bind_some, Option.toList_some, Option.toList_none, List.nil_append, List.cons_append]
      · rw [if_neg hr]
        have w4 := w4.trans (eq_false hr)
        refine ⟨M, ?_, h⟩
        simp only [e96_0, e96_1, e96_4, e96_5, e96_6, e96_8, e96_9, e96_12, e96_14, e96_17, e96_18, e96_21, e96_22, e96_23, e96_24, e96_25, e96_28, e96_29, e96_31, e96_32, e96_33, e96_34, e96_37, e96_40, e96_41, e96_42, e96_45, e96_47, e96_48, e96_51, e96_52, e96_55, e96_56, e96_57, e96_58, e96_61, e96_62, e96_63, e96_66, e96_67, e96_70, e96_71, e96_72, e96_73, e96_75, e96_76, e96_79, e96_80, e96_81, e96_82, e96_85, e96_88, e96_89, e96_90, e96_93, e96_95, e96_96, e96_99, e96_100, e96_103, e96_104, e96_105, e96_106, e96_109, e96_110, e96_111, e96_114, e96_116, e96_117, e96_120, e96_121, e96_124, e96_127, e96_128, e96_131, e96_132, e96_133, e96_136, e96_137, e96_140, e96_141, e96_142, e96_144, e96_145, e96_146, e96_149, e96_150, e96_153, e96_154, e96_155, e96_156, e96_157, e96_158, e96_161, e96_162, e96_163, e96_166, e96_168, e96_169, e96_172, e96_173, e96_176, e96_177, e96_178, e96_179, e96_182, e96_183, e96_185, e96_188, e96_190, e96_191, e96_194, e96_195, e96_196, e96_199, e96_200, e96_201, e96_203, e96_206, e96_209, e96_210, e96_212, e96_215, e96_216, e96_218, e96_221, e96_223, e96_224, e96_227, e96_228, e96_231, e96_232, e96_233, e96_234, zG1, zG2, zG3, zG4, zG5, zG6, zG7, zG8, zNn, s3, s4, zk_wi, zr_wi, bk119 B, bk120 B, bk121 B, bk122 B, bk123 B, bk124 B, bk125 B, bk126 B, bk127 B, bk128 B, bk129 B, bk130 B, bk131 B, bk132 B, bk133 B, bk134 B, bk135 B, bk136 B, bk137 B, bk138 B, bk139 B, bk140 B, bk141 B, bk142 B, br1 B, br2 B, br3 B, br4 B, br5 B, br6 B, br7 B, br8 B, br9 B, br10 B, br11 B, br12 B, br13 B, br14 B, br15 B, br16 B, br17 B, br18 B, br19 B, br20 B, br21 B, br22 B, br23 B, q3, q4, g, c0, c1, c2, c3, c4, c5, c6, w3, w4, or_true, true_or, if_true, if_false, Option.bind_some, Option.toList_some, Option.toList_none, List.nil_append, List.cons_append]
  rw [if_neg k6]
  have c6 := c6.trans (eq_false k6)
  have c7 := c7.trans (eq_true (by omega))
  by_cases hr : yn S 5 k = 4
  · rw [if_pos hr]
    have w4 := w4.trans (eq_true hr)
    have a1 : RR M0 (zwi M 134 k 3) (ynS S 5 k 3) := st 3
    refine ⟨_, ?_, a1⟩
    simp only [e96_0, e96_1, e96_4, e96_5, e96_6, e96_8, e96_9, e96_12, e96_14, e96_17, e96_18, e96_21, e96_22, e96_23, e96_24, e96_25, e96_28, e96_29, e96_31, e96_32, e96_33, e96_34, e96_37, e96_40, e96_41, e96_42, e96_45, e96_47, e96_48, e96_51, e96_52, e96_55, e96_56, e96_57, e96_58, e96_61, e96_62, e96_63, e96_66, e96_67, e96_70, e96_71, e96_72, e96_73, e96_75, e96_76, e96_79, e96_80, e96_81, e96_82, e96_85, e96_88, e96_89, e96_90, e96_93, e96_95, e96_96, e96_99, e96_100, e96_103, e96_104, e96_105, e96_106, e96_109, e96_110, e96_111, e96_114, e96_116, e96_117, e96_120, e96_121, e96_124, e96_127, e96_128, e96_131, e96_132, e96_133, e96_136, e96_137, e96_140, e96_141, e96_142, e96_144, e96_145, e96_146, e96_149, e96_150, e96_153, e96_154, e96_155, e96_156, e96_157, e96_158, e96_161, e96_162, e96_163, e96_166, e96_168, e96_169, e96_172, e96_173, e96_176, e96_177, e96_178, e96_179, e96_182, e96_183, e96_185, e96_188, e96_190, e96_191, e96_194, e96_195, e96_196, e96_199, e96_200, e96_201, e96_203, e96_206, e96_209, e96_210, e96_212, e96_215, e96_216, e96_218, e96_221, e96_223, e96_224, e96_227, e96_228, e96_231, e96_232, e96_233, e96_234, zG1, zG2, zG3, zG4, zG5, zG6, zG7, zG8, zNn, s3, s4, zk_wi, zr_wi, bk119 B, bk120 B, bk121 B, bk122 B, bk123 B, bk124 B, bk125 B, bk126 B, bk127 B, bk128 B, bk129 B, bk130 B, bk131 B, bk132 B, bk133 B, bk134 B, bk135 B, bk136 B, bk137 B, bk138 B, bk139 B, bk140 B, bk141 B, bk142 B, br1 B, br2 B, br3 B, br4 B, br5 B, br6 B, br7 B, br8 B, br9 B, br10 B, br11 B, br12 B, br13 B, br14 B, br15 B, br16 B, br17 B, br18 B, br19 B, br20 B, br21 B, br22 B, br23 B, q3, q4, g, c0, c1, c2, c3, c4, c5, c6, c7, w4, or_true, true_or, if_true, if_false, Option.bind_some, Option.toList_some, Option.toList_none, List.nil_append, List.cons_append]
  · rw [if_neg hr]
    have w4 := w4.trans (eq_false hr)
    refine ⟨M, ?_, h⟩
    simp only [e96_0, e96_1, e96_4, e96_5, e96_6, e96_8, e96_9, e96_12, e96_14, e96_17, e96_18, e96_21, e96_22, e96_23, e96_24, e96_25, e96_28, e96_29, e96_31, e96_32, e96_33, e96_34, e96_37, e96_40, e96_41, e96_42, e96_45, e96_47, e96_48, e96_51, e96_52, e96_55, e96_56, e96_57, e96_58, e96_61, e96_62, e96_63, e96_66, e96_67, e96_70, e96_71, e96_72, e96_73, e96_75, e96_76, e96_79, e96_80, e96_81, e96_82, e96_85, e96_88, e96_89, e96_90, e96_93, e96_95, e96_96, e96_99, e96_100, e96_103, e96_104, e96_105, e96_106, e96_109, e96_110, e96_111, e96_114, e96_116, e96_117, e96_120, e96_121, e96_124, e96_127, e96_128, e96_131, e96_132, e96_133, e96_136, e96_137, e96_140, e96_141, e96_142, e96_144, e96_145, e96_146, e96_149, e96_150, e96_153, e96_154, e96_155, e96_156, e96_157, e96_158, e96_161, e96_162, e96_163, e96_166, e96_168, e96_169, e96_172, e96_173, e96_176, e96_177, e96_178, e96_179, e96_182, e96_183, e96_185, e96_188, e96_190, e96_191, e96_194, e96_195, e96_196, e96_199, e96_200, e96_201, e96_203, e96_206, e96_209, e96_210, e96_212, e96_215, e96_216, e96_218, e96_221, e96_223, e96_224, e96_227, e96_228, e96_231, e96_232, e96_233, e96_234, zG1, zG2, zG3, zG4, zG5, zG6, zG7, zG8, zNn, s3, s4, zk_wi, zr_wi, bk119 B, bk120 B, bk121 B, bk122 B, bk123 B, bk124 B, bk125 B, bk126 B, bk127 B, bk128 B, bk129 B, bk130 B, bk131 B, bk132 B, bk133 B, bk134 B, bk135 B, bk136 B, bk137 B, bk138 B, bk139 B, bk140 B, bk141 B, bk142 B, br1 B, br2 B, br3 B, br4 B, br5 B, br6 B, br7 B, br8 B, br9 B, br10 B, br11 B, br12 B, br13 B, br14 B, br15 B, br16 B, br17 B, br18 B, br19 B, br20 B, br21 B, br22 B, br23 B, q3, q4, g, c0, c1, c2, c3, c4, c5, c6, c7, w4, or_true, true_or, if_true, if_false, Option.bind_some, Option.toList_some, Option.toList_none, List.nil_append, List.cons_append]
theorem R_route {sp : Nat × (Nat → Int32)} {M : zM} {e a : Nat} (he : e < 10) (ha : a < 4) : zV (zPr sp) (100, 0, [.int (nI e), .int (nI a), .double 0], [], M) = some (some (.int (nI (yRoute e a))), M) := by
  have d2 : nI a / 2 = nI (a / 2) := pk_div (d := 2) (by omega) (by decide) (by decide)
  have m2 : 2 * nI a = nI (2 * a) := pk_mul 2 a
  have a1 : nI (2 * a) + 1 = nI (2 * a + 1) := nI_1 _
  have p8 : (nI e = 8) = (e = 8) := propext (nI_eq (b := 8) (by omega) (by decide))
  have p4 : (nI e < 4) = (e < 4) := propext (nI_ltI (b := 4) (by omega) (by decide))
  unfold yRoute
  by_cases hc : e < 4 ∨ e = 8
  · rw [if_pos hc]
    have pre : zV (zPr sp) (100, 0, [.int (nI e), .int (nI a), .double 0], [], M) = zV (zPr sp) (100, 17, [.int (nI e), .int (nI a), .int 0], [], M) := by
      by_cases h4 : e < 4
      · have p4 := p4.trans (eq_true h4)
        simp only [e100_0, e100_1, e100_2, e100_5, e100_6, e100_8, e100_11, e100_12, e100_15, e100_16, p4, if_true]
      · have p4 := p4.trans (eq_false h4)
        have p8 := p8.trans (eq_true (hc.resolve_left h4))
        simp only [e100_0, e100_1, e100_2, e100_5, e100_6, e100_8, e100_11, e100_12, e100_15, e100_16, p4, p8, if_true, if_false]
    rw [pre]
    have e0 : (nI (a / 2) = 0) = (a / 2 = 0) := propext (nI_eq (b := 0) (by omega) (by decide))
    by_cases h0 : a / 2 = 0
    · rw [if_pos h0]
      have e0 := e0.trans (eq_true h0)
      simp only [e100_17, e100_18, e100_19, e100_20, e100_21, e100_24, e100_25, e100_26, e100_27, e100_28, e100_29, e100_32, e100_34, e100_35, e100_36, z20', d2, m2, a1, e0, if_true, if_false]
    · rw [if_neg h0]
      have e0 := e0.trans (eq_false h0)
      simp only [e100_17, e100_18, e100_19, e100_20, e100_21, e100_24, e100_25, e100_26, e100_27, e100_28, e100_29, e100_32, e100_34, e100_35, e100_36, z20', d2, e0, if_false]
      rfl
  · rw [if_neg hc]
    have p4 := p4.trans (eq_false (fun z => hc (Or.inl z)))
    have p8 := p8.trans (eq_false (fun z => hc (Or.inr z)))
    have e0 : (nI (a / 2) = 1) = (a / 2 = 1) := propext (nI_eq (b := 1) (by omega) (by decide))
    by_cases h0 : a / 2 = 1
    · rw [if_pos h0]
      have e0 := e0.trans (eq_true h0)
      simp only [e100_0, e100_1, e100_2, e100_5, e100_6, e100_8, e100_11, e100_12, e100_15, e100_16, e100_17, e100_18, e100_19, e100_20, e100_21, e100_24, e100_25, e100_26, e100_27, e100_28, e100_29, e100_32, e100_34, e100_35, e100_36, z20', p4, p8, d2, m2, a1, e0, if_true, if_false]
    · rw [if_neg h0]
      have e0 := e0.trans (eq_false h0)
      simp only [e100_0, e100_1, e100_2, e100_5, e100_6, e100_8, e100_11, e100_12, e100_15, e100_16, e100_17, e100_18, e100_19, e100_20, e100_21, e100_24, e100_25, e100_26, e100_27, e100_28, e100_29, e100_32, e100_34, e100_35, e100_36, z20', p4, p8, d2, e0, if_false]
      rfl
theorem R_frS {sp : Nat × (Nat → Int32)} {M0 M : zM} {S : yS} {y c : Nat} {x : Int32} (h : RR M0 M S) (hI : yIk S) (hy : y < 10) (hc : c < 3) : zV (zPr sp) (101, 6, [.ref 119, .int (nI y), .int x, .int (nI (3 * y + c))], [], M) = zV (zPr sp) (101, 6, [.ref 119, .int (nI y), .int (if yn S 5 (3 * y + c) = 0 ∧ (x < 0 ∨ y % 2 = 0) then nI (3 * y + c) else x), .int (nI (3 * y + (c + 1)))], [], M) := by
  have B := h.1
  obtain ⟨-, -, s3, s4, -⟩ := h.2.1
  have hk : 3 * y + c < 30 := by omega
  have q3 : zin (nI (3 * y + c)) 30 = true := zin_nI hk (by decide)
  have q4 : (nI (3 * y + c)).toNatClampNeg = 3 * y + c := nI_clamp (by omega)
  have g := (h.2.2.2.1 _ hk).1
  have m3 : 3 * nI y = nI (3 * y) := pk_mul 3 y
  have a3 : nI (3 * y) + 3 = nI (3 * y + 3) := nI_add _ 3
  have p1 : (nI (3 * y + c) < nI (3 * y + 3)) = True := eq_true (nI_lt (by omega) (by omega))
  have s0 : (nI (yn S 5 (3 * y + c)) = 0) = (yn S 5 (3 * y + c) = 0) := st_eq (m := 0) hI hk (by decide)
  have r2 := nrem2 (a := y) (by omega)
  have e2 : (nI (y % 2) = 0) = (y % 2 = 0) := propext (nI_eq (b := 0) (by omega) (by decide))
  refine Eq.trans ?_ e101_43
  by_cases h0 : yn S 5 (3 * y + c) = 0
  · have s0 := s0.trans (eq_true h0)
    by_cases hx : x < 0
    · rw [if_pos ⟨h0, Or.inl hx⟩]
      have p2 := eq_true hx
      simp only [e101_6, e101_7, e101_8, e101_9, e101_10, e101_11, e101_12, e101_15, e101_16, e101_19, e101_20, e101_21, e101_24, e101_25, e101_28, e101_29, e101_30, e101_31, e101_34, e101_35, e101_38, e101_39, e101_40, zG1, zG2, zG3, zG4, zG5, zG6, zG7, zG8, zNn, s3, s4, bk119 B, bk120 B, bk121 B, bk122 B, bk123 B, bk124 B, bk125 B, bk126 B, bk127 B, bk128 B, bk129 B, bk130 B, bk131 B, bk132 B, bk133 B, bk134 B, bk135 B, bk136 B, bk137 B, bk138 B, bk139 B, bk140 B, bk141 B, bk142 B, br1 B, br2 B, br3 B, br4 B, br5 B, br6 B, br7 B, br8 B, br9 B, br10 B, br11 B, br12 B, br13 B, br14 B, br15 B, br16 B, br17 B, br18 B, br19 B, br20 B, br21 B, br22 B, br23 B, q3, q4, g, m3, a3, p1, s0, p2, nI_1, Nat.add_assoc, or_true, true_or, if_true, if_false, Option.bind_some, Option.toList_some, Option.toList_none, List.nil_append, List.cons_append]
    · have p2 := eq_false hx
      by_cases hp : y % 2 = 0
      · rw [if_pos ⟨h0, Or.inr hp⟩]
        have e2 := e2.trans (eq_true hp)
        simp only [e101_6, e101_7, e101_8, e101_9, e101_10, e101_11, e101_12, e101_15, e101_16, e101_19, e101_20, e101_21, e101_24, e101_25, e101_28, e101_29, e101_30, e101_31, e101_34, e101_35, e101_38, e101_39, e101_40, zG1, zG2, zG3, zG4, zG5, zG6, zG7, zG8, zNn, s3, s4, bk119 B, bk120 B, bk121 B, bk122 B, bk123 B, bk124 B, bk125 B, bk126 B, bk127 B, bk128 B, bk129 B, bk130 B, bk131 B, bk132 B, bk133 B, bk134 B, bk135 B, bk136 B, bk137 B, bk138 B, bk139 B, bk140 B, bk141 B, bk142 B, br1 B, br2 B, br3 B, br4 B, br5 B, br6 B, br7 B, br8 B, br9 B, br10 B, br11 B, br12 B, br13 B, br14 B, br15 B, br16 B, br17 B, br18 B, br19 B, br20 B, br21 B, br22 B, br23 B, q3, q4, g, m3, a3, p1, s0, p2, z20', r2, e2, nI_1, Nat.add_assoc, or_true, true_or, if_true, if_false, Option.bind_some, Option.toList_some, Option.toList_none, List.nil_append, List.cons_append]
      · rw [if_neg (fun z => z.2.elim hx hp)]
        have e2 := e2.trans (eq_false hp)
        simp only [e101_6, e101_7, e101_8, e101_9, e101_10, e101_11, e101_12, e101_15, e101_16, e101_19, e101_20, e101_21, e101_24, e101_25, e101_28, e101_29, e101_30, e101_31, e101_34, e101_35, e101_38, e101_39, e101_40, zG1, zG2, zG3, zG4, zG5, zG6, zG7, zG8, zNn, s3, s4, bk119 B, bk120 B, bk121 B, bk122 B, bk123 B, bk124 B, bk125 B, bk126 B, bk127 B, bk128 B, bk129 B, bk130 B, bk131 B, bk132 B, bk133 B, bk134 B, bk135 B, bk136 B, bk137 B, bk138 B, bk139 B, bk140 B, bk141 B, bk142 B, br1 B, br2 B, br3 B, br4 B, br5 B, br6 B, br7 B, br8 B, br9 B, br10 B, br11 B, br12 B, br13 B, br14 B, br15 B, br16 B, br17 B, br18 B, br19 B, br20 B, br21 B, br22 B, br23 B, q3, q4, g, m3, a3, p1, s0, p2, z20', r2, e2, nI_1, Nat.add_assoc, or_true, true_or, if_true, if_false, Option.bind_some, Option.toList_some, Option.toList_none, List.nil_append, List.cons_append]
  · have s0 := s0.trans (eq_false h0)
    rw [if_neg (fun z => h0 z.1)]
    simp only [e101_6, e101_7, e101_8, e101_9, e101_10, e101_11, e101_12, e101_15, e101_16, e101_19, e101_20, e101_21, e101_24, e101_25, e101_28, e101_29, e101_30, e101_31, e101_34, e101_35, e101_38, e101_39, e101_40, zG1, zG2, zG3, zG4, zG5, zG6, zG7, zG8, zNn, s3, s4, bk119 B, bk120 B, bk121 B, bk122 B, bk123 B, bk124 B, bk125 B, bk126 B, bk127 B, bk128 B, bk129 B, bk130 B, bk131 B, bk132 B, bk133 B, bk134 B, bk135 B, bk136 B, bk137 B, bk138 B, bk139 B, bk140 B, bk141 B, bk142 B, br1 B, br2 B, br3 B, br4 B, br5 B, br6 B, br7 B, br8 B, br9 B, br10 B, br11 B, br12 B, br13 B, br14 B, br15 B, br16 B, br17 B, br18 B, br19 B, br20 B, br21 B, br22 B, br23 B, q3, q4, g, m3, a3, p1, s0, nI_1, Nat.add_assoc, or_true, true_or, if_true, if_false, Option.bind_some, Option.toList_some, Option.toList_none, List.nil_append, List.cons_append]
def yFr1 (o : Option Nat) : Int32 := match o with
  | none => -1
  | some k => nI k
theorem R_free {sp : Nat × (Nat → Int32)} {M0 M : zM} {S : yS} {y : Nat} (h : RR M0 M S) (hI : yIk S) (hy : y < 10) : zV (zPr sp) (101, 0, [.ref 119, .int (nI y), .double 0, .double 0], [], M) = some (some (.int (yFr1 (yFree S y))), M) := by
  have m3 : 3 * nI y = nI (3 * y) := pk_mul 3 y
  have a3 : nI (3 * y) + 3 = nI (3 * y + 3) := nI_add _ 3
  have st : zV (zPr sp) (101, 0, [.ref 119, .int (nI y), .double 0, .double 0], [], M) = zV (zPr sp) (101, 6, [.ref 119, .int (nI y), .int (-1), .int (nI (3 * y + 0))], [], M) := by
    simp only [e101_0, e101_1, e101_2, e101_3, e101_4, e101_5, m3, Nat.add_zero]
  have fin : ∀ x, zV (zPr sp) (101, 6, [.ref 119, .int (nI y), .int x, .int (nI (3 * y + (2 + 1)))], [], M) = some (some (.int x), M) := by
    intro x
    have p1 : (nI (3 * y + 3) < nI (3 * y + 3)) = False := eq_false (nI_nlt (Nat.le_refl _) (by omega))
    show zV (zPr sp) (101, 6, [.ref 119, .int (nI y), .int x, .int (nI (3 * y + 3))], [], M) = _
    simp only [e101_6, e101_7, e101_8, e101_9, e101_10, e101_11, e101_12, e101_46, e101_47, m3, a3, p1, if_false]
  rw [st, R_frS h hI hy (by decide), R_frS h hI hy (by decide), R_frS h hI hy (by decide), fin]
  have neg : ((-1 : Int32) < 0) = True := by decide
  have pos : ∀ c, c < 3 → (nI (3 * y + c) < 0) = False := fun c hc => eq_false (nI_pos (by omega))
  have z0 : yn S 5 (3 * y + 0) = yn S 5 (3 * y) := rfl
  unfold yFree
  by_cases hp : y % 2 = 0
  · rw [if_pos hp]
    have hp' := eq_true hp
    by_cases h2 : yn S 5 (3 * y + 2) = 0
    · rw [if_pos h2, if_pos ⟨h2, Or.inr hp⟩]; rfl
    · rw [if_neg h2, if_neg (fun z => h2 z.1)]
      by_cases h1 : yn S 5 (3 * y + 1) = 0
      · rw [if_pos h1, if_pos ⟨h1, Or.inr hp⟩]; rfl
      · rw [if_neg h1, if_neg (fun z => h1 z.1)]
        by_cases h0 : yn S 5 (3 * y) = 0
        · rw [if_pos h0, if_pos ⟨h0, Or.inr hp⟩]; rfl
        · rw [if_neg h0, if_neg (fun z => h0 z.1)]; rfl
  · rw [if_neg hp]
    have nn : ¬ ((-1 : Int32) < 0) → False := fun z => z (by decide)
    by_cases h0 : yn S 5 (3 * y) = 0
    · rw [if_pos h0, if_pos (show yn S 5 (3 * y + 0) = 0 ∧ ((-1 : Int32) < 0 ∨ y % 2 = 0) from ⟨h0, Or.inl (by decide)⟩)]
      have p0 : ¬ nI (3 * y + 0) < 0 := nI_pos (by omega)
      rw [if_neg (show ¬ (yn S 5 (3 * y + (0 + 1)) = 0 ∧ (nI (3 * y + 0) < 0 ∨ y % 2 = 0)) from fun z => z.2.elim p0 hp), if_neg (fun z => z.2.elim p0 hp)]
      rfl
    · rw [if_neg h0, if_neg (show ¬ (yn S 5 (3 * y + 0) = 0 ∧ ((-1 : Int32) < 0 ∨ y % 2 = 0)) from fun z => h0 z.1)]
      by_cases h1 : yn S 5 (3 * y + 1) = 0
      · rw [if_pos h1, if_pos (show yn S 5 (3 * y + (0 + 1)) = 0 ∧ ((-1 : Int32) < 0 ∨ y % 2 = 0) from ⟨h1, Or.inl (by decide)⟩)]
        have p0 : ¬ nI (3 * y + (0 + 1)) < 0 := nI_pos (by omega)
        rw [if_neg (fun z => z.2.elim p0 hp)]
        rfl
      · rw [if_neg h1, if_neg (show ¬ (yn S 5 (3 * y + (0 + 1)) = 0 ∧ ((-1 : Int32) < 0 ∨ y % 2 = 0)) from fun z => h1 z.1)]
        by_cases h2 : yn S 5 (3 * y + 2) = 0
        · rw [if_pos h2, if_pos (show yn S 5 (3 * y + (0 + 1 + 1)) = 0 ∧ ((-1 : Int32) < 0 ∨ y % 2 = 0) from ⟨h2, Or.inl (by decide)⟩)]; rfl
        · rw [if_neg h2, if_neg (show ¬ (yn S 5 (3 * y + (0 + 1 + 1)) = 0 ∧ ((-1 : Int32) < 0 ∨ y % 2 = 0)) from fun z => h2 z.1)]; rfl
theorem yFree_d {S : yS} {y j : Nat} (h : yFree S y = some j) : j / 3 = y := by
  unfold yFree at h
  split at h
  · split at h
    · cases h; omega
    · split at h
      · cases h; omega
      · split at h
        · cases h; omega
        · cases h
  · split at h
    · cases h; omega
    · split at h
      · cases h; omega
      · split at h
        · cases h; omega
        · cases h
theorem yWay_d {S : yS} {e a j : Nat} (h : yWay S e a = some j) : j / 3 = yRoute e a ∧ yRoute e a ≠ e ∧ yu S (yRoute e a) = true ∧ yFree S (yRoute e a) = some j := by
  unfold yWay at h
  split at h
  · cases h
  · rename_i hn
    refine ⟨yFree_d h, fun z => hn (Or.inl z), ?_, h⟩
    cases hu : yu S (yRoute e a)
    · exact absurd (Or.inr hu) hn
    · rfl
theorem R_conn {sp : Nat × (Nat → Int32)} {M0 M : zM} {S : yS} {k a b n t : Nat} (h : RR M0 M S) (hK : yK n t S) (hn : n < 1597) (hk : k < 30) (hs : ysw (k / 3) = true) (hf : yf S k = false) (ha : a < 4) (hb : b < 256) : ∃ M', zV (zPr sp) (99, 0, [.ref 119, .int (nI (k / 3)), .int (nI k), .int (nI a), .int (nI b), .double 0, .double 0], [], M) = some (none, M') ∧ RR M0 M' (yConn S (k / 3) k a b) := by
  have hdef : yConn S (k / 3) k a b = match yWay S (k / 3) a with
    | none => yCut S k
    | some j => yPutOn (yJoin S k j) j 0 a b := rfl
  rw [hdef]
  have he : k / 3 < 10 := by omega
  have B := h.1
  obtain ⟨-, -, s3, s4, -⟩ := h.2.1
  have hro := R_route (sp := sp) (M := M) he ha
  obtain ⟨t1, t2, t3⟩ := kRt (k / 3) he hs a ha
  have q1 : zin (nI (yRoute (k / 3) a)) 10 = true := zin_nI t1 (by decide)
  have q2 : (nI (yRoute (k / 3) a)).toNatClampNeg = yRoute (k / 3) a := nI_clamp (by omega)
  have hE := (h.2.2.1 _ t1).2.1
  have ee : (nI (yRoute (k / 3) a) = nI (k / 3)) = (yRoute (k / 3) a = k / 3) := propext (nI_eq (by omega) (by omega))
  have neg : ((-1 : Int32) < 0) = True := by decide
  cases hw : yWay S (k / 3) a with
  | none =>
    obtain ⟨M1, r1, r2⟩ := R_cut (sp := sp) h hK (by omega) hk
    refine ⟨M1, ?_, r2⟩
    by_cases hy : yRoute (k / 3) a = k / 3
    · have ee := ee.trans (eq_true hy)
      simp only [e99_0, e99_1, e99_2, e99_5, e99_7, e99_9, e99_10, e99_13, e99_14, e99_17, e99_19, e99_20, e99_23, e99_24, e99_27, e99_28, e99_30, e99_33, e99_35, e99_37, e99_40, e99_41, e99_42, e99_45, e99_46, e99_47, e99_50, e99_51, e99_52, e99_53, e99_54, e99_57, e99_59, e99_60, e99_61, e99_62, e99_65, e99_66, e99_68, e99_69, e99_70, e99_73, e99_75, e99_76, e99_77, e99_78, e99_81, e99_83, e99_84, e99_85, e99_86, e99_88, e99_89, e99_91, e99_92, e99_93, e99_94, e99_95, e99_96, e99_98, e99_101, zG1, zG2, zG3, zG4, zG5, zG6, zG7, zG8, zNn, s3, s4, bk119 B, bk120 B, bk121 B, bk122 B, bk123 B, bk124 B, bk125 B, bk126 B, bk127 B, bk128 B, bk129 B, bk130 B, bk131 B, bk132 B, bk133 B, bk134 B, bk135 B, bk136 B, bk137 B, bk138 B, bk139 B, bk140 B, bk141 B, bk142 B, br1 B, br2 B, br3 B, br4 B, br5 B, br6 B, br7 B, br8 B, br9 B, br10 B, br11 B, br12 B, br13 B, br14 B, br15 B, br16 B, br17 B, br18 B, br19 B, br20 B, br21 B, br22 B, br23 B, hro, ee, neg, r1, or_true, true_or, if_true, if_false, Option.bind_some, Option.toList_some, Option.toList_none, List.nil_append, List.cons_append]
    · have ee := ee.trans (eq_false hy)
      cases hu : yu S (yRoute (k / 3) a)
      · rw [hu] at hE
        simp only [e99_0, e99_1, e99_2, e99_5, e99_7, e99_9, e99_10, e99_13, e99_14, e99_17, e99_19, e99_20, e99_23, e99_24, e99_27, e99_28, e99_30, e99_33, e99_35, e99_37, e99_40, e99_41, e99_42, e99_45, e99_46, e99_47, e99_50, e99_51, e99_52, e99_53, e99_54, e99_57, e99_59, e99_60, e99_61, e99_62, e99_65, e99_66, e99_68, e99_69, e99_70, e99_73, e99_75, e99_76, e99_77, e99_78, e99_81, e99_83, e99_84, e99_85, e99_86, e99_88, e99_89, e99_91, e99_92, e99_93, e99_94, e99_95, e99_96, e99_98, e99_101, zG1, zG2, zG3, zG4, zG5, zG6, zG7, zG8, zNn, s3, s4, bk119 B, bk120 B, bk121 B, bk122 B, bk123 B, bk124 B, bk125 B, bk126 B, bk127 B, bk128 B, bk129 B, bk130 B, bk131 B, bk132 B, bk133 B, bk134 B, bk135 B, bk136 B, bk137 B, bk138 B, bk139 B, bk140 B, bk141 B, bk142 B, br1 B, br2 B, br3 B, br4 B, br5 B, br6 B, br7 B, br8 B, br9 B, br10 B, br11 B, br12 B, br13 B, br14 B, br15 B, br16 B, br17 B, br18 B, br19 B, br20 B, br21 B, br22 B, br23 B, hro, ee, q1, q2, hE, zyn0, neg, r1, or_true, true_or, if_true, if_false, Option.bind_some, Option.toList_some, Option.toList_none, List.nil_append, List.cons_append]
      · rw [hu] at hE
        have hfr := R_free (sp := sp) h hK.2.1 t1
        have hw' : yFree S (yRoute (k / 3) a) = none := by
          unfold yWay at hw
          rw [if_neg (fun z => by
            rcases z with z | z
            · exact hy z
            · rw [hu] at z; cases z)] at hw
          exact hw
        rw [hw'] at hfr
        have hfr : zV (zPr sp) (101, 0, [.ref 119, .int (nI (yRoute (k / 3) a)), .double 0, .double 0], [], M) = some (some (.int (-1)), M) := hfr
        simp only [e99_0, e99_1, e99_2, e99_5, e99_7, e99_9, e99_10, e99_13, e99_14, e99_17, e99_19, e99_20, e99_23, e99_24, e99_27, e99_28, e99_30, e99_33, e99_35, e99_37, e99_40, e99_41, e99_42, e99_45, e99_46, e99_47, e99_50, e99_51, e99_52, e99_53, e99_54, e99_57, e99_59, e99_60, e99_61, e99_62, e99_65, e99_66, e99_68, e99_69, e99_70, e99_73, e99_75, e99_76, e99_77, e99_78, e99_81, e99_83, e99_84, e99_85, e99_86, e99_88, e99_89, e99_91, e99_92, e99_93, e99_94, e99_95, e99_96, e99_98, e99_101, zG1, zG2, zG3, zG4, zG5, zG6, zG7, zG8, zNn, s3, s4, bk119 B, bk120 B, bk121 B, bk122 B, bk123 B, bk124 B, bk125 B, bk126 B, bk127 B, bk128 B, bk129 B, bk130 B, bk131 B, bk132 B, bk133 B, bk134 B, bk135 B, bk136 B, bk137 B, bk138 B, bk139 B, bk140 B, bk141 B, bk142 B, br1 B, br2 B, br3 B, br4 B, br5 B, br6 B, br7 B, br8 B, br9 B, br10 B, br11 B, br12 B, br13 B, br14 B, br15 B, br16 B, br17 B, br18 B, br19 B, br20 B, br21 B, br22 B, br23 B, hro, ee, q1, q2, hE, zyn1, hfr, neg, r1, or_true, true_or, if_true, if_false, Option.bind_some, Option.toList_some, Option.toList_none, List.nil_append, List.cons_append]
  | some j =>
    obtain ⟨j1, j2, j3, j4⟩ := yWay_some he hs ha hw
    obtain ⟨w1, w2, w3, w4⟩ := yWay_d hw
    have ee := ee.trans (eq_false w2)
    rw [w3] at hE
    have hfr := R_free (sp := sp) h hK.2.1 t1
    rw [w4] at hfr
    have hfr : zV (zPr sp) (101, 0, [.ref 119, .int (nI (yRoute (k / 3) a)), .double 0, .double 0], [], M) = some (some (.int (nI j)), M) := hfr
    have pj : (nI j < 0) = False := eq_false (nI_pos (by omega))
    have hfz : zi M 136 k = 0 := by
      rcases ((h.2.2.2.1 k hk).2.1 hs).1 with z | z
      · exact z
      · rw [hf] at z; cases z.2
    have a1 := RR_join (k := k) (j := j) h (by intro z; subst z; exact j3 rfl) (fun _ => hfz)
    have h1 := yK_j1 (b := false) hK hk j1 j2 j3
    have h2 := yK_j1 (b := true) h1 j1 hk hs (Ne.symm j3)
    obtain ⟨M2, u1, u2⟩ := R_put (sp := sp) (e := j / 3) (k := 0) (c := j % 3 + 1) (a := a) (b := b) a1 h2 (by omega) (by omega) (yPk_k (by decide) (by omega) hb (fun _ => ha))
    rw [w1] at u1
    have u1 : zV (zPr sp) (84, 0, [.ref 119, .int (nI (yRoute (k / 3) a)), .int 0, .int (nI (j % 3 + 1)), .int (nI a), .int (nI b)], [], zwi (zwi (zwi (zwi (zwi M 134 k 1) 134 j 1) 135 k (nI j)) 135 j (nI k)) 136 j 1) = some (none, M2) := u1
    have q3 : zin (nI k) 30 = true := zin_nI hk (by decide)
    have q4 : (nI k).toNatClampNeg = k := nI_clamp (by omega)
    have q5 : zin (nI j) 30 = true := zin_nI j1 (by decide)
    have q6 : (nI j).toNatClampNeg = j := nI_clamp (by omega)
    have m3 := nrem3 (a := j) (by omega)
    refine ⟨M2, ?_, u2⟩
    simp only [e99_0, e99_1, e99_2, e99_5, e99_7, e99_9, e99_10, e99_13, e99_14, e99_17, e99_19, e99_20, e99_23, e99_24, e99_27, e99_28, e99_30, e99_33, e99_35, e99_37, e99_40, e99_41, e99_42, e99_45, e99_46, e99_47, e99_50, e99_51, e99_52, e99_53, e99_54, e99_57, e99_59, e99_60, e99_61, e99_62, e99_65, e99_66, e99_68, e99_69, e99_70, e99_73, e99_75, e99_76, e99_77, e99_78, e99_81, e99_83, e99_84, e99_85, e99_86, e99_88, e99_89, e99_91, e99_92, e99_93, e99_94, e99_95, e99_96, e99_98, e99_101, zG1, zG2, zG3, zG4, zG5, zG6, zG7, zG8, zNn, s3, s4, zk_wi, zr_wi, bk119 B, bk120 B, bk121 B, bk122 B, bk123 B, bk124 B, bk125 B, bk126 B, bk127 B, bk128 B, bk129 B, bk130 B, bk131 B, bk132 B, bk133 B, bk134 B, bk135 B, bk136 B, bk137 B, bk138 B, bk139 B, bk140 B, bk141 B, bk142 B, br1 B, br2 B, br3 B, br4 B, br5 B, br6 B, br7 B, br8 B, br9 B, br10 B, br11 B, br12 B, br13 B, br14 B, br15 B, br16 B, br17 B, br18 B, br19 B, br20 B, br21 B, br22 B, br23 B, hro, ee, q1, q2, q3, q4, q5, q6, hE, zyn1, hfr, pj, z30', m3, nI_1, nar1, u1, or_true, true_or, if_true, if_false, Option.bind_some, Option.toList_some, Option.toList_none, List.nil_append, List.cons_append]
theorem yf_on1 {S : yS} {e : Nat} : ∀ k, yf (yOn1 S e) k = yf S k := by
  intro k
  unfold yOn1
  split
  · exact yPost_r.2.2.2.2.1 k
  · rfl
theorem yf_cut {S : yS} {j k : Nat} : yf (yCut S j) k = yf S k := by
  show yf (yOn1 (yOn1 (yOn1 (yOn1 _ _) _) _) _) k = yf S k
  rw [yf_on1, yf_on1, yf_on1, yf_on1]
  rfl
theorem yn_on1 {S : yS} {e f e' : Nat} (hf : f ≠ 0) : yn (yOn1 S e) f e' = yn S f e' := by
  unfold yOn1
  split
  · rw [yn_nf hf]
    exact yPost_r.2.1 f e'
  · rfl
theorem yn_puto {S : yS} {k kd a b f e : Nat} (hf : f ≠ 0) : yn (yPutOn S k kd a b) f e = yn S f e := by
  show yn (yOn1 (yOn1 (yOn1 (yOn1 _ _) _) _) _) f e = yn S f e
  rw [yn_on1 hf, yn_on1 hf, yn_on1 hf, yn_on1 hf]
  rfl
theorem R_arr {sp : Nat × (Nat → Int32)} {M0 M : zM} {S : yS} {e n t : Nat} {p : yP} (h : RR M0 M S) (hK : yK n t S) (hn : n < 1597) (ht : t < 512) (he : e < 10) (hp : yPk p) : ∃ M', zV (zPr sp) (95, 0, [.ref 119, .int (nI e), .int (nI p.1), .int (nI p.2.1), .int (nI p.2.2.1), .int (nI p.2.2.2), .double 0, .double 0, .double 0], [], M) = some (none, M') ∧ RR M0 M' (yArr S e p) := by
  have B := h.1
  obtain ⟨-, -, s3, s4, -⟩ := h.2.1
  obtain ⟨kind, c, a, b⟩ := p
  have hp' := hp
  obtain ⟨p1, p2, p3, p4, p5⟩ := hp
  have p1 : kind < 8 := p1
  have p2 : 1 ≤ c ∧ c ≤ 3 := p2
  have p3 : a < 8 := p3
  have p4 : b < 256 := p4
  have p5 : kind = 0 → a < 4 := p5
  show ∃ M', zV (zPr sp) (95, 0, [.ref 119, .int (nI e), .int (nI kind), .int (nI c), .int (nI a), .int (nI b), .double 0, .double 0, .double 0], [], M) = some (none, M') ∧ RR M0 M' (if ysw e = true then yArrS S e (3 * e + c - 1) kind a b else yArrT S (3 * e + c - 1) kind a b)
  have ix : 3 * nI e + nI c - 1 = nI (3 * e + c - 1) := by
    rw [show (3 : Int32) * nI e = nI (3 * e) from pk_mul 3 e, nI_add]
    exact pk_sub (b := 1) (by omega)
  generalize hkk : 3 * e + c - 1 = k at ix
  have hk : k < 30 := by omega
  have hd : k / 3 = e := by omega
  have hcm : k % 3 + 1 = c := by omega
  have hsw := R_sw (sp := sp) (M := M) he
  cases hs : ysw e
  · rw [if_neg (by decide)]
    rw [hs] at hsw
    obtain ⟨M1, r1, r2⟩ := R_term (sp := sp) (kind := kind) (a := a) (b := b) h hK (by omega) ht hk (by rw [hd]; exact hs) p1
    refine ⟨M1, ?_, r2⟩
    simp only [e95_0, e95_1, e95_2, e95_3, e95_4, e95_5, e95_6, e95_7, e95_9, e95_10, e95_13, e95_16, e95_17, e95_19, e95_20, e95_22, e95_24, e95_27, zG1, zG2, zG3, zG4, zG5, zG6, zG7, zG8, zNn, s3, s4, bk119 B, bk120 B, bk121 B, bk122 B, bk123 B, bk124 B, bk125 B, bk126 B, bk127 B, bk128 B, bk129 B, bk130 B, bk131 B, bk132 B, bk133 B, bk134 B, bk135 B, bk136 B, bk137 B, bk138 B, bk139 B, bk140 B, bk141 B, bk142 B, br1 B, br2 B, br3 B, br4 B, br5 B, br6 B, br7 B, br8 B, br9 B, br10 B, br11 B, br12 B, br13 B, br14 B, br15 B, br16 B, br17 B, br18 B, br19 B, br20 B, br21 B, br22 B, br23 B, ix, hsw, zyb0, r1, or_true, true_or, if_true, if_false, Option.bind_some, Option.toList_some, Option.toList_none, List.nil_append, List.cons_append]
  · rw [if_pos rfl]
    rw [hs] at hsw
    have hs' : ysw (k / 3) = true := by rw [hd]; exact hs
    subst hd
    have q3 : zin (nI k) 30 = true := zin_nI hk (by decide)
    have q4 : (nI k).toNatClampNeg = k := nI_clamp (by omega)
    have h1 : RR M0 (zwi M 136 k 0) (yfS S k false) := RR_ff h
    have hK1 : yK n t (yfS S k false) := yK_f hK
    have gk := (h.2.2.2.1 k hk).2.1 hs'
    have r2 := nrem2 (a := k / 3) (by omega)
    have pre : ∃ g : Bool, zV (zPr sp) (95, 0, [.ref 119, .int (nI (k / 3)), .int (nI kind), .int (nI c), .int (nI a), .int (nI b), .double 0, .double 0, .double 0], [], M) = zV (zPr sp) (95, 60, [.ref 119, .int (nI (k / 3)), .int (nI kind), .int (nI c), .int (nI a), .int (nI b), .int (nI k), .int (yb g), .double 0], [], zwi M 136 k 0) ∧ (yn S 5 k = 1 → (g = true ↔ yf S k = true ∧ k / 3 % 2 = 1)) := by
      rcases gk.1 with hz | hz
      · have z0 := eq_true hz
        refine ⟨false, ?_, fun hj => ⟨(fun z => by cases z), fun z => ?_⟩⟩
        · have q0 : yb false = 0 := rfl
          simp only [e95_0, e95_1, e95_2, e95_3, e95_4, e95_5, e95_6, e95_7, e95_9, e95_10, e95_13, e95_28, e95_29, e95_32, e95_34, e95_35, e95_38, e95_39, e95_40, e95_41, e95_42, e95_45, e95_46, e95_49, e95_50, e95_52, e95_53, e95_56, e95_58, e95_59, zG1, zG2, zG3, zG4, zG5, zG6, zG7, zG8, zNn, s3, s4, zk_wi, zr_wi, bk119 B, bk120 B, bk121 B, bk122 B, bk123 B, bk124 B, bk125 B, bk126 B, bk127 B, bk128 B, bk129 B, bk130 B, bk131 B, bk132 B, bk133 B, bk134 B, bk135 B, bk136 B, bk137 B, bk138 B, bk139 B, bk140 B, bk141 B, bk142 B, br1 B, br2 B, br3 B, br4 B, br5 B, br6 B, br7 B, br8 B, br9 B, br10 B, br11 B, br12 B, br13 B, br14 B, br15 B, br16 B, br17 B, br18 B, br19 B, br20 B, br21 B, br22 B, br23 B, ix, hsw, zyb1, q3, q4, z0, nar0, q0, or_true, true_or, if_true, if_false, Option.bind_some, Option.toList_some, Option.toList_none, List.nil_append, List.cons_append]
        · have := gk.2.2 hj
          rw [hz, z.1] at this
          exact absurd this (by decide)
      · have z0 : (zi M 136 k = 0) = False := by rw [hz.1]; decide
        by_cases hpar : k / 3 % 2 = 1
        · refine ⟨true, ?_, fun hj => ⟨fun _ => ⟨hz.2, hpar⟩, fun _ => rfl⟩⟩
          have q0 : yb true = 1 := rfl
          have e1 : (nI (k / 3 % 2) = 1) = True := by rw [hpar]; decide
          simp only [z10, e95_0, e95_1, e95_2, e95_3, e95_4, e95_5, e95_6, e95_7, e95_9, e95_10, e95_13, e95_28, e95_29, e95_32, e95_34, e95_35, e95_38, e95_39, e95_40, e95_41, e95_42, e95_45, e95_46, e95_49, e95_50, e95_52, e95_53, e95_56, e95_58, e95_59, zG1, zG2, zG3, zG4, zG5, zG6, zG7, zG8, zNn, s3, s4, zk_wi, zr_wi, bk119 B, bk120 B, bk121 B, bk122 B, bk123 B, bk124 B, bk125 B, bk126 B, bk127 B, bk128 B, bk129 B, bk130 B, bk131 B, bk132 B, bk133 B, bk134 B, bk135 B, bk136 B, bk137 B, bk138 B, bk139 B, bk140 B, bk141 B, bk142 B, br1 B, br2 B, br3 B, br4 B, br5 B, br6 B, br7 B, br8 B, br9 B, br10 B, br11 B, br12 B, br13 B, br14 B, br15 B, br16 B, br17 B, br18 B, br19 B, br20 B, br21 B, br22 B, br23 B, ix, hsw, zyb1, q3, q4, z0, z20', r2, e1, nar0, q0, or_true, true_or, if_true, if_false, Option.bind_some, Option.toList_some, Option.toList_none, List.nil_append, List.cons_append]
        · refine ⟨false, ?_, fun hj => ⟨(fun z => by cases z), fun z => absurd z.2 hpar⟩⟩
          have q0 : yb false = 0 := rfl
          have e1 : (nI (k / 3 % 2) = 1) = False := by rw [show k / 3 % 2 = 0 by omega]; decide
          simp only [e95_0, e95_1, e95_2, e95_3, e95_4, e95_5, e95_6, e95_7, e95_9, e95_10, e95_13, e95_28, e95_29, e95_32, e95_34, e95_35, e95_38, e95_39, e95_40, e95_41, e95_42, e95_45, e95_46, e95_49, e95_50, e95_52, e95_53, e95_56, e95_58, e95_59, zG1, zG2, zG3, zG4, zG5, zG6, zG7, zG8, zNn, s3, s4, zk_wi, zr_wi, bk119 B, bk120 B, bk121 B, bk122 B, bk123 B, bk124 B, bk125 B, bk126 B, bk127 B, bk128 B, bk129 B, bk130 B, bk131 B, bk132 B, bk133 B, bk134 B, bk135 B, bk136 B, bk137 B, bk138 B, bk139 B, bk140 B, bk141 B, bk142 B, br1 B, br2 B, br3 B, br4 B, br5 B, br6 B, br7 B, br8 B, br9 B, br10 B, br11 B, br12 B, br13 B, br14 B, br15 B, br16 B, br17 B, br18 B, br19 B, br20 B, br21 B, br22 B, br23 B, ix, hsw, zyb1, q3, q4, z0, z20', r2, e1, nar0, q0, or_true, true_or, if_true, if_false, Option.bind_some, Option.toList_some, Option.toList_none, List.nil_append, List.cons_append]
    obtain ⟨g, w1, w2⟩ := pre
    rw [w1]
    clear w1
    have yff : yf (yfS S k false) k = false := by rw [yf_f, if_pos rfl]
    generalize hM1 : zwi M 136 k 0 = M1 at h1
    clear h gk s3 s4 hsw
    obtain ⟨-, -, s3, s4, -⟩ := h1.2.1
    have gs := h1.2.2.2.1 k hk
    have gi := (hK1.2.1 k hk)
    have ck : ∀ m, m < 8 → (nI kind = nI m) = (kind = m) := fun m hm => propext (nI_eq (by omega) (by omega))
    have c0 : (nI kind = 0) = (kind = 0) := ck 0 (by decide)
    have c2 : (nI kind = 2) = (kind = 2) := ck 2 (by decide)
    have c3 : (nI kind = 3) = (kind = 3) := ck 3 (by decide)
    have t0 : (nI (yn (yfS S k false) 5 k) = 0) = (yn (yfS S k false) 5 k = 0) := st_eq (m := 0) hK1.2.1 hk (by decide)
    have t1 : (nI (yn (yfS S k false) 5 k) = 1) = (yn (yfS S k false) 5 k = 1) := st_eq (m := 1) hK1.2.1 hk (by decide)
    have t5 : (nI (yn (yfS S k false) 5 k) = 5) = (yn (yfS S k false) 5 k = 5) := st_eq (m := 5) hK1.2.1 hk (by decide)
    by_cases k0 : kind = 0
    · subst k0
      rw [yArrS_0 w2]
      clear w2
      generalize hS1 : yfS S k false = S1 at h1 hK1 yff gs gi t0 t1 t5
      have c0 := c0.trans (eq_true rfl)
      have tail : ∀ {M : zM} {S2 : yS}, RR M0 M S2 → yK n t S2 → yf S2 k = false → ∃ M', zV (zPr sp) (95, 99, [.ref 119, .int (nI (k / 3)), .int (nI 0), .int (nI c), .int (nI a), .int (nI b), .int (nI k), .int (yb g), .double 0], [], M) = some (none, M') ∧ RR M0 M' (if yn S2 5 k = 0 then yConn S2 (k / 3) k a b else S2) := by
        intro M S2 h hK hf
        obtain ⟨-, -, s3, s4, -⟩ := h.2.1
        have gs := (h.2.2.2.1 k hk).1
        have t0 : (nI (yn S2 5 k) = 0) = (yn S2 5 k = 0) := st_eq (m := 0) hK.2.1 hk (by decide)
        by_cases hz : yn S2 5 k = 0
        · rw [if_pos hz]
          have t0 := t0.trans (eq_true hz)
          obtain ⟨M1, r1, r2⟩ := R_conn (sp := sp) h hK hn hk hs' hf (p5 rfl) p4
          refine ⟨M1, ?_, r2⟩
          simp only [e95_99, e95_100, e95_103, e95_105, e95_106, e95_109, e95_110, e95_111, e95_113, e95_115, e95_117, e95_120, e95_254, zG1, zG2, zG3, zG4, zG5, zG6, zG7, zG8, zNn, s3, s4, bk119 B, bk120 B, bk121 B, bk122 B, bk123 B, bk124 B, bk125 B, bk126 B, bk127 B, bk128 B, bk129 B, bk130 B, bk131 B, bk132 B, bk133 B, bk134 B, bk135 B, bk136 B, bk137 B, bk138 B, bk139 B, bk140 B, bk141 B, bk142 B, br1 B, br2 B, br3 B, br4 B, br5 B, br6 B, br7 B, br8 B, br9 B, br10 B, br11 B, br12 B, br13 B, br14 B, br15 B, br16 B, br17 B, br18 B, br19 B, br20 B, br21 B, br22 B, br23 B, q3, q4, gs, t0, r1, or_true, true_or, if_true, if_false, Option.bind_some, Option.toList_some, Option.toList_none, List.nil_append, List.cons_append]
        · rw [if_neg hz]
          have t0 := t0.trans (eq_false hz)
          refine ⟨M, ?_, h⟩
          simp only [e95_99, e95_100, e95_103, e95_105, e95_106, e95_109, e95_110, e95_111, e95_113, e95_115, e95_117, e95_120, e95_254, zG1, zG2, zG3, zG4, zG5, zG6, zG7, zG8, zNn, s3, s4, bk119 B, bk120 B, bk121 B, bk122 B, bk123 B, bk124 B, bk125 B, bk126 B, bk127 B, bk128 B, bk129 B, bk130 B, bk131 B, bk132 B, bk133 B, bk134 B, bk135 B, bk136 B, bk137 B, bk138 B, bk139 B, bk140 B, bk141 B, bk142 B, br1 B, br2 B, br3 B, br4 B, br5 B, br6 B, br7 B, br8 B, br9 B, br10 B, br11 B, br12 B, br13 B, br14 B, br15 B, br16 B, br17 B, br18 B, br19 B, br20 B, br21 B, br22 B, br23 B, q3, q4, gs, t0, or_true, true_or, if_true, if_false, Option.bind_some, Option.toList_some, Option.toList_none, List.nil_append, List.cons_append]
      unfold yMcal
      dsimp only
      by_cases hj : yn S1 5 k = 1
      · have t1 := t1.trans (eq_true hj)
        cases g
        · rw [if_neg (show ¬ (yn S1 5 k = 1 ∧ false = true) from fun z => by cases z.2)]
          obtain ⟨M2, r1, r2⟩ := tail h1 hK1 yff
          refine ⟨M2, ?_, r2⟩
          simp only [e95_60, e95_61, e95_64, e95_65, e95_68, e95_70, e95_71, e95_72, e95_75, e95_77, zG1, zG2, zG3, zG4, zG5, zG6, zG7, zG8, zNn, s3, s4, bk119 B, bk120 B, bk121 B, bk122 B, bk123 B, bk124 B, bk125 B, bk126 B, bk127 B, bk128 B, bk129 B, bk130 B, bk131 B, bk132 B, bk133 B, bk134 B, bk135 B, bk136 B, bk137 B, bk138 B, bk139 B, bk140 B, bk141 B, bk142 B, br1 B, br2 B, br3 B, br4 B, br5 B, br6 B, br7 B, br8 B, br9 B, br10 B, br11 B, br12 B, br13 B, br14 B, br15 B, br16 B, br17 B, br18 B, br19 B, br20 B, br21 B, br22 B, br23 B, q3, q4, c0, gs.1, t1, zyb0, r1, or_true, true_or, if_true, if_false, Option.bind_some, Option.toList_some, Option.toList_none, List.nil_append, List.cons_append]
        · rw [if_pos (show yn S1 5 k = 1 ∧ true = true from ⟨hj, rfl⟩)]
          have gp := (gs.2.1 hs').2.1
          have gg := gi.2.2.2.2.2 hs' hj
          have a1 : RR M0 (zwi M1 134 k 0) (ynS S1 5 k 0) := RR_st (m := 0) h1 (fun _ => by decide)
          obtain ⟨M2, u1, u2⟩ := R_cut (sp := sp) (k := yn S1 6 k) a1 (yK_st hK1 (by decide) hk (fun _ => by decide)).1 (by omega) gg.1
          obtain ⟨M3, r1, r2⟩ := tail u2 (yK_way hK1 hk hs' hj) (by rw [yf_cut, yf_n]; exact yff)
          refine ⟨M3, ?_, r2⟩
          simp only [e95_60, e95_61, e95_64, e95_65, e95_68, e95_70, e95_71, e95_72, e95_75, e95_77, e95_80, e95_81, e95_84, e95_86, e95_87, e95_88, e95_89, e95_90, e95_93, e95_95, e95_96, zG1, zG2, zG3, zG4, zG5, zG6, zG7, zG8, zNn, s3, s4, zk_wi, zr_wi, bk119 B, bk120 B, bk121 B, bk122 B, bk123 B, bk124 B, bk125 B, bk126 B, bk127 B, bk128 B, bk129 B, bk130 B, bk131 B, bk132 B, bk133 B, bk134 B, bk135 B, bk136 B, bk137 B, bk138 B, bk139 B, bk140 B, bk141 B, bk142 B, br1 B, br2 B, br3 B, br4 B, br5 B, br6 B, br7 B, br8 B, br9 B, br10 B, br11 B, br12 B, br13 B, br14 B, br15 B, br16 B, br17 B, br18 B, br19 B, br20 B, br21 B, br22 B, br23 B, q3, q4, c0, gs.1, t1, zyb1, zi_wi, Nat.reduceEqDiff, false_and, gp, u1, r1, or_true, true_or, if_true, if_false, Option.bind_some, Option.toList_some, Option.toList_none, List.nil_append, List.cons_append]
      · rw [if_neg (show ¬ (yn S1 5 k = 1 ∧ g = true) from fun z => hj z.1)]
        have t1 := t1.trans (eq_false hj)
        obtain ⟨M2, r1, r2⟩ := tail h1 hK1 yff
        refine ⟨M2, ?_, r2⟩
        simp only [e95_60, e95_61, e95_64, e95_65, e95_68, e95_70, e95_71, e95_72, e95_75, e95_77, zG1, zG2, zG3, zG4, zG5, zG6, zG7, zG8, zNn, s3, s4, bk119 B, bk120 B, bk121 B, bk122 B, bk123 B, bk124 B, bk125 B, bk126 B, bk127 B, bk128 B, bk129 B, bk130 B, bk131 B, bk132 B, bk133 B, bk134 B, bk135 B, bk136 B, bk137 B, bk138 B, bk139 B, bk140 B, bk141 B, bk142 B, br1 B, br2 B, br3 B, br4 B, br5 B, br6 B, br7 B, br8 B, br9 B, br10 B, br11 B, br12 B, br13 B, br14 B, br15 B, br16 B, br17 B, br18 B, br19 B, br20 B, br21 B, br22 B, br23 B, q3, q4, c0, gs.1, t1, r1, or_true, true_or, if_true, if_false, Option.bind_some, Option.toList_some, Option.toList_none, List.nil_append, List.cons_append]
    · have c0 := c0.trans (eq_false k0)
      by_cases k2 : kind = 2
      · subst k2
        rw [yArrS_2]
        clear w2
        generalize hS1 : yfS S k false = S1 at h1 hK1 yff gs gi t0 t1 t5
        have c2 := c2.trans (eq_true rfl)
        have a1 : RR M0 (zwi M1 134 k 0) (ynS S1 5 k 0) := RR_st (m := 0) h1 (fun _ => by decide)
        have hKz := (yK_st (m := 0) hK1 (by decide) hk (fun _ => by decide)).1
        unfold yMclr
        dsimp only
        by_cases h5 : yn S1 5 k = 5
        · rw [if_neg (show ¬ yn S1 5 k = 1 by omega), if_pos h5]
          have t5 := t5.trans (eq_true h5)
          have t1 := t1.trans (eq_false (by omega))
          refine ⟨_, ?_, a1⟩
          simp only [e95_60, e95_61, e95_123, e95_124, e95_125, e95_128, e95_129, e95_132, e95_134, e95_135, e95_137, e95_138, e95_141, e95_143, e95_144, e95_145, e95_147, e95_148, e95_151, e95_152, e95_154, e95_155, e95_158, e95_160, e95_161, e95_164, e95_165, e95_166, e95_169, e95_171, e95_172, e95_175, e95_254, zG1, zG2, zG3, zG4, zG5, zG6, zG7, zG8, zNn, s3, s4, zk_wi, zr_wi, bk119 B, bk120 B, bk121 B, bk122 B, bk123 B, bk124 B, bk125 B, bk126 B, bk127 B, bk128 B, bk129 B, bk130 B, bk131 B, bk132 B, bk133 B, bk134 B, bk135 B, bk136 B, bk137 B, bk138 B, bk139 B, bk140 B, bk141 B, bk142 B, br1 B, br2 B, br3 B, br4 B, br5 B, br6 B, br7 B, br8 B, br9 B, br10 B, br11 B, br12 B, br13 B, br14 B, br15 B, br16 B, br17 B, br18 B, br19 B, br20 B, br21 B, br22 B, br23 B, q3, q4, c0, c2, gs.1, t1, t5, or_true, true_or, if_true, if_false, Option.bind_some, Option.toList_some, Option.toList_none, List.nil_append, List.cons_append]
        · rw [if_neg h5]
          have t5 := t5.trans (eq_false h5)
          obtain ⟨M2, u1, u2⟩ := R_puto (sp := sp) (kd := 3) a1 hKz (by omega) hk (by decide) (by decide)
          have u1 : zV (zPr sp) (83, 0, [.ref 119, .int (nI k), .int 3], [], zwi M1 134 k 0) = some (none, M2) := u1
          by_cases hj : yn S1 5 k = 1
          · rw [if_pos hj]
            have t1 := t1.trans (eq_true hj)
            have gg := gi.2.2.2.2.2 hs' hj
            have hKp : yK (n + 1) t (yPutOn (ynS S1 5 k 0) k 3 0 0) := yK_put hKz (by omega) (yPk_k (by decide) (by decide) (by decide) (fun z => by cases z))
            obtain ⟨-, -, v3, v4, -⟩ := u2.2.1
            have gp := ((u2.2.2.2.1 k hk).2.1 hs').2.1
            rw [yn_puto (by decide), yn_nf (by decide)] at gp
            obtain ⟨M3, r1, r2⟩ := R_cut (sp := sp) (k := yn S1 6 k) u2 hKp (by omega) gg.1
            refine ⟨M3, ?_, r2⟩
            simp only [e95_60, e95_61, e95_123, e95_124, e95_125, e95_128, e95_129, e95_132, e95_134, e95_135, e95_137, e95_138, e95_141, e95_143, e95_144, e95_145, e95_147, e95_148, e95_151, e95_152, e95_154, e95_155, e95_158, e95_160, e95_161, e95_164, e95_165, e95_166, e95_169, e95_171, e95_172, e95_175, e95_254, zG1, zG2, zG3, zG4, zG5, zG6, zG7, zG8, zNn, s3, s4, v3, v4, zk_wi, zr_wi, bk119 B, bk120 B, bk121 B, bk122 B, bk123 B, bk124 B, bk125 B, bk126 B, bk127 B, bk128 B, bk129 B, bk130 B, bk131 B, bk132 B, bk133 B, bk134 B, bk135 B, bk136 B, bk137 B, bk138 B, bk139 B, bk140 B, bk141 B, bk142 B, br1 B, br2 B, br3 B, br4 B, br5 B, br6 B, br7 B, br8 B, br9 B, br10 B, br11 B, br12 B, br13 B, br14 B, br15 B, br16 B, br17 B, br18 B, br19 B, br20 B, br21 B, br22 B, br23 B, q3, q4, c0, c2, gs.1, t1, t5, u1, gp, r1, or_true, true_or, if_true, if_false, Option.bind_some, Option.toList_some, Option.toList_none, List.nil_append, List.cons_append]
          · rw [if_neg hj]
            have t1 := t1.trans (eq_false hj)
            refine ⟨M2, ?_, u2⟩
            simp only [e95_60, e95_61, e95_123, e95_124, e95_125, e95_128, e95_129, e95_132, e95_134, e95_135, e95_137, e95_138, e95_141, e95_143, e95_144, e95_145, e95_147, e95_148, e95_151, e95_152, e95_154, e95_155, e95_158, e95_160, e95_161, e95_164, e95_165, e95_166, e95_169, e95_171, e95_172, e95_175, e95_254, zG1, zG2, zG3, zG4, zG5, zG6, zG7, zG8, zNn, s3, s4, zk_wi, zr_wi, bk119 B, bk120 B, bk121 B, bk122 B, bk123 B, bk124 B, bk125 B, bk126 B, bk127 B, bk128 B, bk129 B, bk130 B, bk131 B, bk132 B, bk133 B, bk134 B, bk135 B, bk136 B, bk137 B, bk138 B, bk139 B, bk140 B, bk141 B, bk142 B, br1 B, br2 B, br3 B, br4 B, br5 B, br6 B, br7 B, br8 B, br9 B, br10 B, br11 B, br12 B, br13 B, br14 B, br15 B, br16 B, br17 B, br18 B, br19 B, br20 B, br21 B, br22 B, br23 B, q3, q4, c0, c2, gs.1, t1, t5, u1, or_true, true_or, if_true, if_false, Option.bind_some, Option.toList_some, Option.toList_none, List.nil_append, List.cons_append]
      · have c2 := c2.trans (eq_false k2)
        by_cases k3 : kind = 3
        · subst k3
          rw [yArrS_3]
          clear w2
          generalize hS1 : yfS S k false = S1 at h1 hK1 yff gs gi t0 t1 t5
          have c3 := c3.trans (eq_true rfl)
          by_cases h5 : yn S1 5 k = 5
          · rw [if_pos h5]
            have t5 := t5.trans (eq_true h5)
            have a1 : RR M0 (zwi M1 134 k 0) (ynS S1 5 k 0) := RR_st (m := 0) h1 (fun _ => by decide)
            refine ⟨_, ?_, a1⟩
            simp only [e95_60, e95_61, e95_123, e95_124, e95_125, e95_178, e95_179, e95_180, e95_183, e95_184, e95_187, e95_189, e95_190, e95_193, e95_195, e95_196, e95_197, e95_200, e95_201, e95_204, e95_205, e95_208, e95_210, e95_211, e95_212, e95_254, zG1, zG2, zG3, zG4, zG5, zG6, zG7, zG8, zNn, s3, s4, bk119 B, bk120 B, bk121 B, bk122 B, bk123 B, bk124 B, bk125 B, bk126 B, bk127 B, bk128 B, bk129 B, bk130 B, bk131 B, bk132 B, bk133 B, bk134 B, bk135 B, bk136 B, bk137 B, bk138 B, bk139 B, bk140 B, bk141 B, bk142 B, br1 B, br2 B, br3 B, br4 B, br5 B, br6 B, br7 B, br8 B, br9 B, br10 B, br11 B, br12 B, br13 B, br14 B, br15 B, br16 B, br17 B, br18 B, br19 B, br20 B, br21 B, br22 B, br23 B, q3, q4, c0, c2, c3, gs.1, t5, or_true, true_or, if_true, if_false, Option.bind_some, Option.toList_some, Option.toList_none, List.nil_append, List.cons_append]
          · rw [if_neg h5]
            have t5 := t5.trans (eq_false h5)
            have a1 : RR M0 (zwi M1 134 k (nI (yn S1 5 k))) S1 := RR_id h1 (by decide) (by decide) gs.1
            refine ⟨_, ?_, a1⟩
            simp only [e95_60, e95_61, e95_123, e95_124, e95_125, e95_178, e95_179, e95_180, e95_183, e95_184, e95_187, e95_189, e95_190, e95_193, e95_195, e95_196, e95_197, e95_200, e95_201, e95_204, e95_205, e95_208, e95_210, e95_211, e95_212, e95_254, zG1, zG2, zG3, zG4, zG5, zG6, zG7, zG8, zNn, s3, s4, bk119 B, bk120 B, bk121 B, bk122 B, bk123 B, bk124 B, bk125 B, bk126 B, bk127 B, bk128 B, bk129 B, bk130 B, bk131 B, bk132 B, bk133 B, bk134 B, bk135 B, bk136 B, bk137 B, bk138 B, bk139 B, bk140 B, bk141 B, bk142 B, br1 B, br2 B, br3 B, br4 B, br5 B, br6 B, br7 B, br8 B, br9 B, br10 B, br11 B, br12 B, br13 B, br14 B, br15 B, br16 B, br17 B, br18 B, br19 B, br20 B, br21 B, br22 B, br23 B, q3, q4, c0, c2, c3, gs.1, t5, or_true, true_or, if_true, if_false, Option.bind_some, Option.toList_some, Option.toList_none, List.nil_append, List.cons_append]
        · have c3 := c3.trans (eq_false k3)
          rw [yArrS_d k0 k2 k3]
          clear w2
          generalize hS1 : yfS S k false = S1 at h1 hK1 yff gs gi t0 t1 t5
          unfold yMpas
          by_cases hj : yn S1 5 k = 1
          · rw [if_pos hj]
            have t1 := t1.trans (eq_true hj)
            have gp := (gs.2.1 hs').2.1
            have gg := gi.2.2.2.2.2 hs' hj
            obtain ⟨M2, u1, u2⟩ := R_put (sp := sp) (e := yn S1 6 k / 3) (k := kind) (c := yn S1 6 k % 3 + 1) (a := a) (b := b) h1 hK1 (by omega) (by omega) (yPk_k p1 p3 p4 (fun z => absurd z k0))
            have d3 := ndiv3 (show yn S1 6 k < 2 ^ 31 by omega)
            have m3 : nI (yn S1 6 k) - nI (yn S1 6 k / 3) * 3 = nI (yn S1 6 k % 3) := by rw [← d3]; exact nrem3 (by omega)
            refine ⟨M2, ?_, u2⟩
            simp only [e95_60, e95_61, e95_123, e95_124, e95_125, e95_178, e95_179, e95_180, e95_215, e95_216, e95_219, e95_221, e95_222, e95_223, e95_226, e95_227, e95_230, e95_232, e95_233, e95_235, e95_236, e95_238, e95_239, e95_240, e95_241, e95_243, e95_244, e95_245, e95_246, e95_247, e95_249, e95_251, e95_254, zG1, zG2, zG3, zG4, zG5, zG6, zG7, zG8, zNn, s3, s4, bk119 B, bk120 B, bk121 B, bk122 B, bk123 B, bk124 B, bk125 B, bk126 B, bk127 B, bk128 B, bk129 B, bk130 B, bk131 B, bk132 B, bk133 B, bk134 B, bk135 B, bk136 B, bk137 B, bk138 B, bk139 B, bk140 B, bk141 B, bk142 B, br1 B, br2 B, br3 B, br4 B, br5 B, br6 B, br7 B, br8 B, br9 B, br10 B, br11 B, br12 B, br13 B, br14 B, br15 B, br16 B, br17 B, br18 B, br19 B, br20 B, br21 B, br22 B, br23 B, q3, q4, c0, c2, c3, gs.1, t1, gp, z30', d3, m3, nI_1, u1, or_true, true_or, if_true, if_false, Option.bind_some, Option.toList_some, Option.toList_none, List.nil_append, List.cons_append]
          · rw [if_neg hj]
            have t1 := t1.trans (eq_false hj)
            refine ⟨M1, ?_, h1⟩
            simp only [e95_60, e95_61, e95_123, e95_124, e95_125, e95_178, e95_179, e95_180, e95_215, e95_216, e95_219, e95_221, e95_222, e95_223, e95_226, e95_227, e95_230, e95_232, e95_233, e95_235, e95_236, e95_238, e95_239, e95_240, e95_241, e95_243, e95_244, e95_245, e95_246, e95_247, e95_249, e95_251, e95_254, zG1, zG2, zG3, zG4, zG5, zG6, zG7, zG8, zNn, s3, s4, bk119 B, bk120 B, bk121 B, bk122 B, bk123 B, bk124 B, bk125 B, bk126 B, bk127 B, bk128 B, bk129 B, bk130 B, bk131 B, bk132 B, bk133 B, bk134 B, bk135 B, bk136 B, bk137 B, bk138 B, bk139 B, bk140 B, bk141 B, bk142 B, br1 B, br2 B, br3 B, br4 B, br5 B, br6 B, br7 B, br8 B, br9 B, br10 B, br11 B, br12 B, br13 B, br14 B, br15 B, br16 B, br17 B, br18 B, br19 B, br20 B, br21 B, br22 B, br23 B, q3, q4, c0, c2, c3, gs.1, t1, or_true, true_or, if_true, if_false, Option.bind_some, Option.toList_some, Option.toList_none, List.nil_append, List.cons_append]
