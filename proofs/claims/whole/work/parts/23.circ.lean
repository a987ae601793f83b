/-! The terminals' channels of the class. -/
theorem yXs_v {S : yS} {s : Nat} : yXs S (10 + s) = (yv S s).map nI := by
  unfold yXs
  rw [if_neg (by omega), show 10 + s - 10 = s by omega]
theorem yXS_v {S : yS} {s : Nat} {l : List yP} {v : List Nat} : yXS S (10 + s) l v = yvS S s v := by
  unfold yXS
  rw [if_neg (by omega), show 10 + s - 10 = s by omega]
theorem T_renew {sp : Nat × (Nat → Int32)} {M0 M : zM} {S : yS} {k : Nat} (h : RC M0 M S) (hk : k < 30) (hs : ysw (k / 3) = false) : ∃ M', zV (zPr sp) (15, 0, [.ref (zCh k)], [], M) = some (none, M') ∧ RC M0 M' (yRenew S k) := by
  obtain ⟨c1, c2, c3, c4, c5⟩ := RC_cT h hk hs
  have a1 : RC M0 (zwi M (zCh k) 2 0) (ynS S 8 k 0) := RC_tn (f := 8) (j := 2) (n := 0) h hk hs (by omega)
  have a2 : RC M0 (zwi (zwi M (zCh k) 2 0) (zCh k) 3 0) (ynS (ynS S 8 k 0) 9 k 0) := RC_tn (f := 9) (j := 3) (n := 0) a1 hk hs (by omega)
  have a3 : RC M0 (zwi (zwi (zwi M (zCh k) 2 0) (zCh k) 3 0) (zCh k) 4 0) (ynS (ynS (ynS S 8 k 0) 9 k 0) 10 k 0) := RC_tn (f := 10) (j := 4) (n := 0) a2 hk hs (by omega)
  have kl := RC_l h (show 10 + ysl k < 22 by omega)
  have hsz := L_size (sp := sp) a3 (show 10 + ysl k < 22 by omega)
  rw [yXs_v, List.length_map] at hsz
  obtain ⟨M1, r1, r2⟩ := L_drop (sp := sp) (d := (yv (ynS (ynS (ynS S 8 k 0) 9 k 0) 10 k 0) (ysl k)).length) a3 (show 10 + ysl k < 22 by omega) (by rw [yXs_v, List.length_map]; exact Nat.le_refl _)
  rw [yXS_v, show 10 + ysl k - 10 = ysl k by omega, List.drop_length] at r2
  refine ⟨M1, ?_, r2⟩
  simp only [e15_0, e15_1, e15_2, e15_5, e15_6, e15_7, e15_10, e15_11, e15_12, e15_15, e15_16, e15_19, e15_20, e15_23, e15_26, e15_29, zG1, zG3, c1, c4, kl, zk_wi, zr_wi, if_true, hsz, r1, Option.bind_some, Option.toList_some, Option.toList_none, List.nil_append, List.cons_append]
theorem T_begin {sp : Nat × (Nat → Int32)} {M0 M : zM} {S : yS} {k m p : Nat} (h : RC M0 M S) (hk : k < 30) (hs : ysw (k / 3) = false) : ∃ M', zV (zPr sp) (14, 0, [.ref (zCh k), .int (nI m), .int (nI p)], [], M) = some (none, M') ∧ RC M0 M' (yRenew (ynS (ynS S 5 k m) 7 k p) k) := by
  obtain ⟨c1, c2, c3, c4, c5⟩ := RC_cT h hk hs
  have a1 : RC M0 (zwi M (zCh k) 7 (nI m)) (ynS S 5 k m) := RC_tn (f := 5) (j := 7) h hk hs (by omega)
  have a2 : RC M0 (zwi (zwi M (zCh k) 7 (nI m)) (zCh k) 0 (nI p)) (ynS (ynS S 5 k m) 7 k p) := RC_tn (f := 7) (j := 0) a1 hk hs (by omega)
  obtain ⟨M1, r1, r2⟩ := T_renew (sp := sp) a2 hk hs
  refine ⟨M1, ?_, r2⟩
  simp only [e14_0, e14_1, e14_2, e14_5, e14_6, e14_7, e14_10, e14_11, e14_14, zG1, c1, zk_wi, if_true, r1, Option.bind_some, Option.toList_none, List.nil_append]
theorem T_change {sp : Nat × (Nat → Int32)} {M0 M : zM} {S : yS} {k x y : Nat} (h : RC M0 M S) (hI : yIk S) (hk : k < 30) (hs : ysw (k / 3) = false) (hx : x ≤ 5) : ∃ M', zV (zPr sp) (51, 0, [.ref (zCh k), .int (nI x), .int (nI y)], [], M) = some (none, M') ∧ RC M0 M' (if yn S 5 k = x then ynS S 5 k y else S) := by
  obtain ⟨c1, c2, c3, c4, c5⟩ := RC_cT h hk hs
  have g := h.2.2.2.1 k hk hs
  have gi := (hI k hk).1
  by_cases hq : yn S 5 k = x
  · rw [if_pos hq]
    have a1 : RC M0 (zwi M (zCh k) 7 (nI y)) (ynS S 5 k y) := RC_tn (f := 5) (j := 7) h hk hs (by omega)
    have p1 : (nI (yn S 5 k) = nI x) = True := eq_true (by rw [hq])
    refine ⟨_, ?_, a1⟩
    simp only [e51_0, e51_1, e51_4, e51_5, e51_8, e51_9, e51_10, e51_13, zG1, c1, if_true, g.1, p1]
  · rw [if_neg hq]
    have p1 : (nI (yn S 5 k) = nI x) = False := eq_false (fun z => hq ((nI_eq (by omega) (by omega)).mp z))
    refine ⟨M, ?_, h⟩
    simp only [e51_0, e51_1, e51_4, e51_5, e51_8, e51_9, e51_10, e51_13, zG1, c1, if_true, if_false, g.1, p1]
theorem T_mclr {sp : Nat × (Nat → Int32)} {M0 M : zM} {S : yS} {k n t : Nat} (h : RC M0 M S) (hK : yK n t S) (hn : n < 2047) (hk : k < 30) (hs : ysw (k / 3) = false) : ∃ M', zV (zPr sp) (52, 0, [.ref (zCh k), .double 0], [], M) = some (none, M') ∧ RC M0 M' (if yn S 5 k = 5 then ynS S 5 k 0 else yPutOn (ynS S 5 k 0) k 3 0 0) := by
  obtain ⟨c1, c2, c3, c4, c5⟩ := RC_cT h hk hs
  have g := h.2.2.2.1 k hk hs
  have gi := (hK.2.1 k hk).1
  have a1 : RC M0 (zwi M (zCh k) 7 0) (ynS S 5 k 0) := RC_tn (f := 5) (j := 7) (n := 0) h hk hs (by omega)
  have q1 : ((1 : Int32) = 0) = False := by decide
  by_cases hq : yn S 5 k = 5
  · rw [if_pos hq]
    have p1 : (nI (yn S 5 k) = 5) = True := by rw [hq]; decide
    refine ⟨_, ?_, a1⟩
    simp only [e52_0, e52_1, e52_4, e52_5, e52_8, e52_9, e52_12, e52_13, e52_14, e52_15, e52_16, e52_19, e52_20, e52_23, e52_24, e52_25, e52_26, e52_27, e52_30, zG1, c1, if_true, if_false, g.1, p1, q1]
  · rw [if_neg hq]
    have p1 : (nI (yn S 5 k) = 5) = False := eq_false (fun z => hq ((nI_eq (by omega) (by decide)).mp z))
    obtain ⟨M1, r1, r2⟩ := C_put (sp := sp) (kind := 3) (a := 0) (b := 0) a1 (yK_st hK (by decide) hk (fun _ => by decide)).1 hn hk (yPk_k (by decide) (by decide) (by decide) (fun z => by cases z))
    have r1 : zV (zPr sp) (18, 0, [.ref (zCh k), .int 3, .int 0, .int 0], [], zwi M (zCh k) 7 0) = some (none, M1) := r1
    refine ⟨M1, ?_, r2⟩
    simp only [e52_0, e52_1, e52_4, e52_5, e52_8, e52_9, e52_12, e52_13, e52_14, e52_15, e52_16, e52_19, e52_20, e52_23, e52_24, e52_25, e52_26, e52_27, e52_30, zG1, c1, zk_wi, if_true, if_false, g.1, p1, r1, Option.bind_some, Option.toList_none, List.nil_append]
theorem yK_n {n t : Nat} {S : yS} {f k m : Nat} (h : yK n t S) (hf : (8 ≤ f ∧ m < 8) ∨ (f = 7 ∧ m < 256)) : yK n t (ynS S f k m) := by
  refine ⟨fun e he => ?_, fun k' hk' => ?_, h.2.2.1, ?_⟩
  · rw [yn_nf (by omega), yn_nf (by omega), yn_nf (by omega), yn_nf (by omega), yn_nf (by omega)]
    exact h.1 e he
  · have g := h.2.1 k' hk'
    rw [yn_nf (f' := 5) (by omega), yn_nf (f' := 6) (by omega)]
    refine ⟨g.1, ?_, ?_, ?_, ?_, g.2.2.2.2.2⟩
    · rw [yn_n]; split
      · omega
      · exact g.2.1
    · rw [yn_n]; split
      · omega
      · exact g.2.2.1
    · rw [yn_n]; split
      · omega
      · exact g.2.2.2.1
    · rw [yn_n]; split
      · omega
      · exact g.2.2.2.2.1
  · have e1 : ysum (yj (ynS S f k m)) 30 = ysum (yj S) 30 := ysum_congr (fun i _ => by
      unfold yj
      rw [yn_nf (by omega)])
    have h2 := h.2.2.2
    unfold yΦ at h2 ⊢
    rw [e1]
    exact h2
theorem yK_vals {n t t' : Nat} {S : yS} {s : Nat} {l : List Nat} (h : yK n t S) (ht : t ≤ t') (hl : l.length ≤ t') (hv : ∀ v ∈ l, v < 256) : yK n t' (yvS S s l) := by
  refine ⟨h.1, h.2.1, fun s' hs' => ?_, h.2.2.2⟩
  by_cases hss : s' = s
  · subst hss; rw [yv_v, if_pos rfl]; exact ⟨hl, hv⟩
  · rw [yv_v, if_neg hss]; exact ⟨Nat.le_trans (h.2.2.1 s' hs').1 ht, (h.2.2.1 s' hs').2⟩
theorem yK_renew {n t : Nat} {S : yS} {k : Nat} (h : yK n t S) : yK n t (yRenew S k) := yK_vals (yK_n (yK_n (yK_n h (Or.inl ⟨by decide, by decide⟩)) (Or.inl ⟨by decide, by decide⟩)) (Or.inl ⟨by decide, by decide⟩)) (Nat.le_refl _) (Nat.zero_le _) (fun v hv => absurd hv List.not_mem_nil)
theorem T_mres {sp : Nat × (Nat → Int32)} {M0 M : zM} {S : yS} {k n t : Nat} (h : RC M0 M S) (hK : yK n t S) (hn : n < 2047) (hk : k < 30) (hs : ysw (k / 3) = false) : ∃ M', zV (zPr sp) (53, 0, [.ref (zCh k)], [], M) = some (none, M') ∧ RC M0 M' (if yn S 5 k = 3 then yPutOn (yRenew S k) k 7 0 0 else if yn S 5 k = 4 then ynS S 5 k 3 else S) := by
  obtain ⟨c1, c2, c3, c4, c5⟩ := RC_cT h hk hs
  have g := h.2.2.2.1 k hk hs
  have gi := (hK.2.1 k hk).1
  by_cases hq : yn S 5 k = 3
  · rw [if_pos hq]
    have p1 : (nI (yn S 5 k) = 3) = True := by rw [hq]; decide
    obtain ⟨M1, r1, r2⟩ := T_renew (sp := sp) h hk hs
    obtain ⟨M2, q1, q2⟩ := C_put (sp := sp) (kind := 7) (a := 0) (b := 0) r2 (yK_renew hK) hn hk (yPk_k (by decide) (by decide) (by decide) (fun z => by cases z))
    have q1 : zV (zPr sp) (18, 0, [.ref (zCh k), .int 7, .int 0, .int 0], [], M1) = some (none, M2) := q1
    have c1' := (RC_cT r2 hk hs).1
    refine ⟨M2, ?_, q2⟩
    simp only [e53_0, e53_1, e53_4, e53_5, e53_8, e53_9, e53_12, e53_13, e53_15, e53_16, e53_17, e53_20, e53_23, e53_24, e53_25, e53_26, e53_29, zG1, c1, c1', if_true, g.1, p1, r1, q1, Option.bind_some, Option.toList_none, List.nil_append]
  · rw [if_neg hq]
    have p1 : (nI (yn S 5 k) = 3) = False := eq_false (fun z => hq ((nI_eq (by omega) (by decide)).mp z))
    obtain ⟨M1, r1, r2⟩ := T_change (sp := sp) (x := 4) (y := 3) h hK.2.1 hk hs (by decide)
    have r1 : zV (zPr sp) (51, 0, [.ref (zCh k), .int 4, .int 3], [], M) = some (none, M1) := r1
    refine ⟨M1, ?_, r2⟩
    simp only [e53_0, e53_1, e53_4, e53_5, e53_8, e53_9, e53_12, e53_13, e53_15, e53_16, e53_17, e53_20, e53_23, e53_24, e53_25, e53_26, e53_29, zG1, c1, if_true, if_false, g.1, p1, r1, Option.bind_some, Option.toList_none, List.nil_append]
theorem T_arr {sp : Nat × (Nat → Int32)} {M0 M : zM} {S : yS} {k kind a b n t : Nat} (h : RC M0 M S) (hK : yK n t S) (hn : n < 2047) (ht : t < 2048) (hk : k < 30) (hs : ysw (k / 3) = false) (hkd : kind < 8) : ∃ M', zV (zPr sp) (50, 0, [.ref (zCh k), .int (nI kind), .int (nI a), .int (nI b)], [], M) = some (none, M') ∧ RC M0 M' (yArrT S k kind a b) := by
  obtain ⟨c1, c2, c3, c4, c5⟩ := RC_cT h hk hs
  have g := h.2.2.2.1 k hk hs
  have gi := (hK.2.1 k hk).1
  have hc : kind = 0 ∨ kind = 1 ∨ kind = 2 ∨ kind = 3 ∨ kind = 4 ∨ kind = 5 ∨ kind = 6 ∨ kind = 7 := by omega
  rcases hc with hc | hc | hc | hc | hc | hc | hc | hc <;> subst hc
  · show ∃ M', _ ∧ RC M0 M' (if yn S 5 k = 0 then yRenew (ynS (ynS S 5 k 2) 7 k b) k else S)
    have s0 : (nI 0 = Int32.ofNat 0) = True := by decide
    by_cases hq : yn S 5 k = 0
    · rw [if_pos hq]
      have p1 : (nI (yn S 5 k) = 0) = True := by rw [hq]; decide
      obtain ⟨M1, r1, r2⟩ := T_begin (sp := sp) (m := 2) (p := b) h hk hs
      have r1 : zV (zPr sp) (14, 0, [.ref (zCh k), .int 2, .int (nI b)], [], M) = some (none, M1) := r1
      refine ⟨M1, ?_, r2⟩
      simp only [e50_0, e50_1, e50_48, e50_49, e50_52, e50_55, e50_56, e50_57, e50_58, e50_61, e50_64, e50_65, e50_66, e50_67, e50_70, e50_73, e50_74, e50_77, e50_80, e50_81, e50_82, e50_83, e50_86, e50_89, e50_90, e50_93, e50_94, e50_97, e50_98, e50_101, e50_102, e50_105, e50_108, e50_109, e50_112, e50_113, e50_116, e50_117, e50_118, e50_121, e50_124, e50_125, e50_128, e50_131, e50_132, e50_133, e50_134, e50_137, e50_140, s0, zG1, c1, if_true, if_false, g.1, p1, r1, Option.bind_some, Option.toList_none, List.nil_append]
    · rw [if_neg hq]
      have p1 : (nI (yn S 5 k) = 0) = False := eq_false (fun z => hq ((nI_eq (by omega) (by decide)).mp z))
      refine ⟨M, ?_, h⟩
      simp only [e50_0, e50_1, e50_48, e50_49, e50_52, e50_55, e50_56, e50_57, e50_58, e50_61, e50_64, e50_65, e50_66, e50_67, e50_70, e50_73, e50_74, e50_77, e50_80, e50_81, e50_82, e50_83, e50_86, e50_89, e50_90, e50_93, e50_94, e50_97, e50_98, e50_101, e50_102, e50_105, e50_108, e50_109, e50_112, e50_113, e50_116, e50_117, e50_118, e50_121, e50_124, e50_125, e50_128, e50_131, e50_132, e50_133, e50_134, e50_137, e50_140, s0, zG1, c1, if_true, if_false, g.1, p1]
  · show ∃ M', _ ∧ RC M0 M' (if yn S 5 k = 1 then ynS S 5 k 3 else S)
    have s0 : (nI 1 = Int32.ofNat 0) = False := by decide
    have s1 : (nI 1 = Int32.ofNat 1) = True := by decide
    obtain ⟨M1, r1, r2⟩ := T_change (sp := sp) (x := 1) (y := 3) h hK.2.1 hk hs (by decide)
    have r1 : zV (zPr sp) (51, 0, [.ref (zCh k), .int 1, .int 3], [], M) = some (none, M1) := r1
    refine ⟨M1, ?_, r2⟩
    simp only [e50_0, e50_1, e50_48, e50_49, e50_52, e50_55, e50_56, e50_57, e50_58, e50_61, e50_64, e50_65, e50_66, e50_67, e50_70, e50_73, e50_74, e50_77, e50_80, e50_81, e50_82, e50_83, e50_86, e50_89, e50_90, e50_93, e50_94, e50_97, e50_98, e50_101, e50_102, e50_105, e50_108, e50_109, e50_112, e50_113, e50_116, e50_117, e50_118, e50_121, e50_124, e50_125, e50_128, e50_131, e50_132, e50_133, e50_134, e50_137, e50_140, s0, s1, zG1, c1, if_true, if_false, r1, Option.bind_some, Option.toList_none, List.nil_append]
  · show ∃ M', _ ∧ RC M0 M' (if yn S 5 k = 5 then ynS S 5 k 0 else yPutOn (ynS S 5 k 0) k 3 0 0)
    have s0 : (nI 2 = Int32.ofNat 0) = False := by decide
    have s1 : (nI 2 = Int32.ofNat 1) = False := by decide
    have s2 : (nI 2 = Int32.ofNat 2) = True := by decide
    obtain ⟨M1, r1, r2⟩ := T_mclr (sp := sp) h hK hn hk hs
    refine ⟨M1, ?_, r2⟩
    simp only [e50_0, e50_1, e50_48, e50_49, e50_52, e50_55, e50_56, e50_57, e50_58, e50_61, e50_64, e50_65, e50_66, e50_67, e50_70, e50_73, e50_74, e50_77, e50_80, e50_81, e50_82, e50_83, e50_86, e50_89, e50_90, e50_93, e50_94, e50_97, e50_98, e50_101, e50_102, e50_105, e50_108, e50_109, e50_112, e50_113, e50_116, e50_117, e50_118, e50_121, e50_124, e50_125, e50_128, e50_131, e50_132, e50_133, e50_134, e50_137, e50_140, s0, s1, s2, zG1, c1, if_true, if_false, r1, Option.bind_some, Option.toList_none, List.nil_append]
  · show ∃ M', _ ∧ RC M0 M' (if yn S 5 k = 5 then ynS S 5 k 0 else S)
    have s0 : (nI 3 = Int32.ofNat 0) = False := by decide
    have s1 : (nI 3 = Int32.ofNat 1) = False := by decide
    have s2 : (nI 3 = Int32.ofNat 2) = False := by decide
    have s3 : (nI 3 = Int32.ofNat 3) = True := by decide
    obtain ⟨M1, r1, r2⟩ := T_change (sp := sp) (x := 5) (y := 0) h hK.2.1 hk hs (by decide)
    have r1 : zV (zPr sp) (51, 0, [.ref (zCh k), .int 5, .int 0], [], M) = some (none, M1) := r1
    refine ⟨M1, ?_, r2⟩
    simp only [e50_0, e50_1, e50_48, e50_49, e50_52, e50_55, e50_56, e50_57, e50_58, e50_61, e50_64, e50_65, e50_66, e50_67, e50_70, e50_73, e50_74, e50_77, e50_80, e50_81, e50_82, e50_83, e50_86, e50_89, e50_90, e50_93, e50_94, e50_97, e50_98, e50_101, e50_102, e50_105, e50_108, e50_109, e50_112, e50_113, e50_116, e50_117, e50_118, e50_121, e50_124, e50_125, e50_128, e50_131, e50_132, e50_133, e50_134, e50_137, e50_140, s0, s1, s2, s3, zG1, c1, if_true, if_false, r1, Option.bind_some, Option.toList_none, List.nil_append]
  · show ∃ M', _ ∧ RC M0 M' (if yn S 5 k = 3 then yvS S (ysl k) (yv S (ysl k) ++ [b]) else S)
    have s0 : (nI 4 = Int32.ofNat 0) = False := by decide
    have s1 : (nI 4 = Int32.ofNat 1) = False := by decide
    have s2 : (nI 4 = Int32.ofNat 2) = False := by decide
    have s3 : (nI 4 = Int32.ofNat 3) = False := by decide
    have s4 : (nI 4 = Int32.ofNat 4) = True := by decide
    by_cases hq : yn S 5 k = 3
    · rw [if_pos hq]
      have p1 : (nI (yn S 5 k) = 3) = True := by rw [hq]; decide
      have kl := RC_l h (show 10 + ysl k < 22 by omega)
      obtain ⟨M1, r1, r2⟩ := L_add (sp := sp) (p := (0, 0, 0, 0)) (v := b) (w := nI b) h (show 10 + ysl k < 22 by omega) (by rw [yXs_v, List.length_map]; have := (hK.2.2.1 (ysl k) c5).1; omega) (by rw [if_neg (by omega)])
      rw [yXS_v, show 10 + ysl k - 10 = ysl k by omega] at r2
      refine ⟨M1, ?_, r2⟩
      simp only [e50_0, e50_1, e50_48, e50_49, e50_52, e50_55, e50_56, e50_57, e50_58, e50_61, e50_64, e50_65, e50_66, e50_67, e50_70, e50_73, e50_74, e50_77, e50_80, e50_81, e50_82, e50_83, e50_86, e50_89, e50_90, e50_93, e50_94, e50_97, e50_98, e50_101, e50_102, e50_105, e50_108, e50_109, e50_112, e50_113, e50_116, e50_117, e50_118, e50_121, e50_124, e50_125, e50_128, e50_131, e50_132, e50_133, e50_134, e50_137, e50_140, s0, s1, s2, s3, s4, zG1, zG3, c1, c4, kl, if_true, if_false, g.1, p1, r1, Option.bind_some, Option.toList_none, List.nil_append]
    · rw [if_neg hq]
      have p1 : (nI (yn S 5 k) = 3) = False := eq_false (fun z => hq ((nI_eq (by omega) (by decide)).mp z))
      refine ⟨M, ?_, h⟩
      simp only [e50_0, e50_1, e50_48, e50_49, e50_52, e50_55, e50_56, e50_57, e50_58, e50_61, e50_64, e50_65, e50_66, e50_67, e50_70, e50_73, e50_74, e50_77, e50_80, e50_81, e50_82, e50_83, e50_86, e50_89, e50_90, e50_93, e50_94, e50_97, e50_98, e50_101, e50_102, e50_105, e50_108, e50_109, e50_112, e50_113, e50_116, e50_117, e50_118, e50_121, e50_124, e50_125, e50_128, e50_131, e50_132, e50_133, e50_134, e50_137, e50_140, s0, s1, s2, s3, s4, zG1, c1, if_true, if_false, g.1, p1]
  · show ∃ M', _ ∧ RC M0 M' (if yn S 5 k = 3 then ynS S 9 k a else S)
    have s0 : (nI 5 = Int32.ofNat 0) = False := by decide
    have s1 : (nI 5 = Int32.ofNat 1) = False := by decide
    have s2 : (nI 5 = Int32.ofNat 2) = False := by decide
    have s3 : (nI 5 = Int32.ofNat 3) = False := by decide
    have s4 : (nI 5 = Int32.ofNat 4) = False := by decide
    have s5 : (nI 5 = Int32.ofNat 5) = True := by decide
    by_cases hq : yn S 5 k = 3
    · rw [if_pos hq]
      have p1 : (nI (yn S 5 k) = 3) = True := by rw [hq]; decide
      have a1 : RC M0 (zwi M (zCh k) 3 (nI a)) (ynS S 9 k a) := RC_tn (f := 9) (j := 3) h hk hs (by omega)
      refine ⟨_, ?_, a1⟩
      simp only [e50_0, e50_1, e50_48, e50_49, e50_52, e50_55, e50_56, e50_57, e50_58, e50_61, e50_64, e50_65, e50_66, e50_67, e50_70, e50_73, e50_74, e50_77, e50_80, e50_81, e50_82, e50_83, e50_86, e50_89, e50_90, e50_93, e50_94, e50_97, e50_98, e50_101, e50_102, e50_105, e50_108, e50_109, e50_112, e50_113, e50_116, e50_117, e50_118, e50_121, e50_124, e50_125, e50_128, e50_131, e50_132, e50_133, e50_134, e50_137, e50_140, s0, s1, s2, s3, s4, s5, zG1, c1, if_true, if_false, g.1, p1]
    · rw [if_neg hq]
      have p1 : (nI (yn S 5 k) = 3) = False := eq_false (fun z => hq ((nI_eq (by omega) (by decide)).mp z))
      refine ⟨M, ?_, h⟩
      simp only [e50_0, e50_1, e50_48, e50_49, e50_52, e50_55, e50_56, e50_57, e50_58, e50_61, e50_64, e50_65, e50_66, e50_67, e50_70, e50_73, e50_74, e50_77, e50_80, e50_81, e50_82, e50_83, e50_86, e50_89, e50_90, e50_93, e50_94, e50_97, e50_98, e50_101, e50_102, e50_105, e50_108, e50_109, e50_112, e50_113, e50_116, e50_117, e50_118, e50_121, e50_124, e50_125, e50_128, e50_131, e50_132, e50_133, e50_134, e50_137, e50_140, s0, s1, s2, s3, s4, s5, zG1, c1, if_true, if_false, g.1, p1]
  · show ∃ M', _ ∧ RC M0 M' (if yn S 5 k = 3 then yPutOn (yRenew S k) k 7 0 0 else if yn S 5 k = 4 then ynS S 5 k 3 else S)
    have s0 : (nI 6 = Int32.ofNat 0) = False := by decide
    have s1 : (nI 6 = Int32.ofNat 1) = False := by decide
    have s2 : (nI 6 = Int32.ofNat 2) = False := by decide
    have s3 : (nI 6 = Int32.ofNat 3) = False := by decide
    have s4 : (nI 6 = Int32.ofNat 4) = False := by decide
    have s5 : (nI 6 = Int32.ofNat 5) = False := by decide
    have s6 : (nI 6 = Int32.ofNat 6) = True := by decide
    obtain ⟨M1, r1, r2⟩ := T_mres (sp := sp) h hK hn hk hs
    refine ⟨M1, ?_, r2⟩
    simp only [e50_0, e50_1, e50_48, e50_49, e50_52, e50_55, e50_56, e50_57, e50_58, e50_61, e50_64, e50_65, e50_66, e50_67, e50_70, e50_73, e50_74, e50_77, e50_80, e50_81, e50_82, e50_83, e50_86, e50_89, e50_90, e50_93, e50_94, e50_97, e50_98, e50_101, e50_102, e50_105, e50_108, e50_109, e50_112, e50_113, e50_116, e50_117, e50_118, e50_121, e50_124, e50_125, e50_128, e50_131, e50_132, e50_133, e50_134, e50_137, e50_140, s0, s1, s2, s3, s4, s5, s6, zG1, c1, if_true, if_false, r1, Option.bind_some, Option.toList_none, List.nil_append]
  · show ∃ M', _ ∧ RC M0 M' (if yn S 5 k = 4 then ynS S 5 k 3 else S)
    have s0 : (nI 7 = Int32.ofNat 0) = False := by decide
    have s1 : (nI 7 = Int32.ofNat 1) = False := by decide
    have s2 : (nI 7 = Int32.ofNat 2) = False := by decide
    have s3 : (nI 7 = Int32.ofNat 3) = False := by decide
    have s4 : (nI 7 = Int32.ofNat 4) = False := by decide
    have s5 : (nI 7 = Int32.ofNat 5) = False := by decide
    have s6 : (nI 7 = Int32.ofNat 6) = False := by decide
    have s7 : (nI 7 = Int32.ofNat 7) = True := by decide
    obtain ⟨M1, r1, r2⟩ := T_change (sp := sp) (x := 4) (y := 3) h hK.2.1 hk hs (by decide)
    have r1 : zV (zPr sp) (51, 0, [.ref (zCh k), .int 4, .int 3], [], M) = some (none, M1) := r1
    refine ⟨M1, ?_, r2⟩
    simp only [e50_0, e50_1, e50_48, e50_49, e50_52, e50_55, e50_56, e50_57, e50_58, e50_61, e50_64, e50_65, e50_66, e50_67, e50_70, e50_73, e50_74, e50_77, e50_80, e50_81, e50_82, e50_83, e50_86, e50_89, e50_90, e50_93, e50_94, e50_97, e50_98, e50_101, e50_102, e50_105, e50_108, e50_109, e50_112, e50_113, e50_116, e50_117, e50_118, e50_121, e50_124, e50_125, e50_128, e50_131, e50_132, e50_133, e50_134, e50_137, e50_140, s0, s1, s2, s3, s4, s5, s6, s7, zG1, c1, if_true, if_false, r1, Option.bind_some, Option.toList_none, List.nil_append]
