/-! The reference's link layer: post, info, sendOn, put, putOn, cut, lost. -/
theorem nar0 : vp_nar .boolean 0 = 0 := rfl
theorem nar1 : vp_nar .boolean 1 = 1 := rfl
theorem z20' : ((2 : Int32) = 0) = False := by decide
theorem z30' : ((3 : Int32) = 0) = False := by decide
theorem z80' : ((8 : Int32) = 0) = False := by decide
theorem nrem2 {a : Nat} (h : a < 2 ^ 31) : nI a - nI a / 2 * 2 = nI (a % 2) := pk_rem (d := 2) h (by decide) (by decide)
theorem nrem3 {a : Nat} (h : a < 2 ^ 31) : nI a - nI a / 3 * 3 = nI (a % 3) := pk_rem (d := 3) h (by decide) (by decide)
theorem ndiv3 {a : Nat} (h : a < 2 ^ 31) : nI a / 3 = nI (a / 3) := pk_div (d := 3) h (by decide) (by decide)
/-- a frame is laid behind the others -/
theorem RR_fadd {M0 M M' : zM} {S : yS} {to n t : Nat} {fr : yF} (h : RR M0 M S) (hK : yK n t S) (hto : to < 10) (hl : (yw S to).length < 8) (hst : RSt M0 M') (ho : ∀ a j, a ≠ 125 → a ≠ 126 → zi M' a j = zi M a j) (hc : zi M' 125 to = nI ((yw S to).length + 1)) (hc' : ∀ j, j ≠ to → zi M' 125 j = zi M 125 j) (hf : ∀ j, (j < 64 * to + 8 * (yw S to).length ∨ 64 * to + 8 * (yw S to).length + 8 ≤ j) → zi M' 126 j = zi M 126 j) (hw : yFw M' (64 * to + 8 * (yw S to).length) fr) : RR M0 M' (ywS S to (yw S to ++ [fr])) := by
  obtain ⟨g0, g1, g2, g3, g4, g5, g6⟩ := h
  refine ⟨g0, hst, g2.kept (fun a j _ _ => ho a j (by omega) (by omega)) (fun _ => rfl) (fun _ => rfl) (fun _ _ _ => rfl), g3.kept (fun a j _ _ => ho a j (by omega) (by omega)) (fun _ _ _ => rfl) (fun _ => rfl), g4.kept (fun a j _ _ => ho a j (by omega) (by omega)) (fun _ => rfl), fun e' he' => ?_, g6.kept (fun a j _ _ => ho a j (by omega) (by omega)) (fun _ => rfl)⟩
  have g := g5 e' he'
  have hl' := (hK.1 e' he').2.2.2.2.2.2.2.2.1
  rw [yw_w]
  by_cases hee : e' = to
  · subst hee
    rw [if_pos rfl, List.length_append]
    refine ⟨hc, fun k f hk => ?_⟩
    by_cases hi : k < (yw S e').length
    · rw [List.getElem?_append_left hi] at hk
      exact (g.2 k f hk).kept (fun q hq => hf _ (by omega))
    · rw [List.getElem?_append_right (by omega)] at hk
      have hi0 : k - (yw S e').length = 0 := by
        refine Classical.byContradiction fun z => ?_
        have : ([fr] : List yF)[k - (yw S e').length]? = none := List.getElem?_eq_none (by simp; omega)
        rw [this] at hk
        cases hk
      rw [hi0] at hk
      have hi' : k = (yw S e').length := by omega
      subst hi'
      have hk : some fr = some f := hk
      rw [← Option.some.inj hk]
      exact hw
  · rw [if_neg hee]
    refine ⟨by rw [hc' e' hee]; exact g.1, fun k f hk => (g.2 k f hk).kept (fun q hq => hf _ ?_)⟩
    have hi : k < (yw S e').length := by
      refine Classical.byContradiction fun z => ?_
      rw [List.getElem?_eq_none (by omega)] at hk
      cases hk
    omega
/-- what post leaves -/
def yPm (M : zM) (to b l : Nat) (kd ep : Int32) (d : Nat) : zM := zwi (zwi (zwi (zwi M 125 to (nI (l + 1))) 126 b kd) 126 (b + 1) ep) 126 (b + 3) (nI d)
theorem RSt_pm {M0 M : zM} {to b l d : Nat} {kd ep : Int32} (h : RSt M0 M) : RSt M0 (yPm M to b l kd ep d) := RSt_wi (RSt_wi (RSt_wi (RSt_wi h (by omega) (by omega)) (by omega) (by omega)) (by omega) (by omega)) (by omega) (by omega)
theorem R_post {sp : Nat × (Nat → Int32)} {M0 M : zM} {S : yS} {e n t : Nat} {kd : Int32} (h : RR M0 M S) (hK : yK n t S) (he : e < 10) : zV (zPr sp) (76, 0, [.ref 119, .int (nI e), .int kd, .double 0, .double 0], [], M) = if (yw S (yo e)).length < 8 then some (some (.int (nI (64 * yo e + 8 * (yw S (yo e)).length))), yPm M (yo e) (64 * yo e + 8 * (yw S (yo e)).length) (yw S (yo e)).length kd (ye S e) (yn S 2 e)) else some (some (.int (-1)), M) := by
  have B := h.1
  obtain ⟨-, -, s3, s4, -⟩ := h.2.1
  have hto := yo_lt e he
  have hE := h.2.2.1 e he
  have hE2 : zi M 131 e = nI (yn S 2 e) := hE.2.2 2 (by decide)
  have hF := (h.2.2.2.2.2.1 _ hto).1
  have hl := (hK.1 _ hto).2.2.2.2.2.2.2.2.1
  have r2 := nrem2 (a := e) (by omega)
  have q1 : zin (nI (yo e)) 10 = true := zin_nI hto (by decide)
  have q2 : (nI (yo e)).toNatClampNeg = yo e := nI_clamp (by omega)
  have q3 : zin (nI e) 10 = true := zin_nI he (by decide)
  have q4 : (nI e).toNatClampNeg = e := nI_clamp (by omega)
  have pre : zV (zPr sp) (76, 0, [.ref 119, .int (nI e), .int kd, .double 0, .double 0], [], M) = zV (zPr sp) (76, 16, [.ref 119, .int (nI e), .int kd, .int (nI (yo e)), .double 0], [], M) := by
    by_cases hp : e % 2 = 0
    · have p1 : (nI (e % 2) = 0) = True := by rw [hp]; decide
      have y1 : yo e = e + 1 := by unfold yo; rw [if_pos hp]
      rw [y1]
      simp only [e76_0, e76_1, e76_2, e76_3, e76_6, e76_7, e76_8, e76_9, e76_12, e76_13, e76_14, e76_15, z20', r2, p1, nI_1, or_true, true_or, if_true, if_false, Option.bind_some, Option.toList_some, Option.toList_none, List.nil_append, List.cons_append]
    · have p1 : (nI (e % 2) = 0) = False := by rw [show e % 2 = 1 by omega]; decide
      have y1 : yo e = e - 1 := by unfold yo; rw [if_neg hp]
      have y2 : nI e - 1 = nI (e - 1) := pk_sub (b := 1) (by omega)
      rw [y1]
      simp only [e76_0, e76_1, e76_2, e76_3, e76_6, e76_7, e76_8, e76_9, e76_12, e76_13, e76_14, e76_15, z20', r2, p1, y2, or_true, true_or, if_true, if_false, Option.bind_some, Option.toList_some, Option.toList_none, List.nil_append, List.cons_append]
  rw [pre]
  by_cases h8 : (yw S (yo e)).length < 8
  · rw [if_pos h8]
    have p1 : (nI (yw S (yo e)).length = 8) = False := eq_false (fun z => by
      have := (nI_eq (b := 8) (by omega) (by decide)).mp z
      omega)
    have ix : 64 * nI (yo e) + 8 * nI (yw S (yo e)).length = nI (64 * yo e + 8 * (yw S (yo e)).length) := by
      have a1 : (64 : Int32) = nI 64 := rfl
      rw [a1, nI_8, pk_mul, pk_mul, nI_add]
    generalize hb : 64 * yo e + 8 * (yw S (yo e)).length = b at ix
    have i1 : nI b + 1 = nI (b + 1) := nI_1 b
    have i3 : nI b + 3 = nI (b + 3) := nI_add b 3
    have b0 : zin (nI b) 640 = true := zin_nI (by omega) (by decide)
    have b1 : zin (nI (b + 1)) 640 = true := zin_nI (by omega) (by decide)
    have b3 : zin (nI (b + 3)) 640 = true := zin_nI (by omega) (by decide)
    have c0 : (nI b).toNatClampNeg = b := nI_clamp (by omega)
    have c1 : (nI (b + 1)).toNatClampNeg = b + 1 := nI_clamp (by omega)
    have c3 : (nI (b + 3)).toNatClampNeg = b + 3 := nI_clamp (by omega)
    have l1 : nI (yw S (yo e)).length + 1 = nI ((yw S (yo e)).length + 1) := nI_1 _
    unfold yPm
    simp only [e76_16, e76_17, e76_20, e76_21, e76_22, e76_24, e76_27, e76_28, e76_29, e76_31, e76_32, e76_33, e76_35, e76_36, e76_39, e76_40, e76_41, e76_42, e76_43, e76_45, e76_46, e76_49, e76_50, e76_51, e76_52, e76_53, e76_54, e76_55, e76_56, e76_59, e76_61, e76_62, e76_63, e76_64, e76_67, e76_69, e76_70, e76_71, e76_72, e76_75, e76_76, e76_77, e76_78, e76_79, e76_82, e76_84, e76_85, e76_86, e76_87, e76_90, e76_91, e76_92, e76_93, e76_95, zG1, zG2, zG3, zG4, zG5, zG6, zG7, zG8, zNn, s3, s4, zk_wi, zr_wi, bk119 B, bk120 B, bk121 B, bk122 B, bk123 B, bk124 B, bk125 B, bk126 B, bk127 B, bk128 B, bk129 B, bk130 B, bk131 B, bk132 B, bk133 B, bk134 B, bk135 B, bk136 B, bk137 B, bk138 B, bk139 B, bk140 B, bk141 B, bk142 B, br1 B, br2 B, br3 B, br4 B, br5 B, br6 B, br7 B, br8 B, br9 B, br10 B, br11 B, br12 B, br13 B, br14 B, br15 B, br16 B, br17 B, br18 B, br19 B, br20 B, br21 B, br22 B, br23 B, q1, q2, q3, q4, hF, p1, ix, i1, i3, b0, b1, b3, c0, c1, c3, l1, zi_wi, Nat.reduceEqDiff, false_and, hE.1, hE2, or_true, true_or, if_true, if_false, Option.bind_some, Option.toList_some, Option.toList_none, List.nil_append, List.cons_append]
  · rw [if_neg h8]
    have p1 : (nI (yw S (yo e)).length = 8) = True := eq_true (by rw [show (yw S (yo e)).length = 8 by omega]; rfl)
    simp only [e76_16, e76_17, e76_20, e76_21, e76_22, e76_24, e76_27, e76_28, zG1, zG2, zG3, zG4, zG5, zG6, zG7, zG8, zNn, s3, s4, bk119 B, bk120 B, bk121 B, bk122 B, bk123 B, bk124 B, bk125 B, bk126 B, bk127 B, bk128 B, bk129 B, bk130 B, bk131 B, bk132 B, bk133 B, bk134 B, bk135 B, bk136 B, bk137 B, bk138 B, bk139 B, bk140 B, bk141 B, bk142 B, br1 B, br2 B, br3 B, br4 B, br5 B, br6 B, br7 B, br8 B, br9 B, br10 B, br11 B, br12 B, br13 B, br14 B, br15 B, br16 B, br17 B, br18 B, br19 B, br20 B, br21 B, br22 B, br23 B, q1, q2, hF, p1, or_true, true_or, if_true, if_false, Option.bind_some, Option.toList_some, Option.toList_none, List.nil_append, List.cons_append]
/-- a frame that has no packet -/
theorem R_pst {sp : Nat × (Nat → Int32)} {M0 M : zM} {S : yS} {e n t k d : Nat} {x : Int32} (h : RR M0 M S) (hK : yK n t S) (he : e < 10) (h2 : k ≠ 2) (hx : x = ye S e) (hd : 2 ≤ k → d = yn S 2 e) : ∃ M' y, zV (zPr sp) (76, 0, [.ref 119, .int (nI e), .int (nI k), .double 0, .double 0], [], M) = some (some (.int y), M') ∧ RR M0 M' (yPost S e (k, x, 0, d, 0, 0, 0, 0)) := by
  have hp := R_post (sp := sp) (kd := nI k) h hK he
  unfold yPost
  by_cases h8 : (yw S (yo e)).length < 8
  · rw [if_pos h8] at hp ⊢
    refine ⟨_, _, hp, RR_fadd h hK (yo_lt e he) h8 (RSt_pm h.2.1) (fun a j h1 h2 => ?_) ?_ (fun j hj => ?_) (fun j hj => ?_) ⟨?_, ?_, fun z => ?_, fun z => absurd z h2⟩⟩
    · unfold yPm; rw [zi_ne h2, zi_ne h2, zi_ne h2, zi_ne h1]
    · unfold yPm; rw [zi_ne (by decide), zi_ne (by decide), zi_ne (by decide), zi_eq]
    · unfold yPm; rw [zi_ne (by decide), zi_ne (by decide), zi_ne (by decide), zi_nj hj]
    · unfold yPm; rw [zi_nj (by omega), zi_nj (by omega), zi_nj (by omega), zi_ne (by decide)]
    · unfold yPm; rw [zi_nj (by omega), zi_nj (by omega), zi_eq]
    · unfold yPm; rw [zi_nj (by omega), zi_eq]; exact hx.symm
    · unfold yPm; rw [zi_eq]; show nI (yn S 2 e) = nI d; rw [hd z]
  · rw [if_neg h8] at hp ⊢
    exact ⟨_, _, hp, h⟩
theorem R_info {sp : Nat × (Nat → Int32)} {M0 M : zM} {S : yS} {e i n t : Nat} (h : RR M0 M S) (hK : yK n t S) (hn : n ≤ 1600) (he : e < 10) (hi : i < (yr S e).length) : ∃ M', zV (zPr sp) (87, 0, [.ref 119, .int (nI e), .int (nI i), .double 0, .double 0], [], M) = some (none, M') ∧ RR M0 M' (yInfo S e i) := by
  have hp := R_post (sp := sp) (kd := 2) h hK he
  have B := h.1
  obtain ⟨-, -, s3, s4, -⟩ := h.2.1
  have hrow := hK.row he
  unfold yInfo yPost
  by_cases h8 : (yw S (yo e)).length < 8
  · rw [if_pos h8] at hp ⊢
    obtain ⟨pl, g1, g2, g3⟩ := RR_pl h hK
    have hto := yo_lt e he
    generalize hl : (yw S (yo e)).length = l at hp h8
    generalize hb : 64 * yo e + 8 * l = b at hp
    have hpl : yPl (yPm M (yo e) b l 2 (ye S e) (yn S 2 e)) pl := by
      unfold yPm
      refine ⟨by rw [zi_ne (by decide), zi_ne (by decide), zi_ne (by decide), zi_ne (by decide)]; exact g1.1, fun i x hx => ?_⟩
      rw [zi_ne (by decide), zi_ne (by decide), zi_ne (by decide), zi_ne (by decide), zi_ne (by decide), zi_ne (by decide), zi_ne (by decide), zi_ne (by decide), zi_ne (by decide), zi_ne (by decide), zi_ne (by decide), zi_ne (by decide), zi_ne (by decide), zi_ne (by decide), zi_ne (by decide), zi_ne (by decide), zi_ne (by decide), zi_ne (by decide), zi_ne (by decide), zi_ne (by decide)]
      exact g1.2 i x hx
    have hst1 : RSt M0 (yPm M (yo e) b l 2 (ye S e) (yn S 2 e)) := RSt_pm h.2.1
    obtain ⟨idx, r1, r2⟩ := R_pk (sp := sp) (l := i) B hst1 hpl (by omega) he (by rw [← g2 e he]; exact hi)
    rw [← g2 e he] at r2
    have hidx : idx < pl.length := by
      refine Classical.byContradiction fun z => ?_
      rw [List.getElem?_eq_none (by omega)] at r2
      cases r2
    obtain ⟨-, w1, w2, w3, w4, w5⟩ := hpl.2 idx _ r2
    generalize hpp : (yr S e).getD i (0, 0, 0, 0) = p at w2 w3 w4 w5
    have w2 : zi (yPm M (yo e) b l 2 (ye S e) (yn S 2 e)) 121 idx = nI p.1 := w2
    have w3 : zi (yPm M (yo e) b l 2 (ye S e) (yn S 2 e)) 122 idx = nI p.2.1 := w3
    have w4 : zi (yPm M (yo e) b l 2 (ye S e) (yn S 2 e)) 123 idx = nI p.2.2.1 := w4
    have w5 : zi (yPm M (yo e) b l 2 (ye S e) (yn S 2 e)) 124 idx = nI p.2.2.2 := w5
    have v1 : zi (yPm M (yo e) b l 2 (ye S e) (yn S 2 e)) 130 e = nI (yn S 1 e) := by
      unfold yPm
      rw [zi_ne (by decide), zi_ne (by decide), zi_ne (by decide), zi_ne (by decide)]
      exact (h.2.2.1 e he).2.2 1 (by decide)
    have t3 : ∀ a, zk (yPm M (yo e) b l 2 (ye S e) (yn S 2 e)) a = zk M0 a := hst1.2.2.1
    have t4 : ∀ a j, zr (yPm M (yo e) b l 2 (ye S e) (yn S 2 e)) a j = zr M0 a j := hst1.2.2.2.1
    have gg := (hK.1 e he).2.2.1
    have hm : nI (yn S 1 e) + nI i - (nI (yn S 1 e) + nI i) / 8 * 8 = nI ((yn S 1 e + i) % 8) := by rw [nI_add]; exact nrem8 (by omega)
    have q3 : zin (nI e) 10 = true := zin_nI he (by decide)
    have q4 : (nI e).toNatClampNeg = e := nI_clamp (by omega)
    have q5 : zin (nI idx) 1600 = true := zin_nI (by omega) (by decide)
    have q6 : (nI idx).toNatClampNeg = idx := nI_clamp (by omega)
    have i2 : nI b + 2 = nI (b + 2) := nI_add b 2
    have i4 : nI b + 4 = nI (b + 4) := nI_add b 4
    have i5 : nI b + 5 = nI (b + 5) := nI_add b 5
    have i6 : nI b + 6 = nI (b + 6) := nI_add b 6
    have i7 : nI b + 7 = nI (b + 7) := nI_add b 7
    have b2 : zin (nI (b + 2)) 640 = true := zin_nI (by omega) (by decide)
    have b4 : zin (nI (b + 4)) 640 = true := zin_nI (by omega) (by decide)
    have b5 : zin (nI (b + 5)) 640 = true := zin_nI (by omega) (by decide)
    have b6 : zin (nI (b + 6)) 640 = true := zin_nI (by omega) (by decide)
    have b7 : zin (nI (b + 7)) 640 = true := zin_nI (by omega) (by decide)
    have c2 : (nI (b + 2)).toNatClampNeg = b + 2 := nI_clamp (by omega)
    have c4 : (nI (b + 4)).toNatClampNeg = b + 4 := nI_clamp (by omega)
    have c5 : (nI (b + 5)).toNatClampNeg = b + 5 := nI_clamp (by omega)
    have c6 : (nI (b + 6)).toNatClampNeg = b + 6 := nI_clamp (by omega)
    have c7 : (nI (b + 7)).toNatClampNeg = b + 7 := nI_clamp (by omega)
    have p0 : (nI b < 0) = False := eq_false (nI_pos (by omega))
    refine ⟨zwi (zwi (zwi (zwi (zwi (yPm M (yo e) b l 2 (ye S e) (yn S 2 e)) 126 (b + 2) (nI ((yn S 1 e + i) % 8))) 126 (b + 4) (nI p.1)) 126 (b + 5) (nI p.2.1)) 126 (b + 6) (nI p.2.2.1)) 126 (b + 7) (nI p.2.2.2), ?_, ?_⟩
    · simp only [e87_0, e87_1, e87_2, e87_3, e87_6, e87_7, e87_8, e87_11, e87_12, e87_13, e87_14, e87_15, e87_18, e87_20, e87_21, e87_24, e87_25, e87_26, e87_27, e87_28, e87_31, e87_32, e87_33, e87_34, e87_35, e87_37, e87_38, e87_39, e87_40, e87_43, e87_44, e87_45, e87_46, e87_47, e87_50, e87_52, e87_53, e87_54, e87_55, e87_58, e87_59, e87_60, e87_61, e87_62, e87_65, e87_67, e87_68, e87_69, e87_70, e87_73, e87_74, e87_76, e87_77, e87_78, e87_81, e87_83, e87_84, e87_85, e87_86, e87_89, e87_90, e87_92, e87_93, e87_94, e87_97, e87_99, e87_100, e87_101, zG1, zG2, zG3, zG4, zG5, zG6, zG7, zG8, zNn, s3, s4, t3, t4, zk_wi, zr_wi, bk119 B, bk120 B, bk121 B, bk122 B, bk123 B, bk124 B, bk125 B, bk126 B, bk127 B, bk128 B, bk129 B, bk130 B, bk131 B, bk132 B, bk133 B, bk134 B, bk135 B, bk136 B, bk137 B, bk138 B, bk139 B, bk140 B, bk141 B, bk142 B, br1 B, br2 B, br3 B, br4 B, br5 B, br6 B, br7 B, br8 B, br9 B, br10 B, br11 B, br12 B, br13 B, br14 B, br15 B, br16 B, br17 B, br18 B, br19 B, br20 B, br21 B, br22 B, br23 B, hp, r1, p0, zi_wi, Nat.reduceEqDiff, false_and, v1, w2, w3, w4, w5, hm, z80', q3, q4, q5, q6, i2, i4, i5, i6, i7, b2, b4, b5, b6, b7, c2, c4, c5, c6, c7, or_true, true_or, if_true, if_false, Option.bind_some, Option.toList_some, Option.toList_none, List.nil_append, List.cons_append]
    · subst hl
      refine RR_fadd h hK hto h8 (RSt_wi (RSt_wi (RSt_wi (RSt_wi (RSt_wi hst1 (by omega) (by omega)) (by omega) (by omega)) (by omega) (by omega)) (by omega) (by omega)) (by omega) (by omega)) (fun a j h1 h2 => ?_) ?_ (fun j hj => ?_) (fun j hj => ?_) ?_
      · unfold yPm; rw [zi_ne h2, zi_ne h2, zi_ne h2, zi_ne h2, zi_ne h2, zi_ne h2, zi_ne h2, zi_ne h2, zi_ne h1]
      · unfold yPm; rw [zi_ne (by decide), zi_ne (by decide), zi_ne (by decide), zi_ne (by decide), zi_ne (by decide), zi_ne (by decide), zi_ne (by decide), zi_ne (by decide), zi_eq]
      · unfold yPm; rw [zi_ne (by decide), zi_ne (by decide), zi_ne (by decide), zi_ne (by decide), zi_ne (by decide), zi_ne (by decide), zi_ne (by decide), zi_ne (by decide), zi_nj hj]
      · unfold yPm; rw [zi_nj (by omega), zi_nj (by omega), zi_nj (by omega), zi_nj (by omega), zi_nj (by omega), zi_nj (by omega), zi_nj (by omega), zi_nj (by omega), zi_ne (by decide)]
      · rw [hb]
        unfold yPm
        refine ⟨?_, ?_, fun _ => ?_, fun _ => ⟨?_, ?_, ?_, ?_, ?_⟩⟩
        · rw [zi_nj (by omega), zi_nj (by omega), zi_nj (by omega), zi_nj (by omega), zi_nj (by omega), zi_nj (by omega), zi_nj (by omega), zi_eq]; rfl
        · rw [zi_nj (by omega), zi_nj (by omega), zi_nj (by omega), zi_nj (by omega), zi_nj (by omega), zi_nj (by omega), zi_eq]
        · rw [zi_nj (by omega), zi_nj (by omega), zi_nj (by omega), zi_nj (by omega), zi_nj (by omega), zi_eq]
        · rw [zi_nj (by omega), zi_nj (by omega), zi_nj (by omega), zi_nj (by omega), zi_eq]
        · rw [zi_nj (by omega), zi_nj (by omega), zi_nj (by omega), zi_eq]
        · rw [zi_nj (by omega), zi_nj (by omega), zi_eq]
        · rw [zi_nj (by omega), zi_eq]
        · rw [zi_eq]
  · rw [if_neg h8] at hp ⊢
    have p0 : ((-1 : Int32) < 0) = True := by decide
    refine ⟨M, ?_, h⟩
    simp only [e87_0, e87_1, e87_2, e87_3, e87_6, e87_7, e87_8, e87_11, zG1, zG2, zG3, zG4, zG5, zG6, zG7, zG8, zNn, s3, s4, bk119 B, bk120 B, bk121 B, bk122 B, bk123 B, bk124 B, bk125 B, bk126 B, bk127 B, bk128 B, bk129 B, bk130 B, bk131 B, bk132 B, bk133 B, bk134 B, bk135 B, bk136 B, bk137 B, bk138 B, bk139 B, bk140 B, bk141 B, bk142 B, br1 B, br2 B, br3 B, br4 B, br5 B, br6 B, br7 B, br8 B, br9 B, br10 B, br11 B, br12 B, br13 B, br14 B, br15 B, br16 B, br17 B, br18 B, br19 B, br20 B, br21 B, br22 B, br23 B, hp, p0, or_true, true_or, if_true, if_false, Option.bind_some, Option.toList_some, Option.toList_none, List.nil_append, List.cons_append]
theorem yOn1_r {S : yS} {e : Nat} : ∀ e', yr (yOn1 S e) e' = yr S e' := by
  intro e'
  unfold yOn1
  split
  · exact yPost_r.1 e'
  · rfl
theorem R_onL {sp : Nat × (Nat → Int32)} {M0 : zM} {e n t L : Nat} (he : e < 10) (hn : n ≤ 1600) : ∀ (m : Nat) {M : zM} {S : yS}, RR M0 M S → yK n t S → 4 ≤ yn S 0 e + m → L = (yr S e).length → ∃ M', zV (zPr sp) (85, 6, [.ref 119, .int (nI e), .int (nI L)], [], M) = some (none, M') ∧ RR M0 M' (yOnN S e m) := by
  have q3 : zin (nI e) 10 = true := zin_nI he (by decide)
  have q4 : (nI e).toNatClampNeg = e := nI_clamp (by omega)
  have z1 : (yb (!true) = 0) = True := by decide
  have z0 : (yb (!false) = 0) = False := by decide
  intro m
  induction m with
  | zero =>
    intro M S h hK h4 hL
    have B := h.1
    obtain ⟨-, -, s3, s4, -⟩ := h.2.1
    have hE := h.2.2.1 e he
    have g := hK.1 e he
    have v0 : zi M 129 e = nI (yn S 0 e) := hE.2.2 0 (by decide)
    have p1 : (nI (yn S 0 e) < 4) = False := eq_false (nI_nlt (b := 4) (by omega) (by omega))
    refine ⟨M, ?_, h⟩
    cases hu : yu S e
    · rw [hu] at hE
      simp only [e85_6, e85_7, e85_10, e85_11, e85_12, e85_15, e85_16, e85_19, e85_20, e85_21, e85_22, e85_59, zG1, zG2, zG3, zG4, zG5, zG6, zG7, zG8, zNn, s3, s4, bk119 B, bk120 B, bk121 B, bk122 B, bk123 B, bk124 B, bk125 B, bk126 B, bk127 B, bk128 B, bk129 B, bk130 B, bk131 B, bk132 B, bk133 B, bk134 B, bk135 B, bk136 B, bk137 B, bk138 B, bk139 B, bk140 B, bk141 B, bk142 B, br1 B, br2 B, br3 B, br4 B, br5 B, br6 B, br7 B, br8 B, br9 B, br10 B, br11 B, br12 B, br13 B, br14 B, br15 B, br16 B, br17 B, br18 B, br19 B, br20 B, br21 B, br22 B, br23 B, q3, q4, hE.2.1, z0, or_true, true_or, if_true, if_false, Option.bind_some, Option.toList_some, Option.toList_none, List.nil_append, List.cons_append]
    · rw [hu] at hE
      simp only [e85_6, e85_7, e85_10, e85_11, e85_12, e85_15, e85_16, e85_19, e85_20, e85_21, e85_22, e85_59, zG1, zG2, zG3, zG4, zG5, zG6, zG7, zG8, zNn, s3, s4, bk119 B, bk120 B, bk121 B, bk122 B, bk123 B, bk124 B, bk125 B, bk126 B, bk127 B, bk128 B, bk129 B, bk130 B, bk131 B, bk132 B, bk133 B, bk134 B, bk135 B, bk136 B, bk137 B, bk138 B, bk139 B, bk140 B, bk141 B, bk142 B, br1 B, br2 B, br3 B, br4 B, br5 B, br6 B, br7 B, br8 B, br9 B, br10 B, br11 B, br12 B, br13 B, br14 B, br15 B, br16 B, br17 B, br18 B, br19 B, br20 B, br21 B, br22 B, br23 B, q3, q4, hE.2.1, z1, v0, p1, or_true, true_or, if_true, if_false, Option.bind_some, Option.toList_some, Option.toList_none, List.nil_append, List.cons_append]
  | succ m ih =>
    intro M S h hK h4 hL
    have B := h.1
    obtain ⟨-, -, s3, s4, -⟩ := h.2.1
    have hE := h.2.2.1 e he
    have g := hK.1 e he
    have hrow := hK.row he
    have v0 : zi M 129 e = nI (yn S 0 e) := hE.2.2 0 (by decide)
    by_cases hc : yu S e = true ∧ yn S 0 e < 4 ∧ yn S 0 e < (yr S e).length
    · have p1 : (nI (yn S 0 e) < 4) = True := eq_true (nI_lt (b := 4) hc.2.1 (by decide))
      have p3 : (nI (yn S 0 e) < nI L) = True := eq_true (nI_lt (by omega) (by omega))
      obtain ⟨M1, r1, r2⟩ := R_info (sp := sp) h hK hn he hc.2.2
      obtain ⟨-, -, t3, t4, -⟩ := r2.2.1
      have v1 : zi M1 129 e = nI (yn (yInfo S e (yn S 0 e)) 0 e) := (r2.2.2.1 e he).2.2 0 (by decide)
      have v2 : yn (yInfo S e (yn S 0 e)) 0 e = yn S 0 e := yPost_r.2.1 0 e
      rw [v2] at v1
      have r3 : RR M0 (zwi M1 129 e (nI (yn S 0 e + 1))) (ynS (yInfo S e (yn S 0 e)) 0 e (yn S 0 e + 1)) := RR_en (f := 0) r2 (by decide)
      have e1 : ynS (yInfo S e (yn S 0 e)) 0 e (yn S 0 e + 1) = yOn1 S e := by unfold yOn1; rw [if_pos hc]
      rw [e1] at r3
      have e2 : yn (yOn1 S e) 0 e = yn S 0 e + 1 := by rw [← e1, yn_nn]
      obtain ⟨M2, q1, q2⟩ := ih r3 (yK_on1 hK he) (by rw [e2]; omega) (by rw [yOn1_r]; exact hL)
      rw [hc.1] at hE
      refine ⟨M2, ?_, q2⟩
      rw [← q1]
      refine Eq.trans ?_ e85_56
      simp only [e85_6, e85_7, e85_10, e85_11, e85_12, e85_15, e85_16, e85_19, e85_20, e85_21, e85_22, e85_25, e85_26, e85_29, e85_30, e85_31, e85_32, e85_35, e85_36, e85_37, e85_38, e85_41, e85_42, e85_43, e85_46, e85_47, e85_50, e85_51, e85_52, e85_53, e85_54, e85_55, zG1, zG2, zG3, zG4, zG5, zG6, zG7, zG8, zNn, s3, s4, t3, t4, bk119 B, bk120 B, bk121 B, bk122 B, bk123 B, bk124 B, bk125 B, bk126 B, bk127 B, bk128 B, bk129 B, bk130 B, bk131 B, bk132 B, bk133 B, bk134 B, bk135 B, bk136 B, bk137 B, bk138 B, bk139 B, bk140 B, bk141 B, bk142 B, br1 B, br2 B, br3 B, br4 B, br5 B, br6 B, br7 B, br8 B, br9 B, br10 B, br11 B, br12 B, br13 B, br14 B, br15 B, br16 B, br17 B, br18 B, br19 B, br20 B, br21 B, br22 B, br23 B, q3, q4, hE.2.1, z1, v0, v1, p1, p3, r1, nI_1, or_true, true_or, if_true, if_false, Option.bind_some, Option.toList_some, Option.toList_none, List.nil_append, List.cons_append]
    · refine ⟨M, ?_, by rw [yOnN_stop hc]; exact h⟩
      cases hu : yu S e
      · rw [hu] at hE
        simp only [e85_6, e85_7, e85_10, e85_11, e85_12, e85_15, e85_16, e85_19, e85_20, e85_21, e85_22, e85_59, zG1, zG2, zG3, zG4, zG5, zG6, zG7, zG8, zNn, s3, s4, bk119 B, bk120 B, bk121 B, bk122 B, bk123 B, bk124 B, bk125 B, bk126 B, bk127 B, bk128 B, bk129 B, bk130 B, bk131 B, bk132 B, bk133 B, bk134 B, bk135 B, bk136 B, bk137 B, bk138 B, bk139 B, bk140 B, bk141 B, bk142 B, br1 B, br2 B, br3 B, br4 B, br5 B, br6 B, br7 B, br8 B, br9 B, br10 B, br11 B, br12 B, br13 B, br14 B, br15 B, br16 B, br17 B, br18 B, br19 B, br20 B, br21 B, br22 B, br23 B, q3, q4, hE.2.1, z0, or_true, true_or, if_true, if_false, Option.bind_some, Option.toList_some, Option.toList_none, List.nil_append, List.cons_append]
      · rw [hu] at hE
        by_cases h4' : yn S 0 e < 4
        · have p1 : (nI (yn S 0 e) < 4) = True := eq_true (nI_lt (b := 4) h4' (by decide))
          have p3 : (nI (yn S 0 e) < nI L) = False := eq_false (nI_nlt (by
            refine Classical.byContradiction fun z => hc ⟨hu, h4', by omega⟩) (by omega))
          simp only [e85_6, e85_7, e85_10, e85_11, e85_12, e85_15, e85_16, e85_19, e85_20, e85_21, e85_22, e85_25, e85_26, e85_29, e85_30, e85_31, e85_32, e85_59, zG1, zG2, zG3, zG4, zG5, zG6, zG7, zG8, zNn, s3, s4, bk119 B, bk120 B, bk121 B, bk122 B, bk123 B, bk124 B, bk125 B, bk126 B, bk127 B, bk128 B, bk129 B, bk130 B, bk131 B, bk132 B, bk133 B, bk134 B, bk135 B, bk136 B, bk137 B, bk138 B, bk139 B, bk140 B, bk141 B, bk142 B, br1 B, br2 B, br3 B, br4 B, br5 B, br6 B, br7 B, br8 B, br9 B, br10 B, br11 B, br12 B, br13 B, br14 B, br15 B, br16 B, br17 B, br18 B, br19 B, br20 B, br21 B, br22 B, br23 B, q3, q4, hE.2.1, z1, v0, p1, p3, or_true, true_or, if_true, if_false, Option.bind_some, Option.toList_some, Option.toList_none, List.nil_append, List.cons_append]
        · have p1 : (nI (yn S 0 e) < 4) = False := eq_false (nI_nlt (b := 4) (by omega) (by omega))
          simp only [e85_6, e85_7, e85_10, e85_11, e85_12, e85_15, e85_16, e85_19, e85_20, e85_21, e85_22, e85_59, zG1, zG2, zG3, zG4, zG5, zG6, zG7, zG8, zNn, s3, s4, bk119 B, bk120 B, bk121 B, bk122 B, bk123 B, bk124 B, bk125 B, bk126 B, bk127 B, bk128 B, bk129 B, bk130 B, bk131 B, bk132 B, bk133 B, bk134 B, bk135 B, bk136 B, bk137 B, bk138 B, bk139 B, bk140 B, bk141 B, bk142 B, br1 B, br2 B, br3 B, br4 B, br5 B, br6 B, br7 B, br8 B, br9 B, br10 B, br11 B, br12 B, br13 B, br14 B, br15 B, br16 B, br17 B, br18 B, br19 B, br20 B, br21 B, br22 B, br23 B, q3, q4, hE.2.1, z1, v0, p1, or_true, true_or, if_true, if_false, Option.bind_some, Option.toList_some, Option.toList_none, List.nil_append, List.cons_append]
theorem R_on {sp : Nat × (Nat → Int32)} {M0 M : zM} {S : yS} {e n t : Nat} (h : RR M0 M S) (hK : yK n t S) (hn : n ≤ 1600) (he : e < 10) : ∃ M', zV (zPr sp) (85, 0, [.ref 119, .int (nI e), .double 0], [], M) = some (none, M') ∧ RR M0 M' (yOn S e) := by
  have B := h.1
  obtain ⟨-, -, s3, s4, -⟩ := h.2.1
  obtain ⟨pl, g1, g2, g3⟩ := RR_pl h hK
  have hl := R_len (sp := sp) B h.2.1 g1 (by omega) he
  rw [← g2 e he] at hl
  obtain ⟨M', h1, h2⟩ := R_onL (sp := sp) he hn 4 h hK (by omega) rfl
  refine ⟨M', ?_, h2⟩
  simp only [e85_0, e85_1, e85_2, e85_5, zG1, zG2, zG3, zG4, zG5, zG6, zG7, zG8, zNn, s3, s4, bk119 B, bk120 B, bk121 B, bk122 B, bk123 B, bk124 B, bk125 B, bk126 B, bk127 B, bk128 B, bk129 B, bk130 B, bk131 B, bk132 B, bk133 B, bk134 B, bk135 B, bk136 B, bk137 B, bk138 B, bk139 B, bk140 B, bk141 B, bk142 B, br1 B, br2 B, br3 B, br4 B, br5 B, br6 B, br7 B, br8 B, br9 B, br10 B, br11 B, br12 B, br13 B, br14 B, br15 B, br16 B, br17 B, br18 B, br19 B, br20 B, br21 B, br22 B, br23 B, hl, h1, or_true, true_or, if_true, if_false, Option.bind_some, Option.toList_some, Option.toList_none, List.nil_append, List.cons_append]
theorem R_put {sp : Nat × (Nat → Int32)} {M0 M : zM} {S : yS} {e k c a b n t : Nat} (h : RR M0 M S) (hK : yK n t S) (hn : n < 1600) (he : e < 10) (hp : yPk (k, c, a, b)) : ∃ M', zV (zPr sp) (84, 0, [.ref 119, .int (nI e), .int (nI k), .int (nI c), .int (nI a), .int (nI b)], [], M) = some (none, M') ∧ RR M0 M' (yPut S e (k, c, a, b)) := by
  have B := h.1
  obtain ⟨-, -, s3, s4, -⟩ := h.2.1
  obtain ⟨pl, g1, g2, g3⟩ := RR_pl h hK
  have q1 : zin (nI pl.length) 1600 = true := zin_nI (by omega) (by decide)
  have q2 : (nI pl.length).toNatClampNeg = pl.length := nI_clamp (by omega)
  have hst : RSt M0 (zwi (yS5 M pl.length (e, k, c, a, b)) 119 0 (nI (pl.length + 1))) := RSt_wi (RSt_5 h.2.1) (by omega) (by omega)
  have ho : ∀ x y, 125 ≤ x → zi (zwi (yS5 M pl.length (e, k, c, a, b)) 119 0 (nI (pl.length + 1))) x y = zi M x y := fun x y hx => by rw [zi_ne (by omega), yS5_o (Or.inr (Or.inr hx))]
  have h1 : RR M0 (zwi (yS5 M pl.length (e, k, c, a, b)) 119 0 (nI (pl.length + 1))) (yrS S e (yr S e ++ [(k, c, a, b)])) := by
    obtain ⟨f0, f1, f2, f3, f4, f5, -⟩ := h
    refine ⟨f0, hst, f2.kept (fun x y hx _ => ho x y (by omega)) (fun _ => rfl) (fun _ => rfl) (fun _ _ _ => rfl), f3.kept (fun x y hx _ => ho x y (by omega)) (fun _ _ _ => rfl) (fun _ => rfl), f4.kept (fun x y hx _ => ho x y (by omega)) (fun _ => rfl), f5.kept (fun x y hx _ => ho x y (by omega)) (fun _ => rfl), pl ++ [(e, k, c, a, b)], ⟨by rw [zi_eq, List.length_append]; rfl, fun i x hx => ?_⟩, fun e' he' => ?_⟩
    · have key : x.1 < 10 ∧ yAt (yS5 M pl.length (e, k, c, a, b)) i x := by
        by_cases hi : i < pl.length
        · rw [List.getElem?_append_left hi] at hx
          exact ⟨(g1.2 i x hx).1, yAt_o (g1.2 i x hx).2 (by omega)⟩
        · rw [List.getElem?_append_right (by omega)] at hx
          have hi0 : i - pl.length = 0 := by
            refine Classical.byContradiction fun z => ?_
            have : ([(e, k, c, a, b)] : List (Nat × yP))[i - pl.length]? = none := List.getElem?_eq_none (by simp; omega)
            rw [this] at hx
            cases hx
          rw [hi0] at hx
          have hi' : i = pl.length := by omega
          subst hi'
          have hx : some (e, k, c, a, b) = some x := hx
          rw [← Option.some.inj hx]
          exact ⟨he, yS5_at⟩
      obtain ⟨o1, o2, o3, o4, o5, o6⟩ := key
      exact ⟨o1, by rw [zi_ne (by decide)]; exact o2, by rw [zi_ne (by decide)]; exact o3, by rw [zi_ne (by decide)]; exact o4, by rw [zi_ne (by decide)]; exact o5, by rw [zi_ne (by decide)]; exact o6⟩
    · rw [yRow_app, yRow_cons, yr_r]
      by_cases hee : e' = e
      · subst hee; rw [if_pos rfl, if_pos rfl, g2 e' he']; rfl
      · rw [if_neg hee, if_neg (fun z => hee z.symm), g2 e' he']
        show yRow pl e' = yRow pl e' ++ []
        rw [List.append_nil]
  obtain ⟨M2, r1, r2⟩ := R_on (sp := sp) h1 (yK_app hK he hp) (by omega) he
  refine ⟨M2, ?_, r2⟩
  unfold yS5 at r1
  dsimp only at r1
  simp only [e84_0, e84_1, e84_4, e84_5, e84_8, e84_9, e84_10, e84_11, e84_14, e84_15, e84_18, e84_19, e84_20, e84_21, e84_24, e84_25, e84_28, e84_29, e84_30, e84_31, e84_34, e84_35, e84_38, e84_40, e84_41, e84_42, e84_45, e84_46, e84_49, e84_51, e84_52, e84_53, e84_54, e84_57, e84_58, e84_59, e84_62, e84_63, e84_64, e84_67, zG1, zG2, zG3, zG4, zG5, zG6, zG7, zG8, zNn, s3, s4, zk_wi, zr_wi, bk119 B, bk120 B, bk121 B, bk122 B, bk123 B, bk124 B, bk125 B, bk126 B, bk127 B, bk128 B, bk129 B, bk130 B, bk131 B, bk132 B, bk133 B, bk134 B, bk135 B, bk136 B, bk137 B, bk138 B, bk139 B, bk140 B, bk141 B, bk142 B, br1 B, br2 B, br3 B, br4 B, br5 B, br6 B, br7 B, br8 B, br9 B, br10 B, br11 B, br12 B, br13 B, br14 B, br15 B, br16 B, br17 B, br18 B, br19 B, br20 B, br21 B, br22 B, br23 B, zi_wi, Nat.reduceEqDiff, false_and, g1.1, q1, q2, nI_1, r1, or_true, true_or, if_true, if_false, Option.bind_some, Option.toList_some, Option.toList_none, List.nil_append, List.cons_append]
theorem R_puto {sp : Nat × (Nat → Int32)} {M0 M : zM} {S : yS} {k kd n t : Nat} (h : RR M0 M S) (hK : yK n t S) (hn : n < 1600) (hk : k < 30) (hkd : kd < 8) (h0 : kd ≠ 0) : ∃ M', zV (zPr sp) (83, 0, [.ref 119, .int (nI k), .int (nI kd)], [], M) = some (none, M') ∧ RR M0 M' (yPutOn S k kd 0 0) := by
  have B := h.1
  obtain ⟨-, -, s3, s4, -⟩ := h.2.1
  obtain ⟨M1, r1, r2⟩ := R_put (sp := sp) (e := k / 3) (k := kd) (c := k % 3 + 1) (a := 0) (b := 0) h hK hn (by omega) (yPk_k hkd (by decide) (by decide) (fun z => absurd z h0))
  have r1 : zV (zPr sp) (84, 0, [.ref 119, .int (nI (k / 3)), .int (nI kd), .int (nI (k % 3 + 1)), .int 0, .int 0], [], M) = some (none, M1) := r1
  refine ⟨M1, ?_, r2⟩
  have d3 := ndiv3 (show k < 2 ^ 31 by omega)
  have m3 : nI k - nI (k / 3) * 3 = nI (k % 3) := by rw [← d3]; exact nrem3 (by omega)
  simp only [e83_0, e83_1, e83_2, e83_3, e83_4, e83_5, e83_6, e83_7, e83_8, e83_9, e83_10, e83_11, e83_12, e83_15, zG1, zG2, zG3, zG4, zG5, zG6, zG7, zG8, zNn, s3, s4, bk119 B, bk120 B, bk121 B, bk122 B, bk123 B, bk124 B, bk125 B, bk126 B, bk127 B, bk128 B, bk129 B, bk130 B, bk131 B, bk132 B, bk133 B, bk134 B, bk135 B, bk136 B, bk137 B, bk138 B, bk139 B, bk140 B, bk141 B, bk142 B, br1 B, br2 B, br3 B, br4 B, br5 B, br6 B, br7 B, br8 B, br9 B, br10 B, br11 B, br12 B, br13 B, br14 B, br15 B, br16 B, br17 B, br18 B, br19 B, br20 B, br21 B, br22 B, br23 B, z30', d3, m3, nI_1, r1, or_true, true_or, if_true, if_false, Option.bind_some, Option.toList_some, Option.toList_none, List.nil_append, List.cons_append]
theorem R_cut {sp : Nat × (Nat → Int32)} {M0 M : zM} {S : yS} {k n t : Nat} (h : RR M0 M S) (hK : yK n t S) (hn : n < 1600) (hk : k < 30) : ∃ M', zV (zPr sp) (82, 0, [.ref 119, .int (nI k)], [], M) = some (none, M') ∧ RR M0 M' (yCut S k) := by
  have B := h.1
  obtain ⟨-, -, s3, s4, -⟩ := h.2.1
  have q3 : zin (nI k) 30 = true := zin_nI hk (by decide)
  have q4 : (nI k).toNatClampNeg = k := nI_clamp (by omega)
  have a1 : RR M0 (zwi M 134 k 5) (ynS S 5 k 5) := RR_st (m := 5) h (fun _ => by decide)
  have a2 : RR M0 (zwi (zwi M 134 k 5) 136 k 0) (ynS S 5 k 5) := RR_fz a1 (by rw [yn_nn]; decide)
  obtain ⟨M1, r1, r2⟩ := R_puto (sp := sp) (kd := 2) a2 (yK_st hK (by decide) hk (fun _ => by decide)).1 hn hk (by decide) (by decide)
  have r1 : zV (zPr sp) (83, 0, [.ref 119, .int (nI k), .int 2], [], zwi (zwi M 134 k 5) 136 k 0) = some (none, M1) := r1
  refine ⟨M1, ?_, r2⟩
  simp only [e82_0, e82_1, e82_4, e82_5, e82_6, e82_7, e82_8, e82_11, e82_12, e82_13, e82_14, e82_15, e82_16, e82_17, e82_20, zG1, zG2, zG3, zG4, zG5, zG6, zG7, zG8, zNn, s3, s4, zk_wi, zr_wi, bk119 B, bk120 B, bk121 B, bk122 B, bk123 B, bk124 B, bk125 B, bk126 B, bk127 B, bk128 B, bk129 B, bk130 B, bk131 B, bk132 B, bk133 B, bk134 B, bk135 B, bk136 B, bk137 B, bk138 B, bk139 B, bk140 B, bk141 B, bk142 B, br1 B, br2 B, br3 B, br4 B, br5 B, br6 B, br7 B, br8 B, br9 B, br10 B, br11 B, br12 B, br13 B, br14 B, br15 B, br16 B, br17 B, br18 B, br19 B, br20 B, br21 B, br22 B, br23 B, q3, q4, nar0, r1, or_true, true_or, if_true, if_false, Option.bind_some, Option.toList_some, Option.toList_none, List.nil_append, List.cons_append]
theorem R_sw {sp : Nat × (Nat → Int32)} {M : zM} {e : Nat} (he : e < 10) : zV (zPr sp) (81, 0, [.int (nI e)], [], M) = some (some (.int (yb (ysw e))), M) := by
  have r2 := nrem2 (a := e) (by omega)
  unfold ysw
  by_cases h1 : e % 2 = 1
  · have p1 : (nI (e % 2) = 1) = True := by rw [h1]; decide
    rw [decide_eq_true (Or.inl h1)]
    simp only [e81_0, e81_1, e81_2, e81_3, e81_4, e81_7, e81_8, e81_10, e81_13, e81_14, e81_17, e81_18, z20', r2, p1, or_true, true_or, if_true, if_false, Option.bind_some, Option.toList_some, Option.toList_none, List.nil_append, List.cons_append]
    rfl
  · have p1 : (nI (e % 2) = 1) = False := by rw [show e % 2 = 0 by omega]; decide
    by_cases h8 : e = 8
    · have p2 : (nI e = 8) = True := eq_true (by rw [h8]; rfl)
      rw [decide_eq_true (Or.inr h8)]
      simp only [e81_0, e81_1, e81_2, e81_3, e81_4, e81_7, e81_8, e81_10, e81_13, e81_14, e81_17, e81_18, z20', r2, p1, p2, or_true, true_or, if_true, if_false, Option.bind_some, Option.toList_some, Option.toList_none, List.nil_append, List.cons_append]
      rfl
    · have p2 : (nI e = 8) = False := eq_false (fun z => h8 ((nI_eq (b := 8) (by omega) (by decide)).mp z))
      rw [decide_eq_false (fun z => z.elim h1 h8)]
      simp only [e81_0, e81_1, e81_2, e81_3, e81_4, e81_7, e81_8, e81_10, e81_13, e81_14, e81_17, e81_18, z20', r2, p1, p2, or_true, true_or, if_true, if_false, Option.bind_some, Option.toList_some, Option.toList_none, List.nil_append, List.cons_append]
      rfl
theorem R_lost {sp : Nat × (Nat → Int32)} {M0 M : zM} {S : yS} {e k n t : Nat} (h : RR M0 M S) (hK : yK n t S) (hn : n < 1600) (hk : k < 30) (he : k / 3 = e) : ∃ M', zV (zPr sp) (80, 0, [.ref 119, .int (nI e), .int (nI k), .double 0], [], M) = some (none, M') ∧ RR M0 M' (yLost S k) := by
  have B := h.1
  obtain ⟨-, -, s3, s4, -⟩ := h.2.1
  have q3 : zin (nI k) 30 = true := zin_nI hk (by decide)
  have q4 : (nI k).toNatClampNeg = k := nI_clamp (by omega)
  have g := h.2.2.2.1 k hk
  have gi := hK.2.1 k hk
  have a1 : RR M0 (zwi M 134 k 0) (ynS S 5 k 0) := RR_st (m := 0) h (fun _ => by decide)
  have hsw := R_sw (sp := sp) (M := zwi M 134 k 0) (e := e) (by omega)
  subst he
  unfold yLost
  cases hs : ysw (k / 3)
  · rw [if_neg (fun z => by cases z.1)]
    rw [hs] at hsw
    refine ⟨_, ?_, a1⟩
    simp only [e80_0, e80_1, e80_4, e80_5, e80_6, e80_7, e80_8, e80_11, e80_12, e80_13, e80_14, e80_15, e80_18, e80_21, e80_22, e80_23, e80_26, e80_27, e80_28, e80_31, e80_32, e80_33, e80_36, zG1, zG2, zG3, zG4, zG5, zG6, zG7, zG8, zNn, s3, s4, zk_wi, zr_wi, bk119 B, bk120 B, bk121 B, bk122 B, bk123 B, bk124 B, bk125 B, bk126 B, bk127 B, bk128 B, bk129 B, bk130 B, bk131 B, bk132 B, bk133 B, bk134 B, bk135 B, bk136 B, bk137 B, bk138 B, bk139 B, bk140 B, bk141 B, bk142 B, br1 B, br2 B, br3 B, br4 B, br5 B, br6 B, br7 B, br8 B, br9 B, br10 B, br11 B, br12 B, br13 B, br14 B, br15 B, br16 B, br17 B, br18 B, br19 B, br20 B, br21 B, br22 B, br23 B, q3, q4, hsw, zyb0, or_true, true_or, if_true, if_false, Option.bind_some, Option.toList_some, Option.toList_none, List.nil_append, List.cons_append]
  · rw [hs] at hsw
    by_cases h1 : yn S 5 k = 1
    · rw [if_pos ⟨rfl, h1⟩]
      have p1 : (nI (yn S 5 k) = 1) = True := by rw [h1]; decide
      have gp := (g.2.1 hs).2.1
      have gg := gi.2.2.2.2.2 hs h1
      obtain ⟨M1, r1, r2⟩ := R_cut (sp := sp) (k := yn S 6 k) a1 (yK_st hK (by decide) hk (fun _ => by decide)).1 hn gg.1
      refine ⟨M1, ?_, r2⟩
      simp only [e80_0, e80_1, e80_4, e80_5, e80_6, e80_7, e80_8, e80_11, e80_12, e80_13, e80_14, e80_15, e80_18, e80_21, e80_22, e80_23, e80_26, e80_27, e80_28, e80_31, e80_32, e80_33, e80_36, zG1, zG2, zG3, zG4, zG5, zG6, zG7, zG8, zNn, s3, s4, zk_wi, zr_wi, bk119 B, bk120 B, bk121 B, bk122 B, bk123 B, bk124 B, bk125 B, bk126 B, bk127 B, bk128 B, bk129 B, bk130 B, bk131 B, bk132 B, bk133 B, bk134 B, bk135 B, bk136 B, bk137 B, bk138 B, bk139 B, bk140 B, bk141 B, bk142 B, br1 B, br2 B, br3 B, br4 B, br5 B, br6 B, br7 B, br8 B, br9 B, br10 B, br11 B, br12 B, br13 B, br14 B, br15 B, br16 B, br17 B, br18 B, br19 B, br20 B, br21 B, br22 B, br23 B, q3, q4, hsw, zyb1, g.1, p1, zi_wi, Nat.reduceEqDiff, false_and, gp, r1, or_true, true_or, if_true, if_false, Option.bind_some, Option.toList_some, Option.toList_none, List.nil_append, List.cons_append]
    · rw [if_neg (fun z => h1 z.2)]
      have p1 : (nI (yn S 5 k) = 1) = False := eq_false (fun z => h1 ((nI_eq (by omega) (by decide)).mp z))
      refine ⟨_, ?_, a1⟩
      simp only [e80_0, e80_1, e80_4, e80_5, e80_6, e80_7, e80_8, e80_11, e80_12, e80_13, e80_14, e80_15, e80_18, e80_21, e80_22, e80_23, e80_26, e80_27, e80_28, e80_31, e80_32, e80_33, e80_36, zG1, zG2, zG3, zG4, zG5, zG6, zG7, zG8, zNn, s3, s4, zk_wi, zr_wi, bk119 B, bk120 B, bk121 B, bk122 B, bk123 B, bk124 B, bk125 B, bk126 B, bk127 B, bk128 B, bk129 B, bk130 B, bk131 B, bk132 B, bk133 B, bk134 B, bk135 B, bk136 B, bk137 B, bk138 B, bk139 B, bk140 B, bk141 B, bk142 B, br1 B, br2 B, br3 B, br4 B, br5 B, br6 B, br7 B, br8 B, br9 B, br10 B, br11 B, br12 B, br13 B, br14 B, br15 B, br16 B, br17 B, br18 B, br19 B, br20 B, br21 B, br22 B, br23 B, q3, q4, hsw, zyb1, g.1, p1, or_true, true_or, if_true, if_false, Option.bind_some, Option.toList_some, Option.toList_none, List.nil_append, List.cons_append]
