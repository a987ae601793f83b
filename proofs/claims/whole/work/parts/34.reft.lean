/-! The reference's time, confirming, shifting, setting. -/
theorem ynS_id {S : yS} {f e : Nat} : ynS S f e (yn S f e) = S := by
  have : (fun f' e' => if f' = f ∧ e' = e then S.2.2.2.2.1 f e else S.2.2.2.2.1 f' e') = S.2.2.2.2.1 := by
    funext f' e'
    by_cases hc : f' = f ∧ e' = e
    · rw [if_pos hc, hc.1, hc.2]
    · rw [if_neg hc]
  show (S.1, S.2.1, S.2.2.1, S.2.2.2.1, (fun f' e' => if f' = f ∧ e' = e then S.2.2.2.2.1 f e else S.2.2.2.2.1 f' e'), S.2.2.2.2.2) = S
  rw [this]
theorem yrS_id {S : yS} {e : Nat} : yrS S e (yr S e) = S := by
  have : va_up S.1 e (S.1 e) = S.1 := by
    funext i
    unfold va_up
    split
    · rename_i h; rw [h]
    · rfl
  show (va_up S.1 e (S.1 e), S.2) = S
  rw [this]
theorem ynS_comm {S : yS} {f e m f' e' m' : Nat} (h : f ≠ f') : ynS (ynS S f e m) f' e' m' = ynS (ynS S f' e' m') f e m := by
  have : (fun g k => if g = f' ∧ k = e' then m' else if g = f ∧ k = e then m else S.2.2.2.2.1 g k) = (fun g k => if g = f ∧ k = e then m else if g = f' ∧ k = e' then m' else S.2.2.2.2.1 g k) := by
    funext g k
    by_cases h1 : g = f' ∧ k = e'
    · rw [if_pos h1, if_neg (fun z => h (z.1.symm.trans h1.1)), if_pos h1]
    · rw [if_neg h1]
      by_cases h2 : g = f ∧ k = e
      · rw [if_pos h2, if_pos h2]
      · rw [if_neg h2, if_neg h2, if_neg h1]
  show (S.1, S.2.1, S.2.2.1, S.2.2.2.1, (fun g k => if g = f' ∧ k = e' then m' else if g = f ∧ k = e then m else S.2.2.2.2.1 g k), S.2.2.2.2.2) = (S.1, S.2.1, S.2.2.1, S.2.2.2.1, (fun g k => if g = f ∧ k = e then m else if g = f' ∧ k = e' then m' else S.2.2.2.2.1 g k), S.2.2.2.2.2)
  rw [this]
theorem yBrk_4 {S : yS} {e : Nat} : yn (yBrk S e) 4 e = 0 := by
  have h4 : ∀ {S' : yS} (k : Nat), yn S' 4 e = 0 → yn (yLost S' k) 4 e = 0 := by
    intro S' k hz
    have cut4 : ∀ {S'' : yS} (k' : Nat), yn S'' 4 e = 0 → yn (yCut S'' k') 4 e = 0 := by
      intro S'' k' hz
      have on1 : ∀ {S3 : yS} (e' : Nat), yn S3 4 e = 0 → yn (yOn1 S3 e') 4 e = 0 := by
        intro S3 e' hz
        unfold yOn1
        split
        · rw [yn_nf (by decide)]
          exact (yPost_r.2.1 4 e).trans hz
        · exact hz
      exact on1 _ (on1 _ (on1 _ (on1 _ (by rw [yn_r, yn_nf (by decide)]; exact hz))))
    unfold yLost
    split
    · exact cut4 _ (by rw [yn_nf (by decide)]; exact hz)
    · rw [yn_nf (by decide)]; exact hz
  exact h4 _ (h4 _ (h4 _ (by rw [yBrk0_n, if_pos ⟨by decide, rfl⟩])))
theorem R_brkS {sp : Nat × (Nat → Int32)} {M0 M : zM} {S : yS} {e c n t : Nat} (h : RR M0 M S) (hK : yK n t S) (hn : n < 1600) (he : e < 10) (hc : c < 3) : ∃ M', zV (zPr sp) (78, 48, [.ref 119, .int (nI e), .int (nI (3 * e + c))], [], M) = zV (zPr sp) (78, 48, [.ref 119, .int (nI e), .int (nI (3 * e + (c + 1)))], [], M') ∧ RR M0 M' (yLost S (3 * e + c)) := by
  have B := h.1
  obtain ⟨-, -, s3, s4, -⟩ := h.2.1
  obtain ⟨M1, r1, r2⟩ := R_lost (sp := sp) (e := e) (k := 3 * e + c) h hK hn (by omega) (by omega)
  have m3 : 3 * nI e = nI (3 * e) := pk_mul 3 e
  have a3 : nI (3 * e) + 3 = nI (3 * e + 3) := nI_add _ 3
  have p1 : (nI (3 * e + c) < nI (3 * e + 3)) = True := eq_true (nI_lt (by omega) (by omega))
  refine ⟨M1, ?_, r2⟩
  refine Eq.trans ?_ e78_66
  simp only [e78_48, e78_49, e78_50, e78_51, e78_52, e78_53, e78_54, e78_57, e78_58, e78_59, e78_60, e78_63, zG1, zG2, zG3, zG4, zG5, zG6, zG7, zG8, zNn, s3, s4, bk119 B, bk120 B, bk121 B, bk122 B, bk123 B, bk124 B, bk125 B, bk126 B, bk127 B, bk128 B, bk129 B, bk130 B, bk131 B, bk132 B, bk133 B, bk134 B, bk135 B, bk136 B, bk137 B, bk138 B, bk139 B, bk140 B, bk141 B, bk142 B, br1 B, br2 B, br3 B, br4 B, br5 B, br6 B, br7 B, br8 B, br9 B, br10 B, br11 B, br12 B, br13 B, br14 B, br15 B, br16 B, br17 B, br18 B, br19 B, br20 B, br21 B, br22 B, br23 B, m3, a3, p1, r1, nI_1, Nat.add_assoc, or_true, true_or, if_true, if_false, Option.bind_some, Option.toList_some, Option.toList_none, List.nil_append, List.cons_append]
theorem R_brk {sp : Nat × (Nat → Int32)} {M0 M : zM} {S : yS} {e n t : Nat} (h : RR M0 M S) (hK : yK n t S) (hn : n < 1600) (he : e < 10) : ∃ M', zV (zPr sp) (78, 0, [.ref 119, .int (nI e), .double 0], [], M) = some (none, M') ∧ RR M0 M' (yBrk S e) := by
  have B := h.1
  obtain ⟨-, -, s3, s4, -⟩ := h.2.1
  obtain ⟨pl, g1, g2, g3⟩ := RR_pl h hK
  have q3 : zin (nI e) 10 = true := zin_nI he (by decide)
  have q4 : (nI e).toNatClampNeg = e := nI_clamp (by omega)
  obtain ⟨M1, r1, r2⟩ := R_rem (sp := sp) (d := pl.length) h hK (by omega) he (by omega)
  have e1 : (yr S e).drop pl.length = [] := by
    refine List.drop_eq_nil_of_le ?_
    rw [g2 e he]
    unfold yRow
    rw [List.length_map]
    exact List.length_filter_le _ _
  rw [e1] at r2
  obtain ⟨-, -, t3, t4, -⟩ := r2.2.1
  have a1 : RR M0 (zwi M1 129 e 0) (ynS (yrS S e []) 0 e 0) := RR_en (f := 0) (n := 0) r2 (by decide)
  have a2 : RR M0 (zwi (zwi M1 129 e 0) 130 e 0) _ := RR_en (f := 1) (n := 0) a1 (by decide)
  have a3 : RR M0 (zwi (zwi (zwi M1 129 e 0) 130 e 0) 131 e 0) _ := RR_en (f := 2) (n := 0) a2 (by decide)
  have a4 : RR M0 (zwi (zwi (zwi (zwi M1 129 e 0) 130 e 0) 131 e 0) 132 e 0) _ := RR_en (f := 3) (n := 0) a3 (by decide)
  have a5 : RR M0 (zwi (zwi (zwi (zwi (zwi M1 129 e 0) 130 e 0) 131 e 0) 132 e 0) 133 e 0) (yBrk0 S e) := RR_en (f := 4) (n := 0) a4 (by decide)
  have hK0 := yK_brk0 hK he
  obtain ⟨N1, b1, b2⟩ := R_brkS (sp := sp) (c := 0) a5 hK0 hn he (by decide)
  have hK1 := yK_lost hK0 (show 3 * e + 0 < 30 by omega)
  obtain ⟨N2, c1, c2⟩ := R_brkS (sp := sp) (c := 1) b2 hK1 hn he (by decide)
  have hK2 := yK_lost hK1 (show 3 * e + 1 < 30 by omega)
  obtain ⟨N3, d1, d2⟩ := R_brkS (sp := sp) (c := 2) c2 hK2 hn he (by decide)
  have m3 : 3 * nI e = nI (3 * e) := pk_mul 3 e
  have fin : zV (zPr sp) (78, 48, [.ref 119, .int (nI e), .int (nI (3 * e + 3))], [], N3) = some (none, N3) := by
    have aa : nI (3 * e) + 3 = nI (3 * e + 3) := nI_add _ 3
    have p1 : (nI (3 * e + 3) < nI (3 * e + 3)) = False := eq_false (nI_nlt (Nat.le_refl _) (by omega))
    simp only [e78_48, e78_49, e78_50, e78_51, e78_52, e78_53, e78_54, e78_69, m3, aa, p1, if_false]
  have all : zV (zPr sp) (78, 48, [.ref 119, .int (nI e), .int (nI (3 * e))], [], zwi (zwi (zwi (zwi (zwi M1 129 e 0) 130 e 0) 131 e 0) 132 e 0) 133 e 0) = some (none, N3) := b1.trans (c1.trans (d1.trans fin))
  refine ⟨N3, ?_, d2⟩
  simp only [e78_0, e78_1, e78_2, e78_3, e78_6, e78_9, e78_10, e78_13, e78_14, e78_15, e78_16, e78_17, e78_20, e78_21, e78_22, e78_23, e78_24, e78_27, e78_28, e78_29, e78_30, e78_31, e78_34, e78_35, e78_36, e78_37, e78_38, e78_41, e78_42, e78_43, e78_44, e78_45, e78_46, e78_47, zG1, zG2, zG3, zG4, zG5, zG6, zG7, zG8, zNn, s3, s4, t3, t4, zk_wi, zr_wi, bk119 B, bk120 B, bk121 B, bk122 B, bk123 B, bk124 B, bk125 B, bk126 B, bk127 B, bk128 B, bk129 B, bk130 B, bk131 B, bk132 B, bk133 B, bk134 B, bk135 B, bk136 B, bk137 B, bk138 B, bk139 B, bk140 B, bk141 B, bk142 B, br1 B, br2 B, br3 B, br4 B, br5 B, br6 B, br7 B, br8 B, br9 B, br10 B, br11 B, br12 B, br13 B, br14 B, br15 B, br16 B, br17 B, br18 B, br19 B, br20 B, br21 B, br22 B, br23 B, g1.1, q3, q4, r1, m3, all, or_true, true_or, if_true, if_false, Option.bind_some, Option.toList_some, Option.toList_none, List.nil_append, List.cons_append]
theorem R_fail {sp : Nat × (Nat → Int32)} {M0 M : zM} {S : yS} {e n t : Nat} (h : RR M0 M S) (hK : yK n t S) (hn : n < 1600) (he : e < 10) : ∃ M', zV (zPr sp) (77, 0, [.ref 119, .int (nI e)], [], M) = some (none, M') ∧ RR M0 M' (yPost (yuS (yBrk (yeS S e (ye S e + 1)) e) e false) e (0, ye (yuS (yBrk (yeS S e (ye S e + 1)) e) e false) e, 0, 0, 0, 0, 0, 0)) := by
  have B := h.1
  obtain ⟨-, -, s3, s4, -⟩ := h.2.1
  have q3 : zin (nI e) 10 = true := zin_nI he (by decide)
  have q4 : (nI e).toNatClampNeg = e := nI_clamp (by omega)
  have hE := h.2.2.1 e he
  have a1 : RR M0 (zwi M 127 e (ye S e + 1)) (yeS S e (ye S e + 1)) := RR_ep h
  obtain ⟨M1, r1, r2⟩ := R_brk (sp := sp) a1 (yK_ep hK) hn he
  obtain ⟨-, -, t3, t4, -⟩ := r2.2.1
  have a2 : RR M0 (zwi M1 128 e 1) (yuS (yBrk (yeS S e (ye S e + 1)) e) e false) := RR_up (b := false) r2
  obtain ⟨M2, y, u1, u2⟩ := R_pst (sp := sp) (k := 0) (d := 0) a2 (yK_upF (yK_brk (yK_ep hK) he)) he (by decide) rfl (fun z => by omega)
  have u1 : zV (zPr sp) (76, 0, [.ref 119, .int (nI e), .int 0, .double 0, .double 0], [], zwi M1 128 e 1) = some (some (.int y), M2) := u1
  refine ⟨M2, ?_, u2⟩
  simp only [e77_0, e77_1, e77_4, e77_5, e77_6, e77_7, e77_8, e77_9, e77_10, e77_11, e77_12, e77_15, e77_16, e77_19, e77_20, e77_21, e77_22, e77_23, e77_24, e77_25, e77_28, e77_29, zG1, zG2, zG3, zG4, zG5, zG6, zG7, zG8, zNn, s3, s4, t3, t4, zk_wi, zr_wi, bk119 B, bk120 B, bk121 B, bk122 B, bk123 B, bk124 B, bk125 B, bk126 B, bk127 B, bk128 B, bk129 B, bk130 B, bk131 B, bk132 B, bk133 B, bk134 B, bk135 B, bk136 B, bk137 B, bk138 B, bk139 B, bk140 B, bk141 B, bk142 B, br1 B, br2 B, br3 B, br4 B, br5 B, br6 B, br7 B, br8 B, br9 B, br10 B, br11 B, br12 B, br13 B, br14 B, br15 B, br16 B, br17 B, br18 B, br19 B, br20 B, br21 B, br22 B, br23 B, q3, q4, hE.1, r1, nar1, u1, or_true, true_or, if_true, if_false, Option.bind_some, Option.toList_some, Option.toList_none, List.nil_append, List.cons_append]
theorem R_agL {sp : Nat × (Nat → Int32)} {M0 : zM} {S : yS} {e n t : Nat} {v2 : Value} (hK : yK n t S) (hn : n ≤ 1600) (he : e < 10) : ∀ (m k : Nat) {M : zM}, k + m = yn S 0 e → RR M0 M (yAgain S e k) → ∃ M', zV (zPr sp) (75, 113, [.ref 119, .int (nI e), v2, .int (nI k)], [], M) = some (none, M') ∧ RR M0 M' (yAgain S e (yn S 0 e)) := by
  have g := hK.1 e he
  have q3 : zin (nI e) 10 = true := zin_nI he (by decide)
  have q4 : (nI e).toNatClampNeg = e := nI_clamp (by omega)
  intro m
  induction m with
  | zero =>
    intro k M hk h
    have B := h.1
    obtain ⟨-, -, s3, s4, -⟩ := h.2.1
    have hk : k = yn S 0 e := by omega
    subst hk
    obtain ⟨g1, g2, g3, g4, g5⟩ := yK_again hK he (m := yn S 0 e) g.2.1
    have v0 : zi M 129 e = nI (yn (yAgain S e (yn S 0 e)) 0 e) := (h.2.2.1 e he).2.2 0 (by decide)
    rw [g3] at v0
    have p1 : (nI (yn S 0 e) < nI (yn S 0 e)) = False := eq_false (nI_nlt (Nat.le_refl _) (by omega))
    refine ⟨M, ?_, h⟩
    simp only [e75_113, e75_114, e75_115, e75_118, e75_119, e75_120, e75_135, zG1, zG2, zG3, zG4, zG5, zG6, zG7, zG8, zNn, s3, s4, bk119 B, bk120 B, bk121 B, bk122 B, bk123 B, bk124 B, bk125 B, bk126 B, bk127 B, bk128 B, bk129 B, bk130 B, bk131 B, bk132 B, bk133 B, bk134 B, bk135 B, bk136 B, bk137 B, bk138 B, bk139 B, bk140 B, bk141 B, bk142 B, br1 B, br2 B, br3 B, br4 B, br5 B, br6 B, br7 B, br8 B, br9 B, br10 B, br11 B, br12 B, br13 B, br14 B, br15 B, br16 B, br17 B, br18 B, br19 B, br20 B, br21 B, br22 B, br23 B, q3, q4, v0, p1, or_true, true_or, if_true, if_false, Option.bind_some, Option.toList_some, Option.toList_none, List.nil_append, List.cons_append]
  | succ m ih =>
    intro k M hk h
    have B := h.1
    obtain ⟨-, -, s3, s4, -⟩ := h.2.1
    obtain ⟨g1, g2, g3, g4, g5⟩ := yK_again hK he (m := k) (by omega)
    have v0 : zi M 129 e = nI (yn (yAgain S e k) 0 e) := (h.2.2.1 e he).2.2 0 (by decide)
    rw [g3] at v0
    have p1 : (nI k < nI (yn S 0 e)) = True := eq_true (nI_lt (by omega) (by omega))
    obtain ⟨M1, r1, r2⟩ := R_info (sp := sp) (i := k) h g1 hn he (by rw [g2]; omega)
    obtain ⟨M2, u1, u2⟩ := ih (k + 1) (by omega) r2
    refine ⟨M2, ?_, u2⟩
    rw [← u1]
    refine Eq.trans ?_ e75_132
    simp only [e75_113, e75_114, e75_115, e75_118, e75_119, e75_120, e75_123, e75_124, e75_125, e75_126, e75_129, zG1, zG2, zG3, zG4, zG5, zG6, zG7, zG8, zNn, s3, s4, bk119 B, bk120 B, bk121 B, bk122 B, bk123 B, bk124 B, bk125 B, bk126 B, bk127 B, bk128 B, bk129 B, bk130 B, bk131 B, bk132 B, bk133 B, bk134 B, bk135 B, bk136 B, bk137 B, bk138 B, bk139 B, bk140 B, bk141 B, bk142 B, br1 B, br2 B, br3 B, br4 B, br5 B, br6 B, br7 B, br8 B, br9 B, br10 B, br11 B, br12 B, br13 B, br14 B, br15 B, br16 B, br17 B, br18 B, br19 B, br20 B, br21 B, br22 B, br23 B, q3, q4, v0, p1, r1, nI_1, or_true, true_or, if_true, if_false, Option.bind_some, Option.toList_some, Option.toList_none, List.nil_append, List.cons_append]
theorem zyn1 : (yb (!true) = 0) = True := by decide
theorem zyn0 : (yb (!false) = 0) = False := by decide
theorem R_ring {sp : Nat × (Nat → Int32)} {M0 M : zM} {S : yS} {e n t : Nat} {v2 v3 : Value} (h : RR M0 M S) (hK : yK n t S) (hn : n < 1600) (he : e < 10) : ∃ M', zV (zPr sp) (75, 64, [.ref 119, .int (nI e), v2, v3], [], M) = some (none, M') ∧ RR M0 M' (yRing S e) := by
  have B := h.1
  obtain ⟨-, -, s3, s4, -⟩ := h.2.1
  have q3 : zin (nI e) 10 = true := zin_nI he (by decide)
  have q4 : (nI e).toNatClampNeg = e := nI_clamp (by omega)
  have hE := h.2.2.1 e he
  have g := hK.1 e he
  have v3' : zi M 132 e = nI (yn S 3 e) := hE.2.2 3 (by decide)
  unfold yRing
  cases hu : yu S e
  · rw [if_neg (fun z => by cases z.1), if_neg (fun z => by cases z)]
    rw [hu] at hE
    obtain ⟨M2, y, u1, u2⟩ := R_pst (sp := sp) (k := 0) (d := 0) h hK he (by decide) rfl (fun z => by omega)
    have u1 : zV (zPr sp) (76, 0, [.ref 119, .int (nI e), .int 0, .double 0, .double 0], [], M) = some (some (.int y), M2) := u1
    refine ⟨M2, ?_, u2⟩
    simp only [e75_64, e75_65, e75_68, e75_69, e75_70, e75_73, e75_74, e75_75, e75_76, e75_79, e75_80, e75_135, zG1, zG2, zG3, zG4, zG5, zG6, zG7, zG8, zNn, s3, s4, bk119 B, bk120 B, bk121 B, bk122 B, bk123 B, bk124 B, bk125 B, bk126 B, bk127 B, bk128 B, bk129 B, bk130 B, bk131 B, bk132 B, bk133 B, bk134 B, bk135 B, bk136 B, bk137 B, bk138 B, bk139 B, bk140 B, bk141 B, bk142 B, br1 B, br2 B, br3 B, br4 B, br5 B, br6 B, br7 B, br8 B, br9 B, br10 B, br11 B, br12 B, br13 B, br14 B, br15 B, br16 B, br17 B, br18 B, br19 B, br20 B, br21 B, br22 B, br23 B, q3, q4, hE.2.1, zyn0, u1, or_true, true_or, if_true, if_false, Option.bind_some, Option.toList_some, Option.toList_none, List.nil_append, List.cons_append]
  · rw [hu] at hE
    by_cases h3 : yn S 3 e < 3
    · rw [if_pos ⟨rfl, h3⟩]
      have p1 : (nI (yn S 3 e) = 3) = False := eq_false (fun z => by
        have := (nI_eq (b := 3) (by omega) (by decide)).mp z
        omega)
      have a1 : RR M0 (zwi M 132 e (nI (yn S 3 e + 1))) (ynS S 3 e (yn S 3 e + 1)) := RR_en (f := 3) h (by decide)
      have hK1 : yK n t (ynS S 3 e (yn S 3 e + 1)) := yK_num hK (Or.inr (Or.inr ⟨rfl, by omega⟩))
      have e0 : yn (ynS S 3 e (yn S 3 e + 1)) 0 e = yn S 0 e := yn_nf (by decide)
      obtain ⟨M1, r1, r2⟩ := R_agL (sp := sp) (v2 := v2) hK1 (by omega) he (yn S 0 e) 0 (by rw [e0]; omega) a1
      rw [e0] at r2
      have r1 : zV (zPr sp) (75, 113, [.ref 119, .int (nI e), v2, .int 0], [], zwi M 132 e (nI (yn S 3 e + 1))) = some (none, M1) := r1
      refine ⟨M1, ?_, r2⟩
      simp only [e75_64, e75_65, e75_68, e75_69, e75_70, e75_83, e75_84, e75_87, e75_88, e75_89, e75_90, e75_101, e75_102, e75_105, e75_106, e75_107, e75_108, e75_109, e75_110, e75_111, e75_112, zG1, zG2, zG3, zG4, zG5, zG6, zG7, zG8, zNn, s3, s4, zk_wi, zr_wi, bk119 B, bk120 B, bk121 B, bk122 B, bk123 B, bk124 B, bk125 B, bk126 B, bk127 B, bk128 B, bk129 B, bk130 B, bk131 B, bk132 B, bk133 B, bk134 B, bk135 B, bk136 B, bk137 B, bk138 B, bk139 B, bk140 B, bk141 B, bk142 B, br1 B, br2 B, br3 B, br4 B, br5 B, br6 B, br7 B, br8 B, br9 B, br10 B, br11 B, br12 B, br13 B, br14 B, br15 B, br16 B, br17 B, br18 B, br19 B, br20 B, br21 B, br22 B, br23 B, q3, q4, hE.2.1, zyn1, v3', p1, nI_1, r1, or_true, true_or, if_true, if_false, Option.bind_some, Option.toList_some, Option.toList_none, List.nil_append, List.cons_append]
    · rw [if_neg (fun z => h3 z.2), if_pos rfl]
      have p1 : (nI (yn S 3 e) = 3) = True := eq_true (by rw [show yn S 3 e = 3 by omega]; rfl)
      obtain ⟨M1, r1, r2⟩ := R_fail (sp := sp) h hK hn he
      refine ⟨M1, ?_, r2⟩
      simp only [e75_64, e75_65, e75_68, e75_69, e75_70, e75_83, e75_84, e75_87, e75_88, e75_89, e75_90, e75_93, e75_94, e75_95, e75_98, e75_135, zG1, zG2, zG3, zG4, zG5, zG6, zG7, zG8, zNn, s3, s4, bk119 B, bk120 B, bk121 B, bk122 B, bk123 B, bk124 B, bk125 B, bk126 B, bk127 B, bk128 B, bk129 B, bk130 B, bk131 B, bk132 B, bk133 B, bk134 B, bk135 B, bk136 B, bk137 B, bk138 B, bk139 B, bk140 B, bk141 B, bk142 B, br1 B, br2 B, br3 B, br4 B, br5 B, br6 B, br7 B, br8 B, br9 B, br10 B, br11 B, br12 B, br13 B, br14 B, br15 B, br16 B, br17 B, br18 B, br19 B, br20 B, br21 B, br22 B, br23 B, q3, q4, hE.2.1, zyn1, v3', p1, r1, or_true, true_or, if_true, if_false, Option.bind_some, Option.toList_some, Option.toList_none, List.nil_append, List.cons_append]
theorem R_tick1 {sp : Nat × (Nat → Int32)} {M0 M : zM} {S : yS} {e n t : Nat} (h : RR M0 M S) (hK : yK n t S) (hn : n < 1600) (he : e < 10) : ∃ M', zV (zPr sp) (75, 0, [.ref 119, .int (nI e), .double 0, .double 0], [], M) = some (none, M') ∧ RR M0 M' (yTick1 S e) := by
  have B := h.1
  obtain ⟨-, -, s3, s4, -⟩ := h.2.1
  have q3 : zin (nI e) 10 = true := zin_nI he (by decide)
  have q4 : (nI e).toNatClampNeg = e := nI_clamp (by omega)
  have hE := h.2.2.1 e he
  have g := hK.1 e he
  have v0 : zi M 129 e = nI (yn S 0 e) := hE.2.2 0 (by decide)
  have v4 : zi M 133 e = nI (yn S 4 e) := hE.2.2 4 (by decide)
  have tail : ∃ M', zV (zPr sp) (75, 24, [.ref 119, .int (nI e), .int 1, .double 0], [], M) = some (none, M') ∧ RR M0 M' (if yn S 4 e + 1 < 4 then ynS S 4 e (yn S 4 e + 1) else yRing (ynS S 4 e 0) e) := by
    have a1 : RR M0 (zwi M 133 e (nI (yn S 4 e + 1))) (ynS S 4 e (yn S 4 e + 1)) := RR_en (f := 4) (n := yn S 4 e + 1) h (by decide)
    have z11 : zi (zwi M 133 e (nI (yn S 4 e + 1))) 133 e = nI (yn S 4 e + 1) := zi_eq
    by_cases h4 : yn S 4 e + 1 < 4
    · rw [if_pos h4]
      have p1 : (nI (yn S 4 e + 1) < 4) = True := eq_true (nI_lt (b := 4) h4 (by decide))
      refine ⟨_, ?_, a1⟩
      simp only [e75_24, e75_25, e75_28, e75_29, e75_30, e75_33, e75_34, e75_37, e75_38, e75_39, e75_40, e75_41, e75_44, e75_45, e75_46, e75_47, e75_50, e75_51, e75_52, e75_53, e75_56, zG1, zG2, zG3, zG4, zG5, zG6, zG7, zG8, zNn, s3, s4, zk_wi, zr_wi, bk119 B, bk120 B, bk121 B, bk122 B, bk123 B, bk124 B, bk125 B, bk126 B, bk127 B, bk128 B, bk129 B, bk130 B, bk131 B, bk132 B, bk133 B, bk134 B, bk135 B, bk136 B, bk137 B, bk138 B, bk139 B, bk140 B, bk141 B, bk142 B, br1 B, br2 B, br3 B, br4 B, br5 B, br6 B, br7 B, br8 B, br9 B, br10 B, br11 B, br12 B, br13 B, br14 B, br15 B, br16 B, br17 B, br18 B, br19 B, br20 B, br21 B, br22 B, br23 B, q3, q4, z10, v4, nI_1, z11, p1, or_true, true_or, if_true, if_false, Option.bind_some, Option.toList_some, Option.toList_none, List.nil_append, List.cons_append]
    · rw [if_neg h4]
      have p1 : (nI (yn S 4 e + 1) < 4) = False := eq_false (nI_nlt (b := 4) (by omega) (by omega))
      have a2 : RR M0 (zwi (zwi M 133 e (nI (yn S 4 e + 1))) 133 e 0) (ynS (ynS S 4 e (yn S 4 e + 1)) 4 e 0) := RR_en (f := 4) (n := 0) a1 (by decide)
      rw [ynS_ynS] at a2
      obtain ⟨M1, r1, r2⟩ := R_ring (sp := sp) (v2 := .int 1) (v3 := .double 0) a2 (yK_clk hK (by decide) (fun _ _ _ => rfl)) hn he
      refine ⟨M1, ?_, r2⟩
      simp only [e75_24, e75_25, e75_28, e75_29, e75_30, e75_33, e75_34, e75_37, e75_38, e75_39, e75_40, e75_41, e75_44, e75_45, e75_46, e75_47, e75_50, e75_51, e75_52, e75_53, e75_56, e75_57, e75_58, e75_61, e75_62, e75_63, zG1, zG2, zG3, zG4, zG5, zG6, zG7, zG8, zNn, s3, s4, zk_wi, zr_wi, bk119 B, bk120 B, bk121 B, bk122 B, bk123 B, bk124 B, bk125 B, bk126 B, bk127 B, bk128 B, bk129 B, bk130 B, bk131 B, bk132 B, bk133 B, bk134 B, bk135 B, bk136 B, bk137 B, bk138 B, bk139 B, bk140 B, bk141 B, bk142 B, br1 B, br2 B, br3 B, br4 B, br5 B, br6 B, br7 B, br8 B, br9 B, br10 B, br11 B, br12 B, br13 B, br14 B, br15 B, br16 B, br17 B, br18 B, br19 B, br20 B, br21 B, br22 B, br23 B, q3, q4, z10, v4, nI_1, z11, p1, r1, or_true, true_or, if_true, if_false, Option.bind_some, Option.toList_some, Option.toList_none, List.nil_append, List.cons_append]
  unfold yTick1
  cases hu : yu S e
  · rw [if_neg (fun z => by cases z.1)]
    rw [hu] at hE
    obtain ⟨M1, r1, r2⟩ := tail
    refine ⟨M1, ?_, r2⟩
    simp only [e75_0, e75_1, e75_4, e75_5, e75_6, e75_9, e75_10, e75_13, e75_14, e75_15, e75_18, e75_19, e75_22, e75_23, zG1, zG2, zG3, zG4, zG5, zG6, zG7, zG8, zNn, s3, s4, bk119 B, bk120 B, bk121 B, bk122 B, bk123 B, bk124 B, bk125 B, bk126 B, bk127 B, bk128 B, bk129 B, bk130 B, bk131 B, bk132 B, bk133 B, bk134 B, bk135 B, bk136 B, bk137 B, bk138 B, bk139 B, bk140 B, bk141 B, bk142 B, br1 B, br2 B, br3 B, br4 B, br5 B, br6 B, br7 B, br8 B, br9 B, br10 B, br11 B, br12 B, br13 B, br14 B, br15 B, br16 B, br17 B, br18 B, br19 B, br20 B, br21 B, br22 B, br23 B, q3, q4, hE.2.1, zyn0, r1, or_true, true_or, if_true, if_false, Option.bind_some, Option.toList_some, Option.toList_none, List.nil_append, List.cons_append]
  · rw [hu] at hE
    by_cases hz : yn S 0 e = 0
    · rw [if_pos ⟨rfl, hz⟩]
      have p1 : ((0 : Int32) < nI (yn S 0 e)) = False := by rw [hz]; decide
      have hc := g.2.2.2.2.2.2.1 hu hz
      have a1 : RR M0 (zwi M 133 e 0) (ynS S 4 e 0) := RR_en (f := 4) (n := 0) h (by decide)
      have e1 : ynS S 4 e 0 = S := by rw [← hc]; exact ynS_id
      rw [e1] at a1
      have z11 : zi (zwi M 133 e 0) 133 e = 0 := zi_eq
      have p2 : ((0 : Int32) < 4) = True := by decide
      refine ⟨_, ?_, a1⟩
      simp only [e75_0, e75_1, e75_4, e75_5, e75_6, e75_9, e75_10, e75_13, e75_14, e75_15, e75_18, e75_19, e75_22, e75_23, e75_24, e75_25, e75_28, e75_29, e75_30, e75_33, e75_34, e75_37, e75_38, e75_39, e75_40, e75_41, e75_44, e75_45, e75_46, e75_47, e75_50, e75_51, e75_52, e75_53, e75_56, zG1, zG2, zG3, zG4, zG5, zG6, zG7, zG8, zNn, s3, s4, zk_wi, zr_wi, bk119 B, bk120 B, bk121 B, bk122 B, bk123 B, bk124 B, bk125 B, bk126 B, bk127 B, bk128 B, bk129 B, bk130 B, bk131 B, bk132 B, bk133 B, bk134 B, bk135 B, bk136 B, bk137 B, bk138 B, bk139 B, bk140 B, bk141 B, bk142 B, br1 B, br2 B, br3 B, br4 B, br5 B, br6 B, br7 B, br8 B, br9 B, br10 B, br11 B, br12 B, br13 B, br14 B, br15 B, br16 B, br17 B, br18 B, br19 B, br20 B, br21 B, br22 B, br23 B, q3, q4, hE.2.1, zyn1, v0, p1, z11, p2, or_true, true_or, if_true, if_false, Option.bind_some, Option.toList_some, Option.toList_none, List.nil_append, List.cons_append]
    · rw [if_neg (fun z => hz z.2)]
      have p1 : ((0 : Int32) < nI (yn S 0 e)) = True := eq_true (nI_lt (a := 0) (by omega) (by omega))
      obtain ⟨M1, r1, r2⟩ := tail
      refine ⟨M1, ?_, r2⟩
      simp only [e75_0, e75_1, e75_4, e75_5, e75_6, e75_9, e75_10, e75_13, e75_14, e75_15, e75_18, e75_19, e75_22, e75_23, zG1, zG2, zG3, zG4, zG5, zG6, zG7, zG8, zNn, s3, s4, bk119 B, bk120 B, bk121 B, bk122 B, bk123 B, bk124 B, bk125 B, bk126 B, bk127 B, bk128 B, bk129 B, bk130 B, bk131 B, bk132 B, bk133 B, bk134 B, bk135 B, bk136 B, bk137 B, bk138 B, bk139 B, bk140 B, bk141 B, bk142 B, br1 B, br2 B, br3 B, br4 B, br5 B, br6 B, br7 B, br8 B, br9 B, br10 B, br11 B, br12 B, br13 B, br14 B, br15 B, br16 B, br17 B, br18 B, br19 B, br20 B, br21 B, br22 B, br23 B, q3, q4, hE.2.1, zyn1, v0, p1, r1, or_true, true_or, if_true, if_false, Option.bind_some, Option.toList_some, Option.toList_none, List.nil_append, List.cons_append]
theorem R_in {sp : Nat × (Nat → Int32)} {M0 : zM} {S : yS} {n t : Nat} {x i : Int32} (hK : yK n t S) (hn : n < 1600) : ∀ (m k : Nat) {M : zM}, k + m = 10 → RR M0 M (yTickN S k) → ∃ M', zV (zPr sp) (74, 22, [.ref 119, .int x, .int i, .int (nI k)], [], M) = zV (zPr sp) (74, 15, [.ref 119, .int x, .int (i + 1), .int (nI 10)], [], M') ∧ RR M0 M' (yTickN S 10) := by
  intro m
  induction m with
  | zero =>
    intro k M hk h
    have hk : k = 10 := by omega
    subst hk
    have p1 : (nI 10 < 10) = False := by decide
    refine ⟨M, ?_, h⟩
    simp only [e74_22, e74_23, e74_25, e74_39, e74_42, p1, if_false]
  | succ m ih =>
    intro k M hk h
    have B := h.1
    obtain ⟨-, -, s3, s4, -⟩ := h.2.1
    have p1 : (nI k < 10) = True := eq_true (nI_lt (b := 10) (by omega) (by decide))
    obtain ⟨M1, r1, r2⟩ := R_tick1 (sp := sp) h (yK_tickN hK (by omega)) hn (show k < 10 by omega)
    obtain ⟨M2, u1, u2⟩ := ih (k + 1) (by omega) r2
    refine ⟨M2, ?_, u2⟩
    refine Eq.trans ?_ u1
    refine Eq.trans ?_ e74_36
    simp only [e74_22, e74_23, e74_25, e74_28, e74_29, e74_30, e74_33, zG1, zG2, zG3, zG4, zG5, zG6, zG7, zG8, zNn, s3, s4, bk119 B, bk120 B, bk121 B, bk122 B, bk123 B, bk124 B, bk125 B, bk126 B, bk127 B, bk128 B, bk129 B, bk130 B, bk131 B, bk132 B, bk133 B, bk134 B, bk135 B, bk136 B, bk137 B, bk138 B, bk139 B, bk140 B, bk141 B, bk142 B, br1 B, br2 B, br3 B, br4 B, br5 B, br6 B, br7 B, br8 B, br9 B, br10 B, br11 B, br12 B, br13 B, br14 B, br15 B, br16 B, br17 B, br18 B, br19 B, br20 B, br21 B, br22 B, br23 B, p1, r1, nI_1, or_true, true_or, if_true, if_false, Option.bind_some, Option.toList_some, Option.toList_none, List.nil_append, List.cons_append]
theorem R_out {sp : Nat × (Nat → Int32)} {M0 : zM} {S : yS} {n t x : Nat} (hK : yK n t S) (hn : n < 1600) (hx : x ≤ 40) : ∀ (m k : Nat) {M : zM} {v : Value}, k + m = x → RR M0 M (yTicks S k) → ∃ M', zV (zPr sp) (74, 15, [.ref 119, .int (nI x), .int (nI k), v], [], M) = some (some (.int 1), M') ∧ RR M0 M' (yTicks S x) := by
  intro m
  induction m with
  | zero =>
    intro k M v hk h
    have hk : k = x := by omega
    subst hk
    have p1 : (nI k < nI k) = False := eq_false (nI_nlt (Nat.le_refl _) (by omega))
    refine ⟨M, ?_, h⟩
    simp only [e74_15, e74_16, e74_17, e74_45, e74_46, p1, or_true, if_true, if_false]
  | succ m ih =>
    intro k M v hk h
    have p1 : (nI k < nI x) = True := eq_true (nI_lt (by omega) (by omega))
    obtain ⟨M1, r1, r2⟩ := R_in (sp := sp) (x := nI x) (i := nI k) (yK_ticks hK) hn 10 0 (by omega) h
    have r1 : zV (zPr sp) (74, 22, [.ref 119, .int (nI x), .int (nI k), .int 0], [], M) = zV (zPr sp) (74, 15, [.ref 119, .int (nI x), .int (nI (k + 1)), .int (nI 10)], [], M1) := by rw [← nI_1]; exact r1
    have r2 : RR M0 M1 (yTicks S (k + 1)) := r2
    obtain ⟨M2, u1, u2⟩ := ih (v := .int (nI 10)) (k + 1) (by omega) r2
    refine ⟨M2, ?_, u2⟩
    rw [← u1, ← r1]
    simp only [e74_15, e74_16, e74_17, e74_20, e74_21, p1, if_true]
def zOr (sp : Nat × (Nat → Int32)) (M0 M : zM) (i : Nat) (ls : List Value) (r : Int32 × yS) : Prop := ∃ M', zV (zPr sp) (i, 0, ls, [], M) = some (some (.int r.1), M') ∧ RR M0 M' r.2
theorem R_tick {sp : Nat × (Nat → Int32)} {M0 M : zM} {S : yS} {n t : Nat} {x : Int32} (h : RR M0 M S) (hK : yK n t S) (hn : n < 1600) : zOr sp M0 M 74 [.ref 119, .int x, .double 0, .double 0] (yTickA x, yTickS S x) := by
  unfold yTickA yTickS zOr
  by_cases h1 : x < 1
  · rw [if_pos (Or.inl h1), if_pos (Or.inl h1)]
    have p1 : (x < 1) = True := eq_true h1
    refine ⟨M, ?_, h⟩
    simp only [e74_0, e74_1, e74_2, e74_5, e74_6, e74_8, e74_11, e74_12, p1, true_or, or_true, if_true]
  · have p1 : (x < 1) = False := eq_false h1
    by_cases h2 : 40 < x
    · rw [if_pos (Or.inr h2), if_pos (Or.inr h2)]
      have p2 : (40 < x) = True := eq_true h2
      refine ⟨M, ?_, h⟩
      simp only [e74_0, e74_1, e74_2, e74_5, e74_6, e74_8, e74_11, e74_12, p1, p2, true_or, or_true, if_true, if_false]
    · have p2 : (40 < x) = False := eq_false h2
      have hc : ¬ (x < 1 ∨ 40 < x) := fun z => z.elim h1 h2
      rw [if_neg hc, if_neg hc]
      have hx0 : ¬ x < 0 := fun z => h1 (Int32.lt_trans z (by decide))
      obtain ⟨j, hj, rfl⟩ := nI_rl (n := 40) (by decide) hx0 h2
      rw [nI_clamp (by omega)]
      obtain ⟨M1, r1, r2⟩ := R_out (sp := sp) (v := .double 0) hK hn (show j ≤ 40 by omega) j 0 (by omega) h
      have r1 : zV (zPr sp) (74, 15, [.ref 119, .int (nI j), .int 0, .double 0], [], M) = some (some (.int 1), M1) := r1
      refine ⟨M1, ?_, r2⟩
      simp only [e74_0, e74_1, e74_2, e74_5, e74_6, e74_8, e74_11, e74_12, e74_13, e74_14, p1, p2, if_false, r1]
theorem nsub8r : ∀ t, t < 8 → ∀ f, f < 8 → (nI t - nI f + 8) - (nI t - nI f + 8) / 8 * 8 = nI ((t + 8 - f) % 8) := by decide +kernel
theorem R_conf {sp : Nat × (Nat → Int32)} {M0 M : zM} {S : yS} {e u n t : Nat} (h : RR M0 M S) (hK : yK n t S) (hn : n < 1600) (he : e < 10) (hu : u < 8) : ∃ M', zV (zPr sp) (94, 0, [.ref 119, .int (nI e), .int (nI u), .double 0], [], M) = some (none, M') ∧ RR M0 M' (yConf S e u) := by
  have B := h.1
  obtain ⟨-, -, s3, s4, -⟩ := h.2.1
  have q3 : zin (nI e) 10 = true := zin_nI he (by decide)
  have q4 : (nI e).toNatClampNeg = e := nI_clamp (by omega)
  have hE := h.2.2.1 e he
  have g := hK.1 e he
  have v0 : zi M 129 e = nI (yn S 0 e) := hE.2.2 0 (by decide)
  have v1 : zi M 130 e = nI (yn S 1 e) := hE.2.2 1 (by decide)
  have hd := nsub8r u hu (yn S 1 e) g.2.2.1
  have hd8 : (u + 8 - yn S 1 e) % 8 < 8 := Nat.mod_lt _ (by decide)
  have hdef : yConf S e u = if yn S 0 e < (u + 8 - yn S 1 e) % 8 then S else if (u + 8 - yn S 1 e) % 8 = 0 then yOn S e else yOn (yGone S e ((u + 8 - yn S 1 e) % 8)) e := rfl
  rw [hdef]
  generalize (u + 8 - yn S 1 e) % 8 = d at hd hd8
  by_cases h1 : yn S 0 e < d
  · rw [if_pos h1]
    have p1 : (nI (yn S 0 e) < nI d) = True := eq_true (nI_lt h1 (by omega))
    refine ⟨M, ?_, h⟩
    simp only [e94_0, e94_1, e94_2, e94_5, e94_6, e94_7, e94_8, e94_10, e94_11, e94_13, e94_14, e94_15, e94_16, e94_17, e94_20, e94_21, e94_22, e94_25, zG1, zG2, zG3, zG4, zG5, zG6, zG7, zG8, zNn, s3, s4, bk119 B, bk120 B, bk121 B, bk122 B, bk123 B, bk124 B, bk125 B, bk126 B, bk127 B, bk128 B, bk129 B, bk130 B, bk131 B, bk132 B, bk133 B, bk134 B, bk135 B, bk136 B, bk137 B, bk138 B, bk139 B, bk140 B, bk141 B, bk142 B, br1 B, br2 B, br3 B, br4 B, br5 B, br6 B, br7 B, br8 B, br9 B, br10 B, br11 B, br12 B, br13 B, br14 B, br15 B, br16 B, br17 B, br18 B, br19 B, br20 B, br21 B, br22 B, br23 B, q3, q4, v0, v1, z80', hd, p1, or_true, true_or, if_true, if_false, Option.bind_some, Option.toList_some, Option.toList_none, List.nil_append, List.cons_append]
  · rw [if_neg h1]
    have p1 : (nI (yn S 0 e) < nI d) = False := eq_false (nI_nlt (by omega) (by omega))
    obtain ⟨M1, r1, r2⟩ := R_rem (sp := sp) (d := d) h hK (by omega) he (by omega)
    obtain ⟨-, -, t3, t4, -⟩ := r2.2.1
    have hE1 := r2.2.2.1 e he
    have w0 : zi M1 129 e = nI (yn S 0 e) := hE1.2.2 0 (by decide)
    have w1 : zi M1 130 e = nI (yn S 1 e) := hE1.2.2 1 (by decide)
    have w3 : zi M1 132 e = nI (yn S 3 e) := hE1.2.2 3 (by decide)
    have w4 : zi M1 133 e = nI (yn S 4 e) := hE1.2.2 4 (by decide)
    have hm : nI (yn S 1 e) + nI d - (nI (yn S 1 e) + nI d) / 8 * 8 = nI ((yn S 1 e + d) % 8) := by rw [nI_add]; exact nrem8 (by omega)
    have a1 : RR M0 (zwi M1 130 e (nI ((yn S 1 e + d) % 8))) _ := RR_en (f := 1) r2 (by decide)
    have a2 : RR M0 (zwi (zwi M1 130 e (nI ((yn S 1 e + d) % 8))) 129 e (nI (yn S 0 e - d))) _ := RR_en (f := 0) a1 (by decide)
    by_cases h0 : d = 0
    · subst h0
      rw [if_pos rfl]
      have p2 : ((0 : Int32) < nI 0) = False := by decide
      have a3 : RR M0 (zwi (zwi (zwi M1 130 e (nI ((yn S 1 e + 0) % 8))) 129 e (nI (yn S 0 e - 0))) 132 e (nI (yn S 3 e))) _ := RR_en (f := 3) a2 (by decide)
      have a4 : RR M0 (zwi (zwi (zwi (zwi M1 130 e (nI ((yn S 1 e + 0) % 8))) 129 e (nI (yn S 0 e - 0))) 132 e (nI (yn S 3 e))) 133 e (nI (yn S 4 e))) (ynS (ynS (ynS (ynS (yrS S e ((yr S e).drop 0)) 1 e ((yn S 1 e + 0) % 8)) 0 e (yn S 0 e - 0)) 3 e (yn S 3 e)) 4 e (yn S 4 e)) := RR_en (f := 4) a3 (by decide)
      have e1 : ynS (ynS (ynS (ynS (yrS S e ((yr S e).drop 0)) 1 e ((yn S 1 e + 0) % 8)) 0 e (yn S 0 e - 0)) 3 e (yn S 3 e)) 4 e (yn S 4 e) = S := by
        rw [List.drop_zero, yrS_id, Nat.add_zero, Nat.mod_eq_of_lt g.2.2.1, ynS_id, Nat.sub_zero, ynS_id, ynS_id, ynS_id]
      rw [e1] at a4
      obtain ⟨M2, u1, u2⟩ := R_on (sp := sp) a4 hK (by omega) he
      refine ⟨M2, ?_, u2⟩
      simp only [e94_0, e94_1, e94_2, e94_5, e94_6, e94_7, e94_8, e94_10, e94_11, e94_13, e94_14, e94_15, e94_16, e94_17, e94_20, e94_21, e94_22, e94_25, e94_26, e94_27, e94_28, e94_29, e94_32, e94_33, e94_36, e94_37, e94_38, e94_41, e94_42, e94_43, e94_44, e94_45, e94_47, e94_48, e94_49, e94_50, e94_53, e94_54, e94_55, e94_56, e94_57, e94_58, e94_59, e94_60, e94_63, e94_64, e94_65, e94_68, e94_69, e94_72, e94_73, e94_76, e94_77, e94_78, e94_79, e94_80, e94_83, e94_84, e94_85, e94_88, e94_89, e94_92, e94_93, e94_96, e94_97, e94_98, e94_99, e94_100, e94_101, e94_104, zG1, zG2, zG3, zG4, zG5, zG6, zG7, zG8, zNn, s3, s4, t3, t4, zk_wi, zr_wi, bk119 B, bk120 B, bk121 B, bk122 B, bk123 B, bk124 B, bk125 B, bk126 B, bk127 B, bk128 B, bk129 B, bk130 B, bk131 B, bk132 B, bk133 B, bk134 B, bk135 B, bk136 B, bk137 B, bk138 B, bk139 B, bk140 B, bk141 B, bk142 B, br1 B, br2 B, br3 B, br4 B, br5 B, br6 B, br7 B, br8 B, br9 B, br10 B, br11 B, br12 B, br13 B, br14 B, br15 B, br16 B, br17 B, br18 B, br19 B, br20 B, br21 B, br22 B, br23 B, q3, q4, v0, v1, z80', hd, p1, r1, zi_wi, Nat.reduceEqDiff, false_and, w0, w1, w3, w4, hm, pk_sub (show 0 ≤ yn S 0 e by omega), p2, u1, or_true, true_or, if_true, if_false, Option.bind_some, Option.toList_some, Option.toList_none, List.nil_append, List.cons_append]
    · rw [if_neg h0]
      have p2 : ((0 : Int32) < nI d) = True := eq_true (nI_lt (a := 0) (by omega) (by omega))
      have a3 : RR M0 (zwi (zwi (zwi M1 130 e (nI ((yn S 1 e + d) % 8))) 129 e (nI (yn S 0 e - d))) 132 e 0) _ := RR_en (f := 3) (n := 0) a2 (by decide)
      have a4 : RR M0 (zwi (zwi (zwi (zwi M1 130 e (nI ((yn S 1 e + d) % 8))) 129 e (nI (yn S 0 e - d))) 132 e 0) 133 e 0) (ynS (ynS (ynS (ynS (yrS S e ((yr S e).drop d)) 1 e ((yn S 1 e + d) % 8)) 0 e (yn S 0 e - d)) 3 e 0) 4 e 0) := RR_en (f := 4) (n := 0) a3 (by decide)
      have e1 : ynS (ynS (ynS (ynS (yrS S e ((yr S e).drop d)) 1 e ((yn S 1 e + d) % 8)) 0 e (yn S 0 e - d)) 3 e 0) 4 e 0 = yGone S e d := by
        unfold yGone
        rw [ynS_comm (f := 1) (f' := 0) (by decide)]
      rw [e1] at a4
      obtain ⟨M2, u1, u2⟩ := R_on (sp := sp) a4 (yK_gone hK he (by omega)) (by omega) he
      refine ⟨M2, ?_, u2⟩
      simp only [e94_0, e94_1, e94_2, e94_5, e94_6, e94_7, e94_8, e94_10, e94_11, e94_13, e94_14, e94_15, e94_16, e94_17, e94_20, e94_21, e94_22, e94_25, e94_26, e94_27, e94_28, e94_29, e94_32, e94_33, e94_36, e94_37, e94_38, e94_41, e94_42, e94_43, e94_44, e94_45, e94_47, e94_48, e94_49, e94_50, e94_53, e94_54, e94_55, e94_56, e94_57, e94_58, e94_59, e94_60, e94_63, e94_64, e94_65, e94_68, e94_69, e94_72, e94_73, e94_76, e94_77, e94_78, e94_79, e94_80, e94_83, e94_84, e94_85, e94_88, e94_89, e94_92, e94_93, e94_96, e94_97, e94_98, e94_99, e94_100, e94_101, e94_104, zG1, zG2, zG3, zG4, zG5, zG6, zG7, zG8, zNn, s3, s4, t3, t4, zk_wi, zr_wi, bk119 B, bk120 B, bk121 B, bk122 B, bk123 B, bk124 B, bk125 B, bk126 B, bk127 B, bk128 B, bk129 B, bk130 B, bk131 B, bk132 B, bk133 B, bk134 B, bk135 B, bk136 B, bk137 B, bk138 B, bk139 B, bk140 B, bk141 B, bk142 B, br1 B, br2 B, br3 B, br4 B, br5 B, br6 B, br7 B, br8 B, br9 B, br10 B, br11 B, br12 B, br13 B, br14 B, br15 B, br16 B, br17 B, br18 B, br19 B, br20 B, br21 B, br22 B, br23 B, q3, q4, v0, v1, z80', hd, p1, r1, zi_wi, Nat.reduceEqDiff, false_and, w0, w1, hm, pk_sub (show d ≤ yn S 0 e by omega), p2, u1, or_true, true_or, if_true, if_false, Option.bind_some, Option.toList_some, Option.toList_none, List.nil_append, List.cons_append]
/-- frames move up by one -/
def ySh (M M' : zM) (b j : Nat) : Prop := (∀ a i, a ≠ 126 → zi M' a i = zi M a i) ∧ ∀ i, zi M' 126 i = if b ≤ i ∧ i < b + j then zi M 126 (i + 8) else zi M 126 i
theorem R_shL {sp : Nat × (Nat → Int32)} {M0 M : zM} {to : Nat} (B : RB M0) (hto : to < 10) : ∀ (m j : Nat) (M1 : zM), j + m = 56 → RSt M0 M1 → ySh M M1 (64 * to) j → ∃ M2, zV (zPr sp) (92, 7, [.ref 119, .int (nI to), .int (nI (64 * to)), .int (nI (64 * to + j))], [], M1) = zV (zPr sp) (92, 36, [.ref 119, .int (nI to), .int (nI (64 * to)), .int (nI (64 * to + 56))], [], M2) ∧ RSt M0 M2 ∧ ySh M M2 (64 * to) 56 := by
  intro m
  induction m with
  | zero =>
    intro j M1 hj hs h
    have hj : j = 56 := by omega
    subst hj
    have a1 : nI (64 * to) + 56 = nI (64 * to + 56) := nI_add _ 56
    have p1 : (nI (64 * to + 56) < nI (64 * to + 56)) = False := eq_false (nI_nlt (Nat.le_refl _) (by omega))
    refine ⟨M1, ?_, hs, h⟩
    simp only [e92_7, e92_8, e92_9, e92_11, e92_12, a1, p1, if_false]
  | succ m ih =>
    intro j M1 hj hs h
    have hs' := hs
    obtain ⟨-, -, s3, s4, -⟩ := hs
    have a1 : nI (64 * to) + 56 = nI (64 * to + 56) := nI_add _ 56
    have a2 : nI (64 * to + j) + 8 = nI (64 * to + j + 8) := nI_add _ 8
    have a3 : nI (64 * to + j) + 1 = nI (64 * to + (j + 1)) := nI_add _ 1
    have p1 : (nI (64 * to + j) < nI (64 * to + 56)) = True := eq_true (nI_lt (by omega) (by omega))
    have b1 : zin (nI (64 * to + j)) 640 = true := zin_nI (by omega) (by decide)
    have b2 : zin (nI (64 * to + j + 8)) 640 = true := zin_nI (by omega) (by decide)
    have c1 : (nI (64 * to + j)).toNatClampNeg = 64 * to + j := nI_clamp (by omega)
    have c2 : (nI (64 * to + j + 8)).toNatClampNeg = 64 * to + j + 8 := nI_clamp (by omega)
    have h' : ySh M (zwi M1 126 (64 * to + j) (zi M1 126 (64 * to + j + 8))) (64 * to) (j + 1) := by
      refine ⟨fun a i ha => by rw [zi_ne ha]; exact h.1 a i ha, fun i => ?_⟩
      by_cases hi : i = 64 * to + j
      · subst hi
        rw [zi_eq, h.2, if_neg (by omega), if_pos ⟨by omega, by omega⟩]
      · rw [zi_nj hi, h.2]
        by_cases hc : 64 * to ≤ i ∧ i < 64 * to + j
        · rw [if_pos hc, if_pos ⟨hc.1, by omega⟩]
        · rw [if_neg hc, if_neg (fun z => hc ⟨z.1, by omega⟩)]
    obtain ⟨M2, r1, r2, r3⟩ := ih (j + 1) _ (by omega) (RSt_wi hs' (by omega) (by omega)) h'
    refine ⟨M2, ?_, r2, r3⟩
    rw [← r1]
    refine Eq.trans ?_ e92_33
    simp only [e92_7, e92_8, e92_9, e92_11, e92_12, e92_15, e92_16, e92_19, e92_20, e92_21, e92_24, e92_25, e92_27, e92_28, e92_29, e92_30, zG1, zG2, zG3, zG4, zG5, zG6, zG7, zG8, zNn, s3, s4, bk119 B, bk120 B, bk121 B, bk122 B, bk123 B, bk124 B, bk125 B, bk126 B, bk127 B, bk128 B, bk129 B, bk130 B, bk131 B, bk132 B, bk133 B, bk134 B, bk135 B, bk136 B, bk137 B, bk138 B, bk139 B, bk140 B, bk141 B, bk142 B, br1 B, br2 B, br3 B, br4 B, br5 B, br6 B, br7 B, br8 B, br9 B, br10 B, br11 B, br12 B, br13 B, br14 B, br15 B, br16 B, br17 B, br18 B, br19 B, br20 B, br21 B, br22 B, br23 B, a1, a2, a3, p1, b1, b2, c1, c2, or_true, true_or, if_true, if_false, Option.bind_some, Option.toList_some, Option.toList_none, List.nil_append, List.cons_append]
theorem R_shift {sp : Nat × (Nat → Int32)} {M0 M : zM} {S : yS} {to n t : Nat} {f : yF} {fs : List yF} (h : RR M0 M S) (hK : yK n t S) (hto : to < 10) (hw : yw S to = f :: fs) : ∃ M', zV (zPr sp) (92, 0, [.ref 119, .int (nI to), .double 0, .double 0], [], M) = some (none, M') ∧ RR M0 M' (ywS S to fs) := by
  have B := h.1
  have q3 : zin (nI to) 10 = true := zin_nI hto (by decide)
  have q4 : (nI to).toNatClampNeg = to := nI_clamp (by omega)
  have m64 : 64 * nI to = nI (64 * to) := pk_mul 64 to
  obtain ⟨M1, r1, r2, r3⟩ := R_shL (sp := sp) (M := M) B hto 56 0 M (by omega) h.2.1 ⟨fun _ _ _ => rfl, fun i => by rw [if_neg (by omega)]⟩
  have r1 : zV (zPr sp) (92, 7, [.ref 119, .int (nI to), .int (nI (64 * to)), .int (nI (64 * to))], [], M) = _ := r1
  have r2' := r2
  obtain ⟨-, -, s3, s4, -⟩ := r2
  have hF := h.2.2.2.2.2.1 to hto
  rw [hw, List.length_cons] at hF
  have c1 : zi M1 125 to = nI (fs.length + 1) := by rw [r3.1 _ _ (by decide)]; exact hF.1
  have c2 : nI (fs.length + 1) - 1 = nI fs.length := nI_pred _
  refine ⟨zwi M1 125 to (nI fs.length), ?_, ?_⟩
  · have st : zV (zPr sp) (92, 0, [.ref 119, .int (nI to), .double 0, .double 0], [], M) = zV (zPr sp) (92, 7, [.ref 119, .int (nI to), .int (nI (64 * to)), .int (nI (64 * to))], [], M) := by
      simp only [e92_0, e92_2, e92_3, e92_4, e92_5, e92_6, m64]
    rw [st, r1]
    simp only [e92_36, e92_37, e92_40, e92_41, e92_42, e92_43, e92_44, e92_45, e92_46, zG1, zG2, zG3, zG4, zG5, zG6, zG7, zG8, zNn, s3, s4, bk119 B, bk120 B, bk121 B, bk122 B, bk123 B, bk124 B, bk125 B, bk126 B, bk127 B, bk128 B, bk129 B, bk130 B, bk131 B, bk132 B, bk133 B, bk134 B, bk135 B, bk136 B, bk137 B, bk138 B, bk139 B, bk140 B, bk141 B, bk142 B, br1 B, br2 B, br3 B, br4 B, br5 B, br6 B, br7 B, br8 B, br9 B, br10 B, br11 B, br12 B, br13 B, br14 B, br15 B, br16 B, br17 B, br18 B, br19 B, br20 B, br21 B, br22 B, br23 B, q3, q4, c1, c2, or_true, true_or, if_true, if_false, Option.bind_some, Option.toList_some, Option.toList_none, List.nil_append, List.cons_append]
  · have ho : ∀ a j, a ≠ 125 → a ≠ 126 → zi (zwi M1 125 to (nI fs.length)) a j = zi M a j := fun a j h1 h2 => by rw [zi_ne h1]; exact r3.1 a j h2
    obtain ⟨g0, g1, g2, g3, g4, g5, g6⟩ := h
    refine ⟨g0, RSt_wi r2' (by omega) (by omega), g2.kept (fun a j _ _ => ho a j (by omega) (by omega)) (fun _ => rfl) (fun _ => rfl) (fun _ _ _ => rfl), g3.kept (fun a j _ _ => ho a j (by omega) (by omega)) (fun _ _ _ => rfl) (fun _ => rfl), g4.kept (fun a j _ _ => ho a j (by omega) (by omega)) (fun _ => rfl), fun e' he' => ?_, g6.kept (fun a j _ _ => ho a j (by omega) (by omega)) (fun _ => rfl)⟩
    have g := g5 e' he'
    have hl' := (hK.1 e' he').2.2.2.2.2.2.2.2.1
    rw [yw_w]
    by_cases hee : e' = to
    · subst hee
      rw [if_pos rfl, zi_eq]
      rw [hw] at g hl'
      refine ⟨rfl, fun k f' hk => ?_⟩
      have hkl : k < fs.length := by
        refine Classical.byContradiction fun z => ?_
        rw [List.getElem?_eq_none (by omega)] at hk
        cases hk
      rw [List.length_cons] at hl'
      have hw1 := g.2 (k + 1) f' (by rw [List.getElem?_cons_succ]; exact hk)
      have key : ∀ q, q < 8 → zi (zwi M1 125 e' (nI fs.length)) 126 (64 * e' + 8 * k + q) = zi M 126 (64 * e' + 8 * (k + 1) + q) := by
        intro q hq
        rw [zi_ne (by decide), r3.2, if_pos ⟨by omega, by omega⟩]
        exact congrArg (zi M 126) (by omega)
      obtain ⟨w1, w2, w3, w4⟩ := hw1
      refine ⟨(key 0 (by decide)).trans w1, (key 1 (by decide)).trans w2, fun z => (key 3 (by decide)).trans (w3 z), fun z => ?_⟩
      obtain ⟨x2, x4, x5, x6, x7⟩ := w4 z
      exact ⟨(key 2 (by decide)).trans x2, (key 4 (by decide)).trans x4, (key 5 (by decide)).trans x5, (key 6 (by decide)).trans x6, (key 7 (by decide)).trans x7⟩
    · rw [if_neg hee, zi_nj hee, r3.1 _ _ (by decide)]
      refine ⟨g.1, fun k f' hk => (g.2 k f' hk).kept (fun q hq => ?_)⟩
      have hkl : k < (yw S e').length := by
        refine Classical.byContradiction fun z => ?_
        rw [List.getElem?_eq_none (by omega)] at hk
        cases hk
      rw [zi_ne (by decide), r3.2, if_neg (by omega)]
theorem R_set {sp : Nat × (Nat → Int32)} {M0 M : zM} {S : yS} {e n t : Nat} {x : Int32} (h : RR M0 M S) (hK : yK n t S) (hn : n < 1600) (he : e < 10) : ∃ M', zV (zPr sp) (93, 0, [.ref 119, .int (nI e), .int x], [], M) = some (none, M') ∧ RR M0 M' (yMset S e x) := by
  have q3 : zin (nI e) 10 = true := zin_nI he (by decide)
  have q4 : (nI e).toNatClampNeg = e := nI_clamp (by omega)
  have tail : ∀ {M : zM} {S1 : yS}, RR M0 M S1 → yK n t S1 → ∃ M', zV (zPr sp) (93, 29, [.ref 119, .int (nI e), .int x], [], M) = some (none, M') ∧ RR M0 M' (if x = ye S1 e then yPost S1 e (1, ye S1 e, 0, 0, 0, 0, 0, 0) else S1) := by
    intro M S1 h hK
    have B := h.1
    obtain ⟨-, -, s3, s4, -⟩ := h.2.1
    have hE := h.2.2.1 e he
    by_cases hx : x = ye S1 e
    · rw [if_pos hx]
      have p1 : (x = ye S1 e) = True := eq_true hx
      obtain ⟨M2, y, u1, u2⟩ := R_pst (sp := sp) (k := 1) (d := 0) h hK he (by decide) rfl (fun z => by omega)
      have u1 : zV (zPr sp) (76, 0, [.ref 119, .int (nI e), .int 1, .double 0, .double 0], [], M) = some (some (.int y), M2) := u1
      refine ⟨M2, ?_, u2⟩
      simp only [e93_29, e93_30, e93_31, e93_34, e93_35, e93_36, e93_39, e93_40, e93_41, e93_42, e93_45, e93_46, zG1, zG2, zG3, zG4, zG5, zG6, zG7, zG8, zNn, s3, s4, bk119 B, bk120 B, bk121 B, bk122 B, bk123 B, bk124 B, bk125 B, bk126 B, bk127 B, bk128 B, bk129 B, bk130 B, bk131 B, bk132 B, bk133 B, bk134 B, bk135 B, bk136 B, bk137 B, bk138 B, bk139 B, bk140 B, bk141 B, bk142 B, br1 B, br2 B, br3 B, br4 B, br5 B, br6 B, br7 B, br8 B, br9 B, br10 B, br11 B, br12 B, br13 B, br14 B, br15 B, br16 B, br17 B, br18 B, br19 B, br20 B, br21 B, br22 B, br23 B, q3, q4, hE.1, p1, u1, or_true, true_or, if_true, if_false, Option.bind_some, Option.toList_some, Option.toList_none, List.nil_append, List.cons_append]
    · rw [if_neg hx]
      have p1 : (x = ye S1 e) = False := eq_false hx
      refine ⟨M, ?_, h⟩
      simp only [e93_29, e93_30, e93_31, e93_34, e93_35, e93_36, e93_39, e93_40, e93_41, e93_42, e93_45, e93_46, zG1, zG2, zG3, zG4, zG5, zG6, zG7, zG8, zNn, s3, s4, bk119 B, bk120 B, bk121 B, bk122 B, bk123 B, bk124 B, bk125 B, bk126 B, bk127 B, bk128 B, bk129 B, bk130 B, bk131 B, bk132 B, bk133 B, bk134 B, bk135 B, bk136 B, bk137 B, bk138 B, bk139 B, bk140 B, bk141 B, bk142 B, br1 B, br2 B, br3 B, br4 B, br5 B, br6 B, br7 B, br8 B, br9 B, br10 B, br11 B, br12 B, br13 B, br14 B, br15 B, br16 B, br17 B, br18 B, br19 B, br20 B, br21 B, br22 B, br23 B, q3, q4, hE.1, p1, or_true, true_or, if_true, if_false, Option.bind_some, Option.toList_some, Option.toList_none, List.nil_append, List.cons_append]
  have B := h.1
  obtain ⟨-, -, s3, s4, -⟩ := h.2.1
  have hE := h.2.2.1 e he
  by_cases hx : ye S e < x
  · have a1 : RR M0 (zwi M 127 e x) (yeS S e x) := RR_ep h
    obtain ⟨M1, r1, r2⟩ := R_brk (sp := sp) a1 (yK_ep hK) hn he
    obtain ⟨-, -, t3, t4, -⟩ := r2.2.1
    have a2 : RR M0 (zwi M1 128 e 0) (yuS (yBrk (yeS S e x) e) e true) := RR_up (b := true) r2
    have hK2 : yK n t (yuS (yBrk (yeS S e x) e) e true) := yK_upT (yK_brk (yK_ep hK) he) (fun _ _ => yBrk_4)
    obtain ⟨M2, u1, u2⟩ := tail a2 hK2
    have p1 : (ye S e < x) = True := eq_true hx
    have hdef : yMset S e x = (if x = ye (yuS (yBrk (yeS S e x) e) e true) e then yPost (yuS (yBrk (yeS S e x) e) e true) e (1, ye (yuS (yBrk (yeS S e x) e) e true) e, 0, 0, 0, 0, 0, 0) else yuS (yBrk (yeS S e x) e) e true) := by
      unfold yMset
      rw [if_pos hx]
    rw [hdef]
    refine ⟨M2, ?_, u2⟩
    simp only [e93_0, e93_1, e93_2, e93_5, e93_6, e93_7, e93_10, e93_11, e93_14, e93_15, e93_16, e93_17, e93_18, e93_19, e93_22, e93_23, e93_26, e93_27, e93_28, zG1, zG2, zG3, zG4, zG5, zG6, zG7, zG8, zNn, s3, s4, t3, t4, zk_wi, zr_wi, bk119 B, bk120 B, bk121 B, bk122 B, bk123 B, bk124 B, bk125 B, bk126 B, bk127 B, bk128 B, bk129 B, bk130 B, bk131 B, bk132 B, bk133 B, bk134 B, bk135 B, bk136 B, bk137 B, bk138 B, bk139 B, bk140 B, bk141 B, bk142 B, br1 B, br2 B, br3 B, br4 B, br5 B, br6 B, br7 B, br8 B, br9 B, br10 B, br11 B, br12 B, br13 B, br14 B, br15 B, br16 B, br17 B, br18 B, br19 B, br20 B, br21 B, br22 B, br23 B, q3, q4, hE.1, p1, r1, nar0, u1, or_true, true_or, if_true, if_false, Option.bind_some, Option.toList_some, Option.toList_none, List.nil_append, List.cons_append]
  · obtain ⟨M2, u1, u2⟩ := tail h hK
    have p1 : (ye S e < x) = False := eq_false hx
    have hdef : yMset S e x = (if x = ye S e then yPost S e (1, ye S e, 0, 0, 0, 0, 0, 0) else S) := by
      unfold yMset
      rw [if_neg hx]
    rw [hdef]
    refine ⟨M2, ?_, u2⟩
    simp only [e93_0, e93_1, e93_2, e93_5, e93_6, e93_7, zG1, zG2, zG3, zG4, zG5, zG6, zG7, zG8, zNn, s3, s4, bk119 B, bk120 B, bk121 B, bk122 B, bk123 B, bk124 B, bk125 B, bk126 B, bk127 B, bk128 B, bk129 B, bk130 B, bk131 B, bk132 B, bk133 B, bk134 B, bk135 B, bk136 B, bk137 B, bk138 B, bk139 B, bk140 B, bk141 B, bk142 B, br1 B, br2 B, br3 B, br4 B, br5 B, br6 B, br7 B, br8 B, br9 B, br10 B, br11 B, br12 B, br13 B, br14 B, br15 B, br16 B, br17 B, br18 B, br19 B, br20 B, br21 B, br22 B, br23 B, q3, q4, hE.1, p1, u1, or_true, true_or, if_true, if_false, Option.bind_some, Option.toList_some, Option.toList_none, List.nil_append, List.cons_append]
