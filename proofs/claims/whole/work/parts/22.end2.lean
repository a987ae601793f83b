/-! The ends of the class: the rest of the link layer. -/
theorem zG10 : (22 ≤ 23 ∧ 23 < 25) = True := eq_true ⟨by decide, by decide⟩
theorem zG11 : (22 ≤ 22 ∧ 22 < 25) = True := eq_true ⟨by decide, by decide⟩
theorem zG12 : (22 ≤ 24 ∧ 24 < 25) = True := eq_true ⟨by decide, by decide⟩
theorem zB0 : ((0 : Int32) = 0 ∨ (0 : Int32) = 1) = True := by decide
theorem zB1 : ((1 : Int32) = 0 ∨ (1 : Int32) = 1) = True := by decide
theorem zRet1 : (1 = 0 ∨ (1 : Int32) = 0 ∨ (1 : Int32) = 1) = True := by decide
theorem zRet0 : (1 = 0 ∨ (0 : Int32) = 0 ∨ (0 : Int32) = 1) = True := by decide
theorem C_lost {sp : Nat × (Nat → Int32)} {M0 M : zM} {S : yS} {e c n t : Nat} (h : RC M0 M S) (hK : yK n t S) (hn : n < 2047) (he : e < 10) (hc : c < 3) : ∃ M', zV (zPr sp) (41, 41, [.ref (zEn e), .int (nI c)], [], M) = zV (zPr sp) (41, 41, [.ref (zEn e), .int (nI (c + 1))], [], M') ∧ RC M0 M' (yLost S (3 * e + c)) := by
  obtain ⟨k1, k2, k3, k4, k5, k6, k7⟩ := RC_e h he
  have hr := RC_ec h he hc
  have p1 : (nI c < 3) = True := eq_true (nI_lt (b := 3) hc (by decide))
  have p2 : zin (nI c) 3 = true := zin_nI hc (by decide)
  have p3 : (nI c).toNatClampNeg = c := nI_clamp (by omega)
  cases hs : ysw ((3 * e + c) / 3)
  · obtain ⟨M1, r1, r2⟩ := T_lost (sp := sp) h (show 3 * e + c < 30 by omega) hs
    have c1 := (RC_cT h (show 3 * e + c < 30 by omega) hs).1
    refine ⟨M1, ?_, r2⟩
    refine Eq.trans ?_ e41_58
    simp only [e41_41, e41_42, e41_43, e41_46, e41_47, e41_50, e41_51, e41_52, e41_55, zG1, zG3, k1, k5, k6, zG10, hr, p1, p2, p3, c1, r1, if_true, nI_1, Option.bind_some, Option.toList_none, List.nil_append]
  · obtain ⟨M1, r1, r2⟩ := J_lost (sp := sp) h hK hn (show 3 * e + c < 30 by omega) hs
    have c1 := (RC_cS h (show 3 * e + c < 30 by omega) hs).1
    refine ⟨M1, ?_, r2⟩
    refine Eq.trans ?_ e41_58
    simp only [e41_41, e41_42, e41_43, e41_46, e41_47, e41_50, e41_51, e41_52, e41_55, zG1, zG3, k1, k5, k6, zG10, hr, p1, p2, p3, c1, zN20, r1, if_true, if_false, nI_1, Option.bind_some, Option.toList_none, List.nil_append]
theorem E_brk {sp : Nat × (Nat → Int32)} {M0 M : zM} {S : yS} {e n t : Nat} (h : RC M0 M S) (hK : yK n t S) (hn : n < 2047) (he : e < 10) : ∃ M', zV (zPr sp) (41, 0, [.ref (zEn e), .double 0], [], M) = some (none, M') ∧ RC M0 M' (yBrk S e) := by
  obtain ⟨k1, k2, k3, k4, k5, k6, k7⟩ := RC_e h he
  have hrow := hK.row he
  have kl := RC_l h (show e < 22 by omega)
  have hsz := L_size (sp := sp) h (show e < 22 by omega)
  rw [yXs_e he, List.length_map] at hsz
  obtain ⟨M1, r1, r2⟩ := L_drop (sp := sp) (d := (yr S e).length) h (show e < 22 by omega) (by rw [yXs_e he, List.length_map]; exact Nat.le_refl _)
  have e1 : yXS S e ((yr S e).drop (yr S e).length) ((yv S (e - 10)).drop (yr S e).length) = yrS S e [] := by unfold yXS; rw [if_pos he, List.drop_length]
  rw [e1] at r2
  have k1' := (RC_e r2 he).1
  have a1 : RC M0 (zwi M1 (zEn e) 7 0) (ynS (yrS S e []) 0 e 0) := RC_en (f := 0) (n := 0) r2 he (by decide)
  have a2 : RC M0 (zwi (zwi M1 (zEn e) 7 0) (zEn e) 8 0) (ynS (ynS (yrS S e []) 0 e 0) 1 e 0) := RC_en (f := 1) (n := 0) a1 he (by decide)
  have a3 : RC M0 (zwi (zwi (zwi M1 (zEn e) 7 0) (zEn e) 8 0) (zEn e) 9 0) (ynS (ynS (ynS (yrS S e []) 0 e 0) 1 e 0) 2 e 0) := RC_en (f := 2) (n := 0) a2 he (by decide)
  have a4 : RC M0 (zwi (zwi (zwi (zwi M1 (zEn e) 7 0) (zEn e) 8 0) (zEn e) 9 0) (zEn e) 10 0) (ynS (ynS (ynS (ynS (yrS S e []) 0 e 0) 1 e 0) 2 e 0) 3 e 0) := RC_en (f := 3) (n := 0) a3 he (by decide)
  have a5 : RC M0 (zwi (zwi (zwi (zwi (zwi M1 (zEn e) 7 0) (zEn e) 8 0) (zEn e) 9 0) (zEn e) 10 0) (zEn e) 11 0) (yBrk0 S e) := RC_en (f := 4) (n := 0) a4 he (by decide)
  have hK0 := yK_brk0 hK he
  obtain ⟨N1, b1, b2⟩ := C_lost (sp := sp) (c := 0) a5 hK0 hn he (by decide)
  have hK1 := yK_lost hK0 (show 3 * e + 0 < 30 by omega)
  obtain ⟨N2, c1, c2⟩ := C_lost (sp := sp) (c := 1) b2 hK1 hn he (by decide)
  have hK2 := yK_lost hK1 (show 3 * e + 1 < 30 by omega)
  obtain ⟨N3, d1, d2⟩ := C_lost (sp := sp) (c := 2) c2 hK2 hn he (by decide)
  have fin : zV (zPr sp) (41, 41, [.ref (zEn e), .int (nI 3)], [], N3) = some (none, N3) := by
    have p1 : (nI 3 < 3) = False := by decide
    simp only [e41_41, e41_42, e41_43, e41_61, p1, if_false]
  have all : zV (zPr sp) (41, 41, [.ref (zEn e), .int 0], [], zwi (zwi (zwi (zwi (zwi M1 (zEn e) 7 0) (zEn e) 8 0) (zEn e) 9 0) (zEn e) 10 0) (zEn e) 11 0) = some (none, N3) := b1.trans (c1.trans (d1.trans fin))
  refine ⟨N3, ?_, d2⟩
  simp only [e41_0, e41_1, e41_4, e41_5, e41_8, e41_11, e41_14, e41_15, e41_16, e41_19, e41_20, e41_21, e41_24, e41_25, e41_26, e41_29, e41_30, e41_31, e41_34, e41_35, e41_36, e41_39, e41_40, zG1, zG3, k1, k4, kl, k1', zk_wi, if_true, hsz, r1, all, Option.bind_some, Option.toList_some, Option.toList_none, List.nil_append, List.cons_append]
theorem E_agL {sp : Nat × (Nat → Int32)} {M0 : zM} {S : yS} {e n t : Nat} (hK : yK n t S) (hn : n < 4096) (he : e < 10) : ∀ (m k : Nat) {M : zM}, k + m = yn S 0 e → RC M0 M (yAgain S e k) → ∃ M', zV (zPr sp) (63, 2, [.ref (zEn e), .int (nI k)], [], M) = some (none, M') ∧ RC M0 M' (yAgain S e (yn S 0 e)) := by
  have g := hK.1 e he
  have hrow := hK.row he
  intro m
  induction m with
  | zero =>
    intro k M hk h
    have hk : k = yn S 0 e := by omega
    subst hk
    obtain ⟨k1, k2, k3, k4, k5, k6, k7⟩ := RC_e h he
    obtain ⟨g1, g2, g3, g4, g5⟩ := yK_again hK he (m := yn S 0 e) g.2.1
    have hE := h.2.1 e he
    rw [g3] at hE
    have p1 : (nI (yn S 0 e) < nI (yn S 0 e)) = False := eq_false (nI_nlt (Nat.le_refl _) (by omega))
    refine ⟨M, ?_, h⟩
    simp only [e63_2, e63_3, e63_4, e63_7, e63_49, zG1, k1, if_true, if_false, hE.2.2.1, p1]
  | succ m ih =>
    intro k M hk h
    obtain ⟨k1, k2, k3, k4, k5, k6, k7⟩ := RC_e h he
    obtain ⟨g1, g2, g3, g4, g5⟩ := yK_again hK he (m := k) (by omega)
    have hE := h.2.1 e he
    rw [g3, g3, g3, g3, g3, g4, g5] at hE
    have kl := RC_l h (show e < 22 by omega)
    have kw := (RC_w h (yo_lt e he)).1
    have hkl : k < (yr S e).length := by omega
    have hat := L_at (sp := sp) (k := k) (v := ypk ((yr (yAgain S e k) e).getD k (0, 0, 0, 0))) h (show e < 22 by omega) (by
      rw [yXs_e he, g2, List.getElem?_map, List.getD_eq_getElem?_getD, List.getElem?_eq_getElem hkl]; rfl)
    obtain ⟨M1, r1, r2⟩ := W_add (sp := sp) (x0 := 2) (x1 := ye S e) (x2 := nI ((yn S 1 e + k) % 8)) (x3 := nI (yn S 2 e)) (x4 := ypk ((yr (yAgain S e k) e).getD k (0, 0, 0, 0))) h (yo_lt e he) (2, ye (yAgain S e k) e, (yn (yAgain S e k) 1 e + k) % 8, yn (yAgain S e k) 2 e, (yr (yAgain S e k) e).getD k (0, 0, 0, 0)) rfl (by show ye S e = ye (yAgain S e k) e; rw [g5]) (by show nI ((yn S 1 e + k) % 8) = nI ((yn (yAgain S e k) 1 e + k) % 8); rw [g3]) (by show nI (yn S 2 e) = nI (yn (yAgain S e k) 2 e); rw [g3]) rfl
    have r2 : RC M0 M1 (yAgain S e (k + 1)) := r2
    obtain ⟨M2, q1, q2⟩ := ih (k + 1) (by omega) r2
    have p1 : (nI k < nI (yn S 0 e)) = True := eq_true (nI_lt (by omega) (by omega))
    have hm : nI (yn S 1 e + k) &&& 7 = nI ((yn S 1 e + k) % 8) := n7 (by omega)
    refine ⟨M2, ?_, q2⟩
    simp only [e63_2, e63_3, e63_4, e63_7, e63_10, e63_11, e63_14, e63_15, e63_16, e63_19, e63_20, e63_23, e63_24, e63_25, e63_27, e63_28, e63_29, e63_32, e63_33, e63_36, e63_37, e63_40, e63_43, e63_46, zG1, zG3, k1, k3, k4, kl, kw, if_true, hE.1, hE.2.2.1, hE.2.2.2.1, hE.2.2.2.2.1, p1, hat, nI_add, hm, r1, nI_1, q1, Option.bind_some, Option.toList_some, Option.toList_none, List.nil_append, List.cons_append]
theorem E_again {sp : Nat × (Nat → Int32)} {M0 M : zM} {S : yS} {e n t : Nat} (h : RC M0 M S) (hK : yK n t S) (hn : n < 4096) (he : e < 10) : ∃ M', zV (zPr sp) (63, 0, [.ref (zEn e), .double 0], [], M) = some (none, M') ∧ RC M0 M' (yAgain S e (yn S 0 e)) := by
  obtain ⟨M', h1, h2⟩ := E_agL (sp := sp) (M := M) hK hn he (yn S 0 e) 0 (by omega) h
  have h1 : zV (zPr sp) (63, 2, [.ref (zEn e), .int 0], [], M) = some (none, M') := h1
  refine ⟨M', ?_, h2⟩
  simp only [e63_0, e63_1, h1]
theorem nsub8 : ∀ t, t < 8 → ∀ f, f < 8 → (nI t - nI f) &&& 7 = nI ((t + 8 - f) % 8) := by decide +kernel
/-- packets are confirmed -/
def yGone (S : yS) (e d : Nat) : yS := ynS (ynS (ynS (ynS (yrS S e ((yr S e).drop d)) 0 e (yn S 0 e - d)) 1 e ((yn S 1 e + d) % 8)) 3 e 0) 4 e 0
theorem yK_gone {n t : Nat} {S : yS} {e d : Nat} (h : yK n t S) (he : e < 10) (hd : d ≤ yn S 0 e) : yK n t (yGone S e d) := by
  have hn : ∀ f e', 5 ≤ f → yn (yGone S e d) f e' = yn S f e' := fun f e' hf => by
    unfold yGone
    rw [yn_nf (by omega), yn_nf (by omega), yn_nf (by omega), yn_nf (by omega), yn_r]
  have ho : ∀ f e', e' ≠ e → yn (yGone S e d) f e' = yn S f e' := fun f e' hf => by
    unfold yGone
    rw [yn_ne hf, yn_ne hf, yn_ne hf, yn_ne hf, yn_r]
  have hr : ∀ e', yr (yGone S e d) e' = if e' = e then (yr S e).drop d else yr S e' := fun _ => rfl
  refine ⟨fun e' he' => ?_, fun k hk => ?_, h.2.2.1, ?_⟩
  · have g := h.1 e' he'
    by_cases hee : e' = e
    · subst hee
      rw [hr, if_pos rfl]
      have n0 : yn (yGone S e' d) 0 e' = yn S 0 e' - d := by unfold yGone; rw [yn_nf (by decide), yn_nf (by decide), yn_nf (by decide), yn_nn]
      have n1 : yn (yGone S e' d) 1 e' = (yn S 1 e' + d) % 8 := by unfold yGone; rw [yn_nf (by decide), yn_nf (by decide), yn_nn]
      have n2 : yn (yGone S e' d) 2 e' = yn S 2 e' := by unfold yGone; rw [yn_nf (by decide), yn_nf (by decide), yn_nf (by decide), yn_nf (by decide), yn_r]
      have n3 : yn (yGone S e' d) 3 e' = 0 := by unfold yGone; rw [yn_nf (by decide), yn_nn]
      have n4 : yn (yGone S e' d) 4 e' = 0 := by unfold yGone; rw [yn_nn]
      rw [n0, n1, n2, n3, n4]
      refine ⟨by omega, by rw [List.length_drop]; omega, Nat.mod_lt _ (by decide), g.2.2.2.1, by decide, by decide, fun _ _ => rfl, fun p hp => g.2.2.2.2.2.2.2.1 p (List.mem_of_mem_drop hp), g.2.2.2.2.2.2.2.2⟩
    · rw [hr, if_neg hee, ho _ _ hee, ho _ _ hee, ho _ _ hee, ho _ _ hee, ho _ _ hee]
      exact g
  · rw [hn _ _ (by decide), hn _ _ (by decide), hn _ _ (by decide), hn _ _ (by decide), hn _ _ (by decide), hn _ _ (by decide)]
    exact h.2.1 k hk
  · have h1 := ysum_le (f := fun e' => (yr (yGone S e d) e').length) (g := fun e => (yr S e).length) (n := 10) (fun i _ => by
      show (yr (yGone S e d) i).length ≤ (yr S i).length
      rw [hr]
      by_cases hie : i = e
      · subst hie; rw [if_pos rfl, List.length_drop]; omega
      · rw [if_neg hie]; exact Nat.le_refl _)
    have h2 : ysum (yj (yGone S e d)) 30 = ysum (yj S) 30 := ysum_congr (fun i _ => by
      unfold yj
      rw [hn 5 i (by decide)])
    have h3 := h.2.2.2
    unfold yΦ at h3 ⊢
    omega
theorem yK_conf {n t : Nat} {S : yS} {e u : Nat} (h : yK n t S) (he : e < 10) : yK n t (yConf S e u) := by
  unfold yConf
  dsimp only
  split
  · exact h
  · split
    · exact yK_on h he
    · exact yK_on (yK_gone h he (by omega)) he
theorem E_conf {sp : Nat × (Nat → Int32)} {M0 M : zM} {S : yS} {e u n t : Nat} (h : RC M0 M S) (hK : yK n t S) (hn : n < 2047) (he : e < 10) (hu : u < 8) : ∃ M', zV (zPr sp) (46, 0, [.ref (zEn e), .int (nI u), .double 0], [], M) = some (none, M') ∧ RC M0 M' (yConf S e u) := by
  obtain ⟨k1, k2, k3, k4, k5, k6, k7⟩ := RC_e h he
  have g := hK.1 e he
  have hE := h.2.1 e he
  have kl := RC_l h (show e < 22 by omega)
  have hd := nsub8 u hu (yn S 1 e) g.2.2.1
  have hd8 : (u + 8 - yn S 1 e) % 8 < 8 := Nat.mod_lt _ (by decide)
  have hdef : yConf S e u = if yn S 0 e < (u + 8 - yn S 1 e) % 8 then S else if (u + 8 - yn S 1 e) % 8 = 0 then yOn S e else yOn (yGone S e ((u + 8 - yn S 1 e) % 8)) e := rfl
  rw [hdef]
  generalize (u + 8 - yn S 1 e) % 8 = d at hd hd8
  by_cases h1 : yn S 0 e < d
  · rw [if_pos h1]
    have p1 : (nI (yn S 0 e) < nI d) = True := eq_true (nI_lt h1 (by omega))
    refine ⟨M, ?_, h⟩
    simp only [e46_0, e46_1, e46_2, e46_5, e46_6, e46_8, e46_9, e46_10, e46_11, e46_12, e46_15, e46_18, zG1, k1, if_true, hE.2.2.1, hE.2.2.2.1, hd, p1]
  · rw [if_neg h1]
    have p1 : (nI (yn S 0 e) < nI d) = False := eq_false (nI_nlt (by omega) (by omega))
    by_cases h0 : d = 0
    · subst h0
      rw [if_pos rfl]
      obtain ⟨M2, q1, q2⟩ := E_on (sp := sp) h hK (by omega) he
      have p2 : ((0 : Int32) < nI 0) = False := by decide
      refine ⟨M2, ?_, q2⟩
      simp only [e46_0, e46_1, e46_2, e46_5, e46_6, e46_8, e46_9, e46_10, e46_11, e46_12, e46_15, e46_18, e46_19, e46_20, e46_23, e46_24, e46_27, e46_28, e46_31, e46_32, e46_33, e46_36, e46_37, e46_38, e46_41, e46_42, e46_43, e46_46, e46_47, e46_48, e46_50, e46_51, e46_54, e46_55, e46_56, e46_59, e46_60, e46_61, e46_64, e46_65, e46_68, zG1, k1, if_true, if_false, hE.2.2.1, hE.2.2.2.1, hd, p1, p2, q1, Option.bind_some, Option.toList_none, List.nil_append]
    · rw [if_neg h0]
      have p2 : ((0 : Int32) < nI d) = True := eq_true (nI_lt (a := 0) (by omega) (by omega))
      obtain ⟨M1, r1, r2⟩ := L_drop (sp := sp) (d := d) h (show e < 22 by omega) (by rw [yXs_e he, List.length_map]; omega)
      have e1 : yXS S e ((yr S e).drop d) ((yv S (e - 10)).drop d) = yrS S e ((yr S e).drop d) := by unfold yXS; rw [if_pos he]
      rw [e1] at r2
      have k1' := (RC_e r2 he).1
      have hE1 := r2.2.1 e he
      have a1 : RC M0 (zwi M1 (zEn e) 7 (nI (yn S 0 e - d))) _ := RC_en (f := 0) (n := yn S 0 e - d) r2 he (by decide)
      have a2 : RC M0 (zwi (zwi M1 (zEn e) 7 (nI (yn S 0 e - d))) (zEn e) 8 (nI ((yn S 1 e + d) % 8))) _ := RC_en (f := 1) (n := (yn S 1 e + d) % 8) a1 he (by decide)
      have a3 : RC M0 (zwi (zwi (zwi M1 (zEn e) 7 (nI (yn S 0 e - d))) (zEn e) 8 (nI ((yn S 1 e + d) % 8))) (zEn e) 10 0) _ := RC_en (f := 3) (n := 0) a2 he (by decide)
      have a4 : RC M0 (zwi (zwi (zwi (zwi M1 (zEn e) 7 (nI (yn S 0 e - d))) (zEn e) 8 (nI ((yn S 1 e + d) % 8))) (zEn e) 10 0) (zEn e) 11 0) (yGone S e d) := RC_en (f := 4) (n := 0) a3 he (by decide)
      obtain ⟨M2, q1, q2⟩ := E_on (sp := sp) a4 (yK_gone hK he (by omega)) (by omega) he
      have hm : nI (yn S 1 e + d) &&& 7 = nI ((yn S 1 e + d) % 8) := n7 (by omega)
      have z7 : zi M1 (zEn e) 7 = nI (yn S 0 e) := hE1.2.2.1
      have z8 : zi (zwi M1 (zEn e) 7 (nI (yn S 0 e - d))) (zEn e) 8 = nI (yn S 1 e) := by rw [zi_nj (by decide)]; exact hE1.2.2.2.1
      refine ⟨M2, ?_, q2⟩
      simp only [e46_0, e46_1, e46_2, e46_5, e46_6, e46_8, e46_9, e46_10, e46_11, e46_12, e46_15, e46_18, e46_19, e46_20, e46_23, e46_24, e46_27, e46_28, e46_31, e46_32, e46_33, e46_36, e46_37, e46_38, e46_41, e46_42, e46_43, e46_46, e46_47, e46_48, e46_50, e46_51, e46_54, e46_55, e46_56, e46_59, e46_60, e46_61, e46_64, e46_65, e46_68, zG1, zG3, k1, k4, kl, k1', zk_wi, if_true, if_false, hE.2.2.1, hE.2.2.2.1, hd, p1, p2, r1, z7, z8, pk_sub (show d ≤ yn S 0 e by omega), nI_add, hm, q1, Option.bind_some, Option.toList_none, List.nil_append]
theorem E_exp {sp : Nat × (Nat → Int32)} {M0 M : zM} {S : yS} {e u n t : Nat} (h : RC M0 M S) (hK : yK n t S) (he : e < 10) (hu : u < 8) : ∃ M', zV (zPr sp) (47, 0, [.ref (zEn e), .int (nI u), .double 0], [], M) = some (some (.int (if u = yn S 2 e then 1 else 0)), M') ∧ RC M0 M' (if u = yn S 2 e then yPost (ynS S 2 e ((yn S 2 e + 1) % 8)) e (3, ye S e, 0, (yn S 2 e + 1) % 8, 0, 0, 0, 0) else yPost S e (3, ye S e, 0, yn S 2 e, 0, 0, 0, 0)) := by
  obtain ⟨k1, k2, k3, k4, k5, k6, k7⟩ := RC_e h he
  have g := hK.1 e he
  have hE := h.2.1 e he
  have kw := (RC_w h (yo_lt e he)).1
  by_cases hq : u = yn S 2 e
  · rw [if_pos hq, if_pos hq]
    have p1 : (nI u = nI (yn S 2 e)) = True := eq_true (by rw [hq])
    have a1 : RC M0 (zwi M (zEn e) 9 (nI ((yn S 2 e + 1) % 8))) (ynS S 2 e ((yn S 2 e + 1) % 8)) := RC_en (f := 2) (n := (yn S 2 e + 1) % 8) h he (by decide)
    obtain ⟨M1, r1, r2⟩ := W_add (sp := sp) (x0 := 3) (x1 := ye S e) (x2 := -1) (x3 := nI ((yn S 2 e + 1) % 8)) (x4 := -1) a1 (yo_lt e he) (3, ye S e, 0, (yn S 2 e + 1) % 8, 0, 0, 0, 0) rfl rfl rfl rfl rfl
    have hm : nI (yn S 2 e + 1) &&& 7 = nI ((yn S 2 e + 1) % 8) := n7 (by omega)
    have z9 : zi (zwi M (zEn e) 9 (nI ((yn S 2 e + 1) % 8))) (zEn e) 9 = nI ((yn S 2 e + 1) % 8) := zi_eq
    have z5 : zi (zwi M (zEn e) 9 (nI ((yn S 2 e + 1) % 8))) (zEn e) 5 = ye S e := by rw [zi_nj (by decide)]; exact hE.1
    have p2 : ((1 : Int32) = 0) = False := by decide
    refine ⟨M1, ?_, r2⟩
    simp only [e47_0, e47_1, e47_2, e47_5, e47_8, e47_9, e47_12, e47_13, e47_14, e47_15, e47_18, e47_19, e47_20, e47_23, e47_24, e47_25, e47_27, e47_28, e47_31, e47_32, e47_35, e47_36, e47_37, e47_40, e47_41, e47_42, e47_45, e47_46, e47_49, e47_50, zG1, zG3, k1, k3, kw, zk_wi, zr_wi, if_true, if_false, hE.1, hE.2.2.2.2.1, p1, p2, nI_1, hm, z9, z5, r1, or_true, true_or, Option.bind_some, Option.toList_none, List.nil_append]
  · rw [if_neg hq, if_neg hq]
    have p1 : (nI u = nI (yn S 2 e)) = False := eq_false (fun z => hq ((nI_eq (by omega) (by omega)).mp z))
    obtain ⟨M1, r1, r2⟩ := W_add (sp := sp) (x0 := 3) (x1 := ye S e) (x2 := -1) (x3 := nI (yn S 2 e)) (x4 := -1) h (yo_lt e he) (3, ye S e, 0, yn S 2 e, 0, 0, 0, 0) rfl rfl rfl rfl rfl
    refine ⟨M1, ?_, r2⟩
    simp only [e47_0, e47_1, e47_2, e47_5, e47_8, e47_9, e47_12, e47_13, e47_14, e47_15, e47_18, e47_19, e47_20, e47_23, e47_24, e47_25, e47_27, e47_28, e47_31, e47_32, e47_35, e47_36, e47_37, e47_40, e47_41, e47_42, e47_45, e47_46, e47_49, e47_50, zG1, zG3, k1, k3, kw, if_true, if_false, hE.1, hE.2.2.2.2.1, p1, r1, or_true, true_or, Option.bind_some, Option.toList_none, List.nil_append]
/-- what a SET does -/
def yMset (S : yS) (e : Nat) (x : Int32) : yS :=
  let S1 := if ye S e < x then yuS (yBrk (yeS S e x) e) e true else S
  if x = ye S1 e then yPost S1 e (1, ye S1 e, 0, 0, 0, 0, 0, 0) else S1
theorem E_set {sp : Nat × (Nat → Int32)} {M0 M : zM} {S : yS} {e n t : Nat} {x : Int32} (h : RC M0 M S) (hK : yK n t S) (hn : n < 2047) (he : e < 10) : ∃ M', zV (zPr sp) (40, 0, [.ref (zEn e), .int x], [], M) = some (none, M') ∧ RC M0 M' (yMset S e x) := by
  have tail : ∀ {M : zM} {S1 : yS}, RC M0 M S1 → ∃ M', zV (zPr sp) (40, 22, [.ref (zEn e), .int x], [], M) = some (none, M') ∧ RC M0 M' (if x = ye S1 e then yPost S1 e (1, ye S1 e, 0, 0, 0, 0, 0, 0) else S1) := by
    intro M S1 h
    obtain ⟨k1, k2, k3, k4, k5, k6, k7⟩ := RC_e h he
    have hE := h.2.1 e he
    have kw := (RC_w h (yo_lt e he)).1
    by_cases hx : x = ye S1 e
    · rw [if_pos hx]
      obtain ⟨M1, r1, r2⟩ := W_add (sp := sp) (x0 := 1) (x1 := ye S1 e) (x2 := -1) (x3 := -1) (x4 := -1) h (yo_lt e he) (1, ye S1 e, 0, 0, 0, 0, 0, 0) rfl rfl rfl rfl rfl
      have p1 : (x = ye S1 e) = True := eq_true hx
      refine ⟨M1, ?_, r2⟩
      simp only [e40_22, e40_23, e40_24, e40_27, e40_30, e40_31, e40_34, e40_35, e40_36, e40_39, e40_40, e40_41, e40_42, e40_45, zG1, zG3, k1, k3, kw, if_true, hE.1, p1, r1, Option.bind_some, Option.toList_none, List.nil_append]
    · rw [if_neg hx]
      have p1 : (x = ye S1 e) = False := eq_false hx
      refine ⟨M, ?_, h⟩
      simp only [e40_22, e40_23, e40_24, e40_27, e40_30, e40_31, e40_34, e40_35, e40_36, e40_39, e40_40, e40_41, e40_42, e40_45, zG1, k1, if_true, if_false, hE.1, p1]
  obtain ⟨k1, k2, k3, k4, k5, k6, k7⟩ := RC_e h he
  have hE := h.2.1 e he
  by_cases hx : ye S e < x
  · have a1 : RC M0 (zwi M (zEn e) 5 x) (yeS S e x) := RC_epoch h he
    obtain ⟨M1, r1, r2⟩ := E_brk (sp := sp) a1 (yK_ep hK) hn he
    have a2 : RC M0 (zwi M1 (zEn e) 6 1) (yuS (yBrk (yeS S e x) e) e true) := RC_up (b := true) r2 he
    obtain ⟨M2, q1, q2⟩ := tail a2
    have k1' := (RC_e r2 he).1
    have p1 : (ye S e < x) = True := eq_true hx
    have hdef : yMset S e x = (if x = ye (yuS (yBrk (yeS S e x) e) e true) e then yPost (yuS (yBrk (yeS S e x) e) e true) e (1, ye (yuS (yBrk (yeS S e x) e) e true) e, 0, 0, 0, 0, 0, 0) else yuS (yBrk (yeS S e x) e) e true) := by
      unfold yMset
      rw [if_pos hx]
    rw [hdef]
    refine ⟨M2, ?_, q2⟩
    simp only [e40_0, e40_1, e40_2, e40_5, e40_8, e40_9, e40_10, e40_13, e40_14, e40_17, e40_18, e40_19, zG1, k1, k1', zk_wi, if_true, hE.1, p1, r1, or_true, true_or, q1, Option.bind_some, Option.toList_none, List.nil_append]
  · obtain ⟨M2, q1, q2⟩ := tail h
    have p1 : (ye S e < x) = False := eq_false hx
    have hdef : yMset S e x = (if x = ye S e then yPost S e (1, ye S e, 0, 0, 0, 0, 0, 0) else S) := by
      unfold yMset
      rw [if_neg hx]
    rw [hdef]
    refine ⟨M2, ?_, q2⟩
    simp only [e40_0, e40_1, e40_2, e40_5, zG1, k1, if_true, if_false, hE.1, p1, q1]
/-- what a SETTLED does -/
def yMstd (S : yS) (e : Nat) (x : Int32) : yS := if x = ye S e ∧ yu S e = false then yOn (ynS (ynS (yuS S e true) 3 e 0) 4 e 0) e else S
theorem yK_std {n t : Nat} {S : yS} {e : Nat} (h : yK n t S) : yK n t (ynS (ynS (yuS S e true) 3 e 0) 4 e 0) := by
  refine yK_end (e := e) h (fun _ => rfl) (fun f k hf => by rw [yn_nf (by omega), yn_nf (by omega), yn_u]) (fun _ => rfl) (fun e' he' => ⟨by rw [yu_n, yu_n, yu_u, if_neg he'], fun f _ => by rw [yn_ne he', yn_ne he', yn_u], rfl⟩) (fun he => ?_)
  have g := h.1 e he
  have n4 : yn (ynS (ynS (yuS S e true) 3 e 0) 4 e 0) 4 e = 0 := yn_nn
  have n3 : yn (ynS (ynS (yuS S e true) 3 e 0) 4 e 0) 3 e = 0 := by rw [yn_nf (by decide), yn_nn]
  rw [n3, n4, yn_nf (by decide), yn_nf (by decide), yn_nf (by decide), yn_nf (by decide), yn_nf (by decide), yn_nf (by decide)]
  exact ⟨g.1, g.2.1, g.2.2.1, g.2.2.2.1, by decide, by decide, fun _ _ => rfl, g.2.2.2.2.2.2.2.2⟩
theorem E_std {sp : Nat × (Nat → Int32)} {M0 M : zM} {S : yS} {e n t : Nat} {x : Int32} (h : RC M0 M S) (hK : yK n t S) (hn : n < 2047) (he : e < 10) : ∃ M', zV (zPr sp) (45, 0, [.ref (zEn e), .int x], [], M) = some (none, M') ∧ RC M0 M' (yMstd S e x) := by
  obtain ⟨k1, k2, k3, k4, k5, k6, k7⟩ := RC_e h he
  have hE := h.2.1 e he
  unfold yMstd
  by_cases hx : x = ye S e
  · have p1 : (x = ye S e) = True := eq_true hx
    cases hu : yu S e
    · rw [if_pos ⟨hx, rfl⟩]
      have p2 : (yb false = 0) = True := by decide
      have a1 : RC M0 (zwi M (zEn e) 6 1) (yuS S e true) := RC_up (b := true) h he
      have a2 : RC M0 (zwi (zwi M (zEn e) 6 1) (zEn e) 10 0) _ := RC_en (f := 3) (n := 0) a1 he (by decide)
      have a3 : RC M0 (zwi (zwi (zwi M (zEn e) 6 1) (zEn e) 10 0) (zEn e) 11 0) (ynS (ynS (yuS S e true) 3 e 0) 4 e 0) := RC_en (f := 4) (n := 0) a2 he (by decide)
      obtain ⟨M2, q1, q2⟩ := E_on (sp := sp) a3 (yK_std hK) (by omega) he
      rw [hu] at hE
      refine ⟨M2, ?_, q2⟩
      simp only [e45_0, e45_1, e45_2, e45_5, e45_8, e45_9, e45_12, e45_15, e45_16, e45_17, e45_20, e45_21, e45_22, e45_25, e45_26, e45_27, e45_30, e45_31, e45_34, zG1, k1, zk_wi, if_true, hE.1, hE.2.1, p1, p2, or_true, true_or, q1, Option.bind_some, Option.toList_none, List.nil_append]
    · rw [if_neg (fun z => by cases z.2)]
      have p2 : (yb true = 0) = False := by decide
      rw [hu] at hE
      refine ⟨M, ?_, h⟩
      simp only [e45_0, e45_1, e45_2, e45_5, e45_8, e45_9, e45_12, e45_15, e45_16, e45_17, e45_20, e45_21, e45_22, e45_25, e45_26, e45_27, e45_30, e45_31, e45_34, zG1, k1, if_true, if_false, hE.1, hE.2.1, p1, p2]
  · rw [if_neg (fun z => hx z.1)]
    have p1 : (x = ye S e) = False := eq_false hx
    refine ⟨M, ?_, h⟩
    simp only [e45_0, e45_1, e45_2, e45_5, e45_8, e45_9, e45_12, e45_15, e45_16, e45_17, e45_20, e45_21, e45_22, e45_25, e45_26, e45_27, e45_30, e45_31, e45_34, zG1, k1, if_true, if_false, hE.1, p1]
