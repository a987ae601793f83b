/-! Packets -/
theorem nor (a b : Nat) : nI a ||| nI b = nI (a ||| b) := by
  apply Int32.toBitVec_inj.1
  show BitVec.ofNat 32 a ||| BitVec.ofNat 32 b = BitVec.ofNat 32 (a ||| b)
  apply BitVec.eq_of_getLsbD_eq
  intro i hi
  simp [hi]
theorem nors {a b i : Nat} (hb : b < 2 ^ i) : nI (a * 2 ^ i) ||| nI b = nI (a * 2 ^ i + b) := by
  rw [nor]
  congr 1
  have := Nat.shiftLeft_add_eq_or_of_lt hb a
  rw [Nat.shiftLeft_eq] at this
  exact this.symm
theorem P_of {sp : Nat × (Nat → Int32)} {M : zM} {k c a b : Nat} (hp : yPk (k, c, a, b)) : zV (zPr sp) (19, 0, [.int (nI k), .int (nI c), .int (nI a), .int (nI b)], [], M) = some (some (.int (ypk (k, c, a, b))), M) := by
  obtain ⟨p1, p2, p3, p4, -⟩ := hp
  have p1 : k < 8 := p1
  have p2 : 1 ≤ c ∧ c ≤ 3 := p2
  have p3 : a < 8 := p3
  have p4 : b < 256 := p4
  have h1 : nI k <<< ((16 : Int32) &&& 31) = nI (k * 65536) := (by decide +kernel : ∀ k, k < 8 → nI k <<< ((16 : Int32) &&& 31) = nI (k * 65536)) k p1
  have h2 : nI c <<< ((12 : Int32) &&& 31) = nI (c * 4096) := (by decide +kernel : ∀ k, k < 4 → nI k <<< ((12 : Int32) &&& 31) = nI (k * 4096)) c (by omega)
  have h3 : nI a <<< ((8 : Int32) &&& 31) = nI (a * 256) := (by decide +kernel : ∀ k, k < 8 → nI k <<< ((8 : Int32) &&& 31) = nI (k * 256)) a p3
  have h4 : nI (k * 65536) ||| nI (c * 4096) = nI ((k * 16 + c) * 4096) := by
    have := nors (a := k) (b := c * 4096) (i := 16) (by omega)
    rw [show (2 : Nat) ^ 16 = 65536 by decide] at this
    rw [this]; exact congrArg nI (by omega)
  have h5 : nI ((k * 16 + c) * 4096) ||| nI (a * 256) = nI ((k * 256 + c * 16 + a) * 256) := by
    have := nors (a := k * 16 + c) (b := a * 256) (i := 12) (by omega)
    rw [show (2 : Nat) ^ 12 = 4096 by decide] at this
    rw [this]; exact congrArg nI (by omega)
  have h6 : nI ((k * 256 + c * 16 + a) * 256) ||| nI b = ypk (k, c, a, b) := by
    have := nors (a := k * 256 + c * 16 + a) (b := b) (i := 8) (by omega)
    rw [show (2 : Nat) ^ 8 = 256 by decide] at this
    rw [this]
    exact congrArg nI (show (k * 256 + c * 16 + a) * 256 + b = k * 65536 + c * 4096 + a * 256 + b by omega)
  simp only [e19_0, e19_1, e19_3, e19_4, e19_5, e19_7, e19_8, e19_9, e19_10, e19_12, e19_13, e19_14, e19_15, e19_16, h1, h2, h3, h4, h5, h6]
theorem P_part {sp : Nat × (Nat → Int32)} {M : zM} {p : yP} (hp : yPk p) : zV (zPr sp) (49, 0, [.int (ypk p), .int 0], [], M) = some (some (.int (nI p.1)), M) ∧ zV (zPr sp) (49, 0, [.int (ypk p), .int 1], [], M) = some (some (.int (nI p.2.1)), M) ∧ zV (zPr sp) (49, 0, [.int (ypk p), .int 2], [], M) = some (some (.int (nI p.2.2.1)), M) ∧ zV (zPr sp) (49, 0, [.int (ypk p), .int 3], [], M) = some (some (.int (nI p.2.2.2)), M) := by
  obtain ⟨k, c, a, b⟩ := p
  obtain ⟨p1, p2, p3, p4, -⟩ := hp
  have p1 : k < 8 := p1
  have p2 : 1 ≤ c ∧ c ≤ 3 := p2
  have p3 : a < 8 := p3
  have p4 : b < 256 := p4
  have e0 : ypk (k, c, a, b) = nI (k * 65536 + c * 4096 + a * 256 + b) := rfl
  have s1 : nI (k * 65536 + c * 4096 + a * 256 + b) >>> ((16 : Int32) &&& 31) = nI k := by
    rw [pk_shrN (by omega) _ 16 (by decide)]; exact congrArg nI (by omega)
  have s2 : nI (k * 65536 + c * 4096 + a * 256 + b) >>> ((12 : Int32) &&& 31) = nI (k * 16 + c) := by
    rw [pk_shrN (by omega) _ 12 (by decide)]; exact congrArg nI (by omega)
  have s3 : nI (k * 65536 + c * 4096 + a * 256 + b) >>> ((8 : Int32) &&& 31) = nI (k * 256 + c * 16 + a) := by
    rw [pk_shrN (by omega) _ 8 (by decide)]; exact congrArg nI (by omega)
  have m1 : nI (k * 16 + c) &&& 15 = nI c := by rw [pk_andN (by omega) 4 (by decide)]; exact congrArg nI (by omega)
  have m2 : nI (k * 256 + c * 16 + a) &&& 15 = nI a := by rw [pk_andN (by omega) 4 (by decide)]; exact congrArg nI (by omega)
  have m3 : nI (k * 65536 + c * 4096 + a * 256 + b) &&& 255 = nI b := by rw [pk_andN (by omega) 8 (by decide)]; exact congrArg nI (by omega)
  have q0 : ((0 : Int32) = Int32.ofNat 0) = True := by decide
  have q1 : ((1 : Int32) = Int32.ofNat 0) = False := by decide
  have q2 : ((1 : Int32) = Int32.ofNat 1) = True := by decide
  have q3 : ((2 : Int32) = Int32.ofNat 0) = False := by decide
  have q4 : ((2 : Int32) = Int32.ofNat 1) = False := by decide
  have q5 : ((2 : Int32) = Int32.ofNat 2) = True := by decide
  have q6 : ((3 : Int32) = Int32.ofNat 0) = False := by decide
  have q7 : ((3 : Int32) = Int32.ofNat 1) = False := by decide
  have q8 : ((3 : Int32) = Int32.ofNat 2) = False := by decide
  have q9 : ((3 : Int32) = Int32.ofNat 3) = True := by decide
  refine ⟨?_, ?_, ?_, ?_⟩
  · simp only [e49_0, e49_1, e49_32, e49_33, e49_35, e49_36, e49_37, e49_38, e49_40, e49_41, e49_43, e49_44, e49_45, e49_46, e49_48, e49_49, e49_51, e49_52, e49_53, e49_54, e49_57, e49_58, e49_59, e49_60, q0, if_true, e0, s1]
  · simp only [e49_0, e49_1, e49_32, e49_33, e49_35, e49_36, e49_37, e49_38, e49_40, e49_41, e49_43, e49_44, e49_45, e49_46, e49_48, e49_49, e49_51, e49_52, e49_53, e49_54, e49_57, e49_58, e49_59, e49_60, q1, q2, if_true, if_false, e0, s2, m1]
  · simp only [e49_0, e49_1, e49_32, e49_33, e49_35, e49_36, e49_37, e49_38, e49_40, e49_41, e49_43, e49_44, e49_45, e49_46, e49_48, e49_49, e49_51, e49_52, e49_53, e49_54, e49_57, e49_58, e49_59, e49_60, q3, q4, q5, if_true, if_false, e0, s3, m2]
  · simp only [e49_0, e49_1, e49_32, e49_33, e49_35, e49_36, e49_37, e49_38, e49_40, e49_41, e49_43, e49_44, e49_45, e49_46, e49_48, e49_49, e49_51, e49_52, e49_53, e49_54, e49_57, e49_58, e49_59, e49_60, q6, q7, q8, q9, if_true, if_false, e0, m3]
/-! The ends of the class. -/
theorem RC_e {M0 M : zM} {S : yS} {e : Nat} (h : RC M0 M S) (he : e < 10) : zk M (zEn e) = (1, 0) ∧ zr M (zEn e) 0 = some (zWi e) ∧ zr M (zEn e) 1 = some (zWi (yo e)) ∧ zr M (zEn e) 3 = some (zLn e) ∧ zr M (zEn e) 4 = some (zEn e + 3) ∧ zk M (zEn e + 3) = (23, 3) ∧ zi M (zEn e) 2 = yb (decide (e % 2 = 0)) := by
  have hk := kEn e he
  have hr : ∀ j, ymut (zEn e) j = false → zr M (zEn e) j = yr0 (zEn e) j := fun j hj => h.1.2.2.1 _ j (by omega) hj
  obtain ⟨m0, m1, m3, m4⟩ := kE0 e he
  have t := (by decide +kernel : ∀ e, e < 10 → yr0 (zEn e) 0 = some (zWi e) ∧ yr0 (zEn e) 1 = some (zWi (yo e)) ∧ yr0 (zEn e) 3 = some (zLn e) ∧ yr0 (zEn e) 4 = some (zEn e + 3) ∧ (zEn e + 3 < 119 ∧ yk0 (zEn e + 3) = (23, 3)) ∧ yi0 (zEn e) 2 = yb (decide (e % 2 = 0))) e he
  refine ⟨by rw [h.1.2.1 _ (by omega)]; exact hk.1, by rw [hr _ m0]; exact t.1, by rw [hr _ m1]; exact t.2.1, by rw [hr _ m3]; exact t.2.2.1, by rw [hr _ m4]; exact t.2.2.2.1, by rw [h.1.2.1 _ (by omega)]; exact t.2.2.2.2.1.2, ?_⟩
  rw [h.1.2.2.2 _ 2 (by omega) (by simp [ycst, hk.1])]
  exact t.2.2.2.2.2
theorem RC_ec {M0 M : zM} {S : yS} {e c : Nat} (h : RC M0 M S) (he : e < 10) (hc : c < 3) : zr M (zEn e + 3) c = some (zCh (3 * e + c)) := by
  have t := (by decide +kernel : ∀ e, e < 10 → ∀ c, c < 3 → zEn e + 3 < 119 ∧ ymut (zEn e + 3) c = false ∧ yr0 (zEn e + 3) c = some (zCh (3 * e + c))) e he c hc
  rw [h.1.2.2.1 _ c (by omega) t.2.1]
  exact t.2.2
theorem yXs_e {S : yS} {e : Nat} (he : e < 10) : yXs S e = (yr S e).map ypk := by unfold yXs; rw [if_pos he]
theorem n7 {a : Nat} (h : a < 2 ^ 31) : nI a &&& 7 = nI (a % 8) := pk_andN (by omega) 3 (by decide)
def yOnN (S : yS) (e : Nat) : Nat → yS
  | 0 => S
  | m + 1 => yOnN (yOn1 S e) e m
theorem yOnN_stop {S : yS} {e : Nat} (h : ¬ (yu S e = true ∧ yn S 0 e < 4 ∧ yn S 0 e < (yr S e).length)) : ∀ m, yOnN S e m = S
  | 0 => rfl
  | m + 1 => by
    show yOnN (yOn1 S e) e m = S
    have : yOn1 S e = S := by unfold yOn1; rw [if_neg h]
    rw [this]
    exact yOnN_stop h m
theorem E_onL {sp : Nat × (Nat → Int32)} {M0 : zM} {e n t : Nat} (he : e < 10) (hn : n < 4096) : ∀ (m : Nat) {M : zM} {S : yS}, RC M0 M S → yK n t S → 4 ≤ yn S 0 e + m → ∃ M', zV (zPr sp) (22, 5, [.ref (zEn e), .int (nI (yn S 0 e))], [], M) = some (none, M') ∧ RC M0 M' (yOnN S e m) := by
  intro m
  induction m with
  | zero =>
    intro M S h hK h4
    obtain ⟨k1, k2, k3, k4, k5, k6, k7⟩ := RC_e h he
    have g := hK.1 e he
    have hE := h.2.1 e he
    refine ⟨M, ?_, h⟩
    have p1 : (nI (yn S 0 e) < 4) = False := eq_false (nI_nlt (b := 4) (by omega) (by omega))
    by_cases hu : yu S e = true
    · have p2 : (yb (yu S e) = 0) = False := by rw [hu]; decide
      simp only [e22_5, e22_6, e22_9, e22_12, e22_13, e22_14, e22_74, zG1, k1, if_true, if_false, hE.2.1, p2, p1]
    · have p2 : (yb (yu S e) = 0) = True := by
        cases hq : yu S e
        · decide
        · exact absurd hq hu
      simp only [e22_5, e22_6, e22_9, e22_12, e22_13, e22_14, e22_74, zG1, k1, if_true, hE.2.1, p2]
  | succ m ih =>
    intro M S h hK h4
    obtain ⟨k1, k2, k3, k4, k5, k6, k7⟩ := RC_e h he
    have g := hK.1 e he
    have hE := h.2.1 e he
    have hrow := hK.row he
    have kl := RC_l h (show e < 22 by omega)
    have hsz := L_size (sp := sp) h (show e < 22 by omega)
    rw [yXs_e he, List.length_map] at hsz
    by_cases hc : yu S e = true ∧ yn S 0 e < 4 ∧ yn S 0 e < (yr S e).length
    · have p1 : (nI (yn S 0 e) < 4) = True := eq_true (nI_lt (b := 4) hc.2.1 (by decide))
      have p2 : (yb (yu S e) = 0) = False := by rw [hc.1]; decide
      have p3 : (nI (yn S 0 e) < nI (yr S e).length) = True := eq_true (nI_lt hc.2.2 (by omega))
      have hat := L_at (sp := sp) (k := yn S 0 e) (v := ypk ((yr S e).getD (yn S 0 e) (0, 0, 0, 0))) h (show e < 22 by omega) (by
        rw [yXs_e he, List.getElem?_map, List.getD_eq_getElem?_getD, List.getElem?_eq_getElem hc.2.2]; rfl)
      obtain ⟨M1, r1, r2⟩ := W_add (sp := sp) (x0 := 2) (x1 := ye S e) (x2 := nI ((yn S 1 e + yn S 0 e) % 8)) (x3 := nI (yn S 2 e)) (x4 := ypk ((yr S e).getD (yn S 0 e) (0, 0, 0, 0))) h (yo_lt e he) (2, ye S e, (yn S 1 e + yn S 0 e) % 8, yn S 2 e, (yr S e).getD (yn S 0 e) (0, 0, 0, 0)) rfl rfl rfl rfl rfl
      have r2 : RC M0 M1 (yInfo S e (yn S 0 e)) := r2
      have k1' := (RC_e r2 he).1
      have kw := (RC_w h (yo_lt e he)).1
      have r3 := RC_en (f := 0) (n := yn S 0 e + 1) r2 he (by decide)
      have e1 : ynS (yInfo S e (yn S 0 e)) 0 e (yn S 0 e + 1) = yOn1 S e := by unfold yOn1; rw [if_pos hc]
      rw [e1] at r3
      have e2 : yn (yOn1 S e) 0 e = yn S 0 e + 1 := by rw [← e1, yn_nn]
      obtain ⟨M2, q1, q2⟩ := ih r3 (yK_on1 hK he) (by rw [e2]; omega)
      rw [e2] at q1
      refine ⟨M2, ?_, q2⟩
      have hm : nI (yn S 1 e + yn S 0 e) &&& 7 = nI ((yn S 1 e + yn S 0 e) % 8) := n7 (by omega)
      simp only [e22_5, e22_6, e22_9, e22_12, e22_13, e22_14, e22_17, e22_18, e22_19, e22_22, e22_25, e22_28, e22_29, e22_32, e22_33, e22_34, e22_37, e22_38, e22_41, e22_42, e22_43, e22_45, e22_46, e22_47, e22_50, e22_51, e22_54, e22_55, e22_58, e22_61, e22_62, e22_63, e22_64, e22_65, e22_68, e22_71, zG1, zG2, zG3, k1, k3, k4, kl, kw, k1', if_true, if_false, hE.1, hE.2.1, hE.2.2.2.1, hE.2.2.2.2.1, p1, p2, p3, hsz, hat, nI_add, hm, r1, nI_1, q1, Option.bind_some, Option.toList_some, Option.toList_none, List.nil_append, List.cons_append]
    · refine ⟨M, ?_, by rw [yOnN_stop hc]; exact h⟩
      by_cases hu : yu S e = true
      · have p2 : (yb (yu S e) = 0) = False := by rw [hu]; decide
        by_cases h4' : yn S 0 e < 4
        · have p1 : (nI (yn S 0 e) < 4) = True := eq_true (nI_lt (b := 4) h4' (by decide))
          have p3 : (nI (yn S 0 e) < nI (yr S e).length) = False := eq_false (nI_nlt (by
            refine Classical.byContradiction fun z => hc ⟨hu, h4', by omega⟩) (by omega))
          simp only [e22_5, e22_6, e22_9, e22_12, e22_13, e22_14, e22_17, e22_18, e22_19, e22_22, e22_25, e22_74, zG1, zG3, k1, k4, kl, if_true, if_false, hE.2.1, p1, p2, p3, hsz, Option.bind_some, Option.toList_some, List.nil_append, List.cons_append]
        · have p1 : (nI (yn S 0 e) < 4) = False := eq_false (nI_nlt (b := 4) (by omega) (by omega))
          simp only [e22_5, e22_6, e22_9, e22_12, e22_13, e22_14, e22_74, zG1, k1, if_true, if_false, hE.2.1, p2, p1]
      · have p2 : (yb (yu S e) = 0) = True := by
          cases hq : yu S e
          · decide
          · exact absurd hq hu
        simp only [e22_5, e22_6, e22_9, e22_12, e22_13, e22_14, e22_74, zG1, k1, if_true, hE.2.1, p2]
theorem E_on {sp : Nat × (Nat → Int32)} {M0 M : zM} {S : yS} {e n t : Nat} (h : RC M0 M S) (hK : yK n t S) (hn : n < 4096) (he : e < 10) : ∃ M', zV (zPr sp) (22, 0, [.ref (zEn e), .double 0], [], M) = some (none, M') ∧ RC M0 M' (yOn S e) := by
  obtain ⟨M', h1, h2⟩ := E_onL (sp := sp) he hn 4 h hK (by omega)
  obtain ⟨k1, k2, k3, k4, k5, k6, k7⟩ := RC_e h he
  have hE := h.2.1 e he
  refine ⟨M', ?_, h2⟩
  simp only [e22_0, e22_1, e22_4, zG1, k1, if_true, hE.2.2.1, h1]
