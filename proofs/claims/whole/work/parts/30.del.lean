/-! The class's deliver. -/
def aDel (S : yS) (e : Nat) : Int32 × yS := match yw S e with
  | [] => (0, S)
  | f :: fs => (1, yMeet (ywS S e fs) e f)
theorem yK_wdrop {n t : Nat} {S : yS} {e : Nat} {f : yF} {fs : List yF} (h : yK n t S) (hw : yw S e = f :: fs) : yK n t (ywS S e fs) := by
  refine yK_end (e := e) h (fun _ => rfl) (fun _ _ _ => rfl) (fun _ => rfl) (fun e' he' => ⟨rfl, fun _ _ => rfl, by rw [yw_w, if_neg he']⟩) (fun he => ?_)
  have g := h.1 e he
  rw [hw] at g
  refine ⟨g.1, g.2.1, g.2.2.1, g.2.2.2.1, g.2.2.2.2.1, g.2.2.2.2.2.1, g.2.2.2.2.2.2.1, ?_, fun f' hf' => ?_⟩
  · rw [yw_w, if_pos rfl]
    have := g.2.2.2.2.2.2.2.2.1
    simp at this
    omega
  · rw [yw_w, if_pos rfl] at hf'
    exact g.2.2.2.2.2.2.2.2.2 f' (List.mem_cons_of_mem _ hf')
theorem yK_arrT {n t : Nat} {S : yS} {k kind a b : Nat} (h : yK n t S) (hk : k < 30) (hs : ysw (k / 3) = false) (ha : a < 8) (hb : b < 256) : yK (n + 1) (t + 1) (yArrT S k kind a b) := by
  have hsl : ysl k < 12 := (by decide +kernel : ∀ k, k < 30 → ysw (k / 3) = false → ysl k < 12) k hk hs
  have h0 : yK (n + 1) (t + 1) S := h.mono (by omega) (by omega)
  have st : ∀ m, m ≤ 5 → yK n t (ynS S 5 k m) := fun m hm => (yK_st h hm hk (fun z => by rw [hs] at z; cases z)).1
  have st1 : ∀ m, m ≤ 5 → yK (n + 1) (t + 1) (ynS S 5 k m) := fun m hm => (st m hm).mono (by omega) (by omega)
  have put : ∀ {S' : yS} (kd : Nat), yK n t S' → kd < 8 → kd ≠ 0 → yK (n + 1) (t + 1) (yPutOn S' k kd 0 0) := fun kd h' hkd hk0 => (show yK (n + 1) t _ from yK_put h' (by omega) (yPk_k hkd (by decide) (by decide) (fun z => absurd z hk0))).mono (Nat.le_refl _) (by omega)
  unfold yArrT
  by_cases k0 : kind = 0
  · rw [if_pos k0]
    split
    · exact (yK_renew (yK_n (st 2 (by decide)) (Or.inr ⟨rfl, hb⟩))).mono (by omega) (by omega)
    · exact h0
  rw [if_neg k0]
  by_cases k1 : kind = 1
  · rw [if_pos k1]
    split
    · exact st1 3 (by decide)
    · exact h0
  rw [if_neg k1]
  by_cases k2 : kind = 2
  · rw [if_pos k2]
    split
    · exact st1 0 (by decide)
    · exact put 3 (st 0 (by decide)) (by decide) (by decide)
  rw [if_neg k2]
  by_cases k3 : kind = 3
  · rw [if_pos k3]
    split
    · exact st1 0 (by decide)
    · exact h0
  rw [if_neg k3]
  by_cases k4 : kind = 4
  · rw [if_pos k4]
    split
    · have g := h.2.2.1 (ysl k) hsl
      refine (yK_vals (t' := t + 1) h (by omega) (by rw [List.length_append]; show _ + 1 ≤ _; omega) (fun v hv => ?_)).mono (by omega) (Nat.le_refl _)
      rcases List.mem_append.mp hv with hv | hv
      · exact g.2 v hv
      · rw [List.mem_singleton.mp hv]; exact hb
    · exact h0
  rw [if_neg k4]
  by_cases k5 : kind = 5
  · rw [if_pos k5]
    split
    · exact (yK_n h (Or.inl ⟨by decide, ha⟩)).mono (by omega) (by omega)
    · exact h0
  rw [if_neg k5]
  by_cases k6 : kind = 6
  · rw [if_pos k6]
    split
    · exact put 7 (yK_renew h) (by decide) (by decide)
    · split
      · exact st1 3 (by decide)
      · exact h0
  rw [if_neg k6]
  split
  · exact st1 3 (by decide)
  · exact h0
theorem yArr_k {S : yS} {e : Nat} {p : yP} (hp : yPk p) : 3 * e + p.2.1 - 1 = 3 * e + (p.2.1 - 1) := by have := hp.2.1; omega
theorem yK_arr {n t : Nat} {S : yS} {e : Nat} {p : yP} (h : yK n t S) (he : e < 10) (hp : yPk p) : yK (n + 3) (t + 1) (yArr S e p) := by
  unfold yArr
  have h2 := hp.2.1
  have hk : 3 * e + p.2.1 - 1 < 30 := by omega
  have hd : (3 * e + p.2.1 - 1) / 3 = e := by omega
  have hm : (3 * e + p.2.1 - 1) % 3 + 1 = p.2.1 := by omega
  cases hs : ysw e
  · rw [if_neg (by decide)]
    exact (yK_arrT h hk (by rw [hd]; exact hs) hp.2.2.1 hp.2.2.2.1).mono (by omega) (by omega)
  · rw [if_pos rfl]
    have := yK_arrS (k := 3 * e + p.2.1 - 1) (kind := p.1) (a := p.2.2.1) (b := p.2.2.2) h hk (by rw [hd]; exact hs) (by rw [hm]; exact hp)
    rw [hd] at this
    exact this.mono (by omega) (by omega)
theorem yK_mset {n t : Nat} {S : yS} {e : Nat} {x : Int32} (h : yK n t S) (he : e < 10) : yK n t (yMset S e x) := by
  have key : ∀ {S1 : yS}, yK n t S1 → yK n t (if x = ye S1 e then yPost S1 e (1, ye S1 e, 0, 0, 0, 0, 0, 0) else S1) := by
    intro S1 h1
    split
    · exact yK_post h1 (yFr_3 (x := 0) (by decide) (by decide) (by decide))
    · exact h1
  unfold yMset
  dsimp only
  by_cases hx : ye S e < x
  · rw [if_pos hx]
    refine key (yK_upT (yK_brk (yK_ep h) he) (fun _ _ => ?_))
    have h4 : ∀ {S' : yS} (k : Nat), yn S' 4 e = 0 → yn (yLost S' k) 4 e = 0 := by
      intro S' k hz
      have cut4 : ∀ {S'' : yS} (k' : Nat), yn S'' 4 e = 0 → yn (yCut S'' k') 4 e = 0 := by
        intro S'' k' hz
        have on1 : ∀ {S3 : yS} (e' : Nat), yn S3 4 e = 0 → yn (yOn1 S3 e') 4 e = 0 := by
          intro S3 e' hz
          unfold yOn1
          split
          · rw [yn_nf (by decide)]
            exact (yPost_r.2.1 4 e).trans hz
          · exact hz
        exact on1 _ (on1 _ (on1 _ (on1 _ (by rw [yn_r, yn_nf (by decide)]; exact hz))))
      unfold yLost
      split
      · exact cut4 _ (by rw [yn_nf (by decide)]; exact hz)
      · rw [yn_nf (by decide)]; exact hz
    exact h4 _ (h4 _ (h4 _ (by rw [yBrk0_n, if_pos ⟨by decide, rfl⟩])))
  · rw [if_neg hx]; exact key h
theorem yMeet_def {S : yS} {e : Nat} {fr : yF} : yMeet S e fr = if fr.1 = 0 then yMset S e fr.2.1 else if fr.1 = 1 then yMstd S e fr.2.1 else if yu S e = true ∧ ye S e = fr.2.1 then
    (let S1 := yConf S e fr.2.2.2.1
     if fr.1 = 2 then
       (if fr.2.2.1 = yn S1 2 e then
         (let S2 := ynS S1 2 e ((yn S1 2 e + 1) % 8)
          yArr (yPost S2 e (3, ye S2 e, 0, yn S2 2 e, 0, 0, 0, 0)) e fr.2.2.2.2)
        else yPost S1 e (3, ye S1 e, 0, yn S1 2 e, 0, 0, 0, 0))
     else S1)
  else S := rfl
theorem yK_meet {n t : Nat} {S : yS} {e : Nat} {fr : yF} (h : yK n t S) (he : e < 10) (hf : yFr fr) : yK (n + 3) (t + 1) (yMeet S e fr) := by
  have h0 : ∀ {S' : yS}, yK n t S' → yK (n + 3) (t + 1) S' := fun h => h.mono (by omega) (by omega)
  rw [yMeet_def]
  by_cases f0 : fr.1 = 0
  · rw [if_pos f0]; exact h0 (yK_mset h he)
  rw [if_neg f0]
  by_cases f1 : fr.1 = 1
  · rw [if_pos f1]
    unfold yMstd
    split
    · exact h0 (yK_on (yK_std h) he)
    · exact h0 h
  rw [if_neg f1]
  by_cases hu : yu S e = true ∧ ye S e = fr.2.1
  · rw [if_pos hu]
    have hK1 := yK_conf (u := fr.2.2.2.1) h he
    dsimp only
    have g := hK1.1 e he
    by_cases f2 : fr.1 = 2
    · rw [if_pos f2]
      by_cases hq : fr.2.2.1 = yn (yConf S e fr.2.2.2.1) 2 e
      · rw [if_pos hq]
        have hd : (yn (yConf S e fr.2.2.2.1) 2 e + 1) % 8 < 8 := Nat.mod_lt _ (by decide)
        have hK2 := yK_num (f := 2) (e := e) (m := (yn (yConf S e fr.2.2.2.1) 2 e + 1) % 8) hK1 (Or.inr (Or.inl ⟨rfl, hd⟩))
        exact yK_arr (yK_post hK2 (yFr_3 (x := 0) (by decide) (by decide) (by rw [yn_nn]; exact hd))) he (hf.2.2.2 f2)
      · rw [if_neg hq]
        exact h0 (yK_post hK1 (yFr_3 (x := 0) (by decide) (by decide) g.2.2.2.1))
    · rw [if_neg f2]; exact h0 hK1
  · rw [if_neg hu]; exact h0 h
theorem E_chan {sp : Nat × (Nat → Int32)} {M0 M : zM} {S : yS} {e : Nat} {p : yP} (h : RC M0 M S) (he : e < 10) (hp : yPk p) : zV (zPr sp) (48, 0, [.ref (zEn e), .int (ypk p), .double 0], [], M) = some (some (.ref (zCh (3 * e + p.2.1 - 1))), M) := by
  obtain ⟨k1, k2, k3, k4, k5, k6, k7⟩ := RC_e h he
  have h2 := hp.2.1
  have hpt := (P_part (sp := sp) (M := M) hp).2.1
  have hr := RC_ec h he (show p.2.1 - 1 < 3 by omega)
  have p1 : (nI p.2.1 < 1) = False := eq_false (nI_nlt (b := 1) (by omega) (by omega))
  have p2 : (3 < nI p.2.1) = False := eq_false (nI_nlt (a := 3) (by omega) (by omega))
  have ix : nI p.2.1 - 1 = nI (p.2.1 - 1) := pk_sub (b := 1) (by omega)
  have p3 : zin (nI (p.2.1 - 1)) 3 = true := zin_nI (by omega) (by decide)
  have p4 : (nI (p.2.1 - 1)).toNatClampNeg = p.2.1 - 1 := nI_clamp (by omega)
  rw [show 3 * e + p.2.1 - 1 = 3 * e + (p.2.1 - 1) by omega]
  simp only [e48_0, e48_1, e48_2, e48_5, e48_6, e48_7, e48_8, e48_11, e48_12, e48_13, e48_16, e48_17, e48_20, e48_21, e48_24, e48_25, e48_26, e48_27, e48_28, zG1, zG2, zG3, zG4, zG5, zG6, zG7, zG8, zNn, hpt, p1, p2, k1, k5, k6, zG10, ix, p3, p4, hr, or_true, true_or, if_true, if_false, Option.bind_some, Option.toList_some, Option.toList_none, List.nil_append, List.cons_append]
theorem yWord_0 {f : yF} {fs : List yF} : yWord (f :: fs) 0 0 = nI f.1 ∧ yWord (f :: fs) 0 1 = f.2.1 ∧ yWord (f :: fs) 0 2 = (if f.1 = 2 then nI f.2.2.1 else -1) ∧ yWord (f :: fs) 0 3 = (if 2 ≤ f.1 then nI f.2.2.2.1 else -1) ∧ yWord (f :: fs) 0 4 = (if f.1 = 2 then ypk f.2.2.2.2 else -1) := by
  unfold yWord
  refine ⟨?_, ?_, ?_, ?_, ?_⟩ <;> (rw [if_neg (by decide)]; rfl)
/-- from the frame's words on -/
theorem D_tail {sp : Nat × (Nat → Int32)} {M0 M : zM} {S : yS} {e n t : Nat} {f : yF} {v1 v2 : Value} {x2 x3 x4 : Int32} (h : RC M0 M S) (hK : yK n t S) (hn : n < 2043) (ht : t < 2047) (he : e < 10) (hf : yFr f) (y2 : x2 = if f.1 = 2 then nI f.2.2.1 else -1) (y3 : x3 = if 2 ≤ f.1 then nI f.2.2.2.1 else -1) (y4 : x4 = if f.1 = 2 then ypk f.2.2.2.2 else -1) : ∃ M', zV (zPr sp) (35, 85, [.ref 0, v1, v2, .ref (zEn e), .int (nI f.1), .int f.2.1, .int x2, .int x3, .int x4, .double 0], [], M) = some (some (.int 1), M') ∧ RC M0 M' (yMeet S e f) := by
  obtain ⟨k1, k2, k3, k4, k5, k6, k7⟩ := RC_e h he
  have hE := h.2.1 e he
  rw [yMeet_def]
  by_cases f0 : f.1 = 0
  · rw [if_pos f0]
    have p0 : (nI f.1 = 0) = True := by rw [f0]; decide
    obtain ⟨M1, r1, r2⟩ := E_set (sp := sp) (x := f.2.1) h hK (by omega) he
    refine ⟨M1, ?_, r2⟩
    simp only [e35_85, e35_87, e35_90, e35_91, e35_93, e35_96, e35_187, e35_188, zG1, zG2, zG3, zG4, zG5, zG6, zG7, zG8, zNn, p0, k1, r1, or_true, true_or, if_true, if_false, Option.bind_some, Option.toList_some, Option.toList_none, List.nil_append, List.cons_append]
  rw [if_neg f0]
  have hf3 := hf.1
  have p0 : (nI f.1 = 0) = False := eq_false (fun z => f0 ((nI_eq (by omega) (by decide)).mp z))
  by_cases f1 : f.1 = 1
  · rw [if_pos f1]
    have p1 : (nI f.1 = 1) = True := by rw [f1]; decide
    obtain ⟨M1, r1, r2⟩ := E_std (sp := sp) (x := f.2.1) h hK (by omega) he
    refine ⟨M1, ?_, r2⟩
    simp only [e35_85, e35_87, e35_90, e35_91, e35_93, e35_96, e35_99, e35_101, e35_102, e35_105, e35_106, e35_108, e35_111, e35_187, e35_188, zG1, zG2, zG3, zG4, zG5, zG6, zG7, zG8, zNn, p0, p1, k1, r1, or_true, true_or, if_true, if_false, Option.bind_some, Option.toList_some, Option.toList_none, List.nil_append, List.cons_append]
  rw [if_neg f1]
  have p1 : (nI f.1 = 1) = False := eq_false (fun z => f1 ((nI_eq (by omega) (by decide)).mp z))
  by_cases hu : yu S e = true ∧ ye S e = f.2.1
  · rw [if_pos hu]
    have p2 : (yb (yu S e) = 0) = False := by rw [hu.1]; decide
    have p3 : (ye S e = f.2.1) = True := eq_true hu.2
    rw [if_pos (show 2 ≤ f.1 by omega)] at y3
    obtain ⟨M1, r1, r2⟩ := E_conf (sp := sp) h hK (by omega) he hf.2.2.1
    have hK1 := yK_conf (u := f.2.2.2.1) hK he
    have j1 := (RC_e r2 he).1
    dsimp only
    generalize yConf S e f.2.2.2.1 = S1 at r2 hK1
    by_cases f2 : f.1 = 2
    · rw [if_pos f2]
      have q2 : (nI f.1 = 2) = True := by rw [f2]; decide
      rw [if_pos f2] at y2 y4
      have hp := hf.2.2.2 f2
      obtain ⟨M2, u1, u2⟩ := E_exp (sp := sp) r2 hK1 he hf.2.1
      by_cases hq : f.2.2.1 = yn S1 2 e
      · rw [if_pos hq]
        rw [if_pos hq] at u1 u2
        have hd : (yn S1 2 e + 1) % 8 < 8 := Nat.mod_lt _ (by decide)
        have hK2 := yK_num (f := 2) (e := e) (m := (yn S1 2 e + 1) % 8) hK1 (Or.inr (Or.inl ⟨rfl, hd⟩))
        have hK3 : yK n t (yPost (ynS S1 2 e ((yn S1 2 e + 1) % 8)) e (3, ye S1 e, 0, (yn S1 2 e + 1) % 8, 0, 0, 0, 0)) := yK_post hK2 (yFr_3 (x := 0) (by decide) (by decide) hd)
        have e3 : yPost (ynS S1 2 e ((yn S1 2 e + 1) % 8)) e (3, ye (ynS S1 2 e ((yn S1 2 e + 1) % 8)) e, 0, yn (ynS S1 2 e ((yn S1 2 e + 1) % 8)) 2 e, 0, 0, 0, 0) = yPost (ynS S1 2 e ((yn S1 2 e + 1) % 8)) e (3, ye S1 e, 0, (yn S1 2 e + 1) % 8, 0, 0, 0, 0) := by rw [yn_nn, ye_n]
        rw [e3]
        generalize yPost (ynS S1 2 e ((yn S1 2 e + 1) % 8)) e (3, ye S1 e, 0, (yn S1 2 e + 1) % 8, 0, 0, 0, 0) = S3 at u2 hK3
        have i1 := (RC_e u2 he).1
        have hch := E_chan (sp := sp) u2 he hp
        obtain ⟨t0, t1, t2, t3⟩ := P_part (sp := sp) (M := M2) hp
        have h2 := hp.2.1
        have hk : 3 * e + f.2.2.2.2.2.1 - 1 < 30 := by omega
        have hdv : (3 * e + f.2.2.2.2.2.1 - 1) / 3 = e := by omega
        have hm : (3 * e + f.2.2.2.2.2.1 - 1) % 3 + 1 = f.2.2.2.2.2.1 := by omega
        unfold yArr
        cases hs : ysw e
        · rw [if_neg (by decide)]
          have hs' : ysw ((3 * e + f.2.2.2.2.2.1 - 1) / 3) = false := by rw [hdv]; exact hs
          obtain ⟨M3, w1, w2⟩ := T_arr (sp := sp) (kind := f.2.2.2.2.1) (a := f.2.2.2.2.2.2.1) (b := f.2.2.2.2.2.2.2) u2 hK3 (by omega) (by omega) hk hs' hp.1
          have c1 := (RC_cT u2 hk hs').1
          refine ⟨M3, ?_, w2⟩
          simp only [e35_85, e35_87, e35_90, e35_91, e35_93, e35_96, e35_99, e35_101, e35_102, e35_105, e35_106, e35_108, e35_111, e35_114, e35_115, e35_118, e35_121, e35_122, e35_125, e35_127, e35_130, e35_131, e35_133, e35_136, e35_138, e35_139, e35_142, e35_143, e35_145, e35_148, e35_151, e35_152, e35_154, e35_157, e35_159, e35_161, e35_164, e35_166, e35_168, e35_169, e35_172, e35_174, e35_175, e35_178, e35_180, e35_181, e35_184, e35_187, e35_188, zG1, zG2, zG3, zG4, zG5, zG6, zG7, zG8, zNn, p0, p1, p2, p3, y2, y3, y4, q2, k1, j1, i1, hE.1, hE.2.1, r1, u1, z10, hch, t0, t2, t3, c1, w1, or_true, true_or, if_true, if_false, Option.bind_some, Option.toList_some, Option.toList_none, List.nil_append, List.cons_append]
        · rw [if_pos rfl]
          have hs' : ysw ((3 * e + f.2.2.2.2.2.1 - 1) / 3) = true := by rw [hdv]; exact hs
          obtain ⟨M3, w1, w2⟩ := J_arr (sp := sp) (kind := f.2.2.2.2.1) (a := f.2.2.2.2.2.2.1) (b := f.2.2.2.2.2.2.2) u2 hK3 (by omega) hk hs' (by rw [hm]; exact hp)
          rw [hdv] at w2
          have c1 := (RC_cS u2 hk hs').1
          refine ⟨M3, ?_, w2⟩
          simp only [e35_85, e35_87, e35_90, e35_91, e35_93, e35_96, e35_99, e35_101, e35_102, e35_105, e35_106, e35_108, e35_111, e35_114, e35_115, e35_118, e35_121, e35_122, e35_125, e35_127, e35_130, e35_131, e35_133, e35_136, e35_138, e35_139, e35_142, e35_143, e35_145, e35_148, e35_151, e35_152, e35_154, e35_157, e35_159, e35_161, e35_164, e35_166, e35_168, e35_169, e35_172, e35_174, e35_175, e35_178, e35_180, e35_181, e35_184, e35_187, e35_188, zG1, zG2, zG3, zG4, zG5, zG6, zG7, zG8, zNn, p0, p1, p2, p3, y2, y3, y4, q2, k1, j1, i1, hE.1, hE.2.1, r1, u1, z10, hch, t0, t2, t3, c1, zN20, w1, or_true, true_or, if_true, if_false, Option.bind_some, Option.toList_some, Option.toList_none, List.nil_append, List.cons_append]
      · rw [if_neg hq]
        rw [if_neg hq] at u1 u2
        refine ⟨M2, ?_, u2⟩
        simp only [e35_85, e35_87, e35_90, e35_91, e35_93, e35_96, e35_99, e35_101, e35_102, e35_105, e35_106, e35_108, e35_111, e35_114, e35_115, e35_118, e35_121, e35_122, e35_125, e35_127, e35_130, e35_131, e35_133, e35_136, e35_138, e35_139, e35_142, e35_143, e35_145, e35_148, e35_151, e35_152, e35_154, e35_157, e35_159, e35_161, e35_164, e35_166, e35_168, e35_169, e35_172, e35_174, e35_175, e35_178, e35_180, e35_181, e35_184, e35_187, e35_188, zG1, zG2, zG3, zG4, zG5, zG6, zG7, zG8, zNn, p0, p1, p2, p3, y2, y3, y4, q2, k1, j1, hE.1, hE.2.1, r1, u1, or_true, true_or, if_true, if_false, Option.bind_some, Option.toList_some, Option.toList_none, List.nil_append, List.cons_append]
    · rw [if_neg f2]
      have q2 : (nI f.1 = 2) = False := eq_false (fun z => f2 ((nI_eq (by omega) (by decide)).mp z))
      refine ⟨M1, ?_, r2⟩
      simp only [e35_85, e35_87, e35_90, e35_91, e35_93, e35_96, e35_99, e35_101, e35_102, e35_105, e35_106, e35_108, e35_111, e35_114, e35_115, e35_118, e35_121, e35_122, e35_125, e35_127, e35_130, e35_131, e35_133, e35_136, e35_138, e35_139, e35_142, e35_143, e35_145, e35_148, e35_151, e35_152, e35_154, e35_157, e35_159, e35_161, e35_164, e35_166, e35_168, e35_169, e35_172, e35_174, e35_175, e35_178, e35_180, e35_181, e35_184, e35_187, e35_188, zG1, zG2, zG3, zG4, zG5, zG6, zG7, zG8, zNn, p0, p1, p2, p3, y3, q2, k1, hE.1, hE.2.1, r1, or_true, true_or, if_true, if_false, Option.bind_some, Option.toList_some, Option.toList_none, List.nil_append, List.cons_append]
  · rw [if_neg hu]
    refine ⟨M, ?_, h⟩
    by_cases hu1 : yu S e = true
    · have p2 : (yb (yu S e) = 0) = False := by rw [hu1]; decide
      have p3 : (ye S e = f.2.1) = False := eq_false (fun z => hu ⟨hu1, z⟩)
      simp only [e35_85, e35_87, e35_90, e35_91, e35_93, e35_96, e35_99, e35_101, e35_102, e35_105, e35_106, e35_108, e35_111, e35_114, e35_115, e35_118, e35_121, e35_122, e35_125, e35_127, e35_130, e35_131, e35_133, e35_136, e35_138, e35_139, e35_142, e35_143, e35_145, e35_148, e35_151, e35_152, e35_154, e35_157, e35_159, e35_161, e35_164, e35_166, e35_168, e35_169, e35_172, e35_174, e35_175, e35_178, e35_180, e35_181, e35_184, e35_187, e35_188, zG1, zG2, zG3, zG4, zG5, zG6, zG7, zG8, zNn, p0, p1, p2, p3, k1, hE.1, hE.2.1, or_true, true_or, if_true, if_false, Option.bind_some, Option.toList_some, Option.toList_none, List.nil_append, List.cons_append]
    · have p2 : (yb (yu S e) = 0) = True := by
        cases hq : yu S e
        · decide
        · exact absurd hq hu1
      simp only [e35_85, e35_87, e35_90, e35_91, e35_93, e35_96, e35_99, e35_101, e35_102, e35_105, e35_106, e35_108, e35_111, e35_114, e35_115, e35_118, e35_121, e35_122, e35_125, e35_127, e35_130, e35_131, e35_133, e35_136, e35_138, e35_139, e35_142, e35_143, e35_145, e35_148, e35_151, e35_152, e35_154, e35_157, e35_159, e35_161, e35_164, e35_166, e35_168, e35_169, e35_172, e35_174, e35_175, e35_178, e35_180, e35_181, e35_184, e35_187, e35_188, zG1, zG2, zG3, zG4, zG5, zG6, zG7, zG8, zNn, p0, p1, p2, k1, hE.2.1, or_true, true_or, if_true, if_false, Option.bind_some, Option.toList_some, Option.toList_none, List.nil_append, List.cons_append]
theorem N_del {sp : Nat × (Nat → Int32)} {M0 M : zM} {S : yS} {n t : Nat} {l e : Int32} (h : RC M0 M S) (hK : yK n t S) (hn : n < 2043) (ht : t < 2047) : zOk sp M0 M 35 [.ref 0, .int l, .int e, .double 0, .double 0, .double 0, .double 0, .double 0, .double 0, .double 0] (oE S l e 0 (aDel S)) := by
  have ha := N_end (sp := sp) (l := l) (e := e) h
  obtain ⟨k1, k2, k3, k4, k5, k6, k7⟩ := RC_0 h
  unfold oE
  cases hC : yE l e with
  | none =>
    rw [hC] at ha
    refine ⟨M, ?_, h⟩
    simp only [e35_0, e35_1, e35_2, e35_3, e35_6, e35_7, e35_8, e35_11, e35_12, e35_15, e35_18, e35_21, e35_22, zG1, zG2, zG3, zG4, zG5, zG6, zG7, zG8, zNn, k1, ha, Option.map_none, or_true, true_or, if_true, if_false, Option.bind_some, Option.toList_some, Option.toList_none, List.nil_append, List.cons_append]
  | some e' =>
    rw [hC] at ha
    have he := yE_k hC
    obtain ⟨j1, j2, j3, j4, j5, j6, j7⟩ := RC_e h he
    have kw := (RC_w h he).1
    have hsz := W_size (sp := sp) h he
    have hg := hK.1 e' he
    have hl := hg.2.2.2.2.2.2.2.2.1
    dsimp only
    unfold aDel
    cases hv : yw S e' with
    | nil =>
      rw [hv] at hsz
      have p2 : (nI ([] : List yF).length = 0) = True := by decide
      refine ⟨M, ?_, h⟩
      simp only [e35_0, e35_1, e35_2, e35_3, e35_6, e35_7, e35_8, e35_11, e35_12, e35_15, e35_18, e35_21, e35_22, zG1, zG2, zG3, zG4, zG5, zG6, zG7, zG8, zNn, k1, ha, Option.map_some, j1, j2, kw, hsz, p2, or_true, true_or, if_true, if_false, Option.bind_some, Option.toList_some, Option.toList_none, List.nil_append, List.cons_append]
    | cons f fs =>
      rw [hv] at hsz hl
      have p2 : (nI (f :: fs).length = 0) = False := eq_false (nI_ne0 (by simp) (by omega))
      have hw0 := W_word (sp := sp) (k := 0) (w := 0) h he
      have hw1 := W_word (sp := sp) (k := 0) (w := 1) h he
      have hw2 := W_word (sp := sp) (k := 0) (w := 2) h he
      have hw3 := W_word (sp := sp) (k := 0) (w := 3) h he
      have hw4 := W_word (sp := sp) (k := 0) (w := 4) h he
      rw [hv] at hw0 hw1 hw2 hw3 hw4
      obtain ⟨y0, y1, y2, y3, y4⟩ := @yWord_0 f fs
      rw [y0] at hw0
      rw [y1] at hw1
      rw [y2] at hw2
      rw [y3] at hw3
      rw [y4] at hw4
      obtain ⟨M1, r1, r2⟩ := W_drop (sp := sp) h he hv
      have hfr := hg.2.2.2.2.2.2.2.2.2 f (by rw [hv]; exact List.mem_cons_self)
      obtain ⟨M2, q1, q2⟩ := D_tail (sp := sp) (v1 := .int l) (v2 := .int e) r2 (yK_wdrop hK hv) hn ht he hfr rfl rfl rfl
      refine ⟨M2, ?_, q2⟩
      simp only [e35_0, e35_1, e35_2, e35_3, e35_6, e35_7, e35_8, e35_11, e35_12, e35_15, e35_18, e35_21, e35_22, e35_23, e35_24, e35_27, e35_28, e35_29, e35_32, e35_34, e35_35, e35_38, e35_39, e35_40, e35_43, e35_45, e35_46, e35_49, e35_50, e35_51, e35_54, e35_56, e35_57, e35_60, e35_61, e35_62, e35_65, e35_67, e35_68, e35_71, e35_72, e35_73, e35_76, e35_78, e35_79, e35_82, zG1, zG2, zG3, zG4, zG5, zG6, zG7, zG8, zNn, k1, ha, Option.map_some, j1, j2, kw, hsz, p2, hw0, hw1, hw2, hw3, hw4, r1, q1, or_true, true_or, if_true, if_false, Option.bind_some, Option.toList_some, Option.toList_none, List.nil_append, List.cons_append]
