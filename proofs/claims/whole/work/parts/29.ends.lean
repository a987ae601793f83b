/-! The class's own methods on an end, and call. -/
def oE (S : yS) (l e d : Int32) (f : Nat → Int32 × yS) : Int32 × yS := match yE l e with
  | none => (d, S)
  | some k => f k
def aLose (S : yS) (e : Nat) : Int32 × yS := match yw S e with
  | [] => (0, S)
  | _ :: fs => (1, ywS S e fs)
def yBz (S : yS) (k : Nat) : Nat := if yn S 5 k = 0 then 0 else 1
def aBusy (S : yS) (e : Nat) : Int32 := nI (yBz S (3 * e) + yBz S (3 * e + 1) + yBz S (3 * e + 2))
def yfp (p : yP) : Nat → Nat
  | 0 => p.1
  | 1 => p.2.1
  | 2 => p.2.2.1
  | _ => p.2.2.2
def yf8 (f : yF) (q : Nat) : Int32 := if q < 4 then yfw f q else if f.1 = 2 then nI (yfp f.2.2.2.2 (q - 4)) else -1
def aFrm (S : yS) (e : Nat) (k w : Int32) : Int32 := if w < 0 ∨ ¬ w < 8 ∨ k < 0 then -1 else match (yw S e)[k.toNatClampNeg]? with
  | none => -1
  | some f => yf8 f w.toNatClampNeg
theorem N_lose {sp : Nat × (Nat → Int32)} {M0 M : zM} {S : yS} {n t : Nat} {l e : Int32} (h : RC M0 M S) (hK : yK n t S) : zOk sp M0 M 60 [.ref 0, .int l, .int e, .double 0] (oE S l e 0 (aLose S)) := by
  have ha := N_end (sp := sp) (l := l) (e := e) h
  obtain ⟨k1, k2, k3, k4, k5, k6, k7⟩ := RC_0 h
  unfold oE
  cases hC : yE l e with
  | none =>
    rw [hC] at ha
    refine ⟨M, ?_, h⟩
    simp only [e60_0, e60_1, e60_2, e60_3, e60_6, e60_7, e60_8, e60_11, e60_12, e60_15, e60_18, e60_21, e60_22, e60_23, e60_24, e60_27, e60_30, e60_31, zG1, zG2, zG3, zG4, zG5, zG6, zG7, zG8, zNn, k1, ha, Option.map_none, or_true, true_or, if_true, if_false, Option.bind_some, Option.toList_some, Option.toList_none, List.nil_append, List.cons_append]
  | some e' =>
    rw [hC] at ha
    have he := yE_k hC
    obtain ⟨j1, j2, j3, j4, j5, j6, j7⟩ := RC_e h he
    have kw := (RC_w h he).1
    have hsz := W_size (sp := sp) h he
    have hl := (hK.1 e' he).2.2.2.2.2.2.2.2.1
    dsimp only
    unfold aLose
    cases hv : yw S e' with
    | nil =>
      rw [hv] at hsz
      have p2 : (nI ([] : List yF).length = 0) = True := by decide
      refine ⟨M, ?_, h⟩
      simp only [e60_0, e60_1, e60_2, e60_3, e60_6, e60_7, e60_8, e60_11, e60_12, e60_15, e60_18, e60_21, e60_22, e60_23, e60_24, e60_27, e60_30, e60_31, zG1, zG2, zG3, zG4, zG5, zG6, zG7, zG8, zNn, k1, ha, Option.map_some, j1, j2, kw, hsz, p2, or_true, true_or, if_true, if_false, Option.bind_some, Option.toList_some, Option.toList_none, List.nil_append, List.cons_append]
    | cons f fs =>
      rw [hv] at hsz hl
      have p2 : (nI (f :: fs).length = 0) = False := eq_false (nI_ne0 (by simp) (by omega))
      obtain ⟨M1, r1, r2⟩ := W_drop (sp := sp) h he hv
      refine ⟨M1, ?_, r2⟩
      simp only [e60_0, e60_1, e60_2, e60_3, e60_6, e60_7, e60_8, e60_11, e60_12, e60_15, e60_18, e60_21, e60_22, e60_23, e60_24, e60_27, e60_30, e60_31, zG1, zG2, zG3, zG4, zG5, zG6, zG7, zG8, zNn, k1, ha, Option.map_some, j1, j2, kw, hsz, p2, r1, or_true, true_or, if_true, if_false, Option.bind_some, Option.toList_some, Option.toList_none, List.nil_append, List.cons_append]
theorem N_frs {sp : Nat × (Nat → Int32)} {M0 M : zM} {S : yS} {l e : Int32} (h : RC M0 M S) : zOk sp M0 M 67 [.ref 0, .int l, .int e, .double 0] (oE S l e (-1) (fun e => (nI (yw S e).length, S))) := by
  have ha := N_end (sp := sp) (l := l) (e := e) h
  obtain ⟨k1, k2, k3, k4, k5, k6, k7⟩ := RC_0 h
  unfold oE
  cases hC : yE l e with
  | none =>
    rw [hC] at ha
    refine ⟨M, ?_, h⟩
    simp only [e67_0, e67_1, e67_2, e67_3, e67_6, e67_7, e67_8, e67_11, e67_12, e67_15, e67_16, e67_19, e67_22, zG1, zG2, zG3, zG4, zG5, zG6, zG7, zG8, zNn, k1, ha, Option.map_none, or_true, true_or, if_true, if_false, Option.bind_some, Option.toList_some, Option.toList_none, List.nil_append, List.cons_append]
  | some e' =>
    rw [hC] at ha
    have he := yE_k hC
    obtain ⟨j1, j2, j3, j4, j5, j6, j7⟩ := RC_e h he
    have kw := (RC_w h he).1
    have hsz := W_size (sp := sp) h he
    refine ⟨M, ?_, h⟩
    simp only [e67_0, e67_1, e67_2, e67_3, e67_6, e67_7, e67_8, e67_11, e67_12, e67_15, e67_16, e67_19, e67_22, zG1, zG2, zG3, zG4, zG5, zG6, zG7, zG8, zNn, k1, ha, Option.map_some, j1, j2, kw, hsz, or_true, true_or, if_true, if_false, Option.bind_some, Option.toList_some, Option.toList_none, List.nil_append, List.cons_append]
theorem N_row {sp : Nat × (Nat → Int32)} {M0 M : zM} {S : yS} {l e : Int32} (h : RC M0 M S) : zOk sp M0 M 69 [.ref 0, .int l, .int e, .double 0] (oE S l e (-1) (fun e => (nI (yr S e).length, S))) := by
  have ha := N_end (sp := sp) (l := l) (e := e) h
  obtain ⟨k1, k2, k3, k4, k5, k6, k7⟩ := RC_0 h
  unfold oE
  cases hC : yE l e with
  | none =>
    rw [hC] at ha
    refine ⟨M, ?_, h⟩
    simp only [e69_0, e69_1, e69_2, e69_3, e69_6, e69_7, e69_8, e69_11, e69_12, e69_15, e69_16, e69_19, e69_22, zG1, zG2, zG3, zG4, zG5, zG6, zG7, zG8, zNn, k1, ha, Option.map_none, or_true, true_or, if_true, if_false, Option.bind_some, Option.toList_some, Option.toList_none, List.nil_append, List.cons_append]
  | some e' =>
    rw [hC] at ha
    have he := yE_k hC
    obtain ⟨j1, j2, j3, j4, j5, j6, j7⟩ := RC_e h he
    have kl := RC_l h (show e' < 22 by omega)
    have hsz := L_size (sp := sp) h (show e' < 22 by omega)
    rw [yXs_e he, List.length_map] at hsz
    refine ⟨M, ?_, h⟩
    simp only [e69_0, e69_1, e69_2, e69_3, e69_6, e69_7, e69_8, e69_11, e69_12, e69_15, e69_16, e69_19, e69_22, zG1, zG2, zG3, zG4, zG5, zG6, zG7, zG8, zNn, k1, ha, Option.map_some, j1, j4, kl, hsz, or_true, true_or, if_true, if_false, Option.bind_some, Option.toList_some, Option.toList_none, List.nil_append, List.cons_append]
theorem N_ep {sp : Nat × (Nat → Int32)} {M0 M : zM} {S : yS} {l e : Int32} (h : RC M0 M S) : zOk sp M0 M 70 [.ref 0, .int l, .int e, .double 0] (oE S l e (-1) (fun e => (ye S e, S))) := by
  have ha := N_end (sp := sp) (l := l) (e := e) h
  obtain ⟨k1, k2, k3, k4, k5, k6, k7⟩ := RC_0 h
  unfold oE
  cases hC : yE l e with
  | none =>
    rw [hC] at ha
    refine ⟨M, ?_, h⟩
    simp only [e70_0, e70_1, e70_2, e70_3, e70_6, e70_7, e70_8, e70_11, e70_12, e70_15, e70_16, e70_19, zG1, zG2, zG3, zG4, zG5, zG6, zG7, zG8, zNn, k1, ha, Option.map_none, or_true, true_or, if_true, if_false, Option.bind_some, Option.toList_some, Option.toList_none, List.nil_append, List.cons_append]
  | some e' =>
    rw [hC] at ha
    have he := yE_k hC
    have j1 := (RC_e h he).1
    have hE := h.2.1 e' he
    refine ⟨M, ?_, h⟩
    simp only [e70_0, e70_1, e70_2, e70_3, e70_6, e70_7, e70_8, e70_11, e70_12, e70_15, e70_16, e70_19, zG1, zG2, zG3, zG4, zG5, zG6, zG7, zG8, zNn, k1, ha, Option.map_some, j1, hE.1, or_true, true_or, if_true, if_false, Option.bind_some, Option.toList_some, Option.toList_none, List.nil_append, List.cons_append]
theorem N_up {sp : Nat × (Nat → Int32)} {M0 M : zM} {S : yS} {l e : Int32} (h : RC M0 M S) : zOk sp M0 M 71 [.ref 0, .int l, .int e, .double 0] (oE S l e 0 (fun e => (yb (yu S e), S))) := by
  have ha := N_end (sp := sp) (l := l) (e := e) h
  obtain ⟨k1, k2, k3, k4, k5, k6, k7⟩ := RC_0 h
  unfold oE
  cases hC : yE l e with
  | none =>
    rw [hC] at ha
    refine ⟨M, ?_, h⟩
    simp only [e71_0, e71_1, e71_2, e71_3, e71_6, e71_7, e71_8, e71_11, e71_12, e71_15, e71_18, e71_19, e71_22, e71_23, zG1, zG2, zG3, zG4, zG5, zG6, zG7, zG8, zNn, k1, ha, Option.map_none, or_true, true_or, if_true, if_false, Option.bind_some, Option.toList_some, Option.toList_none, List.nil_append, List.cons_append]
  | some e' =>
    rw [hC] at ha
    have he := yE_k hC
    have j1 := (RC_e h he).1
    have hE := (h.2.1 e' he).2.1
    refine ⟨M, ?_, h⟩
    dsimp only
    cases hu : yu S e'
    · rw [hu] at hE
      simp only [e71_0, e71_1, e71_2, e71_3, e71_6, e71_7, e71_8, e71_11, e71_12, e71_15, e71_18, e71_19, e71_22, e71_23, zG1, zG2, zG3, zG4, zG5, zG6, zG7, zG8, zNn, k1, ha, Option.map_some, j1, hE, zyb0, or_true, true_or, if_true, if_false, Option.bind_some, Option.toList_some, Option.toList_none, List.nil_append, List.cons_append]
      rfl
    · rw [hu] at hE
      simp only [e71_0, e71_1, e71_2, e71_3, e71_6, e71_7, e71_8, e71_11, e71_12, e71_15, e71_18, e71_19, e71_22, e71_23, zG1, zG2, zG3, zG4, zG5, zG6, zG7, zG8, zNn, k1, ha, Option.map_some, j1, hE, zyb1, or_true, true_or, if_true, if_false, Option.bind_some, Option.toList_some, Option.toList_none, List.nil_append, List.cons_append]
      rfl
theorem N_bs {sp : Nat × (Nat → Int32)} {M0 M : zM} {S : yS} {e c m : Nat} {v1 v2 : Value} (h : RC M0 M S) (hI : yIk S) (he : e < 10) (hc : c < 3) : zV (zPr sp) (72, 19, [.ref 0, v1, v2, .ref (zEn e), .int (nI m), .int (nI c)], [], M) = zV (zPr sp) (72, 19, [.ref 0, v1, v2, .ref (zEn e), .int (nI (m + yBz S (3 * e + c))), .int (nI (c + 1))], [], M) := by
  obtain ⟨k1, k2, k3, k4, k5, k6, k7⟩ := RC_e h he
  have hr := RC_ec h he hc
  have p1 : (nI c < 3) = True := eq_true (nI_lt (b := 3) hc (by decide))
  have p2 : zin (nI c) 3 = true := zin_nI hc (by decide)
  have p3 : (nI c).toNatClampNeg = c := nI_clamp (by omega)
  have hk : 3 * e + c < 30 := by omega
  have s0 : (nI (yn S 5 (3 * e + c)) = 0) = (yn S 5 (3 * e + c) = 0) := st_eq (m := 0) hI hk (by decide)
  have hz : ∃ x, x = nI (yn S 5 (3 * e + c)) ∧ ((zk M (zCh (3 * e + c)) = (0, 0) ∧ zi M (zCh (3 * e + c)) 7 = x) ∨ (zk M (zCh (3 * e + c)) = (2, 0) ∧ zi M (zCh (3 * e + c)) 5 = x)) := by
    cases hs : ysw ((3 * e + c) / 3)
    · exact ⟨_, rfl, Or.inl ⟨(RC_cT h hk hs).1, (h.2.2.2.1 _ hk hs).1⟩⟩
    · exact ⟨_, rfl, Or.inr ⟨(RC_cS h hk hs).1, (h.2.2.1 _ hk hs).1⟩⟩
  obtain ⟨x, hx, hz⟩ := hz
  unfold yBz
  refine Eq.trans ?_ e72_44
  by_cases h0 : yn S 5 (3 * e + c) = 0
  · rw [if_pos h0]
    have p4 : (x = 0) = True := by rw [hx]; exact s0.trans (eq_true h0)
    rcases hz with ⟨c1, c2⟩ | ⟨c1, c2⟩
    · simp only [e72_19, e72_21, e72_22, e72_25, e72_26, e72_29, e72_31, e72_32, e72_35, e72_38, e72_41, zG1, zG2, zG3, zG4, zG5, zG6, zG7, zG8, zNn, k1, k5, k6, zG10, hr, p1, p2, p3, c1, c2, p4, nI_1, Nat.add_zero, or_true, true_or, if_true, if_false, Option.bind_some, Option.toList_some, Option.toList_none, List.nil_append, List.cons_append]
    · simp only [e72_19, e72_21, e72_22, e72_25, e72_26, e72_29, e72_31, e72_32, e72_35, e72_38, e72_41, zG1, zG2, zG3, zG4, zG5, zG6, zG7, zG8, zNn, k1, k5, k6, zG10, hr, p1, p2, p3, c1, c2, p4, zN20, nI_1, Nat.add_zero, or_true, true_or, if_true, if_false, Option.bind_some, Option.toList_some, Option.toList_none, List.nil_append, List.cons_append]
  · rw [if_neg h0]
    have p4 : (x = 0) = False := by rw [hx]; exact s0.trans (eq_false h0)
    rcases hz with ⟨c1, c2⟩ | ⟨c1, c2⟩
    · simp only [e72_19, e72_21, e72_22, e72_25, e72_26, e72_29, e72_31, e72_32, e72_35, e72_38, e72_41, zG1, zG2, zG3, zG4, zG5, zG6, zG7, zG8, zNn, k1, k5, k6, zG10, hr, p1, p2, p3, c1, c2, p4, nI_1, or_true, true_or, if_true, if_false, Option.bind_some, Option.toList_some, Option.toList_none, List.nil_append, List.cons_append]
    · simp only [e72_19, e72_21, e72_22, e72_25, e72_26, e72_29, e72_31, e72_32, e72_35, e72_38, e72_41, zG1, zG2, zG3, zG4, zG5, zG6, zG7, zG8, zNn, k1, k5, k6, zG10, hr, p1, p2, p3, c1, c2, p4, zN20, nI_1, or_true, true_or, if_true, if_false, Option.bind_some, Option.toList_some, Option.toList_none, List.nil_append, List.cons_append]
theorem N_busy {sp : Nat × (Nat → Int32)} {M0 M : zM} {S : yS} {l e : Int32} (h : RC M0 M S) (hI : yIk S) : zOk sp M0 M 72 [.ref 0, .int l, .int e, .double 0, .double 0, .double 0] (oE S l e (-1) (fun e => (aBusy S e, S))) := by
  have ha := N_end (sp := sp) (l := l) (e := e) h
  obtain ⟨k1, k2, k3, k4, k5, k6, k7⟩ := RC_0 h
  unfold oE
  cases hC : yE l e with
  | none =>
    rw [hC] at ha
    refine ⟨M, ?_, h⟩
    simp only [e72_0, e72_1, e72_2, e72_3, e72_6, e72_7, e72_8, e72_11, e72_12, e72_13, e72_14, e72_16, e72_17, e72_19, e72_21, e72_22, e72_25, e72_26, e72_29, e72_31, e72_32, e72_35, e72_38, e72_41, e72_44, e72_47, e72_49, zG1, zG2, zG3, zG4, zG5, zG6, zG7, zG8, zNn, k1, ha, Option.map_none, or_true, true_or, if_true, if_false, Option.bind_some, Option.toList_some, Option.toList_none, List.nil_append, List.cons_append]
  | some e' =>
    rw [hC] at ha
    have he := yE_k hC
    refine ⟨M, ?_, h⟩
    have s0 := N_bs (sp := sp) (v1 := .int l) (v2 := .int e) (m := 0) (c := 0) h hI he (by decide)
    have s1 := N_bs (sp := sp) (v1 := .int l) (v2 := .int e) (m := 0 + yBz S (3 * e' + 0)) (c := 0 + 1) h hI he (by decide)
    have s2 := N_bs (sp := sp) (v1 := .int l) (v2 := .int e) (m := 0 + yBz S (3 * e' + 0) + yBz S (3 * e' + (0 + 1))) (c := 0 + 1 + 1) h hI he (by decide)
    have s0 := s0.trans (s1.trans s2)
    have s0 : zV (zPr sp) (72, 19, [.ref 0, .int l, .int e, .ref (zEn e'), .int 0, .int 0], [], M) = _ := s0
    have p1 : (nI (0 + 1 + 1 + 1) < 3) = False := by decide
    have st : zV (zPr sp) (72, 0, [.ref 0, .int l, .int e, .double 0, .double 0, .double 0], [], M) = zV (zPr sp) (72, 19, [.ref 0, .int l, .int e, .ref (zEn e'), .int 0, .int 0], [], M) := by
      simp only [e72_0, e72_1, e72_2, e72_3, e72_6, e72_7, e72_8, e72_11, e72_12, e72_13, e72_14, e72_16, e72_17, zG1, zG2, zG3, zG4, zG5, zG6, zG7, zG8, zNn, k1, ha, Option.map_some, or_true, true_or, if_true, if_false, Option.bind_some, Option.toList_some, Option.toList_none, List.nil_append, List.cons_append]
    rw [st, s0]
    simp only [e72_19, e72_21, e72_22, e72_47, e72_49, p1, if_false]
    unfold aBusy
    simp only [Nat.zero_add, Nat.add_zero]
theorem P_none {sp : Nat × (Nat → Int32)} {M : zM} {x : Int32} {j : Nat} (h4 : 4 ≤ j) (hj : j < 2 ^ 31) : zV (zPr sp) (49, 0, [.int x, .int (nI j)], [], M) = some (some (.int (-1)), M) := by
  have q0 : (nI j = Int32.ofNat 0) = False := eq_false (fun z => by have := (nI_eq (b := 0) hj (by decide)).mp z; omega)
  have q1 : (nI j = Int32.ofNat 1) = False := eq_false (fun z => by have := (nI_eq (b := 1) hj (by decide)).mp z; omega)
  have q2 : (nI j = Int32.ofNat 2) = False := eq_false (fun z => by have := (nI_eq (b := 2) hj (by decide)).mp z; omega)
  have q3 : (nI j = Int32.ofNat 3) = False := eq_false (fun z => by have := (nI_eq (b := 3) hj (by decide)).mp z; omega)
  simp only [e49_0, e49_1, e49_32, e49_33, e49_35, e49_36, e49_37, e49_38, e49_40, e49_41, e49_43, e49_44, e49_45, e49_46, e49_48, e49_49, e49_51, e49_52, e49_53, e49_54, e49_57, e49_58, e49_59, e49_60, q0, q1, q2, q3, if_false]
theorem P_yfp {sp : Nat × (Nat → Int32)} {M : zM} {p : yP} {j : Nat} (hp : yPk p) (hj : j < 4) : zV (zPr sp) (49, 0, [.int (ypk p), .int (nI j)], [], M) = some (some (.int (nI (yfp p j))), M) := by
  obtain ⟨h0, h1, h2, h3⟩ := P_part (sp := sp) (M := M) hp
  have hc : j = 0 ∨ j = 1 ∨ j = 2 ∨ j = 3 := by omega
  rcases hc with rfl | rfl | rfl | rfl
  · exact h0
  · exact h1
  · exact h2
  · exact h3
theorem ypk_m1 {p : yP} (hp : yPk p) : (ypk p = -1) = False := by
  refine eq_false (fun z => ?_)
  have h1 : ¬ ypk p < 0 := by
    obtain ⟨p1, p2, p3, p4, -⟩ := hp
    exact nI_pos (by omega)
  rw [z] at h1
  exact h1 (by decide)
theorem N_frm {sp : Nat × (Nat → Int32)} {M0 M : zM} {S : yS} {n t : Nat} {l e k w : Int32} (h : RC M0 M S) (hK : yK n t S) : zOk sp M0 M 68 [.ref 0, .int l, .int e, .int k, .int w, .double 0, .double 0] (oE S l e (-1) (fun e => (aFrm S e k w, S))) := by
  have ha := N_end (sp := sp) (l := l) (e := e) h
  obtain ⟨k1, k2, k3, k4, k5, k6, k7⟩ := RC_0 h
  unfold oE
  cases hC : yE l e with
  | none =>
    rw [hC] at ha
    refine ⟨M, ?_, h⟩
    simp only [e68_0, e68_1, e68_2, e68_3, e68_6, e68_8, e68_10, e68_13, e68_15, e68_18, e68_19, e68_20, e68_22, e68_23, e68_26, e68_28, e68_31, e68_32, e68_34, e68_37, e68_38, e68_40, e68_43, e68_44, e68_45, e68_48, e68_50, e68_52, e68_53, e68_56, e68_57, e68_60, e68_62, e68_64, e68_65, e68_66, e68_69, zG1, zG2, zG3, zG4, zG5, zG6, zG7, zG8, zNn, k1, ha, Option.map_none, or_true, true_or, if_true, if_false, Option.bind_some, Option.toList_some, Option.toList_none, List.nil_append, List.cons_append]
  | some e' =>
    rw [hC] at ha
    have he := yE_k hC
    obtain ⟨j1, j2, j3, j4, j5, j6, j7⟩ := RC_e h he
    have kw := (RC_w h he).1
    refine ⟨M, ?_, h⟩
    dsimp only
    unfold aFrm
    by_cases h1 : w < 0
    · rw [if_pos (Or.inl h1)]
      have p1 := eq_true h1
      simp only [e68_0, e68_1, e68_2, e68_3, e68_6, e68_8, e68_10, e68_13, e68_15, e68_18, e68_19, e68_20, e68_22, e68_23, e68_26, e68_28, e68_31, e68_32, e68_34, e68_37, e68_38, e68_40, e68_43, e68_44, e68_45, e68_48, e68_50, e68_52, e68_53, e68_56, e68_57, e68_60, e68_62, e68_64, e68_65, e68_66, e68_69, zG1, zG2, zG3, zG4, zG5, zG6, zG7, zG8, zNn, k1, ha, Option.map_some, p1, or_true, true_or, if_true, if_false, Option.bind_some, Option.toList_some, Option.toList_none, List.nil_append, List.cons_append]
    · have p1 := eq_false h1
      obtain ⟨w', hw, rfl⟩ := nI_of h1
      have hw5 := W_word (sp := sp) (k := k) (w := nI w') h he
      have hw4 := W_word (sp := sp) (k := k) (w := 4) h he
      by_cases h4 : w' < 4
      · have p2 : (nI w' < 4) = True := eq_true (nI_lt (b := 4) h4 (by decide))
        have e1 : yWord (yw S e') k (nI w') = (if nI w' < 0 ∨ ¬ nI w' < 8 ∨ k < 0 then -1 else match (yw S e')[k.toNatClampNeg]? with
          | none => -1
          | some f => yf8 f (nI w').toNatClampNeg) := by
          unfold yWord
          have c8 : nI w' < 8 := nI_lt (b := 8) (by omega) (by decide)
          have c5 : nI w' < 5 := nI_lt (b := 5) (by omega) (by decide)
          by_cases hk : k < 0
          · rw [if_pos (Or.inl hk), if_pos (Or.inr (Or.inr hk))]
          · rw [if_neg (fun z => z.elim hk (fun z => z.elim h1 (fun z => z c5))), if_neg (fun z => z.elim h1 (fun z => z.elim (fun z => z c8) hk))]
            cases (yw S e')[k.toNatClampNeg]? with
            | none => rfl
            | some f =>
              dsimp only
              unfold yf8
              rw [nI_clamp hw, if_pos h4]
        rw [← e1]
        simp only [e68_0, e68_1, e68_2, e68_3, e68_6, e68_8, e68_10, e68_13, e68_15, e68_18, e68_19, e68_20, e68_22, e68_23, e68_26, e68_28, e68_31, e68_32, e68_34, e68_37, e68_38, e68_40, e68_43, e68_44, e68_45, e68_48, e68_50, e68_52, e68_53, e68_56, e68_57, e68_60, e68_62, e68_64, e68_65, e68_66, e68_69, zG1, zG2, zG3, zG4, zG5, zG6, zG7, zG8, zNn, k1, ha, Option.map_some, j1, j2, kw, p1, p2, hw5, or_true, true_or, if_true, if_false, Option.bind_some, Option.toList_some, Option.toList_none, List.nil_append, List.cons_append]
      · have p2 : (nI w' < 4) = False := eq_false (nI_nlt (b := 4) (by omega) hw)
        have s4 : nI w' - 4 = nI (w' - 4) := pk_sub (b := 4) (by omega)
        have e4 : yWord (yw S e') k 4 = (if k < 0 then -1 else match (yw S e')[k.toNatClampNeg]? with
          | none => -1
          | some f => if f.1 = 2 then ypk f.2.2.2.2 else -1) := by
          unfold yWord
          by_cases hk : k < 0
          · rw [if_pos (Or.inl hk), if_pos hk]
          · rw [if_neg (fun z => z.elim hk (by decide)), if_neg hk]
            rfl
        rw [e4] at hw4
        rw [nI_clamp hw]
        by_cases hk : k < 0
        · rw [if_pos (Or.inr (Or.inr hk))]
          rw [if_pos hk] at hw4
          simp only [e68_0, e68_1, e68_2, e68_3, e68_6, e68_8, e68_10, e68_13, e68_15, e68_18, e68_19, e68_20, e68_22, e68_23, e68_26, e68_28, e68_31, e68_32, e68_34, e68_37, e68_38, e68_40, e68_43, e68_44, e68_45, e68_48, e68_50, e68_52, e68_53, e68_56, e68_57, e68_60, e68_62, e68_64, e68_65, e68_66, e68_69, zG1, zG2, zG3, zG4, zG5, zG6, zG7, zG8, zNn, k1, ha, Option.map_some, j1, j2, kw, p1, p2, hw4, or_true, true_or, if_true, if_false, Option.bind_some, Option.toList_some, Option.toList_none, List.nil_append, List.cons_append]
        · rw [if_neg hk] at hw4
          cases hf : (yw S e')[k.toNatClampNeg]? with
          | none =>
            rw [hf] at hw4
            dsimp only at hw4 ⊢
            rw [ite_self]
            simp only [e68_0, e68_1, e68_2, e68_3, e68_6, e68_8, e68_10, e68_13, e68_15, e68_18, e68_19, e68_20, e68_22, e68_23, e68_26, e68_28, e68_31, e68_32, e68_34, e68_37, e68_38, e68_40, e68_43, e68_44, e68_45, e68_48, e68_50, e68_52, e68_53, e68_56, e68_57, e68_60, e68_62, e68_64, e68_65, e68_66, e68_69, zG1, zG2, zG3, zG4, zG5, zG6, zG7, zG8, zNn, k1, ha, Option.map_some, j1, j2, kw, p1, p2, hw4, or_true, true_or, if_true, if_false, Option.bind_some, Option.toList_some, Option.toList_none, List.nil_append, List.cons_append]
          | some f =>
            rw [hf] at hw4
            dsimp only at hw4 ⊢
            have hfr := (hK.1 e' he).2.2.2.2.2.2.2.2.2 f (List.mem_of_getElem? hf)
            by_cases h2 : f.1 = 2
            · rw [if_pos h2] at hw4
              have hp := hfr.2.2.2 h2
              have p3 := ypk_m1 hp
              by_cases h8 : w' < 8
              · rw [if_neg (fun z => z.elim h1 (fun z => z.elim (fun z => z (nI_lt (b := 8) h8 (by decide))) hk))]
                unfold yf8
                rw [if_neg h4, if_pos h2]
                have hpt := P_yfp (sp := sp) (M := M) hp (show w' - 4 < 4 by omega)
                simp only [e68_0, e68_1, e68_2, e68_3, e68_6, e68_8, e68_10, e68_13, e68_15, e68_18, e68_19, e68_20, e68_22, e68_23, e68_26, e68_28, e68_31, e68_32, e68_34, e68_37, e68_38, e68_40, e68_43, e68_44, e68_45, e68_48, e68_50, e68_52, e68_53, e68_56, e68_57, e68_60, e68_62, e68_64, e68_65, e68_66, e68_69, zG1, zG2, zG3, zG4, zG5, zG6, zG7, zG8, zNn, k1, ha, Option.map_some, j1, j2, kw, p1, p2, p3, hw4, s4, hpt, or_true, true_or, if_true, if_false, Option.bind_some, Option.toList_some, Option.toList_none, List.nil_append, List.cons_append]
              · have h8' : ¬ nI w' < 8 := nI_nlt (b := 8) (by omega) hw
                rw [if_pos (Or.inr (Or.inl h8'))]
                have hpt := P_none (sp := sp) (M := M) (x := ypk f.2.2.2.2) (show 4 ≤ w' - 4 by omega) (by omega)
                simp only [e68_0, e68_1, e68_2, e68_3, e68_6, e68_8, e68_10, e68_13, e68_15, e68_18, e68_19, e68_20, e68_22, e68_23, e68_26, e68_28, e68_31, e68_32, e68_34, e68_37, e68_38, e68_40, e68_43, e68_44, e68_45, e68_48, e68_50, e68_52, e68_53, e68_56, e68_57, e68_60, e68_62, e68_64, e68_65, e68_66, e68_69, zG1, zG2, zG3, zG4, zG5, zG6, zG7, zG8, zNn, k1, ha, Option.map_some, j1, j2, kw, p1, p2, p3, hw4, s4, hpt, or_true, true_or, if_true, if_false, Option.bind_some, Option.toList_some, Option.toList_none, List.nil_append, List.cons_append]
            · rw [if_neg h2] at hw4
              have e5 : yf8 f w' = -1 := by unfold yf8; rw [if_neg h4, if_neg h2]
              rw [e5, ite_self]
              simp only [e68_0, e68_1, e68_2, e68_3, e68_6, e68_8, e68_10, e68_13, e68_15, e68_18, e68_19, e68_20, e68_22, e68_23, e68_26, e68_28, e68_31, e68_32, e68_34, e68_37, e68_38, e68_40, e68_43, e68_44, e68_45, e68_48, e68_50, e68_52, e68_53, e68_56, e68_57, e68_60, e68_62, e68_64, e68_65, e68_66, e68_69, zG1, zG2, zG3, zG4, zG5, zG6, zG7, zG8, zNn, k1, ha, Option.map_some, j1, j2, kw, p1, p2, hw4, or_true, true_or, if_true, if_false, Option.bind_some, Option.toList_some, Option.toList_none, List.nil_append, List.cons_append]
/-- call -/
def aCall (S : yS) (p to : Nat) : Int32 × yS := if p = to ∨ yu S (2 * p) = false then (-1, S) else match yFree S (2 * p) with
  | none => (-1, S)
  | some k => (nI (k % 3 + 1), yPutOn (yRenew (ynS (ynS S 5 k 1) 7 k to) k) k 0 to p)
def oCall (S : yS) (p to : Int32) : Int32 × yS := if yT p = true ∧ yT to = true then aCall S p.toNatClampNeg to.toNatClampNeg else (-1, S)
theorem N_cs {sp : Nat × (Nat → Int32)} {M0 M : zM} {S : yS} {p c : Nat} {v2 v4 : Value} (h : RC M0 M S) (hI : yIk S) (hp : p < 4) (hc : c < 3) : zV (zPr sp) (11, 37, [.ref 0, .int (nI p), v2, .int (nI (c + 1)), v4], [], M) = if yn S 5 (3 * (2 * p) + c) = 0 then zV (zPr sp) (11, 63, [.ref 0, .int (nI p), v2, .int (nI (c + 1)), .ref (zCh (3 * (2 * p) + c))], [], M) else zV (zPr sp) (11, 37, [.ref 0, .int (nI p), v2, .int (nI c), .ref (zCh (3 * (2 * p) + c))], [], M) := by
  have ha := N_at (sp := sp) (p := nI p) (c := nI (c + 1)) h
  obtain ⟨k1, k2, k3, k4, k5, k6, k7⟩ := RC_0 h
  have hC : yC (nI p) (nI (c + 1)) = some (3 * (2 * p) + c) := by
    unfold yC
    rw [if_pos ⟨yT_nI hp, nI_nlt (b := 1) (by omega) (by omega), nI_nlt (a := 3) (by omega) (by omega)⟩, nI_clamp (by omega), nI_clamp (by omega)]
    exact congrArg some (by omega)
  rw [hC] at ha
  obtain ⟨hk, hs⟩ := yC_k hC
  obtain ⟨c1, c2, c3, c4, c5⟩ := RC_cT h hk hs
  have g := h.2.2.2.1 _ hk hs
  have s0 : (nI (yn S 5 (3 * (2 * p) + c)) = 0) = (yn S 5 (3 * (2 * p) + c) = 0) := st_eq (m := 0) hI hk (by decide)
  have p1 : (nI (c + 1) < 1) = False := eq_false (nI_nlt (b := 1) (by omega) (by omega))
  by_cases h0 : yn S 5 (3 * (2 * p) + c) = 0
  · rw [if_pos h0]
    have p2 := s0.trans (eq_true h0)
    simp only [e11_37, e11_38, e11_39, e11_42, e11_43, e11_44, e11_45, e11_48, e11_50, e11_52, e11_55, e11_57, e11_60, zG1, zG2, zG3, zG4, zG5, zG6, zG7, zG8, zNn, k1, ha, Option.map_some, p1, p2, c1, g.1, or_true, true_or, if_true, if_false, Option.bind_some, Option.toList_some, Option.toList_none, List.nil_append, List.cons_append]
  · rw [if_neg h0]
    have p2 := s0.trans (eq_false h0)
    refine Eq.trans ?_ e11_83
    have hm : nI (c + 1) + -1 = nI c := pk_m1 c
    simp only [e11_37, e11_38, e11_39, e11_42, e11_43, e11_44, e11_45, e11_48, e11_50, e11_52, e11_55, e11_57, e11_60, e11_80, zG1, zG2, zG3, zG4, zG5, zG6, zG7, zG8, zNn, k1, ha, Option.map_some, p1, p2, c1, g.1, hm, or_true, true_or, if_true, if_false, Option.bind_some, Option.toList_some, Option.toList_none, List.nil_append, List.cons_append]
theorem N_cf {sp : Nat × (Nat → Int32)} {M0 M : zM} {S : yS} {p q k n t : Nat} {x : Int32} (h : RC M0 M S) (hK : yK n t S) (hn : n < 2043) (hp : p < 4) (hq : q < 4) (hk : k < 30) (hs : ysw (k / 3) = false) : ∃ M', zV (zPr sp) (11, 63, [.ref 0, .int (nI p), .int (nI q), .int x, .ref (zCh k)], [], M) = some (some (.int x), M') ∧ RC M0 M' (yPutOn (yRenew (ynS (ynS S 5 k 1) 7 k q) k) k 0 q p) := by
  have c1 := (RC_cT h hk hs).1
  obtain ⟨M1, r1, r2⟩ := T_begin (sp := sp) (m := 1) (p := q) h hk hs
  have r1 : zV (zPr sp) (14, 0, [.ref (zCh k), .int 1, .int (nI q)], [], M) = some (none, M1) := r1
  have hK1 : yK n t (yRenew (ynS (ynS S 5 k 1) 7 k q) k) := yK_renew (yK_n (yK_st hK (by decide) hk (fun z => by rw [hs] at z; cases z)).1 (Or.inr ⟨rfl, by omega⟩))
  obtain ⟨M2, q1, q2⟩ := C_put (sp := sp) (kind := 0) (a := q) (b := p) r2 hK1 (by omega) hk (yPk_k (by decide) (by omega) (by omega) (fun _ => hq))
  have q1 : zV (zPr sp) (18, 0, [.ref (zCh k), .int 0, .int (nI q), .int (nI p)], [], M1) = some (none, M2) := q1
  have d1 := (RC_cT r2 hk hs).1
  refine ⟨M2, ?_, q2⟩
  simp only [e11_63, e11_65, e11_66, e11_67, e11_70, e11_72, e11_73, e11_74, e11_75, e11_78, e11_79, zG1, zG2, zG3, zG4, zG5, zG6, zG7, zG8, zNn, c1, d1, r1, q1, or_true, true_or, if_true, if_false, Option.bind_some, Option.toList_some, Option.toList_none, List.nil_append, List.cons_append]
theorem N_call {sp : Nat × (Nat → Int32)} {M0 M : zM} {S : yS} {n t : Nat} {p q : Int32} (h : RC M0 M S) (hK : yK n t S) (hn : n < 2043) : zOk sp M0 M 11 [.ref 0, .int p, .int q, .double 0, .double 0] (oCall S p q) := by
  obtain ⟨k1, k2, k3, k4, k5, k6, k7⟩ := RC_0 h
  have i1 := @N_is sp M p
  have i2 := @N_is sp M q
  unfold oCall
  cases hp : yT p
  · rw [if_neg (fun z => by cases z.1)]
    rw [hp] at i1
    refine ⟨M, ?_, h⟩
    simp only [e11_0, e11_1, e11_4, e11_7, e11_8, e11_11, e11_14, e11_15, e11_16, e11_19, e11_20, e11_23, e11_24, e11_25, e11_26, e11_27, e11_30, e11_33, e11_34, i1, zyb0, or_true, true_or, if_true, if_false, Option.bind_some, Option.toList_some, Option.toList_none, List.nil_append, List.cons_append]
  · rw [hp] at i1
    cases hq : yT q
    · rw [if_neg (fun z => by cases z.2)]
      rw [hq] at i2
      refine ⟨M, ?_, h⟩
      simp only [e11_0, e11_1, e11_4, e11_7, e11_8, e11_11, e11_14, e11_15, e11_16, e11_19, e11_20, e11_23, e11_24, e11_25, e11_26, e11_27, e11_30, e11_33, e11_34, i1, i2, zyb0, zyb1, or_true, true_or, if_true, if_false, Option.bind_some, Option.toList_some, Option.toList_none, List.nil_append, List.cons_append]
    · rw [hq] at i2
      rw [if_pos ⟨rfl, rfl⟩]
      obtain ⟨p', hp', rfl⟩ := yT_k hp
      obtain ⟨q', hq', rfl⟩ := yT_k hq
      rw [nI_clamp (by omega), nI_clamp (by omega)]
      unfold aCall
      by_cases hpq : p' = q'
      · rw [if_pos (Or.inl hpq)]
        have p1 : (nI p' = nI q') = True := eq_true (by rw [hpq])
        refine ⟨M, ?_, h⟩
        simp only [e11_0, e11_1, e11_4, e11_7, e11_8, e11_11, e11_14, e11_15, e11_16, e11_19, e11_20, e11_23, e11_24, e11_25, e11_26, e11_27, e11_30, e11_33, e11_34, i1, i2, zyb1, p1, or_true, true_or, if_true, if_false, Option.bind_some, Option.toList_some, Option.toList_none, List.nil_append, List.cons_append]
      · have p1 : (nI p' = nI q') = False := eq_false (fun z => hpq ((nI_eq (by omega) (by omega)).mp z))
        have ix : 2 * nI p' = nI (2 * p') := pk_mul 2 p'
        have p3 : zin (nI (2 * p')) 10 = true := zin_nI (by omega) (by decide)
        have p4 : (nI (2 * p')).toNatClampNeg = 2 * p' := nI_clamp (by omega)
        have kr := k6 (2 * p') (by omega)
        have j1 := (RC_e h (show 2 * p' < 10 by omega)).1
        have hE := (h.2.1 (2 * p') (by omega)).2.1
        cases hu : yu S (2 * p')
        · rw [if_pos (Or.inr rfl)]
          rw [hu] at hE
          refine ⟨M, ?_, h⟩
          simp only [e11_0, e11_1, e11_4, e11_7, e11_8, e11_11, e11_14, e11_15, e11_16, e11_19, e11_20, e11_23, e11_24, e11_25, e11_26, e11_27, e11_30, e11_33, e11_34, zG1, zG2, zG3, zG4, zG5, zG6, zG7, zG8, zNn, i1, i2, zyb1, zyb0, p1, k1, k2, k3, ix, p3, p4, kr, zG11, j1, hE, or_true, true_or, if_true, if_false, Option.bind_some, Option.toList_some, Option.toList_none, List.nil_append, List.cons_append]
        · rw [if_neg (fun z => z.elim hpq (fun z => by cases z))]
          rw [hu] at hE
          have st : zV (zPr sp) (11, 0, [.ref 0, .int (nI p'), .int (nI q'), .double 0, .double 0], [], M) = zV (zPr sp) (11, 37, [.ref 0, .int (nI p'), .int (nI q'), .int 3, .double 0], [], M) := by
            simp only [e11_0, e11_1, e11_4, e11_7, e11_8, e11_11, e11_14, e11_15, e11_16, e11_19, e11_20, e11_23, e11_24, e11_25, e11_26, e11_27, e11_30, e11_33, e11_34, e11_35, e11_36, zG1, zG2, zG3, zG4, zG5, zG6, zG7, zG8, zNn, i1, i2, zyb1, p1, k1, k2, k3, ix, p3, p4, kr, zG11, j1, hE, or_true, true_or, if_true, if_false, Option.bind_some, Option.toList_some, Option.toList_none, List.nil_append, List.cons_append]
          have s2 : zV (zPr sp) (11, 37, [.ref 0, .int (nI p'), .int (nI q'), .int 3, .double 0], [], M) = _ := N_cs (sp := sp) (c := 2) (v2 := .int (nI q')) (v4 := .double 0) h hK.2.1 hp' (by decide)
          have s1 := fun v4 => N_cs (sp := sp) (c := 1) (v2 := .int (nI q')) (v4 := v4) h hK.2.1 hp' (by decide)
          have s0 := fun v4 => N_cs (sp := sp) (c := 0) (v2 := .int (nI q')) (v4 := v4) h hK.2.1 hp' (by decide)
          have fin : ∀ v4, zV (zPr sp) (11, 37, [.ref 0, .int (nI p'), .int (nI q'), .int (nI 0), v4], [], M) = some (some (.int (-1)), M) := by
            intro v4
            have p5 : (nI 0 < 1) = True := by decide
            simp only [e11_37, e11_38, e11_39, e11_86, e11_87, p5, if_true]
          have hsw : ∀ c, c < 3 → ysw ((3 * (2 * p') + c) / 3) = false := (by decide +kernel : ∀ p', p' < 4 → ∀ c, c < 3 → ysw ((3 * (2 * p') + c) / 3) = false) p' hp'
          have m3 : ∀ c, c < 3 → (3 * (2 * p') + c) % 3 + 1 = c + 1 := fun c hc => by omega
          unfold zOk
          have hfr : yFree S (2 * p') = if yn S 5 (3 * (2 * p') + 2) = 0 then some (3 * (2 * p') + 2) else if yn S 5 (3 * (2 * p') + 1) = 0 then some (3 * (2 * p') + 1) else if yn S 5 (3 * (2 * p') + 0) = 0 then some (3 * (2 * p') + 0) else none := by
            unfold yFree
            rw [if_pos (show 2 * p' % 2 = 0 by omega)]
            rfl
          rw [st, s2, hfr]
          by_cases h2 : yn S 5 (3 * (2 * p') + 2) = 0
          · rw [if_pos h2, if_pos h2]
            dsimp only
            rw [m3 2 (by decide)]
            exact N_cf h hK hn hp' hq' (by omega) (hsw 2 (by decide))
          · rw [if_neg h2, if_neg h2, s1]
            by_cases h1 : yn S 5 (3 * (2 * p') + 1) = 0
            · rw [if_pos h1, if_pos h1]
              dsimp only
              rw [m3 1 (by decide)]
              exact N_cf h hK hn hp' hq' (by omega) (hsw 1 (by decide))
            · rw [if_neg h1, if_neg h1, s0]
              by_cases h0 : yn S 5 (3 * (2 * p') + 0) = 0
              · rw [if_pos h0, if_pos h0]
                dsimp only
                rw [m3 0 (by decide)]
                exact N_cf h hK hn hp' hq' (by omega) (hsw 0 (by decide))
              · rw [if_neg h0, if_neg h0, fin]
                exact ⟨M, rfl, h⟩
