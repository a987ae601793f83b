/-! The reference's packets: one list for all ends. -/
theorem yRow_cons {x : Nat × yP} {xs : List (Nat × yP)} {e : Nat} : yRow (x :: xs) e = if x.1 = e then x.2 :: yRow xs e else yRow xs e := by
  unfold yRow
  by_cases h : x.1 = e
  · rw [if_pos h, List.filter_cons_of_pos (by simp [h])]; rfl
  · rw [if_neg h, List.filter_cons_of_neg (by simp [h])]
theorem yRow_app {xs ys : List (Nat × yP)} {e : Nat} : yRow (xs ++ ys) e = yRow xs e ++ yRow ys e := by
  unfold yRow
  rw [List.filter_append, List.map_append]
theorem yRow_len {pl : List (Nat × yP)} : (∀ x ∈ pl, x.1 < 10) → pl.length = ysum (fun e => (yRow pl e).length) 10 := by
  induction pl with
  | nil => intro _; rfl
  | cons x xs ih =>
    intro h
    have h1 := ih (fun y hy => h y (List.mem_cons_of_mem _ hy))
    have h2 := ysum_one (f := fun e => (yRow xs e).length) (g := fun e => (yRow (x :: xs) e).length) (q := x.1) (n := 10) (h x List.mem_cons_self) (fun i hi => by
      show (yRow (x :: xs) i).length = (yRow xs i).length
      rw [yRow_cons, if_neg (fun z => hi z.symm)])
    have h3 : (yRow (x :: xs) x.1).length = (yRow xs x.1).length + 1 := by rw [yRow_cons, if_pos rfl]; rfl
    rw [List.length_cons]
    try dsimp only at h2
    omega
theorem RR_pl {M0 M : zM} {S : yS} {n t : Nat} (h : RR M0 M S) (hK : yK n t S) : ∃ pl, yPl M pl ∧ (∀ e, e < 10 → yr S e = yRow pl e) ∧ pl.length ≤ n := by
  obtain ⟨pl, g1, g2⟩ := h.2.2.2.2.2.2
  refine ⟨pl, g1, g2, ?_⟩
  have h1 := yRow_len (pl := pl) (fun x hx => by
    obtain ⟨i, hi, hxi⟩ := List.getElem_of_mem hx
    exact (g1.2 i x (by rw [← hxi]; exact List.getElem?_eq_getElem hi)).1)
  have h2 : ysum (fun e => (yRow pl e).length) 10 = ysum (fun e => (yr S e).length) 10 := ysum_congr (fun e he => by rw [g2 e he])
  have h3 := hK.2.2.2
  unfold yΦ at h3
  omega
theorem gE {α : Type} {l : List α} {i : Nat} (h : i < l.length) : l[i]? = some l[i] := List.getElem?_eq_getElem h
theorem R_lenL {sp : Nat × (Nat → Int32)} {M0 M : zM} {pl : List (Nat × yP)} {e : Nat} (B : RB M0) (hs : RSt M0 M) (hp : yPl M pl) (hl : pl.length ≤ 1600) (he : e < 10) : ∀ (m i c : Nat), i + m = pl.length → zV (zPr sp) (86, 4, [.ref 119, .int (nI e), .int (nI c), .int (nI i)], [], M) = some (some (.int (nI (c + (yRow (pl.drop i) e).length))), M) := by
  obtain ⟨-, -, s3, s4, -⟩ := hs
  intro m
  induction m with
  | zero =>
    intro i c hi
    have hi : i = pl.length := by omega
    subst hi
    rw [List.drop_length]
    have p1 : (nI pl.length < nI pl.length) = False := eq_false (nI_nlt (Nat.le_refl _) (by omega))
    have e0 : c + (yRow [] e).length = c := rfl
    rw [e0]
    simp only [e86_4, e86_5, e86_6, e86_9, e86_36, e86_37, zG1, zG2, zG3, zG4, zG5, zG6, zG7, zG8, zNn, s3, s4, bk119 B, bk120 B, bk121 B, bk122 B, bk123 B, bk124 B, bk125 B, bk126 B, bk127 B, bk128 B, bk129 B, bk130 B, bk131 B, bk132 B, bk133 B, bk134 B, bk135 B, bk136 B, bk137 B, bk138 B, bk139 B, bk140 B, bk141 B, bk142 B, br1 B, br2 B, br3 B, br4 B, br5 B, br6 B, br7 B, br8 B, br9 B, br10 B, br11 B, br12 B, br13 B, br14 B, br15 B, br16 B, br17 B, br18 B, br19 B, br20 B, br21 B, br22 B, br23 B, hp.1, p1, or_true, true_or, if_true, if_false, Option.bind_some, Option.toList_some, Option.toList_none, List.nil_append, List.cons_append]
  | succ m ih =>
    intro i c hi
    have hil : i < pl.length := by omega
    have p1 : (nI i < nI pl.length) = True := eq_true (nI_lt hil (by omega))
    have p2 : zin (nI i) 1600 = true := zin_nI (by omega) (by decide)
    have p3 : (nI i).toNatClampNeg = i := nI_clamp (by omega)
    obtain ⟨g1, g2, -⟩ := hp.2 i _ (gE hil)
    rw [List.drop_eq_getElem_cons hil, yRow_cons]
    by_cases hq : pl[i].1 = e
    · rw [if_pos hq]
      have p4 : (nI pl[i].1 = nI e) = True := eq_true (by rw [hq])
      have := ih (i + 1) (c + 1) (by omega)
      rw [show c + (pl[i].2 :: yRow (pl.drop (i + 1)) e).length = c + 1 + (yRow (pl.drop (i + 1)) e).length by rw [List.length_cons]; omega, ← this]
      refine Eq.trans ?_ e86_33
      simp only [e86_4, e86_5, e86_6, e86_9, e86_12, e86_13, e86_14, e86_17, e86_18, e86_19, e86_20, e86_23, e86_24, e86_27, e86_28, e86_29, e86_30, zG1, zG2, zG3, zG4, zG5, zG6, zG7, zG8, zNn, s3, s4, bk119 B, bk120 B, bk121 B, bk122 B, bk123 B, bk124 B, bk125 B, bk126 B, bk127 B, bk128 B, bk129 B, bk130 B, bk131 B, bk132 B, bk133 B, bk134 B, bk135 B, bk136 B, bk137 B, bk138 B, bk139 B, bk140 B, bk141 B, bk142 B, br1 B, br2 B, br3 B, br4 B, br5 B, br6 B, br7 B, br8 B, br9 B, br10 B, br11 B, br12 B, br13 B, br14 B, br15 B, br16 B, br17 B, br18 B, br19 B, br20 B, br21 B, br22 B, br23 B, hp.1, p1, p2, p3, g2, p4, nI_1, or_true, true_or, if_true, if_false, Option.bind_some, Option.toList_some, Option.toList_none, List.nil_append, List.cons_append]
    · rw [if_neg hq]
      have p4 : (nI pl[i].1 = nI e) = False := eq_false (fun z => hq ((nI_eq (by omega) (by omega)).mp z))
      have := ih (i + 1) c (by omega)
      rw [← this]
      refine Eq.trans ?_ e86_33
      have a0 : nI c + 0 = nI c := Int32.add_zero _
      simp only [e86_4, e86_5, e86_6, e86_9, e86_12, e86_13, e86_14, e86_17, e86_18, e86_19, e86_20, e86_23, e86_24, e86_27, e86_28, e86_29, e86_30, zG1, zG2, zG3, zG4, zG5, zG6, zG7, zG8, zNn, s3, s4, bk119 B, bk120 B, bk121 B, bk122 B, bk123 B, bk124 B, bk125 B, bk126 B, bk127 B, bk128 B, bk129 B, bk130 B, bk131 B, bk132 B, bk133 B, bk134 B, bk135 B, bk136 B, bk137 B, bk138 B, bk139 B, bk140 B, bk141 B, bk142 B, br1 B, br2 B, br3 B, br4 B, br5 B, br6 B, br7 B, br8 B, br9 B, br10 B, br11 B, br12 B, br13 B, br14 B, br15 B, br16 B, br17 B, br18 B, br19 B, br20 B, br21 B, br22 B, br23 B, hp.1, p1, p2, p3, g2, p4, nI_1, a0, or_true, true_or, if_true, if_false, Option.bind_some, Option.toList_some, Option.toList_none, List.nil_append, List.cons_append]
theorem R_len {sp : Nat × (Nat → Int32)} {M0 M : zM} {pl : List (Nat × yP)} {e : Nat} (B : RB M0) (hs : RSt M0 M) (hp : yPl M pl) (hl : pl.length ≤ 1600) (he : e < 10) : zV (zPr sp) (86, 0, [.ref 119, .int (nI e), .double 0, .double 0], [], M) = some (some (.int (nI (yRow pl e).length)), M) := by
  have := R_lenL (sp := sp) B hs hp hl he pl.length 0 0 (by omega)
  rw [List.drop_zero, Nat.zero_add] at this
  rw [← this]
  simp only [e86_0, e86_1, e86_2, e86_3]
  rfl
theorem R_pkL {sp : Nat × (Nat → Int32)} {M0 M : zM} {pl : List (Nat × yP)} {e : Nat} {v2 : Value} (B : RB M0) (hs : RSt M0 M) (hp : yPl M pl) (hl : pl.length ≤ 1600) (he : e < 10) : ∀ (m i l : Nat), i + m = pl.length → l < (yRow (pl.drop i) e).length → ∃ idx, zV (zPr sp) (88, 5, [.ref 119, .int (nI e), v2, .int (nI l), .int (nI i)], [], M) = some (some (.int (nI idx)), M) ∧ pl[idx]? = some (e, (yRow (pl.drop i) e).getD l (0, 0, 0, 0)) := by
  obtain ⟨-, -, s3, s4, -⟩ := hs
  intro m
  induction m with
  | zero =>
    intro i l hi hll
    have hi : i = pl.length := by omega
    subst hi
    rw [List.drop_length] at hll
    exact absurd hll (Nat.not_lt_zero _)
  | succ m ih =>
    intro i l hi hll
    have hil : i < pl.length := by omega
    have p1 : (nI i < nI pl.length) = True := eq_true (nI_lt hil (by omega))
    have p2 : zin (nI i) 1600 = true := zin_nI (by omega) (by decide)
    have p3 : (nI i).toNatClampNeg = i := nI_clamp (by omega)
    obtain ⟨g1, g2, -⟩ := hp.2 i _ (gE hil)
    rw [List.drop_eq_getElem_cons hil, yRow_cons] at hll ⊢
    have hlr : (yRow (pl.drop (i + 1)) e).length ≤ pl.length := by
      unfold yRow
      rw [List.length_map]
      refine Nat.le_trans (List.length_filter_le _ _) ?_
      rw [List.length_drop]
      omega
    by_cases hq : pl[i].1 = e
    · rw [if_pos hq] at hll ⊢
      have p4 : (nI pl[i].1 = nI e) = True := eq_true (by rw [hq])
      rw [List.length_cons] at hll
      cases l with
      | zero =>
        have p5 : (nI 0 = 0) = True := by decide
        refine ⟨i, ?_, ?_⟩
        · simp only [e88_5, e88_7, e88_8, e88_11, e88_14, e88_15, e88_18, e88_20, e88_21, e88_22, e88_25, e88_26, e88_29, e88_31, zG1, zG2, zG3, zG4, zG5, zG6, zG7, zG8, zNn, s3, s4, bk119 B, bk120 B, bk121 B, bk122 B, bk123 B, bk124 B, bk125 B, bk126 B, bk127 B, bk128 B, bk129 B, bk130 B, bk131 B, bk132 B, bk133 B, bk134 B, bk135 B, bk136 B, bk137 B, bk138 B, bk139 B, bk140 B, bk141 B, bk142 B, br1 B, br2 B, br3 B, br4 B, br5 B, br6 B, br7 B, br8 B, br9 B, br10 B, br11 B, br12 B, br13 B, br14 B, br15 B, br16 B, br17 B, br18 B, br19 B, br20 B, br21 B, br22 B, br23 B, hp.1, p1, p2, p3, g2, p4, p5, or_true, true_or, if_true, if_false, Option.bind_some, Option.toList_some, Option.toList_none, List.nil_append, List.cons_append]
        · rw [gE hil]
          exact congrArg some (Prod.ext hq rfl)
      | succ l =>
        have p5 : (nI (l + 1) = 0) = False := eq_false (nI_ne0 (by omega) (by omega))
        obtain ⟨idx, r1, r2⟩ := ih (i + 1) l (by omega) (by omega)
        refine ⟨idx, ?_, r2⟩
        rw [← r1]
        refine Eq.trans ?_ e88_38
        have hm : nI (l + 1) + -1 = nI l := pk_m1 l
        simp only [e88_5, e88_7, e88_8, e88_11, e88_14, e88_15, e88_18, e88_20, e88_21, e88_22, e88_25, e88_26, e88_29, e88_31, e88_32, e88_35, zG1, zG2, zG3, zG4, zG5, zG6, zG7, zG8, zNn, s3, s4, bk119 B, bk120 B, bk121 B, bk122 B, bk123 B, bk124 B, bk125 B, bk126 B, bk127 B, bk128 B, bk129 B, bk130 B, bk131 B, bk132 B, bk133 B, bk134 B, bk135 B, bk136 B, bk137 B, bk138 B, bk139 B, bk140 B, bk141 B, bk142 B, br1 B, br2 B, br3 B, br4 B, br5 B, br6 B, br7 B, br8 B, br9 B, br10 B, br11 B, br12 B, br13 B, br14 B, br15 B, br16 B, br17 B, br18 B, br19 B, br20 B, br21 B, br22 B, br23 B, hp.1, p1, p2, p3, g2, p4, p5, hm, nI_1, or_true, true_or, if_true, if_false, Option.bind_some, Option.toList_some, Option.toList_none, List.nil_append, List.cons_append]
    · rw [if_neg hq] at hll ⊢
      have p4 : (nI pl[i].1 = nI e) = False := eq_false (fun z => hq ((nI_eq (by omega) (by omega)).mp z))
      obtain ⟨idx, r1, r2⟩ := ih (i + 1) l (by omega) hll
      refine ⟨idx, ?_, r2⟩
      rw [← r1]
      refine Eq.trans ?_ e88_38
      simp only [e88_5, e88_7, e88_8, e88_11, e88_14, e88_15, e88_18, e88_20, e88_21, e88_22, e88_25, e88_26, e88_29, e88_31, e88_32, e88_35, zG1, zG2, zG3, zG4, zG5, zG6, zG7, zG8, zNn, s3, s4, bk119 B, bk120 B, bk121 B, bk122 B, bk123 B, bk124 B, bk125 B, bk126 B, bk127 B, bk128 B, bk129 B, bk130 B, bk131 B, bk132 B, bk133 B, bk134 B, bk135 B, bk136 B, bk137 B, bk138 B, bk139 B, bk140 B, bk141 B, bk142 B, br1 B, br2 B, br3 B, br4 B, br5 B, br6 B, br7 B, br8 B, br9 B, br10 B, br11 B, br12 B, br13 B, br14 B, br15 B, br16 B, br17 B, br18 B, br19 B, br20 B, br21 B, br22 B, br23 B, hp.1, p1, p2, p3, g2, p4, nI_1, or_true, true_or, if_true, if_false, Option.bind_some, Option.toList_some, Option.toList_none, List.nil_append, List.cons_append]
theorem R_pk {sp : Nat × (Nat → Int32)} {M0 M : zM} {pl : List (Nat × yP)} {e l : Nat} (B : RB M0) (hs : RSt M0 M) (hp : yPl M pl) (hl : pl.length ≤ 1600) (he : e < 10) (hll : l < (yRow pl e).length) : ∃ idx, zV (zPr sp) (88, 0, [.ref 119, .int (nI e), .int (nI l), .double 0, .double 0], [], M) = some (some (.int (nI idx)), M) ∧ pl[idx]? = some (e, (yRow pl e).getD l (0, 0, 0, 0)) := by
  obtain ⟨idx, r1, r2⟩ := R_pkL (sp := sp) (v2 := .int (nI l)) B hs hp hl he pl.length 0 l (by omega) (by rw [List.drop_zero]; exact hll)
  rw [List.drop_zero] at r2
  refine ⟨idx, ?_, r2⟩
  rw [← r1]
  simp only [e88_0, e88_1, e88_2, e88_3]
  rfl
/-- what a place holds -/
def yAt (M : zM) (i : Nat) (x : Nat × yP) : Prop := zi M 120 i = nI x.1 ∧ zi M 121 i = nI x.2.1 ∧ zi M 122 i = nI x.2.2.1 ∧ zi M 123 i = nI x.2.2.2.1 ∧ zi M 124 i = nI x.2.2.2.2
def yS5 (M : zM) (i : Nat) (x : Nat × yP) : zM := zwi (zwi (zwi (zwi (zwi M 120 i (nI x.1)) 121 i (nI x.2.1)) 122 i (nI x.2.2.1)) 123 i (nI x.2.2.2.1)) 124 i (nI x.2.2.2.2)
theorem yS5_at {M : zM} {i : Nat} {x : Nat × yP} : yAt (yS5 M i x) i x := by
  unfold yAt yS5
  refine ⟨?_, ?_, ?_, ?_, ?_⟩
  · rw [zi_ne (by decide), zi_ne (by decide), zi_ne (by decide), zi_ne (by decide), zi_eq]
  · rw [zi_ne (by decide), zi_ne (by decide), zi_ne (by decide), zi_eq]
  · rw [zi_ne (by decide), zi_ne (by decide), zi_eq]
  · rw [zi_ne (by decide), zi_eq]
  · rw [zi_eq]
theorem yS5_o {M : zM} {i a j : Nat} {x : Nat × yP} (h : j ≠ i ∨ a < 120 ∨ 125 ≤ a) : zi (yS5 M i x) a j = zi M a j := by
  have key : ∀ {M' : zM} {a' : Nat} {v : Int32}, 120 ≤ a' → a' ≤ 124 → zi (zwi M' a' i v) a j = zi M' a j := by
    intro M' a' v h1 h2
    rw [zi_wi, if_neg (fun z => by omega)]
  unfold yS5
  rw [key (by decide) (by decide), key (by decide) (by decide), key (by decide) (by decide), key (by decide) (by decide), key (by decide) (by decide)]
theorem yAt_o {M : zM} {i j : Nat} {x y : Nat × yP} (h : yAt M j y) (hj : j ≠ i) : yAt (yS5 M i x) j y := by
  obtain ⟨h1, h2, h3, h4, h5⟩ := h
  exact ⟨by rw [yS5_o (Or.inl hj)]; exact h1, by rw [yS5_o (Or.inl hj)]; exact h2, by rw [yS5_o (Or.inl hj)]; exact h3, by rw [yS5_o (Or.inl hj)]; exact h4, by rw [yS5_o (Or.inl hj)]; exact h5⟩
theorem RSt_5 {M0 M : zM} {i : Nat} {x : Nat × yP} (h : RSt M0 M) : RSt M0 (yS5 M i x) := RSt_wi (RSt_wi (RSt_wi (RSt_wi (RSt_wi h (by omega) (by omega)) (by omega) (by omega)) (by omega) (by omega)) (by omega) (by omega)) (by omega) (by omega)
def yRem (e : Nat) : Nat → List (Nat × yP) → List (Nat × yP)
  | _, [] => []
  | n, x :: xs => if x.1 = e ∧ 0 < n then yRem e (n - 1) xs else x :: yRem e n xs
theorem yRow_rem {e : Nat} : ∀ (pl : List (Nat × yP)) (n : Nat), yRow (yRem e n pl) e = (yRow pl e).drop n ∧ ∀ e', e' ≠ e → yRow (yRem e n pl) e' = yRow pl e' := by
  intro pl
  induction pl with
  | nil => intro n; exact ⟨by show yRow [] e = (yRow [] e).drop n; show [] = List.drop n []; rw [List.drop_nil], fun _ _ => rfl⟩
  | cons x xs ih =>
    intro n
    have hdef : yRem e n (x :: xs) = if x.1 = e ∧ 0 < n then yRem e (n - 1) xs else x :: yRem e n xs := by cases n <;> rfl
    rw [hdef]
    by_cases hc : x.1 = e ∧ 0 < n
    · rw [if_pos hc]
      obtain ⟨i1, i2⟩ := ih (n - 1)
      refine ⟨?_, fun e' he' => ?_⟩
      · rw [i1, yRow_cons, if_pos hc.1]
        obtain ⟨m, hm⟩ : ∃ m, n = m + 1 := ⟨n - 1, by omega⟩
        subst hm
        rfl
      · rw [i2 e' he', yRow_cons, if_neg (fun z => he' (z.symm.trans hc.1))]
    · rw [if_neg hc]
      obtain ⟨i1, i2⟩ := ih n
      refine ⟨?_, fun e' he' => ?_⟩
      · rw [yRow_cons, yRow_cons]
        by_cases hq : x.1 = e
        · have hn : n = 0 := by
            refine Classical.byContradiction fun z => hc ⟨hq, by omega⟩
          subst hn
          rw [if_pos hq, if_pos hq, i1]; rfl
        · rw [if_neg hq, if_neg hq, i1]
      · rw [yRow_cons, yRow_cons, i2 e' he']
theorem R_remL {sp : Nat × (Nat → Int32)} {M0 : zM} {pl : List (Nat × yP)} {e n : Nat} (B : RB M0) (hl : pl.length ≤ 1600) (he : e < 10) (hn : n < 2 ^ 31) : ∀ (m k g : Nat) (out : List (Nat × yP)) (M : zM), k + m = pl.length → out.length ≤ k → g ≤ n → RSt M0 M → zi M 119 0 = nI pl.length → (∀ i x, out[i]? = some x → x.1 < 10 ∧ yAt M i x) → (∀ i x, k ≤ i → pl[i]? = some x → x.1 < 10 ∧ yAt M i x) → ∃ M', zV (zPr sp) (79, 8, [.ref 119, .int (nI e), .int (nI n), .int (nI g), .int (nI out.length), .int (nI k)], [], M) = some (none, M') ∧ RSt M0 M' ∧ (∀ a j, 125 ≤ a → zi M' a j = zi M a j) ∧ yPl M' (out ++ yRem e (n - g) (pl.drop k)) := by
  intro m
  induction m with
  | zero =>
    intro k g out M hk hok hg hs hz ho hp
    have hs' := hs
    obtain ⟨-, -, s3, s4, -⟩ := hs
    have hk : k = pl.length := by omega
    subst hk
    rw [List.drop_length]
    have p1 : (nI pl.length < nI pl.length) = False := eq_false (nI_nlt (Nat.le_refl _) (by omega))
    refine ⟨zwi M 119 0 (nI out.length), ?_, RSt_wi hs' (by omega) (by omega), fun a j ha => zi_ne (by omega), ?_⟩
    · simp only [e79_8, e79_10, e79_11, e79_14, e79_118, e79_119, e79_121, e79_124, zG1, zG2, zG3, zG4, zG5, zG6, zG7, zG8, zNn, s3, s4, bk119 B, bk120 B, bk121 B, bk122 B, bk123 B, bk124 B, bk125 B, bk126 B, bk127 B, bk128 B, bk129 B, bk130 B, bk131 B, bk132 B, bk133 B, bk134 B, bk135 B, bk136 B, bk137 B, bk138 B, bk139 B, bk140 B, bk141 B, bk142 B, br1 B, br2 B, br3 B, br4 B, br5 B, br6 B, br7 B, br8 B, br9 B, br10 B, br11 B, br12 B, br13 B, br14 B, br15 B, br16 B, br17 B, br18 B, br19 B, br20 B, br21 B, br22 B, br23 B, hz, p1, or_true, true_or, if_true, if_false, Option.bind_some, Option.toList_some, Option.toList_none, List.nil_append, List.cons_append]
    · have e0 : out ++ yRem e (n - g) [] = out := by
        have : yRem e (n - g) [] = [] := by cases n - g <;> rfl
        rw [this, List.append_nil]
      rw [e0]
      refine ⟨zi_eq, fun i x hx => ?_⟩
      obtain ⟨o1, o2, o3, o4, o5, o6⟩ := ho i x hx
      exact ⟨o1, by rw [zi_ne (by decide)]; exact o2, by rw [zi_ne (by decide)]; exact o3, by rw [zi_ne (by decide)]; exact o4, by rw [zi_ne (by decide)]; exact o5, by rw [zi_ne (by decide)]; exact o6⟩
  | succ m ih =>
    intro k g out M hk hok hg hs hz ho hp
    have hs' := hs
    obtain ⟨-, -, s3, s4, -⟩ := hs
    have hil : k < pl.length := by omega
    have p1 : (nI k < nI pl.length) = True := eq_true (nI_lt hil (by omega))
    have p2 : zin (nI k) 1600 = true := zin_nI (by omega) (by decide)
    have p3 : (nI k).toNatClampNeg = k := nI_clamp (by omega)
    have p2' : zin (nI out.length) 1600 = true := zin_nI (by omega) (by decide)
    have p3' : (nI out.length).toNatClampNeg = out.length := nI_clamp (by omega)
    have hx := hp k _ (Nat.le_refl _) (gE hil)
    obtain ⟨g1, g2, g3, g4, g5, g6⟩ := hx
    rw [List.drop_eq_getElem_cons hil]
    have hdef : yRem e (n - g) (pl[k] :: pl.drop (k + 1)) = if pl[k].1 = e ∧ 0 < n - g then yRem e (n - g - 1) (pl.drop (k + 1)) else pl[k] :: yRem e (n - g) (pl.drop (k + 1)) := by cases n - g <;> rfl
    rw [hdef]
    by_cases hc : pl[k].1 = e ∧ 0 < n - g
    · rw [if_pos hc]
      have p4 : (nI pl[k].1 = nI e) = True := eq_true (by rw [hc.1])
      have p5 : (nI g < nI n) = True := eq_true (nI_lt (by omega) hn)
      obtain ⟨M', r1, r2, r3, r4⟩ := ih (k + 1) (g + 1) out M (by omega) (by omega) (by omega) hs' hz ho (fun i x hi hx => hp i x (by omega) hx)
      refine ⟨M', ?_, r2, r3, by rw [show n - g - 1 = n - (g + 1) by omega]; exact r4⟩
      rw [← r1]
      refine Eq.trans ?_ e79_115
      simp only [e79_8, e79_10, e79_11, e79_14, e79_17, e79_18, e79_21, e79_23, e79_24, e79_25, e79_28, e79_29, e79_30, e79_33, e79_36, e79_112, zG1, zG2, zG3, zG4, zG5, zG6, zG7, zG8, zNn, s3, s4, bk119 B, bk120 B, bk121 B, bk122 B, bk123 B, bk124 B, bk125 B, bk126 B, bk127 B, bk128 B, bk129 B, bk130 B, bk131 B, bk132 B, bk133 B, bk134 B, bk135 B, bk136 B, bk137 B, bk138 B, bk139 B, bk140 B, bk141 B, bk142 B, br1 B, br2 B, br3 B, br4 B, br5 B, br6 B, br7 B, br8 B, br9 B, br10 B, br11 B, br12 B, br13 B, br14 B, br15 B, br16 B, br17 B, br18 B, br19 B, br20 B, br21 B, br22 B, br23 B, hz, p1, p2, p3, g2, p4, p5, nI_1, or_true, true_or, if_true, if_false, Option.bind_some, Option.toList_some, Option.toList_none, List.nil_append, List.cons_append]
    · rw [if_neg hc]
      have ho' : ∀ i x, (out ++ [pl[k]])[i]? = some x → x.1 < 10 ∧ yAt (yS5 M out.length pl[k]) i x := by
        intro i x hx
        by_cases hi : i < out.length
        · rw [List.getElem?_append_left hi] at hx
          exact ⟨(ho i x hx).1, yAt_o (ho i x hx).2 (by omega)⟩
        · rw [List.getElem?_append_right (by omega)] at hx
          have hi0 : i - out.length = 0 := by
            refine Classical.byContradiction fun z => ?_
            have : ([pl[k]] : List (Nat × yP))[i - out.length]? = none := List.getElem?_eq_none (by simp; omega)
            rw [this] at hx
            cases hx
          rw [hi0] at hx
          have hi' : i = out.length := by omega
          subst hi'
          have hx : some pl[k] = some x := hx
          rw [← Option.some.inj hx]
          exact ⟨g1, yS5_at⟩
      have hp' : ∀ i x, k + 1 ≤ i → pl[i]? = some x → x.1 < 10 ∧ yAt (yS5 M out.length pl[k]) i x := fun i x hi hx => ⟨(hp i x (by omega) hx).1, yAt_o (hp i x (by omega) hx).2 (by omega)⟩
      obtain ⟨M', r1, r2, r3, r4⟩ := ih (k + 1) g (out ++ [pl[k]]) (yS5 M out.length pl[k]) (by omega) (by rw [List.length_append]; show out.length + 1 ≤ k + 1; omega) hg (RSt_5 hs') (by rw [yS5_o (Or.inr (Or.inl (by decide)))]; exact hz) ho' hp'
      refine ⟨M', ?_, r2, fun a j ha => by rw [r3 a j ha, yS5_o (Or.inr (Or.inr ha))], by rw [List.append_assoc] at r4; exact r4⟩
      rw [← r1, List.length_append, show [pl[k]].length = 1 from rfl]
      refine Eq.trans ?_ e79_115
      unfold yS5
      by_cases hq : pl[k].1 = e
      · have p4 : (nI pl[k].1 = nI e) = True := eq_true (by rw [hq])
        have p5 : (nI g < nI n) = False := eq_false (nI_nlt (Nat.le_of_not_lt fun z => hc ⟨hq, by omega⟩) (by omega))
        simp only [e79_8, e79_10, e79_11, e79_14, e79_17, e79_18, e79_21, e79_23, e79_24, e79_25, e79_28, e79_29, e79_30, e79_33, e79_36, e79_39, e79_40, e79_43, e79_45, e79_46, e79_49, e79_51, e79_52, e79_53, e79_54, e79_57, e79_59, e79_60, e79_63, e79_65, e79_66, e79_67, e79_68, e79_71, e79_73, e79_74, e79_77, e79_79, e79_80, e79_81, e79_82, e79_85, e79_87, e79_88, e79_91, e79_93, e79_94, e79_95, e79_96, e79_99, e79_101, e79_102, e79_105, e79_107, e79_108, e79_109, e79_112, zG1, zG2, zG3, zG4, zG5, zG6, zG7, zG8, zNn, s3, s4, zk_wi, zr_wi, bk119 B, bk120 B, bk121 B, bk122 B, bk123 B, bk124 B, bk125 B, bk126 B, bk127 B, bk128 B, bk129 B, bk130 B, bk131 B, bk132 B, bk133 B, bk134 B, bk135 B, bk136 B, bk137 B, bk138 B, bk139 B, bk140 B, bk141 B, bk142 B, br1 B, br2 B, br3 B, br4 B, br5 B, br6 B, br7 B, br8 B, br9 B, br10 B, br11 B, br12 B, br13 B, br14 B, br15 B, br16 B, br17 B, br18 B, br19 B, br20 B, br21 B, br22 B, br23 B, hz, p1, p2, p3, p2', p3', zi_wi, Nat.reduceEqDiff, false_and, g2, g3, g4, g5, g6, p4, p5, nI_1, or_true, true_or, if_true, if_false, Option.bind_some, Option.toList_some, Option.toList_none, List.nil_append, List.cons_append]
      · have p4 : (nI pl[k].1 = nI e) = False := eq_false (fun z => hq ((nI_eq (by omega) (by omega)).mp z))
        simp only [e79_8, e79_10, e79_11, e79_14, e79_17, e79_18, e79_21, e79_23, e79_24, e79_25, e79_28, e79_29, e79_30, e79_33, e79_36, e79_39, e79_40, e79_43, e79_45, e79_46, e79_49, e79_51, e79_52, e79_53, e79_54, e79_57, e79_59, e79_60, e79_63, e79_65, e79_66, e79_67, e79_68, e79_71, e79_73, e79_74, e79_77, e79_79, e79_80, e79_81, e79_82, e79_85, e79_87, e79_88, e79_91, e79_93, e79_94, e79_95, e79_96, e79_99, e79_101, e79_102, e79_105, e79_107, e79_108, e79_109, e79_112, zG1, zG2, zG3, zG4, zG5, zG6, zG7, zG8, zNn, s3, s4, zk_wi, zr_wi, bk119 B, bk120 B, bk121 B, bk122 B, bk123 B, bk124 B, bk125 B, bk126 B, bk127 B, bk128 B, bk129 B, bk130 B, bk131 B, bk132 B, bk133 B, bk134 B, bk135 B, bk136 B, bk137 B, bk138 B, bk139 B, bk140 B, bk141 B, bk142 B, br1 B, br2 B, br3 B, br4 B, br5 B, br6 B, br7 B, br8 B, br9 B, br10 B, br11 B, br12 B, br13 B, br14 B, br15 B, br16 B, br17 B, br18 B, br19 B, br20 B, br21 B, br22 B, br23 B, hz, p1, p2, p3, p2', p3', zi_wi, Nat.reduceEqDiff, false_and, g2, g3, g4, g5, g6, p4, nI_1, or_true, true_or, if_true, if_false, Option.bind_some, Option.toList_some, Option.toList_none, List.nil_append, List.cons_append]
theorem R_rem {sp : Nat × (Nat → Int32)} {M0 M : zM} {S : yS} {e d n t : Nat} (h : RR M0 M S) (hK : yK n t S) (hn : n ≤ 1600) (he : e < 10) (hd : d < 2 ^ 31) : ∃ M', zV (zPr sp) (79, 0, [.ref 119, .int (nI e), .int (nI d), .double 0, .double 0, .double 0], [], M) = some (none, M') ∧ RR M0 M' (yrS S e ((yr S e).drop d)) := by
  obtain ⟨pl, g1, g2, g3⟩ := RR_pl h hK
  obtain ⟨h0, h1, h2, h3, h4, h5, -⟩ := h
  obtain ⟨M', r1, r2, r3, r4⟩ := R_remL (sp := sp) (e := e) (n := d) (pl := pl) h0 (by omega) he hd pl.length 0 0 [] M (by omega) (Nat.le_refl _) (Nat.zero_le _) h1 g1.1 (fun i x hx => by cases hx) (fun i x _ hx => g1.2 i x hx)
  rw [List.nil_append, Nat.sub_zero, List.drop_zero] at r4
  obtain ⟨w1, w2⟩ := yRow_rem (e := e) pl d
  refine ⟨M', ?_, h0, r2, h2.kept (fun a j ha _ => r3 a j (by omega)) (fun _ => rfl) (fun _ => rfl) (fun _ _ _ => rfl), h3.kept (fun a j ha _ => r3 a j (by omega)) (fun _ _ _ => rfl) (fun _ => rfl), h4.kept (fun a j ha _ => r3 a j (by omega)) (fun _ => rfl), h5.kept (fun a j ha _ => r3 a j (by omega)) (fun _ => rfl), yRem e d pl, r4, fun e' he' => ?_⟩
  · rw [← r1]
    simp only [e79_0, e79_1, e79_2, e79_3, e79_5, e79_6]
    rfl
  · rw [yr_r]
    by_cases hee : e' = e
    · subst hee; rw [if_pos rfl, w1, g2 e' he']
    · rw [if_neg hee, w2 e' hee]; exact g2 e' he'
