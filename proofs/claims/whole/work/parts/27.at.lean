/-! The class's own methods: which circuit, which end; a word of a wire. -/
theorem zNn {a : Nat} : ((some a : Option Nat) = none) = False := eq_false (by simp)
def yT (x : Int32) : Bool := decide (¬ x < 0 ∧ x < 4)
def yC (p c : Int32) : Option Nat := if yT p = true ∧ ¬ c < 1 ∧ ¬ 3 < c then some (6 * p.toNatClampNeg + (c.toNatClampNeg - 1)) else none
def yE (l e : Int32) : Option Nat := if (¬ l < 0 ∧ l < 5) ∧ ¬ e < 0 ∧ ¬ 1 < e then some (2 * l.toNatClampNeg + e.toNatClampNeg) else none
theorem nI_rg {x : Int32} {n : Nat} (hn : n < 2 ^ 31) (h1 : ¬ x < 0) (h2 : x < nI n) : ∃ j, j < n ∧ x = nI j := by
  rcases pk_ix x hn with h | h | h
  · exact absurd h h1
  · exact absurd h2 (Int32.not_lt.mpr h)
  · exact h
theorem nI_rl {x : Int32} {n : Nat} (hn : n + 1 < 2 ^ 31) (h1 : ¬ x < 0) (h2 : ¬ nI n < x) : ∃ j, j < n + 1 ∧ x = nI j := by
  obtain ⟨j, hj, hx⟩ := nI_of h1
  refine ⟨j, ?_, hx⟩
  refine Nat.lt_of_not_le fun z => h2 ?_
  rw [hx]
  exact nI_lt (by omega) hj
theorem yT_k {x : Int32} (h : yT x = true) : ∃ j, j < 4 ∧ x = nI j := by
  have h := of_decide_eq_true h
  exact nI_rg (n := 4) (by decide) h.1 h.2
theorem yT_nI {j : Nat} (h : j < 4) : yT (nI j) = true := decide_eq_true ⟨nI_pos (by omega), nI_lt (b := 4) h (by decide)⟩
theorem yC_some {p c : Int32} {k : Nat} (h : yC p c = some k) : ∃ p' c', p' < 4 ∧ c' < 3 ∧ p = nI p' ∧ c = nI (c' + 1) ∧ k = 6 * p' + c' := by
  unfold yC at h
  split at h
  · rename_i hc
    obtain ⟨p', hp, rfl⟩ := yT_k hc.1
    have hc0 : ¬ c < 0 := fun z => hc.2.1 (Int32.lt_trans z (by decide))
    obtain ⟨q, hq, rfl⟩ := nI_rl (n := 3) (by decide) hc0 hc.2.2
    have hq1 : q ≠ 0 := fun z => hc.2.1 (by rw [z]; decide)
    rw [nI_clamp (by omega), nI_clamp (by omega)] at h
    refine ⟨p', q - 1, hp, by omega, rfl, congrArg nI (by omega), ?_⟩
    have := Option.some.inj h
    omega
  · cases h
theorem yC_k {p c : Int32} {k : Nat} (h : yC p c = some k) : k < 30 ∧ ysw (k / 3) = false := by
  obtain ⟨p', c', hp, hc, -, -, rfl⟩ := yC_some h
  exact (by decide +kernel : ∀ p', p' < 4 → ∀ c', c' < 3 → 6 * p' + c' < 30 ∧ ysw ((6 * p' + c') / 3) = false) p' hp c' hc
theorem yE_some {l e : Int32} {k : Nat} (h : yE l e = some k) : ∃ l' e', l' < 5 ∧ e' < 2 ∧ l = nI l' ∧ e = nI e' ∧ k = 2 * l' + e' := by
  unfold yE at h
  split at h
  · rename_i hc
    obtain ⟨l', hl, rfl⟩ := nI_rg (n := 5) (by decide) hc.1.1 hc.1.2
    obtain ⟨e', he, rfl⟩ := nI_rl (n := 1) (by decide) hc.2.1 hc.2.2
    rw [nI_clamp (by omega), nI_clamp (by omega)] at h
    exact ⟨l', e', hl, he, rfl, rfl, (Option.some.inj h).symm⟩
  · cases h
theorem yE_k {l e : Int32} {k : Nat} (h : yE l e = some k) : k < 10 := by
  obtain ⟨l', e', hl, he, -, -, rfl⟩ := yE_some h
  omega
theorem N_is {sp : Nat × (Nat → Int32)} {M : zM} {x : Int32} : zV (zPr sp) (12, 0, [.int x], [], M) = some (some (.int (yb (yT x))), M) := by
  unfold yT
  by_cases h1 : x < 0
  · rw [decide_eq_false (fun z => z.1 h1)]
    have p1 := eq_true h1
    simp only [e12_0, e12_1, e12_4, e12_5, e12_6, e12_9, e12_10, e12_13, e12_14, p1, or_true, true_or, if_true, if_false, Option.bind_some, Option.toList_some, Option.toList_none, List.nil_append, List.cons_append]
    rfl
  · have p1 := eq_false h1
    by_cases h2 : x < 4
    · rw [decide_eq_true ⟨h1, h2⟩]
      have p2 := eq_true h2
      simp only [e12_0, e12_1, e12_4, e12_5, e12_6, e12_9, e12_10, e12_13, e12_14, p1, p2, or_true, true_or, if_true, if_false, Option.bind_some, Option.toList_some, Option.toList_none, List.nil_append, List.cons_append]
      rfl
    · rw [decide_eq_false (fun z => h2 z.2)]
      have p2 := eq_false h2
      simp only [e12_0, e12_1, e12_4, e12_5, e12_6, e12_9, e12_10, e12_13, e12_14, p1, p2, or_true, true_or, if_true, if_false, Option.bind_some, Option.toList_some, Option.toList_none, List.nil_append, List.cons_append]
      rfl
theorem zyb1 : (yb true = 0) = False := by decide
theorem zyb0 : (yb false = 0) = True := by decide
theorem N_at {sp : Nat × (Nat → Int32)} {M0 M : zM} {S : yS} {p c : Int32} (h : RC M0 M S) : zV (zPr sp) (13, 0, [.ref 0, .int p, .int c], [], M) = some (some (va_rf ((yC p c).map zCh)), M) := by
  obtain ⟨k1, k2, k3, k4, k5, k6, k7⟩ := RC_0 h
  have hi := @N_is sp M p
  cases hC : yC p c with
  | some k =>
    obtain ⟨p', c', hp, hc, rfl, rfl, rfl⟩ := yC_some hC
    rw [yT_nI hp] at hi
    have p1 : (nI (c' + 1) < 1) = False := eq_false (nI_nlt (b := 1) (by omega) (by omega))
    have p2 : (3 < nI (c' + 1)) = False := eq_false (nI_nlt (a := 3) (by omega) (by omega))
    have ix : 3 * nI p' + nI (c' + 1) - 1 = nI (3 * p' + c') := by
      have : (3 : Int32) = nI 3 := rfl
      rw [this, pk_mul, nI_add, show 3 * p' + (c' + 1) = 3 * p' + c' + 1 by omega]
      exact nI_pred _
    have p3 : zin (nI (3 * p' + c')) 12 = true := zin_nI (by omega) (by decide)
    have p4 : (nI (3 * p' + c')).toNatClampNeg = 3 * p' + c' := nI_clamp (by omega)
    have kr := k7 p' hp c' hc
    simp only [e13_0, e13_1, e13_4, e13_7, e13_8, e13_9, e13_12, e13_13, e13_14, e13_17, e13_18, e13_19, e13_20, e13_23, e13_24, e13_25, e13_26, e13_27, e13_28, e13_29, e13_30, e13_31, zG1, zG2, zG3, zG4, zG5, zG6, zG7, zG8, zNn, hi, zyb1, p1, p2, k1, k4, k5, ix, p3, p4, kr, zG12, or_true, true_or, if_true, if_false, Option.bind_some, Option.toList_some, Option.toList_none, List.nil_append, List.cons_append, Option.map_some]
  | none =>
    unfold yC at hC
    by_cases hp : yT p = true
    · rw [hp] at hi
      by_cases h1 : c < 1
      · have p1 := eq_true h1
        simp only [e13_0, e13_1, e13_4, e13_7, e13_8, e13_9, e13_12, e13_13, e13_14, e13_17, e13_18, e13_19, e13_20, e13_23, e13_24, e13_25, e13_26, e13_27, e13_28, e13_29, e13_30, e13_31, zG1, zG2, zG3, zG4, zG5, zG6, zG7, zG8, zNn, hi, zyb1, p1, or_true, true_or, if_true, if_false, Option.bind_some, Option.toList_some, Option.toList_none, List.nil_append, List.cons_append, Option.map_none]
      · have p1 := eq_false h1
        by_cases h2 : 3 < c
        · have p2 := eq_true h2
          simp only [e13_0, e13_1, e13_4, e13_7, e13_8, e13_9, e13_12, e13_13, e13_14, e13_17, e13_18, e13_19, e13_20, e13_23, e13_24, e13_25, e13_26, e13_27, e13_28, e13_29, e13_30, e13_31, zG1, zG2, zG3, zG4, zG5, zG6, zG7, zG8, zNn, hi, zyb1, p1, p2, or_true, true_or, if_true, if_false, Option.bind_some, Option.toList_some, Option.toList_none, List.nil_append, List.cons_append, Option.map_none]
        · rw [if_pos ⟨hp, h1, h2⟩] at hC
          cases hC
    · rw [Bool.not_eq_true] at hp
      rw [hp] at hi
      simp only [e13_0, e13_1, e13_4, e13_7, e13_8, e13_9, e13_12, e13_13, e13_14, e13_17, e13_18, e13_19, e13_20, e13_23, e13_24, e13_25, e13_26, e13_27, e13_28, e13_29, e13_30, e13_31, zG1, zG2, zG3, zG4, zG5, zG6, zG7, zG8, zNn, hi, zyb0, or_true, true_or, if_true, if_false, Option.bind_some, Option.toList_some, Option.toList_none, List.nil_append, List.cons_append, Option.map_none]
theorem N_end {sp : Nat × (Nat → Int32)} {M0 M : zM} {S : yS} {l e : Int32} (h : RC M0 M S) : zV (zPr sp) (36, 0, [.ref 0, .int l, .int e], [], M) = some (some (va_rf ((yE l e).map zEn)), M) := by
  obtain ⟨k1, k2, k3, k4, k5, k6, k7⟩ := RC_0 h
  cases hC : yE l e with
  | some k =>
    obtain ⟨l', e', hl, he, rfl, rfl, rfl⟩ := yE_some hC
    have p1 : (nI l' < 0) = False := eq_false (nI_pos (by omega))
    have p2 : (nI l' < 5) = True := eq_true (nI_lt (b := 5) hl (by decide))
    have p3 : (nI e' < 0) = False := eq_false (nI_pos (by omega))
    have p4 : (1 < nI e') = False := eq_false (nI_nlt (a := 1) (by omega) (by omega))
    have ix : 2 * nI l' + nI e' = nI (2 * l' + e') := by
      have : (2 : Int32) = nI 2 := rfl
      rw [this, pk_mul, nI_add]
    have p5 : zin (nI (2 * l' + e')) 10 = true := zin_nI (by omega) (by decide)
    have p6 : (nI (2 * l' + e')).toNatClampNeg = 2 * l' + e' := nI_clamp (by omega)
    have kr := k6 (2 * l' + e') (by omega)
    simp only [e36_0, e36_1, e36_4, e36_5, e36_6, e36_9, e36_10, e36_13, e36_14, e36_15, e36_18, e36_19, e36_20, e36_21, e36_24, e36_25, e36_26, e36_27, e36_28, e36_29, e36_30, zG1, zG2, zG3, zG4, zG5, zG6, zG7, zG8, zNn, p1, p2, p3, p4, k1, k2, k3, ix, p5, p6, kr, zG11, or_true, true_or, if_true, if_false, Option.bind_some, Option.toList_some, Option.toList_none, List.nil_append, List.cons_append, Option.map_some]
  | none =>
    unfold yE at hC
    by_cases h1 : l < 0
    · have p1 := eq_true h1
      simp only [e36_0, e36_1, e36_4, e36_5, e36_6, e36_9, e36_10, e36_13, e36_14, e36_15, e36_18, e36_19, e36_20, e36_21, e36_24, e36_25, e36_26, e36_27, e36_28, e36_29, e36_30, zG1, zG2, zG3, zG4, zG5, zG6, zG7, zG8, zNn, p1, or_true, true_or, if_true, if_false, Option.bind_some, Option.toList_some, Option.toList_none, List.nil_append, List.cons_append, Option.map_none]
    · have p1 := eq_false h1
      by_cases h2 : l < 5
      · have p2 := eq_true h2
        by_cases h3 : e < 0
        · have p3 := eq_true h3
          simp only [e36_0, e36_1, e36_4, e36_5, e36_6, e36_9, e36_10, e36_13, e36_14, e36_15, e36_18, e36_19, e36_20, e36_21, e36_24, e36_25, e36_26, e36_27, e36_28, e36_29, e36_30, zG1, zG2, zG3, zG4, zG5, zG6, zG7, zG8, zNn, p1, p2, p3, or_true, true_or, if_true, if_false, Option.bind_some, Option.toList_some, Option.toList_none, List.nil_append, List.cons_append, Option.map_none]
        · have p3 := eq_false h3
          by_cases h4 : 1 < e
          · have p4 := eq_true h4
            simp only [e36_0, e36_1, e36_4, e36_5, e36_6, e36_9, e36_10, e36_13, e36_14, e36_15, e36_18, e36_19, e36_20, e36_21, e36_24, e36_25, e36_26, e36_27, e36_28, e36_29, e36_30, zG1, zG2, zG3, zG4, zG5, zG6, zG7, zG8, zNn, p1, p2, p3, p4, or_true, true_or, if_true, if_false, Option.bind_some, Option.toList_some, Option.toList_none, List.nil_append, List.cons_append, Option.map_none]
          · rw [if_pos ⟨⟨h1, h2⟩, h3, h4⟩] at hC
            cases hC
      · have p2 := eq_false h2
        simp only [e36_0, e36_1, e36_4, e36_5, e36_6, e36_9, e36_10, e36_13, e36_14, e36_15, e36_18, e36_19, e36_20, e36_21, e36_24, e36_25, e36_26, e36_27, e36_28, e36_29, e36_30, zG1, zG2, zG3, zG4, zG5, zG6, zG7, zG8, zNn, p1, p2, or_true, true_or, if_true, if_false, Option.bind_some, Option.toList_some, Option.toList_none, List.nil_append, List.cons_append, Option.map_none]
/-- a word of a frame -/
def yWord (fs : List yF) (k w : Int32) : Int32 := if k < 0 ∨ w < 0 ∨ ¬ w < 5 then -1 else match fs[k.toNatClampNeg]? with
  | none => -1
  | some f => yfw f w.toNatClampNeg
theorem W_word {sp : Nat × (Nat → Int32)} {M0 M : zM} {S : yS} {e : Nat} {k w : Int32} (h : RC M0 M S) (he : e < 10) : zV (zPr sp) (38, 0, [.ref (zWi e), .int k, .int w], [], M) = some (some (.int (yWord (yw S e) k w)), M) := by
  obtain ⟨k1, k2, k3, k4, w1, w2, st, w3, w4, w5⟩ := RC_w h he
  unfold yWord
  by_cases h1 : k < 0
  · rw [if_pos (Or.inl h1)]
    have p1 := eq_true h1
    simp only [e38_0, e38_1, e38_4, e38_5, e38_6, e38_9, e38_12, e38_13, e38_16, e38_17, e38_18, e38_21, e38_22, e38_23, e38_24, e38_27, e38_28, e38_31, e38_32, e38_33, e38_35, e38_36, e38_37, e38_38, e38_39, e38_40, e38_41, p1, or_true, true_or, if_true, if_false, Option.bind_some, Option.toList_some, Option.toList_none, List.nil_append, List.cons_append]
  · have p1 := eq_false h1
    obtain ⟨k', hk, rfl⟩ := nI_of h1
    by_cases h2 : k' < (yw S e).length
    · have p2 : (nI k' < nI (yw S e).length) = True := eq_true (nI_lt h2 (by omega))
      by_cases h3 : w < 0
      · rw [if_pos (Or.inr (Or.inl h3))]
        have p3 := eq_true h3
        simp only [e38_0, e38_1, e38_4, e38_5, e38_6, e38_9, e38_12, e38_13, e38_16, e38_17, e38_18, e38_21, e38_22, e38_23, e38_24, e38_27, e38_28, e38_31, e38_32, e38_33, e38_35, e38_36, e38_37, e38_38, e38_39, e38_40, e38_41, zG1, zG2, zG3, zG4, zG5, zG6, zG7, zG8, zNn, k1, w2, p1, p2, p3, or_true, true_or, if_true, if_false, Option.bind_some, Option.toList_some, Option.toList_none, List.nil_append, List.cons_append]
      · have p3 := eq_false h3
        by_cases h4 : w < 5
        · rw [if_neg (fun z => z.elim h1 (fun z => z.elim h3 (fun z => z h4)))]
          have p4 := eq_true h4
          obtain ⟨w', hw, rfl⟩ := nI_rg (n := 5) (by decide) h3 h4
          have hr : nI st + nI k' - (nI st + nI k') / 8 * 8 = nI ((st + k') % 8) := by
            rw [nI_add]; exact nrem8 (by omega)
          have hb : (st + k') % 8 < 8 := Nat.mod_lt _ (by decide)
          have ix : nI ((st + k') % 8) * 5 + nI w' = nI ((st + k') % 8 * 5 + w') := by rw [nI_5, pk_mul, nI_add]
          have p5 : zin (nI ((st + k') % 8 * 5 + w')) 40 = true := zin_nI (by omega) (by decide)
          have p6 : (nI ((st + k') % 8 * 5 + w')).toNatClampNeg = (st + k') % 8 * 5 + w' := nI_clamp (by omega)
          have z8 : ((8 : Int32) = 0) = False := by decide
          have hg : (yw S e)[k']? = some ((yw S e)[k']) := List.getElem?_eq_getElem h2
          have hv := w5 k' _ hg w' hw
          rw [nI_clamp hk, nI_clamp (show w' < 2 ^ 31 by omega), hg]
          simp only [e38_0, e38_1, e38_4, e38_5, e38_6, e38_9, e38_12, e38_13, e38_16, e38_17, e38_18, e38_21, e38_22, e38_23, e38_24, e38_27, e38_28, e38_31, e38_32, e38_33, e38_35, e38_36, e38_37, e38_38, e38_39, e38_40, e38_41, zG1, zG2, zG3, zG4, zG5, zG6, zG7, zG8, zNn, k1, k2, k3, w2, w4, p1, p2, p3, p4, z8, hr, ix, p5, p6, hv, or_true, true_or, if_true, if_false, Option.bind_some, Option.toList_some, Option.toList_none, List.nil_append, List.cons_append]
        · rw [if_pos (Or.inr (Or.inr h4))]
          have p4 := eq_false h4
          simp only [e38_0, e38_1, e38_4, e38_5, e38_6, e38_9, e38_12, e38_13, e38_16, e38_17, e38_18, e38_21, e38_22, e38_23, e38_24, e38_27, e38_28, e38_31, e38_32, e38_33, e38_35, e38_36, e38_37, e38_38, e38_39, e38_40, e38_41, zG1, zG2, zG3, zG4, zG5, zG6, zG7, zG8, zNn, k1, w2, p1, p2, p3, p4, or_true, true_or, if_true, if_false, Option.bind_some, Option.toList_some, Option.toList_none, List.nil_append, List.cons_append]
    · have p2 : (nI k' < nI (yw S e).length) = False := eq_false (nI_nlt (by omega) hk)
      have hn : (yw S e)[k']? = none := List.getElem?_eq_none (by omega)
      rw [nI_clamp hk, hn]
      dsimp only
      rw [ite_self]
      simp only [e38_0, e38_1, e38_4, e38_5, e38_6, e38_9, e38_12, e38_13, e38_16, e38_17, e38_18, e38_21, e38_22, e38_23, e38_24, e38_27, e38_28, e38_31, e38_32, e38_33, e38_35, e38_36, e38_37, e38_38, e38_39, e38_40, e38_41, zG1, zG2, zG3, zG4, zG5, zG6, zG7, zG8, zNn, k1, w2, p1, p2, or_true, true_or, if_true, if_false, Option.bind_some, Option.toList_some, Option.toList_none, List.nil_append, List.cons_append]
