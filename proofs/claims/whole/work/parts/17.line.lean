/-! The lines of the class. -/
theorem zG9 : (20 ≤ 20 ∧ 20 < 25) = True := eq_true ⟨Nat.le_refl _, by decide⟩
theorem ysum_up {f : Nat → Nat} {q x : Nat} : ∀ {n : Nat}, q < n → ysum (va_up f q x) n + f q = ysum f n + x
  | 0, h => by omega
  | n + 1, h => by
    show ysum (va_up f q x) n + va_up f q x n + f q = ysum f n + f n + x
    by_cases hq : q = n
    · subst hq
      have e1 : ∀ m, m ≤ q → ysum (va_up f q x) m = ysum f m := by
        intro m
        induction m with
        | zero => intro _; rfl
        | succ m ih =>
          intro hm
          show ysum (va_up f q x) m + va_up f q x m = ysum f m + f m
          rw [ih (by omega), show va_up f q x m = f m from if_neg (by omega)]
      rw [e1 q (Nat.le_refl _), show va_up f q x q = x from if_pos rfl]
      omega
    · have := ysum_up (f := f) (x := x) (n := n) (show q < n by omega)
      rw [show va_up f q x n = f n from if_neg (by omega)]
      omega
theorem kMod : ∀ a, a < 143 → 119 ≤ a → yk0 a ≠ (20, 4) := by decide +kernel
/-- a line has other items -/
theorem RC_ln {M0 M M' : zM} {S S' : yS} {q i' c' : Nat} {it cap : Nat → Nat} (h : RC M0 M S) (hq : q < 22) (h1 : yIt it (zn M)) (h2 : ∀ q, q < 22 → yLine M (zLn q) (it q) (cap q) (yXs S q)) (h3 : zz M + 176 = 16080 + ysum (fun q => 2 * cap q) 22)
    (hs : zSm M M' (fun a => a = zLn q ∨ a = it q)) (hr : ∀ a j, a < 143 → ¬ (a = zLn q ∧ j = 0) → zr M' a j = zr M a j) (hi : (i' = it q ∧ zn M' = zn M) ∨ (i' = zn M ∧ zn M' = zn M + 1)) (hz : zz M' + 2 * cap q = zz M + 2 * c') (hnz : zn M' ≤ zz M') (hl : yLine M' (zLn q) i' c' (yXs S' q)) (hx : ∀ q', q' < 22 → q' ≠ q → yXs S' q' = yXs S q')
    (e1 : ∀ e, ye S' e = ye S e) (e2 : ∀ e, yu S' e = yu S e) (e3 : ∀ f e, yn S' f e = yn S f e) (e4 : ∀ k, yf S' k = yf S k) (e5 : ∀ e, yw S' e = yw S e) : RC M0 M' S' := by
  obtain ⟨g1, g2, g3, g4, g5, g6, g7⟩ := h
  have hk := kLn q hq
  have hf := (h1.1 q hq).2
  have hne : ∀ {a : Nat} {p : Nat × Nat}, a < 143 → yk0 a = p → p ≠ (3, 0) → p ≠ (20, 4) → ¬ (a = zLn q ∨ a = it q) := by
    intro a p hlt ha h0 h2 z
    rcases z with z | z
    · exact h0 (by rw [← ha, z, hk.1])
    · exact yfree_ne hf hlt (by rw [ha]; exact h2) z.symm
  refine ⟨⟨by have := g1.1; omega, fun a ha => by rw [hs.2.1 a (by have := g1.1; omega)]; exact g1.2.1 a ha, fun a j ha hm => ?_, fun a j ha hc => ?_⟩, g2.kept hs g1.1 (fun e he => hne (by have := (kEn e he).2; omega) (kEn e he).1 (by decide) (by decide)) e1 e2 (fun f e _ => e3 f e), g3.kept hs g1.1 (fun k hk' hs' => hne (by have := (kChS k hk' hs').2; omega) (kChS k hk' hs').1 (by decide) (by decide)) (fun f k _ => e3 f k) e4, g4.kept hs g1.1 (fun k hk' hs' => hne (by have := (kChT k hk' hs').2; omega) (kChT k hk' hs').1 (by decide) (by decide)) (fun f k _ => e3 f k), yWires_kept g5 hs g1.1 (fun e he => ⟨hne (by have := (kWi e he).2; omega) (kWi e he).1 (by decide) (by decide), hne (by have := (kWi e he).2; omega) (kWi e he).2.1 (by decide) (by decide)⟩) e5, ⟨hnz, va_up it q i', va_up cap q c', ⟨fun q' hq' => ?_, fun q1 q2 hq1 hq2 he => ?_⟩, fun q' hq' => ?_, ?_⟩, fun a j ha1 ha2 => ?_⟩
  · rw [hr a j ha (fun z => ?_)]
    · exact g1.2.2.1 a j ha hm
    · rw [z.1, z.2] at hm
      simp [ymut, hk.1] at hm
  · by_cases hz' : a = zLn q ∨ a = it q
    · exfalso
      rcases hz' with z | z
      · rw [z] at hc; simp [ycst, hk.1] at hc
      · have hk4 : yk0 a = (20, 4) := by
          refine Classical.byContradiction fun hn => ?_
          exact yfree_ne hf ha hn z.symm
        simp [ycst, hk4] at hc
    · rw [(hs.2.2 a (by have := g1.1; omega) hz').1]
      exact g1.2.2.2 a j ha hc
  · by_cases hqq : q' = q
    · subst hqq
      rw [show va_up it q' i' q' = i' from if_pos rfl]
      rcases hi with ⟨z1, z2⟩ | ⟨z1, z2⟩
      · rw [z1, z2]; exact h1.1 q' hq'
      · rw [z1, z2]
        exact ⟨by omega, by have := g1.1; simp [yfree]; omega⟩
    · rw [show va_up it q i' q' = it q' from if_neg hqq]
      have := h1.1 q' hq'
      exact ⟨by have := hs.1; omega, this.2⟩
  · have key : ∀ q', q' < 22 → q' ≠ q → va_up it q i' q' = it q' := fun q' _ h => if_neg h
    have hi2 : ∀ q', q' < 22 → q' ≠ q → it q' ≠ i' := by
      intro q' hq' hne' z
      rcases hi with ⟨z1, -⟩ | ⟨z1, -⟩
      · exact hne' (h1.2 q' q hq' hq (z.trans z1))
      · have := (h1.1 q' hq').1
        omega
    by_cases w1 : q1 = q <;> by_cases w2 : q2 = q
    · rw [w1, w2]
    · rw [w1, show va_up it q i' q = i' from if_pos rfl, key q2 hq2 w2] at he
      exact absurd he.symm (hi2 q2 hq2 w2)
    · rw [w2, show va_up it q i' q = i' from if_pos rfl, key q1 hq1 w1] at he
      exact absurd he (hi2 q1 hq1 w1)
    · rw [key q1 hq1 w1, key q2 hq2 w2] at he
      exact h1.2 q1 q2 hq1 hq2 he
  · by_cases hqq : q' = q
    · subst hqq
      rw [show va_up it q' i' q' = i' from if_pos rfl, show va_up cap q' c' q' = c' from if_pos rfl]
      exact hl
    · rw [show va_up it q i' q' = it q' from if_neg hqq, show va_up cap q c' q' = cap q' from if_neg hqq, hx q' hq' hqq]
      have hk' := kLn q' hq'
      refine (h2 q' hq').kept hs (by have := g1.1; omega) (h1.1 q' hq').1 (fun z => ?_) (fun z => ?_)
      · rcases z with z | z
        · exact hqq (iLn q' hq' q hq z)
        · exact yfree_ne hf (by omega) (by rw [hk'.1]; decide) z.symm
      · rcases z with z | z
        · exact yfree_ne (h1.1 q' hq').2 (by omega) (by rw [hk.1]; decide) z
        · exact hqq (h1.2 q' q hq' hq z)
  · have e6 : (fun q' => 2 * va_up cap q c' q') = va_up (fun q => 2 * cap q) q (2 * c') := by
      funext q'
      by_cases hqq : q' = q
      · simp [va_up, hqq]
      · simp [va_up, hqq]
    rw [e6]
    have := ysum_up (f := fun q => 2 * cap q) (q := q) (x := 2 * c') (n := 22) hq
    try dsimp only at this
    omega
  · rw [(hs.2.2 a (by have := g1.1; omega) (fun z => ?_)).1]
    · exact g7 a j ha1 ha2
    · rcases z with z | z
      · omega
      · exact yfree_ne hf ha2 (kMod a ha2 ha1) z.symm
theorem nmask {a x : Nat} (ha : a < 2 ^ 31) (hx : x ≤ 12) : nI a &&& (Int32.ofNat (2 ^ x) - 1) = nI (a % 2 ^ x) :=
  pk_andN (by omega) x ((by decide +kernel : ∀ x, x ≤ 12 → (Int32.ofNat (2 ^ x) - 1).toBitVec.toNat = 2 ^ x - 1) x hx)
theorem RC_l {M0 M : zM} {S : yS} {q : Nat} (h : RC M0 M S) (hq : q < 22) : zk M (zLn q) = (3, 0) := by
  rw [h.1.2.1 _ (by have := (kLn q hq).2; omega)]
  exact (kLn q hq).1
theorem two_le {x : Nat} (hx : x ≤ 12) : 2 ^ x ≤ 4096 := by
  have := Nat.pow_le_pow_right (n := 2) (by decide) hx
  simpa using this
theorem L_size {sp : Nat × (Nat → Int32)} {M0 M : zM} {S : yS} {q : Nat} (h : RC M0 M S) (hq : q < 22) : zV (zPr sp) (16, 0, [.ref (zLn q)], [], M) = some (some (.int (nI (yXs S q).length)), M) := by
  have k1 := RC_l h hq
  obtain ⟨-, it, cap, h1, h2, h3⟩ := h.2.2.2.2.2.1
  obtain ⟨l1, l2, l3, l4, l5, st, l6, l7, l8⟩ := h2 q hq
  simp only [e16_0, e16_1, e16_4, zG1, k1, if_true, l5]
theorem L_at {sp : Nat × (Nat → Int32)} {M0 M : zM} {S : yS} {q k : Nat} {v : Int32} (h : RC M0 M S) (hq : q < 22) (hk : (yXs S q)[k]? = some v) : zV (zPr sp) (23, 0, [.ref (zLn q), .int (nI k)], [], M) = some (some (.int v), M) := by
  have k1 := RC_l h hq
  obtain ⟨-, it, cap, h1, h2, h3⟩ := h.2.2.2.2.2.1
  obtain ⟨l1, l2, ⟨x, l3, l3', l3''⟩, l4, l5, st, l6, l7, l8⟩ := h2 q hq
  have hlt : k < (yXs S q).length := (List.getElem?_eq_some_iff.mp hk).1
  have hc := two_le l3'
  rw [← l3''] at hc
  have hm : nI (st + k) &&& (Int32.ofNat (cap q) - 1) = nI ((st + k) % cap q) := by rw [l3'']; exact nmask (by omega) l3'
  have p1 : (nI k < 0) = False := eq_false (nI_pos (by omega))
  have p2 : (nI k < nI (yXs S q).length) = True := eq_true (nI_lt hlt (by omega))
  have p3 : (st + k) % cap q < cap q := Nat.mod_lt _ (by omega)
  have p4 : zin (nI ((st + k) % cap q)) (cap q) = true := zin_nI p3 (by omega)
  have p5 : (nI ((st + k) % cap q)).toNatClampNeg = (st + k) % cap q := nI_clamp (by omega)
  simp only [e23_0, e23_1, e23_4, e23_5, e23_6, e23_9, e23_12, e23_13, e23_16, e23_17, e23_20, e23_21, e23_24, e23_25, e23_26, e23_27, e23_30, e23_31, e23_32, e23_33, e23_34, e23_35, zG1, zG3, k1, l1, l2, zG9, if_true, if_false, l5, l7, p1, p2, nI_add, hm, p4, p5, l8 k v hk]
/-- the lists behind the lines, changed -/
def yXS (S : yS) (q : Nat) (l : List yP) (v : List Nat) : yS := if q < 10 then yrS S q l else yvS S (q - 10) v
theorem yXS_x {S : yS} {q : Nat} {l : List yP} {v : List Nat} : yXs (yXS S q l v) q = if q < 10 then l.map ypk else v.map nI := by
  unfold yXs yXS
  by_cases hq : q < 10
  · simp only [hq, if_true, yr_r]
  · simp only [hq, if_false, yv_v, if_true]
theorem yXS_o {S : yS} {q q' : Nat} {l : List yP} {v : List Nat} (h : q' ≠ q) : yXs (yXS S q l v) q' = yXs S q' := by
  unfold yXs yXS
  by_cases hq : q < 10 <;> by_cases hq' : q' < 10
  · simp only [hq, hq', if_true, yr_r, if_neg h]
  · simp only [hq, hq', if_true, if_false, yv_r]
  · simp only [hq, hq', if_true, if_false, yr_v]
  · simp only [hq, hq', if_false, yv_v, if_neg (show ¬ q' - 10 = q - 10 by omega)]
theorem yXS_k {S : yS} {q : Nat} {l : List yP} {v : List Nat} : (∀ e, ye (yXS S q l v) e = ye S e) ∧ (∀ e, yu (yXS S q l v) e = yu S e) ∧ (∀ f e, yn (yXS S q l v) f e = yn S f e) ∧ (∀ k, yf (yXS S q l v) k = yf S k) ∧ ∀ e, yw (yXS S q l v) e = yw S e := by
  unfold yXS
  by_cases hq : q < 10
  · simp only [hq, if_true]
    exact ⟨fun _ => rfl, fun _ => rfl, fun _ _ => rfl, fun _ => rfl, fun _ => rfl⟩
  · simp only [hq, if_false]
    exact ⟨fun _ => rfl, fun _ => rfl, fun _ _ => rfl, fun _ => rfl, fun _ => rfl⟩
theorem L_drop {sp : Nat × (Nat → Int32)} {M0 M : zM} {S : yS} {q d : Nat} (h : RC M0 M S) (hq : q < 22) (hd : d ≤ (yXs S q).length) : ∃ M', zV (zPr sp) (17, 0, [.ref (zLn q), .int (nI d), .double 0], [], M) = some (none, M') ∧ RC M0 M' (yXS S q ((yr S q).drop d) ((yv S (q - 10)).drop d)) := by
  have k1 := RC_l h hq
  have hh := h.2.2.2.2.2.1
  obtain ⟨hnz, it, cap, h1, h2, h3⟩ := hh
  obtain ⟨l1, l2, ⟨x, l3, l3', l3''⟩, l4, l5, st, l6, l7, l8⟩ := h2 q hq
  have hc := two_le l3'
  rw [← l3''] at hc
  have hm : nI (st + d) &&& (Int32.ofNat (cap q) - 1) = nI ((st + d) % cap q) := by rw [l3'']; exact nmask (by omega) l3'
  have p1 : (if nI (yXs S q).length < nI d then nI (yXs S q).length else nI d) = nI d := if_neg (nI_nlt hd (by omega))
  have p2 : (if (0 : Int32) < nI d then nI d else 0) = nI d := by
    by_cases hz : (0 : Int32) < nI d
    · rw [if_pos hz]
    · rw [if_neg hz]
      by_cases hd0 : d = 0
      · subst hd0; rfl
      · exact absurd (nI_lt (a := 0) (b := d) (by omega) (by omega)) hz
  have hlen : (yXs (yXS S q ((yr S q).drop d) ((yv S (q - 10)).drop d)) q) = (yXs S q).drop d := by
    rw [yXS_x]
    unfold yXs
    by_cases hq' : q < 10
    · simp only [hq', if_true, List.map_drop]
    · simp only [hq', if_false, List.map_drop]
  have hit : it q ≠ zLn q := fun z => yfree_ne (h1.1 q hq).2 (by have := (kLn q hq).2; omega) (by rw [(kLn q hq).1]; decide) z
  refine ⟨zwi (zwi M (zLn q) 1 (nI ((st + d) % cap q))) (zLn q) 2 (nI ((yXs S q).length - d)), ?_, ?_⟩
  · have hcn : zi (zwi M (zLn q) 1 (nI ((st + d) % cap q))) (zLn q) 2 = nI (yXs S q).length := by rw [zi_nj (by decide)]; exact l5
    simp only [e17_0, e17_1, e17_2, e17_3, e17_6, e17_9, e17_12, e17_13, e17_14, e17_15, e17_18, e17_19, e17_20, e17_21, e17_24, e17_25, e17_26, e17_27, e17_28, e17_31, e17_32, e17_33, e17_36, e17_37, e17_38, e17_41, zG1, zG3, k1, l1, l2, zG9, zk_wi, if_true, l5, l7, p1, p2, nI_add, hm, hcn, pk_sub hd]
  · refine RC_ln (i' := it q) (c' := cap q) h hq h1 h2 h3 ⟨Nat.le_refl _, fun _ _ => rfl, fun a _ ha => ⟨fun j => by rw [zi_ne (fun z => ha (Or.inl z)), zi_ne (fun z => ha (Or.inl z))], fun _ => rfl⟩⟩ (fun _ _ _ _ => rfl) (Or.inl ⟨rfl, rfl⟩) rfl hnz ⟨l1, l2, ⟨x, l3, l3', l3''⟩, ?_, ?_, (st + d) % cap q, Nat.mod_lt _ (by omega), by rw [zi_nj (by decide)]; exact zi_eq, fun k v hk => ?_⟩ (fun q' hq' hne => yXS_o hne) yXS_k.1 yXS_k.2.1 yXS_k.2.2.1 yXS_k.2.2.2.1 yXS_k.2.2.2.2
    · rw [hlen, List.length_drop]; omega
    · rw [zi_eq, hlen, List.length_drop]
    · rw [hlen, List.getElem?_drop] at hk
      rw [zi_ne hit, zi_ne hit, show ((st + d) % cap q + k) % cap q = (st + (d + k)) % cap q by rw [Nat.mod_add_mod, Nat.add_assoc]]
      exact l8 (d + k) v hk
