/-! Line.add and Line.grow -/
def yCp (M : zM) (b : Nat) (v : Nat → Int32) : Nat → zM
  | 0 => M
  | k + 1 => zwi (yCp M b v k) b k (v k)
theorem yCp_o {M : zM} {b : Nat} {v : Nat → Int32} : ∀ {k : Nat}, zn (yCp M b v k) = zn M ∧ zz (yCp M b v k) = zz M ∧ (∀ a, zk (yCp M b v k) a = zk M a) ∧ (∀ a j, zr (yCp M b v k) a j = zr M a j) ∧ (∀ a j, a ≠ b → zi (yCp M b v k) a j = zi M a j) ∧ ∀ j, zi (yCp M b v k) b j = if j < k then v j else zi M b j
  | 0 => ⟨rfl, rfl, fun _ => rfl, fun _ _ => rfl, fun _ _ _ => rfl, fun j => by rw [if_neg (by omega)]; rfl⟩
  | k + 1 => by
    obtain ⟨h1, h2, h3, h4, h5, h6⟩ := yCp_o (M := M) (b := b) (v := v) (k := k)
    refine ⟨h1, h2, h3, h4, fun a j ha => (zi_ne ha).trans (h5 a j ha), fun j => ?_⟩
    show zi (zwi (yCp M b v k) b k (v k)) b j = _
    by_cases hj : j = k
    · subst hj
      rw [zi_eq, if_pos (by omega)]
    · rw [zi_nj hj, h6]
      by_cases hk : j < k
      · rw [if_pos hk, if_pos (by omega)]
      · rw [if_neg hk, if_neg (by omega)]
theorem L_loop {sp : Nat × (Nat → Int32)} {M : zM} {a b it cap st n x : Nat} (k1 : zk M a = (3, 0)) (k2 : zr M a 0 = some it) (k3 : zk M it = (20, cap)) (k4 : zk M b = (20, 2 * cap)) (hab : a ≠ b) (hib : it ≠ b) (hx : x ≤ 12) (hcap : cap = 2 ^ x) (h2 : zi M a 2 = nI n) (h1 : zi M a 1 = nI st) (hst : st < cap) (hn : n ≤ cap) : ∀ (m k : Nat), k + m = n → zV (zPr sp) (21, 12, [.ref a, .ref b, .int (nI k)], [], yCp M b (fun j => zi M it ((st + j) % cap)) k) = zV (zPr sp) (21, 48, [.ref a, .ref b, .int (nI n)], [], yCp M b (fun j => zi M it ((st + j) % cap)) n)
  | 0, k, hk => by
    have hkn : k = n := by omega
    subst hkn
    have hc := two_le hx
    rw [← hcap] at hc
    obtain ⟨o1, o2, o3, o4, o5, o6⟩ := yCp_o (M := M) (b := b) (v := fun j => zi M it ((st + j) % cap)) (k := k)
    have p2 : (nI k < nI k) = False := eq_false (nI_nlt (Nat.le_refl _) (by omega))
    simp only [e21_12, e21_13, e21_14, e21_17, zG1, if_true, if_false, o3, k1, o5 a 2 hab, h2, p2]
  | m + 1, k, hk => by
    have hc := two_le hx
    rw [← hcap] at hc
    obtain ⟨o1, o2, o3, o4, o5, o6⟩ := yCp_o (M := M) (b := b) (v := fun j => zi M it ((st + j) % cap)) (k := k)
    have p2 : (nI k < nI n) = True := eq_true (nI_lt (by omega) (by omega))
    have hm : nI (st + k) &&& (Int32.ofNat cap - 1) = nI ((st + k) % cap) := by rw [hcap]; exact nmask (by omega) hx
    have p3 : (st + k) % cap < cap := Nat.mod_lt _ (by omega)
    have p4 : zin (nI ((st + k) % cap)) cap = true := zin_nI p3 (by omega)
    have p5 : (nI ((st + k) % cap)).toNatClampNeg = (st + k) % cap := nI_clamp (by omega)
    have p6 : zin (nI k) (2 * cap) = true := zin_nI (by omega) (by omega)
    have p7 : (nI k).toNatClampNeg = k := nI_clamp (by omega)
    have step : zV (zPr sp) (21, 12, [.ref a, .ref b, .int (nI k)], [], yCp M b (fun j => zi M it ((st + j) % cap)) k) = zV (zPr sp) (21, 12, [.ref a, .ref b, .int (nI (k + 1))], [], yCp M b (fun j => zi M it ((st + j) % cap)) (k + 1)) := by
      have hN : zV (zPr sp) (21, 12, [.ref a, .ref b, .int (nI (k + 1))], [], yCp M b (fun j => zi M it ((st + j) % cap)) (k + 1)) = zV (zPr sp) (21, 45, [.ref a, .ref b, .int (nI (k + 1))], [], zwi (yCp M b (fun j => zi M it ((st + j) % cap)) k) b k (zi M it ((st + k) % cap))) := e21_45.symm
      rw [hN]
      simp only [e21_12, e21_13, e21_14, e21_17, e21_20, e21_21, e21_22, e21_23, e21_26, e21_27, e21_30, e21_31, e21_32, e21_33, e21_36, e21_37, e21_38, e21_39, e21_40, e21_41, e21_42, zG1, zG3, if_true, o3, o4, k1, k2, k3, k4, zG9, o5 a 2 hab, o5 a 1 hab, h2, h1, p2, nI_add, hm, p4, p5, p6, p7, o5 it ((st + k) % cap) hib, nI_1]
    rw [step]
    exact L_loop k1 k2 k3 k4 hab hib hx hcap h2 h1 hst hn m (k + 1) (by omega)
theorem zk_al {M : zM} {t len n a : Nat} (h : a < zn M) : zk (zal M t len n) a = zk M a := by
  show (if a = M.2.2.2.1 then (t, len) else zk M a) = _
  rw [if_neg (fun z => by have : a < M.2.2.2.1 := h; omega)]
theorem zi_al {M : zM} {t len n a j : Nat} (h : a < zn M) : zi (zal M t len n) a j = zi M a j := by
  show (if a = M.2.2.2.1 then 0 else zi M a j) = _
  rw [if_neg (fun z => by have : a < M.2.2.2.1 := h; omega)]
theorem zr_al {M : zM} {t len n a j : Nat} (h : a < zn M) : zr (zal M t len n) a j = zr M a j := by
  show (if a = M.2.2.2.1 then none else zr M a j) = _
  rw [if_neg (fun z => by have : a < M.2.2.2.1 := h; omega)]
/-- what grow leaves -/
def yGr (M : zM) (a it cap st n : Nat) : zM := zwi (zwr (yCp (zal M 20 (2 * cap) (2 * cap)) (zn M) (fun j => zi (zal M 20 (2 * cap) (2 * cap)) it ((st + j) % cap)) n) a 0 (some (zn M))) a 1 0
theorem L_grow {sp : Nat × (Nat → Int32)} {M : zM} {a it cap st n x : Nat} (ha : a < zn M) (hi : it < zn M) (hai : a ≠ it) (k1 : zk M a = (3, 0)) (k2 : zr M a 0 = some it) (k3 : zk M it = (20, cap)) (hx : x ≤ 12) (hcap : cap = 2 ^ x) (h2 : zi M a 2 = nI n) (h1 : zi M a 1 = nI st) (hst : st < cap) (hn : n ≤ cap) : zV (zPr sp) (21, 0, [.ref a, .double 0, .double 0], [], M) = some (none, yGr M a it cap st n) := by
  have hc := two_le hx
  rw [← hcap] at hc
  have p0 : (2 : Int32) * Int32.ofNat cap = nI (2 * cap) := pk_mul 2 cap
  have p1 : zin (nI (2 * cap)) 100000 = true := zin_nI (by omega) (by decide)
  have p2 : (nI (2 * cap)).toNatClampNeg = 2 * cap := nI_clamp (by omega)
  have hl := L_loop (sp := sp) (M := zal M 20 (2 * cap) (2 * cap)) (a := a) (b := zn M) (it := it) (cap := cap) (st := st) (n := n) (x := x) (by rw [zk_al ha]; exact k1) (by rw [zr_al ha]; exact k2) (by rw [zk_al hi]; exact k3) zal_k (by omega) (by omega) hx hcap (by rw [zi_al ha]; exact h2) (by rw [zi_al ha]; exact h1) hst hn n 0 (by omega)
  obtain ⟨o1, o2, o3, o4, o5, o6⟩ := yCp_o (M := zal M 20 (2 * cap) (2 * cap)) (b := zn M) (v := fun j => zi (zal M 20 (2 * cap) (2 * cap)) it ((st + j) % cap)) (k := n)
  have hl : zV (zPr sp) (21, 12, [.ref a, .ref (zn M), .int 0], [], zal M 20 (2 * cap) (2 * cap)) = _ := hl
  simp only [e21_0, e21_1, e21_2, e21_5, e21_6, e21_7, e21_9, e21_10, e21_11, zG1, zG2, zG3, if_true, k1, k2, k3, zG9, p0, p1, p2, hl, e21_48, e21_49, e21_50, e21_53, e21_54, e21_55, e21_58, zG4, zk_wr, o3, zk_al ha]
  rfl
theorem L_add {sp : Nat × (Nat → Int32)} {M0 M : zM} {S : yS} {q : Nat} {p : yP} {v : Nat} {w : Int32} (h : RC M0 M S) (hq : q < 22) (hn : (yXs S q).length < 2048) (hw : w = if q < 10 then ypk p else nI v) : ∃ M', zV (zPr sp) (20, 0, [.ref (zLn q), .int w], [], M) = some (none, M') ∧ RC M0 M' (yXS S q (yr S q ++ [p]) (yv S (q - 10) ++ [v])) := by
  have k1 := RC_l h hq
  have hh := h.2.2.2.2.2.1
  obtain ⟨hnz, it, cap, h1, h2, h3⟩ := hh
  obtain ⟨l1, l2, ⟨x, l3, l3', l3''⟩, l4, l5, st, l6, l7, l8⟩ := h2 q hq
  have hc := two_le l3'
  rw [← l3''] at hc
  have hla : zLn q < zn M := by have := (kLn q hq).2; have := h.1.1; omega
  have hli := (h1.1 q hq).1
  have hit : it q ≠ zLn q := fun z => yfree_ne (h1.1 q hq).2 (by have := (kLn q hq).2; omega) (by rw [(kLn q hq).1]; decide) z
  have b1 : (nI (yXs S q).length < 2048) = True := eq_true (nI_lt (b := 2048) hn (by decide))
  have hxs : yXs (yXS S q (yr S q ++ [p]) (yv S (q - 10) ++ [v])) q = yXs S q ++ [w] := by
    rw [yXS_x, hw]
    unfold yXs
    by_cases hq' : q < 10
    · simp only [hq', if_true, List.map_append, List.map_cons, List.map_nil]
    · simp only [hq', if_false, List.map_append, List.map_cons, List.map_nil]
  generalize hN : (yXs S q).length = n at *
  by_cases hf : n = cap q
  · -- it grows
    have b2 : (nI n = Int32.ofNat (cap q)) = True := eq_true (by rw [hf]; rfl)
    have hg := L_grow (sp := sp) hla hli (Ne.symm hit) k1 l1 l2 l3' l3'' l5 l7 l6 (by omega)
    obtain ⟨o1, o2, o3, o4, o5, o6⟩ := yCp_o (M := zal M 20 (2 * cap q) (2 * cap q)) (b := zn M) (v := fun j => zi (zal M 20 (2 * cap q) (2 * cap q)) (it q) ((st + j) % cap q)) (k := n)
    have g1 : zk (yGr M (zLn q) (it q) (cap q) st n) (zLn q) = (3, 0) := by
      show zk (yCp _ _ _ n) (zLn q) = _
      rw [o3, zk_al hla]; exact k1
    have g2 : zr (yGr M (zLn q) (it q) (cap q) st n) (zLn q) 0 = some (zn M) := by
      show zr (zwr _ _ _ _) (zLn q) 0 = _
      exact zr_eq
    have g3 : zk (yGr M (zLn q) (it q) (cap q) st n) (zn M) = (20, 2 * cap q) := by
      show zk (yCp _ _ _ n) (zn M) = _
      rw [o3]; exact zal_k
    have g4 : zi (yGr M (zLn q) (it q) (cap q) st n) (zLn q) 1 = nI 0 := zi_eq
    have g5 : zi (yGr M (zLn q) (it q) (cap q) st n) (zLn q) 2 = nI n := by
      show zi (zwi (zwr _ _ _ _) _ _ _) (zLn q) 2 = _
      rw [zi_nj (by decide), zi_wr, o5 _ _ (by omega), zi_al hla]; exact l5
    have g6 : ∀ j, j < n → zi (yGr M (zLn q) (it q) (cap q) st n) (zn M) j = zi M (it q) ((st + j) % cap q) := by
      intro j hj
      show zi (zwi (zwr _ _ _ _) _ _ _) (zn M) j = _
      rw [zi_ne (by omega), zi_wr, o6, if_pos hj, zi_al hli]
    have hx2 : 2 * cap q = 2 ^ (x + 1) := by rw [l3'', Nat.pow_succ]; omega
    have hx11 : x + 1 ≤ 12 := by
      refine Classical.byContradiction fun hx12 => ?_
      have : x = 12 := by omega
      rw [this] at l3''
      have : cap q = 4096 := l3''
      omega
    have hm : nI (0 + n) &&& (Int32.ofNat (2 * cap q) - 1) = nI n := by
      rw [hx2, nmask (by omega) hx11, ← hx2, Nat.mod_eq_of_lt (by omega), Nat.zero_add]
    have p4 : zin (nI n) (2 * cap q) = true := zin_nI (by omega) (by omega)
    have p5 : (nI n).toNatClampNeg = n := nI_clamp (by omega)
    have hza : zLn q ≠ zn M := by omega
    refine ⟨zwi (zwi (yGr M (zLn q) (it q) (cap q) st n) (zn M) n w) (zLn q) 2 (nI (n + 1)), ?_, ?_⟩
    · have hcn : zi (zwi (yGr M (zLn q) (it q) (cap q) st n) (zn M) n w) (zLn q) 2 = nI n := by rw [zi_ne hza]; exact g5
      simp only [e20_0, e20_1, e20_4, e20_7, e20_10, e20_11, e20_12, e20_15, e20_16, e20_19, e20_20, e20_23, e20_24, e20_27, e20_28, e20_31, e20_32, e20_35, e20_36, e20_39, e20_40, e20_41, e20_44, e20_45, e20_46, e20_47, e20_48, e20_49, e20_50, e20_51, e20_52, e20_55, e20_56, e20_57, e20_60, zG1, zG3, k1, l1, l2, zG9, if_true, l5, b1, b2, hg, Option.bind_some, Option.toList_none, List.nil_append, g1, g2, g3, g4, g5, nI_add, hm, p4, p5, zk_wi, hcn, nI_1]
    · have hzi : ∀ a j, a < zn M → a ≠ zLn q → zi (zwi (zwi (yGr M (zLn q) (it q) (cap q) st n) (zn M) n w) (zLn q) 2 (nI (n + 1))) a j = zi M a j := by
        intro a j ha1 ha2
        rw [zi_ne ha2, zi_ne (by omega)]
        show zi (zwi (zwr _ _ _ _) _ _ _) a j = _
        rw [zi_ne ha2, zi_wr, o5 _ _ (by omega), zi_al ha1]
      have hzr : ∀ a j, a < zn M → ¬ (a = zLn q ∧ j = 0) → zr (zwi (zwi (yGr M (zLn q) (it q) (cap q) st n) (zn M) n w) (zLn q) 2 (nI (n + 1))) a j = zr M a j := by
        intro a j ha1 ha2
        show zr (zwr _ _ _ _) a j = _
        rw [zr_wr, if_neg ha2, o4, zr_al ha1]
      refine RC_ln (i' := zn M) (c' := 2 * cap q) h hq h1 h2 h3 ⟨?_, fun a ha => ?_, fun a ha hna => ⟨fun j => hzi a j ha (fun z => hna (Or.inl z)), fun j => hzr a j ha (fun z => hna (Or.inl z.1))⟩⟩ (fun a j ha hna => hzr a j (by have := h.1.1; omega) hna) (Or.inr ⟨rfl, ?_⟩) ?_ ?_ ⟨?_, ?_, ⟨x + 1, by omega, hx11, hx2⟩, ?_, ?_, 0, by omega, ?_, fun k u hk => ?_⟩ (fun q' hq' hne => yXS_o hne) yXS_k.1 yXS_k.2.1 yXS_k.2.2.1 yXS_k.2.2.2.1 yXS_k.2.2.2.2
      · show zn M ≤ zn (yCp _ _ _ n)
        rw [o1]; exact Nat.le_succ _
      · show zk (yCp _ _ _ n) a = _
        rw [o3, zk_al ha]
      · show zn (yCp _ _ _ n) = _
        rw [o1]; rfl
      · show zz (yCp _ _ _ n) + _ = _
        rw [o2]
        show zz M + 2 * cap q + 2 * cap q = _
        omega
      · show zn (yCp _ _ _ n) ≤ zz (yCp _ _ _ n)
        rw [o1, o2]
        show zn M + 1 ≤ zz M + 2 * cap q
        omega
      · exact g2
      · exact g3
      · rw [hxs, List.length_append, hN]; show n + 1 ≤ _; omega
      · rw [zi_eq, hxs, List.length_append, hN]; rfl
      · rw [zi_nj (by decide), zi_ne hza]; exact g4
      · rw [hxs] at hk
        rw [Nat.zero_add, zi_ne (Ne.symm hza)]
        by_cases hkn : k < n
        · rw [List.getElem?_append_left (by omega)] at hk
          rw [Nat.mod_eq_of_lt (by omega), zi_nj (by omega), g6 k hkn]
          exact l8 k u hk
        · have hk8 : k = n := by
            have := (List.getElem?_eq_some_iff.mp hk).1
            rw [List.length_append, hN] at this
            simp at this
            omega
          subst hk8
          rw [List.getElem?_append_right (by omega), hN, Nat.sub_self] at hk
          cases hk
          rw [Nat.mod_eq_of_lt (by omega), zi_eq]
  · have b2 : (nI n = Int32.ofNat (cap q)) = False := eq_false (fun z => hf ((nI_eq (by omega) (by omega)).mp z))
    have hm : nI (st + n) &&& (Int32.ofNat (cap q) - 1) = nI ((st + n) % cap q) := by rw [l3'']; exact nmask (by omega) l3'
    have p3 : (st + n) % cap q < cap q := Nat.mod_lt _ (by omega)
    have p4 : zin (nI ((st + n) % cap q)) (cap q) = true := zin_nI p3 (by omega)
    have p5 : (nI ((st + n) % cap q)).toNatClampNeg = (st + n) % cap q := nI_clamp (by omega)
    refine ⟨zwi (zwi M (it q) ((st + n) % cap q) w) (zLn q) 2 (nI (n + 1)), ?_, ?_⟩
    · have hcn : zi (zwi M (it q) ((st + n) % cap q) w) (zLn q) 2 = nI n := by rw [zi_ne (Ne.symm hit)]; exact l5
      simp only [e20_0, e20_1, e20_4, e20_7, e20_10, e20_11, e20_12, e20_15, e20_16, e20_19, e20_20, e20_23, e20_24, e20_27, e20_28, e20_31, e20_32, e20_35, e20_36, e20_39, e20_40, e20_41, e20_44, e20_45, e20_46, e20_47, e20_48, e20_49, e20_50, e20_51, e20_52, e20_55, e20_56, e20_57, e20_60, zG1, zG3, k1, l1, l2, zG9, if_true, if_false, l5, l7, b1, b2, nI_add, hm, p4, p5, zk_wi, zr_wi, hcn, nI_1]
    · refine RC_ln (i' := it q) (c' := cap q) h hq h1 h2 h3 ⟨Nat.le_refl _, fun _ _ => rfl, fun a _ ha => ⟨fun j => by rw [zi_ne (fun z => ha (Or.inl z)), zi_ne (fun z => ha (Or.inr z))], fun _ => rfl⟩⟩ (fun _ _ _ _ => rfl) (Or.inl ⟨rfl, rfl⟩) rfl hnz ⟨l1, l2, ⟨x, l3, l3', l3''⟩, ?_, ?_, st, l6, ?_, fun k u hk => ?_⟩ (fun q' hq' hne => yXS_o hne) yXS_k.1 yXS_k.2.1 yXS_k.2.2.1 yXS_k.2.2.2.1 yXS_k.2.2.2.2
      · rw [hxs, List.length_append, hN]; show n + 1 ≤ _; omega
      · rw [zi_eq, hxs, List.length_append, hN]; rfl
      · rw [zi_nj (by decide), zi_ne (Ne.symm hit)]; exact l7
      · rw [hxs] at hk
        rw [zi_ne hit]
        by_cases hkn : k < n
        · rw [List.getElem?_append_left (by omega)] at hk
          rw [zi_nj ?_]
          · exact l8 k u hk
          · intro z
            have z1 : (st + k) % cap q = (st + n) % cap q := z
            have e1 : st + k < 2 * cap q := by omega
            have e2 : st + n < 2 * cap q := by omega
            have m1 : (st + k) % cap q = if st + k < cap q then st + k else st + k - cap q := by
              by_cases hh : st + k < cap q
              · rw [if_pos hh, Nat.mod_eq_of_lt hh]
              · rw [if_neg hh, Nat.mod_eq_sub_mod (by omega), Nat.mod_eq_of_lt (by omega)]
            have m2 : (st + n) % cap q = if st + n < cap q then st + n else st + n - cap q := by
              by_cases hh : st + n < cap q
              · rw [if_pos hh, Nat.mod_eq_of_lt hh]
              · rw [if_neg hh, Nat.mod_eq_sub_mod (by omega), Nat.mod_eq_of_lt (by omega)]
            rw [m1, m2] at z1
            split at z1 <;> split at z1 <;> omega
        · have hk8 : k = n := by
            have := (List.getElem?_eq_some_iff.mp hk).1
            rw [List.length_append, hN] at this
            simp at this
            omega
          subst hk8
          rw [List.getElem?_append_right (by omega), hN, Nat.sub_self] at hk
          cases hk
          exact zi_eq
