/-! The wires of the class. -/
theorem zG1 {a : Nat} : zAL (.ref a) = true := rfl
theorem zG2 {a : Nat} : zA (.ref a) = true := rfl
theorem zG3 {a : Nat} : va_rf (some a) = .ref a := rfl
theorem zG4 {a : Nat} : zq (.ref a) = some a := rfl
theorem zG5 : va_rf none = .null := rfl
theorem zG6 : zA .null = true := rfl
theorem zG7 : zAL .null = true := rfl
theorem zG8 : zq .null = none := rfl
theorem zin_nI {x n : Nat} (h : x < n) (hn : n < 2 ^ 31) : zin (nI x) n = true := by
  unfold zin
  rw [decide_eq_true_eq, nI_clamp (by omega)]
  exact ⟨nI_pos (by omega), h⟩
theorem nI_8 : (8 : Int32) = nI 8 := rfl
theorem nI_5 : (5 : Int32) = nI 5 := rfl
theorem nrem8 {a : Nat} (h : a < 2 ^ 31) : nI a - nI a / 8 * 8 = nI (a % 8) := by
  rw [nI_8]
  exact pk_rem h (by decide) (by decide)
theorem nlt8 {a : Nat} (h : a < 2 ^ 31) : (nI a < 8) = (a < 8) := by
  rw [nI_8]
  exact propext (nI_ltI h (by decide))
theorem RC_w {M0 M : zM} {S : yS} {e : Nat} (h : RC M0 M S) (he : e < 10) : zk M (zWi e) = (4, 0) ∧ zr M (zWi e) 0 = some (zWi e + 1) ∧ zk M (zWi e + 1) = (20, 40) ∧ zWi e ≠ zWi e + 1 ∧ yWire M (zWi e) (yw S e) := by
  have hk := kWi e he
  refine ⟨by rw [h.1.2.1 _ (by omega)]; exact hk.1, ?_, by rw [h.1.2.1 _ (by omega)]; exact hk.2.1, by omega, h.2.2.2.2.1 e he⟩
  rw [h.1.2.2.1 _ 0 (by omega) (kW0 e he)]
  exact (by decide +kernel : ∀ e, e < 10 → yr0 (zWi e) 0 = some (zWi e + 1)) e he
theorem W_size {sp : Nat × (Nat → Int32)} {M0 M : zM} {S : yS} {e : Nat} (h : RC M0 M S) (he : e < 10) : zV (zPr sp) (37, 0, [.ref (zWi e)], [], M) = some (some (.int (nI (yw S e).length)), M) := by
  obtain ⟨k1, k2, k3, k4, w1, w2, st, w3, w4, w5⟩ := RC_w h he
  simp only [e37_0, e37_1, e37_4, zG1, k1, if_true, w2]
/-- five words written from b on -/
def ySet5 (M : zM) (ww b : Nat) (x : Nat → Int32) : zM := zwi (zwi (zwi (zwi (zwi M ww b (x 0)) ww (b + 1) (x 1)) ww (b + 2) (x 2)) ww (b + 3) (x 3)) ww (b + 4) (x 4)
theorem ySet5_in {M : zM} {ww b q : Nat} {x : Nat → Int32} (hq : q < 5) : zi (ySet5 M ww b x) ww (b + q) = x q := by
  unfold ySet5
  have hc : q = 0 ∨ q = 1 ∨ q = 2 ∨ q = 3 ∨ q = 4 := by omega
  rcases hc with h | h | h | h | h <;> subst h
  · rw [zi_nj (by omega), zi_nj (by omega), zi_nj (by omega), zi_nj (by omega)]; exact zi_eq
  · rw [zi_nj (by omega), zi_nj (by omega), zi_nj (by omega), zi_eq]
  · rw [zi_nj (by omega), zi_nj (by omega), zi_eq]
  · rw [zi_nj (by omega), zi_eq]
  · rw [zi_eq]
theorem ySet5_out {M : zM} {ww b j : Nat} {x : Nat → Int32} (h : j < b ∨ b + 5 ≤ j) : zi (ySet5 M ww b x) ww j = zi M ww j := by
  unfold ySet5
  rw [zi_nj (by omega), zi_nj (by omega), zi_nj (by omega), zi_nj (by omega), zi_nj (by omega)]
theorem ySet5_ne {M : zM} {ww b a j : Nat} {x : Nat → Int32} (h : a ≠ ww) : zi (ySet5 M ww b x) a j = zi M a j := by
  unfold ySet5
  rw [zi_ne h, zi_ne h, zi_ne h, zi_ne h, zi_ne h]
theorem W_add {sp : Nat × (Nat → Int32)} {M0 M : zM} {S : yS} {e : Nat} {x0 x1 x2 x3 x4 : Int32} (h : RC M0 M S) (he : e < 10) (fr : yF) (h0 : x0 = yfw fr 0) (h1 : x1 = yfw fr 1) (h2 : x2 = yfw fr 2) (h3 : x3 = yfw fr 3) (h4 : x4 = yfw fr 4) : ∃ M', zV (zPr sp) (24, 0, [.ref (zWi e), .int x0, .int x1, .int x2, .int x3, .int x4, .double 0], [], M) = some (none, M') ∧ RC M0 M' (if (yw S e).length < 8 then ywS S e (yw S e ++ [fr]) else S) := by
  obtain ⟨k1, k2, k3, k4, w1, w2, st, w3, w4, w5⟩ := RC_w h he
  by_cases hn : (yw S e).length < 8
  · rw [if_pos hn]
    have hr : nI st + nI (yw S e).length - (nI st + nI (yw S e).length) / 8 * 8 = nI ((st + (yw S e).length) % 8) := by
      rw [nI_add]; exact nrem8 (by omega)
    have hb : (st + (yw S e).length) % 8 < 8 := Nat.mod_lt _ (by decide)
    generalize hbe : (st + (yw S e).length) % 8 = r at hr hb
    have a0 : nI r * 5 + 0 = nI (r * 5) := by rw [nI_5, pk_mul]; exact Int32.add_zero _
    have a1 : nI r * 5 + 1 = nI (r * 5 + 1) := by rw [nI_5, pk_mul]; exact nI_add _ 1
    have a2 : nI r * 5 + 2 = nI (r * 5 + 2) := by rw [nI_5, pk_mul]; exact nI_add _ 2
    have a3 : nI r * 5 + 3 = nI (r * 5 + 3) := by rw [nI_5, pk_mul]; exact nI_add _ 3
    have a4 : nI r * 5 + 4 = nI (r * 5 + 4) := by rw [nI_5, pk_mul]; exact nI_add _ 4
    have z0 : zin (nI (r * 5)) 40 = true := zin_nI (by omega) (by decide)
    have z1 : zin (nI (r * 5 + 1)) 40 = true := zin_nI (by omega) (by decide)
    have z2 : zin (nI (r * 5 + 2)) 40 = true := zin_nI (by omega) (by decide)
    have z3 : zin (nI (r * 5 + 3)) 40 = true := zin_nI (by omega) (by decide)
    have z4 : zin (nI (r * 5 + 4)) 40 = true := zin_nI (by omega) (by decide)
    have c0 : (nI (r * 5)).toNatClampNeg = r * 5 := nI_clamp (by omega)
    have c1 : (nI (r * 5 + 1)).toNatClampNeg = r * 5 + 1 := nI_clamp (by omega)
    have c2 : (nI (r * 5 + 2)).toNatClampNeg = r * 5 + 2 := nI_clamp (by omega)
    have c3 : (nI (r * 5 + 3)).toNatClampNeg = r * 5 + 3 := nI_clamp (by omega)
    have c4 : (nI (r * 5 + 4)).toNatClampNeg = r * 5 + 4 := nI_clamp (by omega)
    have hl : (nI (yw S e).length < 8) = True := by rw [nlt8 (by omega)]; exact eq_true hn
    have h80 : ((8 : Int32) = 0) = False := eq_false (by decide)
    refine ⟨zwi (ySet5 M (zWi e + 1) (r * 5) (fun q => yfw fr q)) (zWi e) 2 (nI ((yw S e).length + 1)), ?_, ?_⟩
    · have hcn : zi (zwi (zwi (zwi (zwi (zwi M (zWi e + 1) (r * 5) x0) (zWi e + 1) (r * 5 + 1) x1) (zWi e + 1) (r * 5 + 2) x2) (zWi e + 1) (r * 5 + 3) x3) (zWi e + 1) (r * 5 + 4) x4) (zWi e) 2 = nI (yw S e).length := by
        rw [zi_ne k4, zi_ne k4, zi_ne k4, zi_ne k4, zi_ne k4]; exact w2
      simp only [e24_0, e24_1, e24_4, e24_6, e24_9, e24_10, e24_11, e24_14, e24_15, e24_18, e24_19, e24_21, e24_22, e24_23, e24_24, e24_26, e24_27, e24_30, e24_32, e24_33, e24_34, e24_35, e24_36, e24_37, e24_40, e24_42, e24_43, e24_44, e24_45, e24_46, e24_47, e24_50, e24_52, e24_53, e24_54, e24_55, e24_56, e24_57, e24_60, e24_62, e24_63, e24_64, e24_66, e24_67, e24_68, e24_71, e24_73, e24_74, e24_75, e24_77, e24_78, e24_79, e24_80, e24_83, e24_84, e24_85, e24_88, zG1, zG2, zG3, zG4, k1, k2, k3, zk_wi, zr_wi, if_true, w2, w4, hl, h80, if_false, hr, a0, a1, a2, a3, a4, z0, z1, z2, z3, z4, c0, c1, c2, c3, c4, hcn, nI_1]
      rw [h0, h1, h2, h3, h4]
      rfl
    · have hi : ∀ a j, a ≠ zWi e → a ≠ zWi e + 1 → zi (zwi (ySet5 M (zWi e + 1) (r * 5) (fun q => yfw fr q)) (zWi e) 2 (nI ((yw S e).length + 1))) a j = zi M a j := fun a j g1 g2 => by rw [zi_ne g1, ySet5_ne g2]
      refine RC_wi h he ⟨Nat.le_refl _, fun _ _ => rfl, fun a _ ha => ⟨fun j => hi a j (fun z => ha (Or.inl z)) (fun z => ha (Or.inr z)), fun _ => rfl⟩⟩ (fun _ _ => rfl) rfl rfl ⟨?_, ?_, st, w3, ?_, fun k f hk q hq => ?_⟩
      · rw [List.length_append]; exact hn
      · rw [zi_eq, List.length_append]; rfl
      · rw [zi_nj (by decide), ySet5_ne k4]; exact w4
      · rw [zi_ne (Ne.symm k4)]
        by_cases hkn : k < (yw S e).length
        · rw [List.getElem?_append_left hkn] at hk
          rw [ySet5_out ?_]
          · exact w5 k f hk q hq
          · have : (st + k) % 8 ≠ r := by omega
            omega
        · have hk8 : k = (yw S e).length := by
            have := (List.getElem?_eq_some_iff.mp hk).1
            rw [List.length_append] at this
            simp at this
            omega
          subst hk8
          rw [List.getElem?_append_right (Nat.le_refl _), Nat.sub_self] at hk
          cases hk
          rw [hbe]
          exact ySet5_in hq
  · rw [if_neg hn]
    have hl : (nI (yw S e).length < 8) = False := by rw [nlt8 (by omega)]; exact eq_false hn
    refine ⟨M, ?_, h⟩
    simp only [e24_0, e24_1, e24_4, e24_6, e24_9, e24_10, e24_11, e24_14, e24_15, e24_18, e24_19, e24_21, e24_22, e24_23, e24_24, e24_26, e24_27, e24_30, e24_32, e24_33, e24_34, e24_35, e24_36, e24_37, e24_40, e24_42, e24_43, e24_44, e24_45, e24_46, e24_47, e24_50, e24_52, e24_53, e24_54, e24_55, e24_56, e24_57, e24_60, e24_62, e24_63, e24_64, e24_66, e24_67, e24_68, e24_71, e24_73, e24_74, e24_75, e24_77, e24_78, e24_79, e24_80, e24_83, e24_84, e24_85, e24_88, zG1, k1, if_true, w2, hl, if_false]
theorem W_drop {sp : Nat × (Nat → Int32)} {M0 M : zM} {S : yS} {e : Nat} {f : yF} {fs : List yF} (h : RC M0 M S) (he : e < 10) (hf : yw S e = f :: fs) : ∃ M', zV (zPr sp) (39, 0, [.ref (zWi e)], [], M) = some (none, M') ∧ RC M0 M' (ywS S e fs) := by
  obtain ⟨k1, k2, k3, k4, w1, w2, st, w3, w4, w5⟩ := RC_w h he
  rw [hf, List.length_cons] at w1 w2
  rw [hf] at w5
  have h80 : ((8 : Int32) = 0) = False := eq_false (by decide)
  have hr : nI st + 1 - (nI st + 1) / 8 * 8 = nI ((st + 1) % 8) := by rw [nI_1]; exact nrem8 (by omega)
  have hp : ((0 : Int32) < nI (fs.length + 1)) = True := eq_true (nI_lt (a := 0) (by omega) (by omega))
  refine ⟨zwi (zwi M (zWi e) 1 (nI ((st + 1) % 8))) (zWi e) 2 (nI fs.length), ?_, ?_⟩
  · have hc : zi (zwi M (zWi e) 1 (nI ((st + 1) % 8))) (zWi e) 2 = nI (fs.length + 1) := by rw [zi_nj (by decide)]; exact w2
    simp only [e39_0, e39_1, e39_4, e39_7, e39_8, e39_9, e39_12, e39_13, e39_14, e39_16, e39_17, e39_20, e39_21, e39_22, e39_25, e39_26, e39_27, e39_30, zG1, zG2, k1, zk_wi, if_true, w2, w4, h80, if_false, hr, hp, hc, nI_pred]
  · refine RC_wi h he ⟨Nat.le_refl _, fun _ _ => rfl, fun a _ ha => ⟨fun j => by rw [zi_ne (fun z => ha (Or.inl z)), zi_ne (fun z => ha (Or.inl z))], fun _ => rfl⟩⟩ (fun _ _ => rfl) rfl rfl ⟨by omega, zi_eq, (st + 1) % 8, Nat.mod_lt _ (by decide), by rw [zi_nj (by decide)]; exact zi_eq, fun k g hk q hq => ?_⟩
    rw [zi_ne (Ne.symm k4), zi_ne (Ne.symm k4), show ((st + 1) % 8 + k) % 8 = (st + (k + 1)) % 8 by omega]
    exact w5 (k + 1) g hk q hq
