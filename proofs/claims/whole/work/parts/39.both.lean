/-! Class and reference beside each other. -/
theorem RB_of {M0 M : zM} {S : yS} (h : RC M0 M S) : RB M := ⟨fun a _ h2 => h.1.2.1 a h2, fun j hj => h.1.2.2.1 119 j (by decide) ((by decide +kernel : ∀ j, j < 24 → ymut 119 j = false) j hj)⟩
theorem RSt_rf {M : zM} : RSt M M := ⟨rfl, rfl, fun _ => rfl, fun _ _ => rfl, fun _ _ _ => rfl⟩
def RRc (M : zM) (S : yS) : Prop := RRe M S ∧ RRk M S ∧ RRv M S ∧ RRf M S ∧ RRp M S
def Bo (M : zM) (S : yS) : Prop := RC M M S ∧ RRc M S
theorem Bo_C {M M1 : zM} {S S' : yS} (h : Bo M S) (hc : RC M M1 S') : RR M1 M1 S := by
  have hz : ∀ a j, 119 ≤ a → a < 143 → zi M1 a j = zi M a j := hc.2.2.2.2.2.2
  obtain ⟨-, g2, g3, g4, g5, g6⟩ := h
  exact ⟨RB_of hc, RSt_rf, g2.kept (fun a j _ _ => hz a j (by omega) (by omega)) (fun _ => rfl) (fun _ => rfl) (fun _ _ _ => rfl), g3.kept (fun a j _ _ => hz a j (by omega) (by omega)) (fun _ _ _ => rfl) (fun _ => rfl), g4.kept (fun a j _ _ => hz a j (by omega) (by omega)) (fun _ => rfl), g5.kept (fun a j _ _ => hz a j (by omega) (by omega)) (fun _ => rfl), g6.kept (fun a j _ _ => hz a j (by omega) (by omega)) (fun _ => rfl)⟩
theorem kCst : ∀ a, a < 143 → 119 ≤ a → (yk0 a).1 ≠ 0 ∧ (yk0 a).1 ≠ 1 ∧ (yk0 a).1 ≠ 2 := by decide +kernel
theorem Bo_R {M M1 M2 : zM} {S : yS} (hc : RC M M1 S) (hr : RR M1 M2 S) : Bo M2 S := by
  obtain ⟨-, ⟨t1, t2, t3, t4, t5⟩, q⟩ := hr
  obtain ⟨g1, g2, g3, g4, g5, g6, -⟩ := hc
  have hs : zSm M1 M2 (fun a => 119 ≤ a ∧ a < 143) := ⟨by rw [t1]; exact Nat.le_refl _, fun a _ => t3 a, fun a _ ha => ⟨fun j => t5 a j (by omega), fun j => t4 a j⟩⟩
  refine ⟨⟨⟨by rw [t1]; exact g1.1, fun a ha => by rw [t3]; exact g1.2.1 a ha, fun a j ha hm => by rw [t4]; exact g1.2.2.1 a j ha hm, fun a j ha hcs => ?_⟩, g2.kept hs g1.1 (fun e he z => by have := (kEn e he).2; omega) (fun _ => rfl) (fun _ => rfl) (fun _ _ _ => rfl), g3.kept hs g1.1 (fun k hk hsw z => by have := (kChS k hk hsw).2; omega) (fun _ _ _ => rfl) (fun _ => rfl), g4.kept hs g1.1 (fun k hk hsw z => by have := (kChT k hk hsw).2; omega) (fun _ _ _ => rfl), yWires_kept g5 hs g1.1 (fun e he => ⟨fun z => by have := (kWi e he).2; omega, fun z => by have := (kWi e he).2; omega⟩) (fun _ => rfl), g6.kept hs g1.1 t1 t2 (fun q hq z => by have := (kLn q hq).2; omega) (fun a hf z => kMod a z.2 z.1 ?_) (fun _ => rfl) (fun _ => rfl), fun _ _ _ _ => rfl⟩, q⟩
  · have hlt : a < 119 := by
      refine Classical.byContradiction fun z => ?_
      obtain ⟨n0, n1, n2⟩ := kCst a ha (by omega)
      simp [ycst, n0, n1, n2] at hcs
    rw [t5 a j (Or.inl hlt)]
    exact g1.2.2.2 a j ha hcs
  · unfold yfree at hf
    rw [Bool.or_eq_true, decide_eq_true_eq, decide_eq_true_eq] at hf
    rcases hf with z' | z'
    · omega
    · exact z'
theorem Bo_st {sp : Nat × (Nat → Int32)} {M : zM} {S : yS} {i j : Nat} {ls ls' : List Value} {r : Int32 × yS} (h : Bo M S) (hC : zOk sp M M i ls r) (hR : ∀ M1, RR M1 M1 S → zOr sp M1 M1 j ls' r) : ∃ M1 M2, zV (zPr sp) (i, 0, ls, [], M) = some (some (.int r.1), M1) ∧ zV (zPr sp) (j, 0, ls', [], M1) = some (some (.int r.1), M2) ∧ Bo M2 r.2 ∧ zk M 0 = (5, 0) ∧ zk M1 119 = (6, 0) := by
  obtain ⟨M1, r1, r2⟩ := hC
  have hr := Bo_C h r2
  obtain ⟨M2, u1, u2⟩ := hR M1 hr
  exact ⟨M1, M2, r1, u1, Bo_R r2 u2, (RC_0 h.1).1, bk119 hr.1⟩
/-! what every answer leaves -/
theorem yK_oC {n t : Nat} {S : yS} {p c d : Int32} {f : Nat → Int32 × yS} (h : yK n t S) (hf : ∀ k, k < 30 → ysw (k / 3) = false → yK (n + 3) (t + 1) (f k).2) : yK (n + 3) (t + 1) (oC S p c d f).2 := by
  unfold oC
  cases hC : yC p c with
  | none => exact h.mono (by omega) (by omega)
  | some k => exact hf k (yC_k hC).1 (yC_k hC).2
theorem yK_oE {n t : Nat} {S : yS} {l e d : Int32} {f : Nat → Int32 × yS} (h : yK n t S) (hf : ∀ k, k < 10 → yK (n + 3) (t + 1) (f k).2) : yK (n + 3) (t + 1) (oE S l e d f).2 := by
  unfold oE
  cases hC : yE l e with
  | none => exact h.mono (by omega) (by omega)
  | some k => exact hf k (yE_k hC)
theorem yK_up3 {n t : Nat} {S : yS} (h : yK n t S) : yK (n + 3) (t + 1) S := h.mono (by omega) (by omega)
theorem yK_po {n t : Nat} {S : yS} {k kd a b : Nat} (h : yK n t S) (hk : k < 30) (h1 : kd < 8) (h2 : a < 8) (h3 : b < 256) (h4 : kd = 0 → a < 4) : yK (n + 3) (t + 1) (yPutOn S k kd a b) := (show yK (n + 1) t _ from yK_put h (by omega) (yPk_k h1 h2 h3 h4)).mono (by omega) (by omega)
theorem yK_aAns {n t : Nat} {S : yS} {k : Nat} (h : yK n t S) (hk : k < 30) : yK (n + 3) (t + 1) (aAns S k).2 := by
  unfold aAns
  split
  · exact yK_po (yK_st h (by decide) hk (fun _ => by decide)).1 hk (by decide) (by decide) (by decide) (fun z => by cases z)
  · exact yK_up3 h
theorem yK_aClr {n t : Nat} {S : yS} {k : Nat} (h : yK n t S) (hk : k < 30) : yK (n + 3) (t + 1) (aClr S k).2 := by
  unfold aClr
  split
  · exact yK_up3 h
  · exact (yK_cut h hk).mono (by omega) (by omega)
theorem yK_aRes {n t : Nat} {S : yS} {k : Nat} (h : yK n t S) (hk : k < 30) : yK (n + 3) (t + 1) (aRes S k).2 := by
  unfold aRes
  split
  · rw [← yPutOn_5]
    exact yK_po (yK_st (yK_renew h) (by decide) hk (fun _ => by decide)).1 hk (by decide) (by decide) (by decide) (fun z => by cases z)
  · exact yK_up3 h
theorem yK_aSnd {n t : Nat} {S : yS} {k : Nat} {v : Int32} (h : yK n t S) (hk : k < 30) : yK (n + 3) (t + 1) (aSnd S k v).2 := by
  have gi := h.2.1 k hk
  unfold aSnd
  split
  · exact yK_up3 h
  · rename_i hc
    split
    · exact yK_up3 h
    · have h1 : ¬ v < 0 := fun z => hc (Or.inl z)
      have h2 : ¬ 255 < v := fun z => hc (Or.inr (Or.inl z))
      obtain ⟨v', hv, rfl⟩ := nI_rl (n := 255) (by decide) h1 h2
      rw [nI_clamp (by omega)]
      exact yK_po (yK_n h (Or.inl ⟨by decide, Nat.mod_lt _ (by decide)⟩)) hk (by decide) gi.2.1 hv (fun z => by cases z)
theorem yK_aRd {n t : Nat} {S : yS} {k : Nat} (h : yK n t S) (hk : k < 30) (hs : ysw (k / 3) = false) : yK (n + 3) (t + 1) (aRd S k).2 := by
  have hsl : ysl k < 12 := (by decide +kernel : ∀ k, k < 30 → ysw (k / 3) = false → ysl k < 12) k hk hs
  have hv := h.2.2.1 (ysl k) hsl
  unfold aRd
  split
  · cases hl : yv S (ysl k) with
    | nil => exact yK_up3 h
    | cons v vs =>
      rw [hl] at hv
      rw [List.length_cons] at hv
      exact yK_po (yK_n (yK_vals h (Nat.le_refl _) (by omega) (fun x hx => hv.2 x (List.mem_cons_of_mem _ hx))) (Or.inl ⟨by decide, Nat.mod_lt _ (by decide)⟩)) hk (by decide) (Nat.mod_lt _ (by decide)) (by decide) (fun z => by cases z)
  · exact yK_up3 h
theorem yK_aDel {n t : Nat} {S : yS} {e : Nat} (h : yK n t S) (he : e < 10) : yK (n + 3) (t + 1) (aDel S e).2 := by
  unfold aDel
  cases hw : yw S e with
  | nil => exact yK_up3 h
  | cons f fs => exact yK_meet (yK_wdrop h hw) he ((h.1 e he).2.2.2.2.2.2.2.2.2 f (by rw [hw]; exact List.mem_cons_self))
theorem yK_aLose {n t : Nat} {S : yS} {e : Nat} (h : yK n t S) : yK (n + 3) (t + 1) (aLose S e).2 := by
  unfold aLose
  cases hw : yw S e with
  | nil => exact yK_up3 h
  | cons f fs => exact yK_up3 (yK_wdrop h hw)
theorem yK_tickS {n t : Nat} {S : yS} {x : Int32} (h : yK n t S) : yK (n + 3) (t + 1) (yTickS S x) := by
  unfold yTickS
  split
  · exact yK_up3 h
  · exact yK_up3 (yK_ticks h)
theorem yK_oCall {n t : Nat} {S : yS} {p q : Int32} (h : yK n t S) : yK (n + 3) (t + 1) (oCall S p q).2 := by
  unfold oCall
  split
  · rename_i hc
    obtain ⟨p', hp', rfl⟩ := yT_k hc.1
    obtain ⟨q', hq', rfl⟩ := yT_k hc.2
    rw [nI_clamp (by omega), nI_clamp (by omega)]
    unfold aCall
    split
    · exact yK_up3 h
    · cases hw : yFree S (2 * p') with
      | none => exact yK_up3 h
      | some k =>
        have hd := yFree_d hw
        have hk : k < 30 := by omega
        have hs : ysw (k / 3) = false := by
          rw [hd]
          exact (by decide +kernel : ∀ p', p' < 4 → ysw (2 * p') = false) p' hp'
        exact yK_po (yK_renew (yK_n (yK_st h (by decide) hk (fun z => by rw [hs] at z; cases z)).1 (Or.inr ⟨rfl, by omega⟩))) hk (by decide) (by omega) (by omega) (fun _ => hq')
  · exact yK_up3 h
