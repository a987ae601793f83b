/-! The picture, kept and changed. -/
theorem yEnds.kept {M M' : zM} {S S' : yS} {A : Nat → Prop} (h : yEnds M S) (hs : zSm M M' A) (hn : 143 ≤ zn M) (hA : ∀ e, e < 10 → ¬ A (zEn e)) (e1 : ∀ e, ye S' e = ye S e) (e2 : ∀ e, yu S' e = yu S e) (e3 : ∀ f e, f < 5 → yn S' f e = yn S f e) : yEnds M' S' := by
  intro e he
  have hi := (hs.2.2 (zEn e) (by have := (kEn e he).2; omega) (hA e he)).1
  rw [hi, hi, hi, hi, hi, hi, hi, e1, e2, e3 0 e (by decide), e3 1 e (by decide), e3 2 e (by decide), e3 3 e (by decide), e3 4 e (by decide)]
  exact h e he
theorem yChS.kept {M M' : zM} {S S' : yS} {A : Nat → Prop} (h : yChS M S) (hs : zSm M M' A) (hn : 143 ≤ zn M) (hA : ∀ k, k < 30 → ysw (k / 3) = true → ¬ A (zCh k)) (e1 : ∀ f k, 5 ≤ f → yn S' f k = yn S f k) (e2 : ∀ k, yf S' k = yf S k) : yChS M' S' := by
  intro k hk hsw
  have hi := hs.2.2 (zCh k) (by have := (kChS k hk hsw).2; omega) (hA k hk hsw)
  rw [hi.1, hi.1, hi.2, e1 5 k (by decide), e1 6 k (by decide), e2]
  exact h k hk hsw
theorem yChT.kept {M M' : zM} {S S' : yS} {A : Nat → Prop} (h : yChT M S) (hs : zSm M M' A) (hn : 143 ≤ zn M) (hA : ∀ k, k < 30 → ysw (k / 3) = false → ¬ A (zCh k)) (e1 : ∀ f k, 5 ≤ f → yn S' f k = yn S f k) : yChT M' S' := by
  intro k hk hsw
  have hi := (hs.2.2 (zCh k) (by have := (kChT k hk hsw).2; omega) (hA k hk hsw)).1
  rw [hi, hi, hi, hi, hi, e1 5 k (by decide), e1 7 k (by decide), e1 8 k (by decide), e1 9 k (by decide), e1 10 k (by decide)]
  exact h k hk hsw
theorem yWires_kept {M M' : zM} {S S' : yS} {A : Nat → Prop} (h : ∀ e, e < 10 → yWire M (zWi e) (yw S e)) (hs : zSm M M' A) (hn : 143 ≤ zn M) (hA : ∀ e, e < 10 → ¬ A (zWi e) ∧ ¬ A (zWi e + 1)) (e1 : ∀ e, yw S' e = yw S e) : ∀ e, e < 10 → yWire M' (zWi e) (yw S' e) := by
  intro e he
  rw [e1]
  exact (h e he).kept hs (by have := (kWi e he).2.2; omega) (hA e he).1 (hA e he).2
theorem yXs_kept {S S' : yS} (e1 : ∀ e, yr S' e = yr S e) (e2 : ∀ s, yv S' s = yv S s) (q : Nat) : yXs S' q = yXs S q := by
  unfold yXs
  rw [e1, e2]
theorem yLines.kept {M M' : zM} {S S' : yS} {A : Nat → Prop} (h : yLines M S) (hs : zSm M M' A) (hn : 143 ≤ zn M) (hz1 : zn M' = zn M) (hz2 : zz M' = zz M) (hA : ∀ q, q < 22 → ¬ A (zLn q)) (hF : ∀ a, yfree a = true → ¬ A a) (e1 : ∀ e, yr S' e = yr S e) (e2 : ∀ s, yv S' s = yv S s) : yLines M' S' := by
  obtain ⟨h0, it, cap, h1, h2, h3⟩ := h
  refine ⟨by rw [hz1, hz2]; exact h0, it, cap, by rw [hz1]; exact h1, fun q hq => ?_, by rw [hz2]; exact h3⟩
  rw [yXs_kept e1 e2]
  exact (h2 q hq).kept hs (by have := (kLn q hq).2; omega) (h1.1 q hq).1 (hA q hq) (hF _ (h1.1 q hq).2)
theorem zSm_wi {M : zM} {a j : Nat} {x : Int32} : zSm M (zwi M a j x) (fun q => q = a) := ⟨Nat.le_refl _, fun _ _ => rfl, fun q _ hq => ⟨fun _ => zi_ne hq, fun _ => rfl⟩⟩
theorem zSm_wr {M : zM} {a j : Nat} {x : Option Nat} : zSm M (zwr M a j x) (fun q => q = a) := ⟨Nat.le_refl _, fun _ _ => rfl, fun q _ hq => ⟨fun _ => rfl, fun _ => zr_ne hq⟩⟩
theorem ySt_wi {M : zM} {a j : Nat} {x : Int32} (h : ySt M) (hc : ycst a j = false) : ySt (zwi M a j x) := by
  refine ⟨h.1, h.2.1, h.2.2.1, fun a' j' ha' hc' => ?_⟩
  rw [zi_wi, if_neg (fun z => by rw [z.1, z.2, hc] at hc'; cases hc')]
  exact h.2.2.2 a' j' ha' hc'
theorem ySt_wr {M : zM} {a j : Nat} {x : Option Nat} (h : ySt M) (hc : ymut a j = true) : ySt (zwr M a j x) := by
  refine ⟨h.1, h.2.1, fun a' j' ha' hc' => ?_, h.2.2.2⟩
  rw [zr_wr, if_neg (fun z => by rw [z.1, z.2, hc] at hc'; cases hc')]
  exact h.2.2.1 a' j' ha' hc'
theorem yfree_no {a : Nat} (ha : a < 143) (hk : yk0 a ≠ (20, 4)) : ∀ q, yfree q = true → ¬ q = a := fun _ hq e => yfree_ne hq ha hk e
theorem ynk {a b : Nat} {p q : Nat × Nat} (ha : yk0 a = p) (hb : yk0 b = q) (h : p ≠ q) : ¬ a = b := yne (by rw [ha, hb]; exact h)
/-- a number of an end is written -/
theorem RC_end {M0 M : zM} {S S' : yS} {e j : Nat} {x : Int32} (h : RC M0 M S) (he : e < 10) (hj : j ≠ 2) (hE : yEnds (zwi M (zEn e) j x) S') (h1 : ∀ q, yr S' q = yr S q) (h2 : ∀ q, yw S' q = yw S q) (h3 : ∀ f k, 5 ≤ f → yn S' f k = yn S f k) (h4 : ∀ k, yf S' k = yf S k) (h5 : ∀ q, yv S' q = yv S q) : RC M0 (zwi M (zEn e) j x) S' := by
  obtain ⟨g1, g2, g3, g4, g5, g6, g7⟩ := h
  have hk := kEn e he
  have hc : ycst (zEn e) j = false := by simp [ycst, hk.1, hj]
  refine ⟨ySt_wi g1 hc, hE, g3.kept zSm_wi g1.1 (fun k hk' hs => ynk (kChS k hk' hs).1 hk.1 (by decide)) h3 h4, g4.kept zSm_wi g1.1 (fun k hk' hs => ynk (kChT k hk' hs).1 hk.1 (by decide)) h3, yWires_kept g5 zSm_wi g1.1 (fun e' he' => ⟨ynk (kWi e' he').1 hk.1 (by decide), ynk (kWi e' he').2.1 hk.1 (by decide)⟩) h2, g6.kept zSm_wi g1.1 rfl rfl (fun q hq => ynk (kLn q hq).1 hk.1 (by decide)) (yfree_no (by omega) (by rw [hk.1]; decide)) h1 h5, fun a j' ha1 ha2 => ?_⟩
  rw [zi_ne (by omega)]
  exact g7 a j' ha1 ha2
theorem RC_epoch {M0 M : zM} {S : yS} {e : Nat} {x : Int32} (h : RC M0 M S) (he : e < 10) : RC M0 (zwi M (zEn e) 5 x) (yeS S e x) := by
  refine RC_end h he (by decide) (fun e' he' => ?_) (fun _ => rfl) (fun _ => rfl) (fun _ _ _ => rfl) (fun _ => rfl) (fun _ => rfl)
  have g := h.2.1 e' he'
  by_cases hee : e' = e
  · subst hee
    rw [zi_eq, zi_nj (by decide), zi_nj (by decide), zi_nj (by decide), zi_nj (by decide), zi_nj (by decide), zi_nj (by decide), ye_e, if_pos rfl]
    exact ⟨rfl, g.2⟩
  · have hne : zEn e' ≠ zEn e := fun z => hee (iEn e' he' e he z)
    rw [zi_ne hne, zi_ne hne, zi_ne hne, zi_ne hne, zi_ne hne, zi_ne hne, zi_ne hne, ye_e, if_neg hee]
    exact g
theorem RC_up {M0 M : zM} {S : yS} {e : Nat} {b : Bool} (h : RC M0 M S) (he : e < 10) : RC M0 (zwi M (zEn e) 6 (yb b)) (yuS S e b) := by
  refine RC_end h he (by decide) (fun e' he' => ?_) (fun _ => rfl) (fun _ => rfl) (fun _ _ _ => rfl) (fun _ => rfl) (fun _ => rfl)
  have g := h.2.1 e' he'
  by_cases hee : e' = e
  · subst hee
    rw [zi_eq, zi_nj (by decide), zi_nj (by decide), zi_nj (by decide), zi_nj (by decide), zi_nj (by decide), zi_nj (by decide), yu_u, if_pos rfl]
    exact ⟨g.1, rfl, g.2.2⟩
  · have hne : zEn e' ≠ zEn e := fun z => hee (iEn e' he' e he z)
    rw [zi_ne hne, zi_ne hne, zi_ne hne, zi_ne hne, zi_ne hne, zi_ne hne, zi_ne hne, yu_u, if_neg hee]
    exact g
theorem RC_en {M0 M : zM} {S : yS} {e f n : Nat} (h : RC M0 M S) (he : e < 10) (hf : f < 5) : RC M0 (zwi M (zEn e) (7 + f) (nI n)) (ynS S f e n) := by
  refine RC_end h he (by omega) (fun e' he' => ?_) (fun _ => rfl) (fun _ => rfl) (fun f' k hf' => ?_) (fun _ => rfl) (fun _ => rfl)
  · have g := h.2.1 e' he'
    by_cases hee : e' = e
    · subst hee
      have key : ∀ f', f' < 5 → zi (zwi M (zEn e') (7 + f) (nI n)) (zEn e') (7 + f') = nI (yn (ynS S f e' n) f' e') := by
        intro f' hf'
        by_cases hff : f' = f
        · subst hff
          rw [zi_eq, yn_n, if_pos ⟨rfl, rfl⟩]
        · rw [zi_nj (by omega), yn_n, if_neg (fun z => hff z.1)]
          have hc : f' = 0 ∨ f' = 1 ∨ f' = 2 ∨ f' = 3 ∨ f' = 4 := by omega
          rcases hc with h | h | h | h | h <;> subst h
          · exact g.2.2.1
          · exact g.2.2.2.1
          · exact g.2.2.2.2.1
          · exact g.2.2.2.2.2.1
          · exact g.2.2.2.2.2.2
      refine ⟨?_, ?_, key 0 (by decide), key 1 (by decide), key 2 (by decide), key 3 (by decide), key 4 (by decide)⟩
      · rw [zi_nj (by omega)]; exact g.1
      · rw [zi_nj (by omega)]; exact g.2.1
    · have hne : zEn e' ≠ zEn e := fun z => hee (iEn e' he' e he z)
      rw [zi_ne hne, zi_ne hne, zi_ne hne, zi_ne hne, zi_ne hne, zi_ne hne, zi_ne hne, yn_n, yn_n, yn_n, yn_n, yn_n, if_neg (fun z => hee z.2), if_neg (fun z => hee z.2), if_neg (fun z => hee z.2), if_neg (fun z => hee z.2), if_neg (fun z => hee z.2)]
      exact g
  · rw [yn_n, if_neg (fun z => by omega)]
/-- a number of a channel is written -/
theorem RC_ch {M0 M M' : zM} {S S' : yS} {k : Nat} (h : RC M0 M S) (hk : k < 30) (hs : zSm M M' (fun q => q = zCh k)) (hst : ySt M') (hz1 : zn M' = zn M) (hz2 : zz M' = zz M) (hS : yChS M' S') (hT : yChT M' S') (h0 : ∀ e, ye S' e = ye S e) (hu : ∀ e, yu S' e = yu S e) (h1 : ∀ q, yr S' q = yr S q) (h2 : ∀ q, yw S' q = yw S q) (h3 : ∀ f e, f < 5 → yn S' f e = yn S f e) (h5 : ∀ q, yv S' q = yv S q) : RC M0 M' S' := by
  obtain ⟨g1, g2, g3, g4, g5, g6, g7⟩ := h
  have hkk : (yk0 (zCh k)).1 = 0 ∨ (yk0 (zCh k)).1 = 2 := by
    cases hsw : ysw (k / 3)
    · exact Or.inl (by rw [(kChT k hk hsw).1])
    · exact Or.inr (by rw [(kChS k hk hsw).1])
  have hlt : zCh k < 119 := by
    cases hsw : ysw (k / 3)
    · exact (kChT k hk hsw).2
    · exact (kChS k hk hsw).2
  have hne : ∀ {a : Nat} {p : Nat × Nat}, yk0 a = p → ¬ p.1 = 0 → ¬ p.1 = 2 → ¬ a = zCh k := by
    intro a p ha h0 h2 e
    rw [← e, ha] at hkk
    rcases hkk with h | h
    · exact h0 h
    · exact h2 h
  refine ⟨hst, g2.kept hs g1.1 (fun e he => hne (kEn e he).1 (by decide) (by decide)) h0 hu h3, hS, hT, yWires_kept g5 hs g1.1 (fun e he => ⟨hne (kWi e he).1 (by decide) (by decide), hne (kWi e he).2.1 (by decide) (by decide)⟩) h2, g6.kept hs g1.1 hz1 hz2 (fun q hq => hne (kLn q hq).1 (by decide) (by decide)) (yfree_no (by omega) (fun e => by rw [e] at hkk; revert hkk; decide)) h1 h5, fun a j' ha1 ha2 => ?_⟩
  rw [(hs.2.2 a (by have := g1.1; omega) (by omega)).1]
  exact g7 a j' ha1 ha2
