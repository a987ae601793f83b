/-- a terminal's channel: state, peer, own, sure, got -/
theorem RC_tn {M0 M : zM} {S : yS} {k f j n : Nat} (h : RC M0 M S) (hk : k < 30) (hsw : ysw (k / 3) = false) (hj : (f = 5 ∧ j = 7) ∨ (f = 7 ∧ j = 0) ∨ (f = 8 ∧ j = 2) ∨ (f = 9 ∧ j = 3) ∨ (f = 10 ∧ j = 4)) : RC M0 (zwi M (zCh k) j (nI n)) (ynS S f k n) := by
  have hkk := kChT k hk hsw
  refine RC_ch h hk zSm_wi (ySt_wi h.1 (by simp [ycst, hkk.1]; omega)) rfl rfl (fun k' hk' hs' => ?_) (fun k' hk' hs' => ?_) (fun _ => rfl) (fun _ => rfl) (fun _ => rfl) (fun _ => rfl) (fun f' e hf' => ?_) (fun _ => rfl)
  · have hne : ¬ k' = k := fun z => by rw [z, hsw] at hs'; cases hs'
    have hne2 : zCh k' ≠ zCh k := fun z => hne (iCh k' hk' k hk z)
    rw [zi_ne hne2, zi_ne hne2, zr_wi, yn_n, yn_n, if_neg (fun z => hne z.2), if_neg (fun z => hne z.2)]
    exact h.2.2.1 k' hk' hs'
  · have g := h.2.2.2.1 k' hk' hs'
    by_cases hkk' : k' = k
    · subst hkk'
      have key : ∀ f' j', ((f' = 5 ∧ j' = 7) ∨ (f' = 7 ∧ j' = 0) ∨ (f' = 8 ∧ j' = 2) ∨ (f' = 9 ∧ j' = 3) ∨ (f' = 10 ∧ j' = 4)) → zi M (zCh k') j' = nI (yn S f' k') → zi (zwi M (zCh k') j (nI n)) (zCh k') j' = nI (yn (ynS S f k' n) f' k') := by
        intro f' j' hj' hg
        by_cases hff : f' = f
        · have : j' = j := by omega
          subst hff; subst this
          rw [zi_eq, yn_n, if_pos ⟨rfl, rfl⟩]
        · rw [zi_nj (by omega), yn_n, if_neg (fun z => hff z.1)]
          exact hg
      exact ⟨key 5 7 (by omega) g.1, key 7 0 (by omega) g.2.1, key 8 2 (by omega) g.2.2.1, key 9 3 (by omega) g.2.2.2.1, key 10 4 (by omega) g.2.2.2.2⟩
    · have hne2 : zCh k' ≠ zCh k := fun z => hkk' (iCh k' hk' k hk z)
      rw [zi_ne hne2, zi_ne hne2, zi_ne hne2, zi_ne hne2, zi_ne hne2, yn_n, yn_n, yn_n, yn_n, yn_n, if_neg (fun z => hkk' z.2), if_neg (fun z => hkk' z.2), if_neg (fun z => hkk' z.2), if_neg (fun z => hkk' z.2), if_neg (fun z => hkk' z.2)]
      exact g
  · rw [yn_n, if_neg (fun z => by omega)]
/-- a switch's channel: a state but JOINED -/
theorem RC_jn {M0 M : zM} {S : yS} {k n : Nat} (h : RC M0 M S) (hk : k < 30) (hsw : ysw (k / 3) = true) (hn : n ≠ 1) : RC M0 (zwi M (zCh k) 5 (nI n)) (ynS S 5 k n) := by
  have hkk := kChS k hk hsw
  refine RC_ch h hk zSm_wi (ySt_wi h.1 (by simp [ycst, hkk.1])) rfl rfl (fun k' hk' hs' => ?_) (fun k' hk' hs' => ?_) (fun _ => rfl) (fun _ => rfl) (fun _ => rfl) (fun _ => rfl) (fun f' e hf' => ?_) (fun _ => rfl)
  · have g := h.2.2.1 k' hk' hs'
    by_cases hkk' : k' = k
    · subst hkk'
      rw [zi_eq, yn_n, if_pos ⟨rfl, rfl⟩]
      exact ⟨rfl, fun z => absurd z hn⟩
    · have hne2 : zCh k' ≠ zCh k := fun z => hkk' (iCh k' hk' k hk z)
      rw [zi_ne hne2, zi_ne hne2, zr_wi, yn_n, yn_n, if_neg (fun z => hkk' z.2), if_neg (fun z => hkk' z.2)]
      exact g
  · have hne : ¬ k' = k := fun z => by rw [z, hsw] at hs'; cases hs'
    have hne2 : zCh k' ≠ zCh k := fun z => hne (iCh k' hk' k hk z)
    rw [zi_ne hne2, zi_ne hne2, zi_ne hne2, zi_ne hne2, zi_ne hne2, yn_n, yn_n, yn_n, yn_n, yn_n, if_neg (fun z => hne z.2), if_neg (fun z => hne z.2), if_neg (fun z => hne z.2), if_neg (fun z => hne z.2), if_neg (fun z => hne z.2)]
    exact h.2.2.2.1 k' hk' hs'
  · rw [yn_n, if_neg (fun z => by omega)]
/-- a switch's channel: the partner of one that isn't JOINED -/
theorem RC_jp {M0 M : zM} {S : yS} {k : Nat} {x : Option Nat} (h : RC M0 M S) (hk : k < 30) (hsw : ysw (k / 3) = true) (hn : yn S 5 k ≠ 1) : RC M0 (zwr M (zCh k) 1 x) S := by
  have hkk := kChS k hk hsw
  refine RC_ch h hk zSm_wr (ySt_wr h.1 (by simp [ymut, hkk.1])) rfl rfl (fun k' hk' hs' => ?_) (fun k' hk' hs' => ?_) (fun _ => rfl) (fun _ => rfl) (fun _ => rfl) (fun _ => rfl) (fun f' e hf' => rfl) (fun _ => rfl)
  · have g := h.2.2.1 k' hk' hs'
    by_cases hkk' : k' = k
    · subst hkk'
      exact ⟨g.1, fun z => absurd z hn⟩
    · have hne2 : zCh k' ≠ zCh k := fun z => hkk' (iCh k' hk' k hk z)
      rw [zi_wr, zi_wr, zr_ne hne2]
      exact g
  · exact h.2.2.2.1 k' hk' hs'
/-- a switch's channel: unanswered -/
theorem RC_ju {M0 M : zM} {S : yS} {k : Nat} {b : Bool} (h : RC M0 M S) (hk : k < 30) (hsw : ysw (k / 3) = true) : RC M0 (zwi M (zCh k) 2 (yb b)) (yfS S k b) := by
  have hkk := kChS k hk hsw
  refine RC_ch h hk zSm_wi (ySt_wi h.1 (by simp [ycst, hkk.1])) rfl rfl (fun k' hk' hs' => ?_) (fun k' hk' hs' => ?_) (fun _ => rfl) (fun _ => rfl) (fun _ => rfl) (fun _ => rfl) (fun f' e hf' => rfl) (fun _ => rfl)
  · have g := h.2.2.1 k' hk' hs'
    by_cases hkk' : k' = k
    · subst hkk'
      rw [zi_nj (by decide), zi_eq, yf_f, if_pos rfl]
      exact ⟨g.1, fun z => ⟨rfl, (g.2 z).2⟩⟩
    · have hne2 : zCh k' ≠ zCh k := fun z => hkk' (iCh k' hk' k hk z)
      rw [zi_ne hne2, zi_ne hne2, zr_wi, yf_f, if_neg hkk']
      exact g
  · have hne : ¬ k' = k := fun z => by rw [z, hsw] at hs'; cases hs'
    have hne2 : zCh k' ≠ zCh k := fun z => hne (iCh k' hk' k hk z)
    rw [zi_ne hne2, zi_ne hne2, zi_ne hne2, zi_ne hne2, zi_ne hne2]
    exact h.2.2.2.1 k' hk' hs'
/-- a switch's channel is joined: state, partner, unanswered -/
theorem RC_jj {M0 M : zM} {S : yS} {k j : Nat} {b : Bool} (h : RC M0 M S) (hk : k < 30) (hsw : ysw (k / 3) = true) : RC M0 (zwi (zwr (zwi M (zCh k) 5 1) (zCh k) 1 (some (zCh j))) (zCh k) 2 (yb b)) (yfS (ynS (ynS S 5 k 1) 6 k j) k b) := by
  have hkk := kChS k hk hsw
  refine RC_ch h hk ⟨Nat.le_refl _, fun _ _ => rfl, fun q _ hq => ⟨fun _ => (zi_ne hq).trans (zi_wr.trans (zi_ne hq)), fun _ => (zr_wi.trans (zr_ne hq)).trans zr_wi⟩⟩ (ySt_wi (ySt_wr (ySt_wi h.1 (by simp [ycst, hkk.1])) (by simp [ymut, hkk.1])) (by simp [ycst, hkk.1])) rfl rfl (fun k' hk' hs' => ?_) (fun k' hk' hs' => ?_) (fun _ => rfl) (fun _ => rfl) (fun _ => rfl) (fun _ => rfl) (fun f' e hf' => ?_) (fun _ => rfl)
  · have g := h.2.2.1 k' hk' hs'
    by_cases hkk' : k' = k
    · subst hkk'
      rw [zi_nj (by decide), zi_wr, zi_eq, zi_eq, zr_wi, zr_eq, yn_f, yn_n, yn_n, yn_f, yn_n, if_neg (fun z => absurd z.1 (by decide)), if_pos ⟨rfl, rfl⟩, if_pos ⟨rfl, rfl⟩, yf_f, if_pos rfl]
      exact ⟨rfl, fun _ => ⟨rfl, rfl⟩⟩
    · have hne2 : zCh k' ≠ zCh k := fun z => hkk' (iCh k' hk' k hk z)
      rw [zi_ne hne2, zi_wr, zi_ne hne2, zi_ne hne2, zi_wr, zi_ne hne2, zr_wi, zr_ne hne2, zr_wi, yn_f, yn_n, yn_n, yn_f, yn_n, yn_n, if_neg (fun z => hkk' z.2), if_neg (fun z => hkk' z.2), if_neg (fun z => hkk' z.2), if_neg (fun z => hkk' z.2), yf_f, if_neg hkk', yf_n, yf_n]
      exact g
  · have hne : ¬ k' = k := fun z => by rw [z, hsw] at hs'; cases hs'
    have hne2 : zCh k' ≠ zCh k := fun z => hne (iCh k' hk' k hk z)
    have hi : ∀ j', zi (zwi (zwr (zwi M (zCh k) 5 1) (zCh k) 1 (some (zCh j))) (zCh k) 2 (yb b)) (zCh k') j' = zi M (zCh k') j' := fun j' => (zi_ne hne2).trans (zi_wr.trans (zi_ne hne2))
    have hn : ∀ f', yn (yfS (ynS (ynS S 5 k 1) 6 k j) k b) f' k' = yn S f' k' := fun f' => by rw [yn_f, yn_n, yn_n, if_neg (fun z => hne z.2), if_neg (fun z => hne z.2)]
    rw [hi, hi, hi, hi, hi, hn, hn, hn, hn, hn]
    exact h.2.2.2.1 k' hk' hs'
  · rw [yn_f, yn_n, yn_n, if_neg (fun z => by omega), if_neg (fun z => by omega)]
/-- a wire has other frames -/
theorem RC_wi {M0 M M' : zM} {S : yS} {e : Nat} {fs : List yF} (h : RC M0 M S) (he : e < 10) (hs : zSm M M' (fun q => q = zWi e ∨ q = zWi e + 1)) (hr : ∀ a j, zr M' a j = zr M a j) (hz1 : zn M' = zn M) (hz2 : zz M' = zz M) (hw : yWire M' (zWi e) fs) : RC M0 M' (ywS S e fs) := by
  obtain ⟨g1, g2, g3, g4, g5, g6, g7⟩ := h
  have hk := kWi e he
  have hne : ∀ {a : Nat} {p : Nat × Nat}, yk0 a = p → p ≠ (4, 0) → p ≠ (20, 40) → ¬ (a = zWi e ∨ a = zWi e + 1) := by
    intro a p ha h0 h2 z
    rcases z with z | z
    · exact h0 (by rw [← ha, z, hk.1])
    · exact h2 (by rw [← ha, z, hk.2.1])
  refine ⟨⟨by rw [hz1]; exact g1.1, fun a ha => by rw [hs.2.1 a (by have := g1.1; omega)]; exact g1.2.1 a ha, fun a j ha hm => by rw [hr]; exact g1.2.2.1 a j ha hm, fun a j ha hc => ?_⟩, g2.kept hs g1.1 (fun e' he' => hne (kEn e' he').1 (by decide) (by decide)) (fun _ => rfl) (fun _ => rfl) (fun _ _ _ => rfl), g3.kept hs g1.1 (fun k hk' hs' => hne (kChS k hk' hs').1 (by decide) (by decide)) (fun _ _ _ => rfl) (fun _ => rfl), g4.kept hs g1.1 (fun k hk' hs' => hne (kChT k hk' hs').1 (by decide) (by decide)) (fun _ _ _ => rfl), fun e' he' => ?_, g6.kept hs g1.1 hz1 hz2 (fun q hq => hne (kLn q hq).1 (by decide) (by decide)) (fun a ha z => ?_) (fun _ => rfl) (fun _ => rfl), fun a j' ha1 ha2 => ?_⟩
  · by_cases hz : a = zWi e ∨ a = zWi e + 1
    · exfalso
      rcases hz with z | z
      · rw [z] at hc; simp [ycst, hk.1] at hc
      · rw [z] at hc; simp [ycst, hk.2.1] at hc
    · rw [(hs.2.2 a (by have := g1.1; omega) hz).1]
      exact g1.2.2.2 a j ha hc
  · by_cases hee : e' = e
    · subst hee
      rw [yw_w, if_pos rfl]
      exact hw
    · rw [yw_w, if_neg hee]
      have hk' := kWi e' he'
      refine (g5 e' he').kept hs (by have := g1.1; omega) (fun z => ?_) (fun z => ?_)
      · rcases z with z | z
        · exact hee (iWi e' he' e he z)
        · exact absurd z (ynk hk'.1 hk.2.1 (by decide))
      · rcases z with z | z
        · exact absurd z (ynk hk'.2.1 hk.1 (by decide))
        · exact hee (iWi e' he' e he (by omega))
  · rcases z with z | z
    · exact yfree_no (by omega) (by rw [hk.1]; decide) a ha z
    · exact yfree_no (by omega) (by rw [hk.2.1]; decide) a ha z
  · rw [(hs.2.2 a (by have := g1.1; omega) (by omega)).1]
    exact g7 a j' ha1 ha2
