/-! The start: behind the two constructors both stand at the empty state. -/
def yit0 (q : Nat) : Nat := (yr0 (zLn q) 0).getD 0
theorem k0E : ∀ e, e < 10 → zEn e < 143 ∧ 12 ≤ yj0 (zEn e) ∧ yi0 (zEn e) 5 = 0 ∧ yi0 (zEn e) 6 = 1 ∧ yi0 (zEn e) 7 = 0 ∧ yi0 (zEn e) 8 = 0 ∧ yi0 (zEn e) 9 = 0 ∧ yi0 (zEn e) 10 = 0 ∧ yi0 (zEn e) 11 = 0 := by decide +kernel
theorem k0S : ∀ k, k < 30 → ysw (k / 3) = true → zCh k < 143 ∧ 6 ≤ yj0 (zCh k) ∧ yi0 (zCh k) 5 = 0 := by decide +kernel
theorem k0T : ∀ k, k < 30 → ysw (k / 3) = false → zCh k < 143 ∧ 8 ≤ yj0 (zCh k) ∧ yi0 (zCh k) 7 = 0 ∧ yi0 (zCh k) 0 = 0 ∧ yi0 (zCh k) 2 = 0 ∧ yi0 (zCh k) 3 = 0 ∧ yi0 (zCh k) 4 = 0 := by decide +kernel
theorem k0W : ∀ e, e < 10 → zWi e < 143 ∧ 3 ≤ yj0 (zWi e) ∧ yi0 (zWi e) 1 = 0 ∧ yi0 (zWi e) 2 = 0 := by decide +kernel
theorem k0L : ∀ q, q < 22 → zLn q < 143 ∧ 3 ≤ yj0 (zLn q) ∧ yi0 (zLn q) 1 = 0 ∧ yi0 (zLn q) 2 = 0 ∧ yr0 (zLn q) 0 = some (yit0 q) ∧ yit0 q < 143 ∧ yk0 (yit0 q) = (20, 4) := by decide +kernel
theorem k0I : ∀ q, q < 22 → ∀ q', q' < 22 → yit0 q = yit0 q' → q = q' := by decide +kernel
theorem k0c : ∀ a, a < 143 → ∀ j, j < 12 → ycst a j = true → j < yj0 a := by decide +kernel
theorem k0R1 : ∀ a, a < 143 → 127 ≤ a → a ≤ 133 → ∀ e, e < 10 → e < yj0 a ∧ yi0 a e = 0 := by decide +kernel
theorem k0R2 : ∀ a, a < 143 → 134 ≤ a → a ≤ 140 → ∀ e, e < 30 → e < yj0 a ∧ yi0 a e = 0 := by decide +kernel
theorem k0R3 : ∀ s, s < 12 → s < yj0 141 ∧ yi0 141 s = 0 := by decide +kernel
theorem k0R4 : ∀ s, s < 10 → s < yj0 125 ∧ yi0 125 s = 0 := by decide +kernel
theorem k0R5 : 0 < yj0 119 ∧ yi0 119 0 = 0 := by decide +kernel
theorem ycst_j {a j : Nat} (h : ycst a j = true) : j < 12 := by
  unfold ycst at h
  simp at h
  omega
theorem Bo_0 {M : zM} (h : zchk M = true) : Bo M y0 := by
  unfold zchk at h
  simp only [Bool.and_eq_true, decide_eq_true_eq, List.all_eq_true, List.mem_range] at h
  obtain ⟨⟨hn, hz⟩, h1⟩ := h
  have hk : ∀ a, a < 143 → zk M a = yk0 a := fun a ha => (h1 a ha).1
  have hi : ∀ a, a < 143 → ∀ j, j < yj0 a → zi M a j = yi0 a j := fun a ha j hj => ((h1 a ha).2 j hj).1
  have hr : ∀ a, a < 143 → ∀ j, j < yj0 a → zr M a j = yr0 a j := fun a ha j hj => ((h1 a ha).2 j hj).2
  refine ⟨⟨⟨by omega, hk, fun a j ha hm => hr a ha j ?_, fun a j ha hc => hi a ha j (k0c a ha j (ycst_j hc) hc)⟩, fun e he => ?_, fun k hk' hs => ?_, fun k hk' hs => ?_, fun e he => ?_, ?_, fun _ _ _ _ => rfl⟩, fun e he => ?_, fun k hk' => ?_, fun s hs => ?_, fun e he => ?_, [], ⟨?_, fun i x hx => by cases hx⟩, fun e he => rfl⟩
  · unfold ymut at hm
    simp at hm
    omega
  · obtain ⟨a1, a2, a3, a4, a5, a6, a7, a8, a9⟩ := k0E e he
    refine ⟨?_, ?_, ?_, ?_, ?_, ?_, ?_⟩
    · rw [hi _ a1 5 (by omega)]; exact a3
    · rw [hi _ a1 6 (by omega)]; exact a4
    · rw [hi _ a1 7 (by omega)]; exact a5
    · rw [hi _ a1 8 (by omega)]; exact a6
    · rw [hi _ a1 9 (by omega)]; exact a7
    · rw [hi _ a1 10 (by omega)]; exact a8
    · rw [hi _ a1 11 (by omega)]; exact a9
  · obtain ⟨a1, a2, a3⟩ := k0S k hk' hs
    exact ⟨by rw [hi _ a1 5 (by omega)]; exact a3, fun z => by cases z⟩
  · obtain ⟨a1, a2, a3, a4, a5, a6, a7⟩ := k0T k hk' hs
    exact ⟨by rw [hi _ a1 7 (by omega)]; exact a3, by rw [hi _ a1 0 (by omega)]; exact a4, by rw [hi _ a1 2 (by omega)]; exact a5, by rw [hi _ a1 3 (by omega)]; exact a6, by rw [hi _ a1 4 (by omega)]; exact a7⟩
  · obtain ⟨a1, a2, a3, a4⟩ := k0W e he
    exact ⟨Nat.zero_le _, by rw [hi _ a1 2 (by omega)]; exact a4, 0, by decide, by rw [hi _ a1 1 (by omega)]; exact a3, fun k f hf => by cases hf⟩
  · refine ⟨by omega, yit0, fun _ => 4, ⟨fun q hq => ?_, fun q q' hq hq' he => k0I q hq q' hq' he⟩, fun q hq => ?_, ?_⟩
    · obtain ⟨a1, a2, a3, a4, a5, a6, a7⟩ := k0L q hq
      refine ⟨by omega, ?_⟩
      unfold yfree
      rw [a7]
      simp
    · obtain ⟨a1, a2, a3, a4, a5, a6, a7⟩ := k0L q hq
      have hx : yXs y0 q = [] := by
        unfold yXs
        split <;> rfl
      rw [hx]
      exact ⟨by rw [hr _ a1 0 (by omega)]; exact a5, by rw [hk _ a6]; exact a7, ⟨2, by decide, by decide, rfl⟩, Nat.zero_le _, by rw [hi _ a1 2 (by omega)]; exact a4, 0, by show 0 < 4; decide, by rw [hi _ a1 1 (by omega)]; exact a3, fun k v hv => by cases hv⟩
    · rw [hz]; rfl
  · refine ⟨?_, ?_, fun f hf => ?_⟩
    · obtain ⟨b1, b2⟩ := k0R1 127 (by decide) (by decide) (by decide) e he
      rw [hi _ (by decide) e b1]; exact b2
    · obtain ⟨b1, b2⟩ := k0R1 128 (by decide) (by decide) (by decide) e he
      rw [hi _ (by decide) e b1]; exact b2
    · obtain ⟨b1, b2⟩ := k0R1 (129 + f) (by omega) (by omega) (by omega) e he
      rw [hi _ (by omega) e b1]; exact b2
  · refine ⟨?_, fun hs => ⟨Or.inl ?_, ?_, fun z => by cases z⟩, fun hs f h7 h11 => ?_⟩
    · obtain ⟨b1, b2⟩ := k0R2 134 (by decide) (by decide) (by decide) k hk'
      rw [hi _ (by decide) k b1]; exact b2
    · obtain ⟨b1, b2⟩ := k0R2 136 (by decide) (by decide) (by decide) k hk'
      rw [hi _ (by decide) k b1]; exact b2
    · obtain ⟨b1, b2⟩ := k0R2 135 (by decide) (by decide) (by decide) k hk'
      rw [hi _ (by decide) k b1]; exact b2
    · obtain ⟨b1, b2⟩ := k0R2 (130 + f) (by omega) (by omega) (by omega) k hk'
      rw [hi _ (by omega) k b1]; exact b2
  · obtain ⟨b1, b2⟩ := k0R3 s hs
    exact ⟨by rw [hi _ (by decide) s b1]; exact b2, fun i v hv => by cases hv⟩
  · obtain ⟨b1, b2⟩ := k0R4 e he
    exact ⟨by rw [hi _ (by decide) e b1]; exact b2, fun k f hf => by cases hf⟩
  · rw [hi _ (by decide) 0 k0R5.1]; exact k0R5.2
theorem yK_0 : yK 0 0 y0 := by
  have z : ∀ f e, yn y0 f e = 0 := fun _ _ => rfl
  refine ⟨fun e he => ⟨?_, ?_, ?_, ?_, ?_, ?_, fun _ _ => rfl, fun p hp => (by cases hp), ?_, fun f hf => (by cases hf)⟩, fun k hk => ⟨?_, ?_, ?_, ?_, ?_, fun _ z => (by cases z)⟩, fun s hs => ⟨Nat.le_refl _, fun v hv => (by cases hv)⟩, ?_⟩
  · rw [z]; decide
  · rw [z]; exact Nat.zero_le _
  · rw [z]; decide
  · rw [z]; decide
  · rw [z]; decide
  · rw [z]; decide
  · show 0 ≤ 8; decide
  · rw [z]; decide
  · rw [z]; decide
  · rw [z]; decide
  · rw [z]; decide
  · rw [z]; decide
  · decide
