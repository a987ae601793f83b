/-! What holds of every state of lists that a run of calls reaches. -/
def yPk (p : yP) : Prop := p.1 < 8 ∧ (1 ≤ p.2.1 ∧ p.2.1 ≤ 3) ∧ p.2.2.1 < 8 ∧ p.2.2.2 < 256 ∧ (p.1 = 0 → p.2.2.1 < 4)
def yFr (f : yF) : Prop := f.1 ≤ 3 ∧ f.2.2.1 < 8 ∧ f.2.2.2.1 < 8 ∧ (f.1 = 2 → yPk f.2.2.2.2)
def yIe (S : yS) : Prop := ∀ e, e < 10 → yn S 0 e ≤ 4 ∧ yn S 0 e ≤ (yr S e).length ∧ yn S 1 e < 8 ∧ yn S 2 e < 8 ∧ yn S 3 e ≤ 3 ∧ yn S 4 e < 4 ∧ (yu S e = true → yn S 0 e = 0 → yn S 4 e = 0) ∧ (∀ p ∈ yr S e, yPk p) ∧ (yw S e).length ≤ 8 ∧ ∀ f ∈ yw S e, yFr f
def yIk (S : yS) : Prop := ∀ k, k < 30 → yn S 5 k ≤ 5 ∧ yn S 8 k < 8 ∧ yn S 9 k < 8 ∧ yn S 10 k < 8 ∧ yn S 7 k < 256 ∧ (ysw (k / 3) = true → yn S 5 k = 1 → yn S 6 k < 30 ∧ ysw (yn S 6 k / 3) = true ∧ yn S 6 k / 3 ≠ k / 3)
def yIv (t : Nat) (S : yS) : Prop := ∀ s, s < 12 → (yv S s).length ≤ t ∧ ∀ v ∈ yv S s, v < 256
def yj (S : yS) (k : Nat) : Nat := if ysw (k / 3) = true ∧ yn S 5 k = 1 then 1 else 0
def yΦ (S : yS) : Nat := ysum (fun e => (yr S e).length) 10 + ysum (yj S) 30
/-- all of it: at most n packets and joined channels, at most t values on a channel -/
def yK (n t : Nat) (S : yS) : Prop := yIe S ∧ yIk S ∧ yIv t S ∧ yΦ S ≤ n
theorem ysum_congr {f g : Nat → Nat} : ∀ {n : Nat}, (∀ i, i < n → f i = g i) → ysum f n = ysum g n
  | 0, _ => rfl
  | n + 1, h => by
    show ysum f n + f n = ysum g n + g n
    rw [ysum_congr (n := n) (fun i hi => h i (by omega)), h n (by omega)]
theorem ysum_le {f g : Nat → Nat} : ∀ {n : Nat}, (∀ i, i < n → f i ≤ g i) → ysum f n ≤ ysum g n
  | 0, _ => Nat.le_refl _
  | n + 1, h => by
    have h1 := ysum_le (n := n) (fun i hi => h i (by omega))
    have h2 := h n (by omega)
    show ysum f n + f n ≤ ysum g n + g n
    omega
theorem ysum_at {f : Nat → Nat} {q : Nat} : ∀ {n : Nat}, q < n → f q ≤ ysum f n
  | 0, h => by omega
  | n + 1, h => by
    show f q ≤ ysum f n + f n
    by_cases hq : q = n
    · subst hq; omega
    · have := ysum_at (f := f) (n := n) (show q < n by omega)
      omega
/-- one summand changes -/
theorem ysum_one {f g : Nat → Nat} {q n : Nat} (hq : q < n) (h : ∀ i, i ≠ q → g i = f i) : ysum g n + f q = ysum f n + g q := by
  have e : g = va_up f q (g q) := by
    funext i
    by_cases hi : i = q
    · subst hi; simp [va_up]
    · simp [va_up, hi, h i hi]
  rw [e, ysum_up hq]
  simp [va_up]
theorem yK.row {n t : Nat} {S : yS} (h : yK n t S) {e : Nat} (he : e < 10) : (yr S e).length ≤ n := by
  have h1 := ysum_at (f := fun e => (yr S e).length) (q := e) (n := 10) he
  have h2 := h.2.2.2
  unfold yΦ at h2
  try dsimp only at h1
  omega
theorem yK.mono {n t n' t' : Nat} {S : yS} (h : yK n t S) (hn : n ≤ n') (ht : t ≤ t') : yK n' t' S := ⟨h.1, h.2.1, fun s hs => ⟨Nat.le_trans (h.2.2.1 s hs).1 ht, (h.2.2.1 s hs).2⟩, Nat.le_trans h.2.2.2 hn⟩
theorem yn_nf {S : yS} {f e f' e' n : Nat} (h : f' ≠ f) : yn (ynS S f e n) f' e' = yn S f' e' := by rw [yn_n, if_neg (fun z => h z.1)]
theorem yn_ne {S : yS} {f e f' e' n : Nat} (h : e' ≠ e) : yn (ynS S f e n) f' e' = yn S f' e' := by rw [yn_n, if_neg (fun z => h z.2)]
theorem yn_nn {S : yS} {f e n : Nat} : yn (ynS S f e n) f e = n := by rw [yn_n, if_pos ⟨rfl, rfl⟩]
theorem yo_lt : ∀ e, e < 10 → yo e < 10 := by decide +kernel
/-- an end changes, but not its row -/
theorem yK_end {n t : Nat} {S S' : yS} {e : Nat} (h : yK n t S) (hr : ∀ e, yr S' e = yr S e) (hn : ∀ f k, 5 ≤ f → yn S' f k = yn S f k) (hv : ∀ s, yv S' s = yv S s) (ho : ∀ e', e' ≠ e → yu S' e' = yu S e' ∧ (∀ f, f < 5 → yn S' f e' = yn S f e') ∧ yw S' e' = yw S e')
    (hE : e < 10 → yn S' 0 e ≤ 4 ∧ yn S' 0 e ≤ (yr S e).length ∧ yn S' 1 e < 8 ∧ yn S' 2 e < 8 ∧ yn S' 3 e ≤ 3 ∧ yn S' 4 e < 4 ∧ (yu S' e = true → yn S' 0 e = 0 → yn S' 4 e = 0) ∧ (yw S' e).length ≤ 8 ∧ ∀ f ∈ yw S' e, yFr f) : yK n t S' := by
  refine ⟨fun e' he' => ?_, fun k hk => ?_, fun s hs => by rw [hv]; exact h.2.2.1 s hs, ?_⟩
  · have g := h.1 e' he'
    by_cases hee : e' = e
    · subst hee
      have g2 := hE he'
      rw [hr]
      exact ⟨g2.1, g2.2.1, g2.2.2.1, g2.2.2.2.1, g2.2.2.2.2.1, g2.2.2.2.2.2.1, g2.2.2.2.2.2.2.1, g.2.2.2.2.2.2.2.1, g2.2.2.2.2.2.2.2⟩
    · obtain ⟨o1, o2, o3⟩ := ho e' hee
      rw [hr, o1, o2 0 (by decide), o2 1 (by decide), o2 2 (by decide), o2 3 (by decide), o2 4 (by decide), o3]
      exact g
  · rw [hn 5 k (by decide), hn 8 k (by decide), hn 9 k (by decide), hn 10 k (by decide), hn 7 k (by decide), hn 6 k (by decide)]
    exact h.2.1 k hk
  · have e1 : yΦ S' = yΦ S := by
      unfold yΦ
      rw [ysum_congr (f := fun e => (yr S' e).length) (g := fun e => (yr S e).length) (fun i _ => by rw [hr]), ysum_congr (f := yj S') (g := yj S) (fun i _ => by unfold yj; rw [hn 5 i (by decide)])]
    rw [e1]
    exact h.2.2.2
theorem yK_post {n t : Nat} {S : yS} {e : Nat} {fr : yF} (h : yK n t S) (hf : yFr fr) : yK n t (yPost S e fr) := by
  unfold yPost
  by_cases hl : (yw S (yo e)).length < 8
  · rw [if_pos hl]
    refine yK_end (e := yo e) h (fun _ => rfl) (fun _ _ _ => rfl) (fun _ => rfl) (fun e' he' => ⟨rfl, fun _ _ => rfl, by rw [yw_w, if_neg he']⟩) (fun he => ?_)
    have g := h.1 _ he
    refine ⟨g.1, g.2.1, g.2.2.1, g.2.2.2.1, g.2.2.2.2.1, g.2.2.2.2.2.1, g.2.2.2.2.2.2.1, ?_, fun f hf' => ?_⟩
    · rw [yw_w, if_pos rfl, List.length_append]; exact hl
    · rw [yw_w, if_pos rfl] at hf'
      rcases List.mem_append.mp hf' with hf' | hf'
      · exact g.2.2.2.2.2.2.2.2.2 f hf'
      · rw [List.mem_singleton.mp hf']; exact hf
  · rw [if_neg hl]; exact h
theorem yPost_r {S : yS} {e : Nat} {fr : yF} : (∀ e', yr (yPost S e fr) e' = yr S e') ∧ (∀ f e', yn (yPost S e fr) f e' = yn S f e') ∧ (∀ e', yu (yPost S e fr) e' = yu S e') ∧ (∀ e', ye (yPost S e fr) e' = ye S e') ∧ (∀ k, yf (yPost S e fr) k = yf S k) ∧ ∀ s, yv (yPost S e fr) s = yv S s := by
  unfold yPost
  split
  · exact ⟨fun _ => rfl, fun _ _ => rfl, fun _ => rfl, fun _ => rfl, fun _ => rfl, fun _ => rfl⟩
  · exact ⟨fun _ => rfl, fun _ _ => rfl, fun _ => rfl, fun _ => rfl, fun _ => rfl, fun _ => rfl⟩
theorem yFr_info {n t : Nat} {S : yS} {e k : Nat} (h : yK n t S) (he : e < 10) (hk : k < (yr S e).length) : yFr (2, ye S e, (yn S 1 e + k) % 8, yn S 2 e, (yr S e).getD k (0, 0, 0, 0)) := by
  have g := h.1 e he
  refine ⟨by show (2 : Nat) ≤ 3; decide, Nat.mod_lt _ (by decide), g.2.2.2.1, fun _ => ?_⟩
  show yPk ((yr S e).getD k (0, 0, 0, 0))
  rw [List.getD_eq_getElem?_getD, List.getElem?_eq_getElem hk]
  exact g.2.2.2.2.2.2.2.1 _ (List.getElem_mem hk)
theorem yK_info {n t : Nat} {S : yS} {e k : Nat} (h : yK n t S) (he : e < 10) (hk : k < (yr S e).length) : yK n t (yInfo S e k) := yK_post h (yFr_info h he hk)
theorem yK_on1 {n t : Nat} {S : yS} {e : Nat} (h : yK n t S) (he : e < 10) : yK n t (yOn1 S e) := by
  unfold yOn1
  by_cases hc : yu S e = true ∧ yn S 0 e < 4 ∧ yn S 0 e < (yr S e).length
  · rw [if_pos hc]
    have h1 := yK_info h he hc.2.2
    have hp := @yPost_r S e (2, ye S e, (yn S 1 e + yn S 0 e) % 8, yn S 2 e, (yr S e).getD (yn S 0 e) (0, 0, 0, 0))
    refine yK_end (e := e) h1 (fun _ => rfl) (fun f k hf => by rw [yn_n, if_neg (fun z => by omega)]) (fun _ => rfl) (fun e' he' => ⟨rfl, fun f _ => by rw [yn_n, if_neg (fun z => he' z.2)], rfl⟩) (fun _ => ?_)
    have g := h1.1 e he
    have g0 : yr (yInfo S e (yn S 0 e)) e = yr S e := hp.1 e
    refine ⟨by rw [yn_n, if_pos ⟨rfl, rfl⟩]; omega, by rw [yn_n, if_pos ⟨rfl, rfl⟩, g0]; omega, ?_, ?_, ?_, ?_, ?_, g.2.2.2.2.2.2.2.2⟩
    · rw [yn_n, if_neg (by simp)]; exact g.2.2.1
    · rw [yn_n, if_neg (by simp)]; exact g.2.2.2.1
    · rw [yn_n, if_neg (by simp)]; exact g.2.2.2.2.1
    · rw [yn_n, if_neg (by simp)]; exact g.2.2.2.2.2.1
    · intro _ z
      rw [yn_n, if_pos ⟨rfl, rfl⟩] at z
      omega
  · rw [if_neg hc]; exact h
theorem yK_on {n t : Nat} {S : yS} {e : Nat} (h : yK n t S) (he : e < 10) : yK n t (yOn S e) := yK_on1 (yK_on1 (yK_on1 (yK_on1 h he) he) he) he
theorem yK_app {n t : Nat} {S : yS} {e : Nat} {p : yP} (h : yK n t S) (he : e < 10) (hp : yPk p) : yK (n + 1) t (yrS S e (yr S e ++ [p])) := by
  refine ⟨fun e' he' => ?_, h.2.1, h.2.2.1, ?_⟩
  · have g := h.1 e' he'
    by_cases hee : e' = e
    · subst hee
      rw [yr_r, if_pos rfl]
      refine ⟨g.1, by rw [List.length_append]; exact Nat.le_trans g.2.1 (Nat.le_add_right _ _), g.2.2.1, g.2.2.2.1, g.2.2.2.2.1, g.2.2.2.2.2.1, g.2.2.2.2.2.2.1, fun x hx => ?_, g.2.2.2.2.2.2.2.2⟩
      rcases List.mem_append.mp hx with hx | hx
      · exact g.2.2.2.2.2.2.2.1 x hx
      · rw [List.mem_singleton.mp hx]; exact hp
    · rw [yr_r, if_neg hee]; exact g
  · have h1 := ysum_one (f := fun e => (yr S e).length) (g := fun e' => (yr (yrS S e (yr S e ++ [p])) e').length) (q := e) (n := 10) he (fun i hi => by show (yr (yrS S e (yr S e ++ [p])) i).length = (yr S i).length; rw [yr_r, if_neg hi])
    try dsimp only at h1
    rw [yr_r, if_pos rfl, List.length_append] at h1
    have h2 := h.2.2.2
    unfold yΦ at h2 ⊢
    have h3 : ysum (yj (yrS S e (yr S e ++ [p]))) 30 = ysum (yj S) 30 := rfl
    rw [h3]
    have h4 : [p].length = 1 := rfl
    omega
theorem yK_put {n t : Nat} {S : yS} {e : Nat} {p : yP} (h : yK n t S) (he : e < 10) (hp : yPk p) : yK (n + 1) t (yPut S e p) := yK_on (yK_app h he hp) he
/-- a channel's state, any but JOINED; c: what is won -/
theorem yK_st {n t : Nat} {S : yS} {k m : Nat} (h : yK n t S) (hm : m ≤ 5) (hk : k < 30) (hj : ysw (k / 3) = true → m ≠ 1) : yK n t (ynS S 5 k m) ∧ (ysw (k / 3) = true → yn S 5 k = 1 → yK (n - 1) t (ynS S 5 k m) ∧ 1 ≤ n) := by
  have hIe : yIe (ynS S 5 k m) := fun e he => by
    rw [yn_nf (by decide), yn_nf (by decide), yn_nf (by decide), yn_nf (by decide), yn_nf (by decide)]
    exact h.1 e he
  have hIk : yIk (ynS S 5 k m) := fun k' hk' => by
    have g := h.2.1 k' hk'
    rw [yn_nf (f' := 8) (by decide), yn_nf (f' := 9) (by decide), yn_nf (f' := 10) (by decide), yn_nf (f' := 7) (by decide), yn_nf (f' := 6) (by decide)]
    by_cases hkk : k' = k
    · subst hkk
      rw [yn_nn]
      exact ⟨hm, g.2.1, g.2.2.1, g.2.2.2.1, g.2.2.2.2.1, fun a b => absurd b (hj a)⟩
    · rw [yn_ne hkk]; exact g
  have h1 := ysum_one (f := yj S) (g := yj (ynS S 5 k m)) (q := k) (n := 30) hk (fun i hi => by unfold yj; rw [yn_ne hi])
  have h0 : yj (ynS S 5 k m) k = 0 := by
    unfold yj
    rw [if_neg]
    intro z
    rw [yn_n, if_pos ⟨rfl, rfl⟩] at z
    exact hj z.1 z.2
  have h2 := h.2.2.2
  have h3 : ysum (fun e => (yr (ynS S 5 k m) e).length) 10 = ysum (fun e => (yr S e).length) 10 := rfl
  refine ⟨⟨hIe, hIk, h.2.2.1, ?_⟩, fun a b => ⟨⟨hIe, hIk, h.2.2.1, ?_⟩, ?_⟩⟩
  · unfold yΦ at h2 ⊢
    omega
  · have h4 : yj S k = 1 := if_pos ⟨a, b⟩
    unfold yΦ at h2 ⊢
    omega
  · have h4 : yj S k = 1 := if_pos ⟨a, b⟩
    have h5 := ysum_at (f := yj S) (q := k) (n := 30) hk
    unfold yΦ at h2
    omega
theorem yK_cut {n t : Nat} {S : yS} {k : Nat} (h : yK n t S) (hk : k < 30) : yK (n + 1) t (yCut S k) := yK_put (yK_st h (by decide) hk (fun _ => by decide)).1 (by omega) ⟨by show (2 : Nat) < 8; decide, ⟨by show 1 ≤ k % 3 + 1; omega, by show k % 3 + 1 ≤ 3; omega⟩, by show (0 : Nat) < 8; decide, by show (0 : Nat) < 256; decide, fun z => by cases z⟩
theorem yK_lost {n t : Nat} {S : yS} {k : Nat} (h : yK n t S) (hk : k < 30) : yK n t (yLost S k) := by
  unfold yLost
  by_cases hc : ysw (k / 3) = true ∧ yn S 5 k = 1
  · rw [if_pos hc]
    have g := h.2.1 k hk
    obtain ⟨h1, h2⟩ := (yK_st (m := 0) h (by decide) hk (fun _ => by decide)).2 hc.1 hc.2
    have h3 := yK_cut h1 (k := yn S 6 k) (g.2.2.2.2.2 hc.1 hc.2).1
    exact h3.mono (by omega) (Nat.le_refl _)
  · rw [if_neg hc]
    exact (yK_st h (by decide) hk (fun _ => by decide)).1
theorem yBrk0_n {S : yS} {e f e' : Nat} : yn (yBrk0 S e) f e' = if f < 5 ∧ e' = e then 0 else yn S f e' := by
  unfold yBrk0
  simp only [yn_n, yn_r]
  by_cases he : e' = e
  · subst he
    by_cases h4 : f = 4
    · subst h4; simp
    by_cases h3 : f = 3
    · subst h3; simp
    by_cases h2 : f = 2
    · subst h2; simp
    by_cases h1 : f = 1
    · subst h1; simp
    by_cases h0 : f = 0
    · subst h0; simp
    · have : ¬ f < 5 := by omega
      simp [h0, h1, h2, h3, h4, this]
  · simp [he]
theorem yBrk0_r {S : yS} {e e' : Nat} : yr (yBrk0 S e) e' = if e' = e then [] else yr S e' := rfl
theorem yK_brk0 {n t : Nat} {S : yS} {e : Nat} (h : yK n t S) (he : e < 10) : yK n t (yBrk0 S e) := by
  refine ⟨fun e' he' => ?_, fun k hk => ?_, h.2.2.1, ?_⟩
  · have g := h.1 e' he'
    rw [yBrk0_n, yBrk0_n, yBrk0_n, yBrk0_n, yBrk0_n, yBrk0_r]
    by_cases hee : e' = e
    · subst hee
      simp only [and_true, if_true, show (0 : Nat) < 5 from by decide, show (1 : Nat) < 5 from by decide, show (2 : Nat) < 5 from by decide, show (3 : Nat) < 5 from by decide, show (4 : Nat) < 5 from by decide]
      exact ⟨by decide, Nat.zero_le _, by decide, by decide, by decide, by decide, fun _ _ => trivial, fun p hp => absurd hp List.not_mem_nil, g.2.2.2.2.2.2.2.2⟩
    · simp only [hee, and_false, if_false]
      exact g
  · have g := h.2.1 k hk
    rw [yBrk0_n, yBrk0_n, yBrk0_n, yBrk0_n, yBrk0_n, yBrk0_n, if_neg (fun z => absurd z.1 (by decide)), if_neg (fun z => absurd z.1 (by decide)), if_neg (fun z => absurd z.1 (by decide)), if_neg (fun z => absurd z.1 (by decide)), if_neg (fun z => absurd z.1 (by decide)), if_neg (fun z => absurd z.1 (by decide))]
    exact g
  · have h1 := ysum_le (f := fun e' => (yr (yBrk0 S e) e').length) (g := fun e => (yr S e).length) (n := 10) (fun i _ => by
      show (yr (yBrk0 S e) i).length ≤ (yr S i).length
      rw [yBrk0_r]
      split
      · exact Nat.zero_le _
      · exact Nat.le_refl _)
    have h2 : ysum (yj (yBrk0 S e)) 30 = ysum (yj S) 30 := ysum_congr (fun i _ => by
      have h5 : yn (yBrk0 S e) 5 i = yn S 5 i := by rw [yBrk0_n, if_neg (fun z => absurd z.1 (by decide))]
      unfold yj
      rw [h5])
    have h3 := h.2.2.2
    unfold yΦ at h3 ⊢
    omega
theorem yK_brk {n t : Nat} {S : yS} {e : Nat} (h : yK n t S) (he : e < 10) : yK n t (yBrk S e) := yK_lost (yK_lost (yK_lost (yK_brk0 h he) (by omega)) (by omega)) (by omega)
theorem yK_again {n t : Nat} {S : yS} {e : Nat} (h : yK n t S) (he : e < 10) : ∀ {m : Nat}, m ≤ (yr S e).length → yK n t (yAgain S e m) ∧ (∀ e', yr (yAgain S e m) e' = yr S e') ∧ (∀ f e', yn (yAgain S e m) f e' = yn S f e') ∧ (∀ e', yu (yAgain S e m) e' = yu S e') ∧ ∀ e', ye (yAgain S e m) e' = ye S e'
  | 0, _ => ⟨h, fun _ => rfl, fun _ _ => rfl, fun _ => rfl, fun _ => rfl⟩
  | m + 1, hm => by
    obtain ⟨h1, h2, h3, h4, h5⟩ := yK_again h he (m := m) (by omega)
    have hp := @yPost_r (yAgain S e m) e (2, ye (yAgain S e m) e, (yn (yAgain S e m) 1 e + m) % 8, yn (yAgain S e m) 2 e, (yr (yAgain S e m) e).getD m (0, 0, 0, 0))
    exact ⟨yK_info h1 he (by rw [h2]; omega), fun e' => (hp.1 e').trans (h2 e'), fun f e' => (hp.2.1 f e').trans (h3 f e'), fun e' => (hp.2.2.1 e').trans (h4 e'), fun e' => (hp.2.2.2.1 e').trans (h5 e')⟩
/-- a number of an end, but sent and clock -/
theorem yK_num {n t : Nat} {S : yS} {f e m : Nat} (h : yK n t S) (hf : (f = 1 ∧ m < 8) ∨ (f = 2 ∧ m < 8) ∨ (f = 3 ∧ m ≤ 3)) : yK n t (ynS S f e m) := by
  refine yK_end (e := e) h (fun _ => rfl) (fun f' k hf' => yn_nf (by omega)) (fun _ => rfl) (fun e' he' => ⟨rfl, fun _ _ => yn_ne he', rfl⟩) (fun he => ?_)
  have g := h.1 e he
  rw [yn_nf (f' := 0) (by omega), yn_nf (f' := 4) (by omega)]
  refine ⟨g.1, g.2.1, ?_, ?_, ?_, g.2.2.2.2.2.1, g.2.2.2.2.2.2.1, g.2.2.2.2.2.2.2.2⟩
  · rcases hf with ⟨h1, h2⟩ | ⟨h1, h2⟩ | ⟨h1, h2⟩
    · subst h1; rw [yn_nn]; exact h2
    · rw [yn_nf (by omega)]; exact g.2.2.1
    · rw [yn_nf (by omega)]; exact g.2.2.1
  · rcases hf with ⟨h1, h2⟩ | ⟨h1, h2⟩ | ⟨h1, h2⟩
    · rw [yn_nf (by omega)]; exact g.2.2.2.1
    · subst h1; rw [yn_nn]; exact h2
    · rw [yn_nf (by omega)]; exact g.2.2.2.1
  · rcases hf with ⟨h1, h2⟩ | ⟨h1, h2⟩ | ⟨h1, h2⟩
    · rw [yn_nf (by omega)]; exact g.2.2.2.2.1
    · rw [yn_nf (by omega)]; exact g.2.2.2.2.1
    · subst h1; rw [yn_nn]; exact h2
theorem yK_clk {n t : Nat} {S : yS} {e m : Nat} (h : yK n t S) (hm : m < 4) (hz : e < 10 → yu S e = true → yn S 0 e = 0 → m = 0) : yK n t (ynS S 4 e m) := by
  refine yK_end (e := e) h (fun _ => rfl) (fun f' k hf' => yn_nf (by omega)) (fun _ => rfl) (fun e' he' => ⟨rfl, fun _ _ => yn_ne he', rfl⟩) (fun he => ?_)
  have g := h.1 e he
  rw [yn_nf (f' := 0) (by decide), yn_nf (f' := 1) (by decide), yn_nf (f' := 2) (by decide), yn_nf (f' := 3) (by decide), yn_nn]
  exact ⟨g.1, g.2.1, g.2.2.1, g.2.2.2.1, g.2.2.2.2.1, hm, hz he, g.2.2.2.2.2.2.2.2⟩
theorem yK_ep {n t : Nat} {S : yS} {e : Nat} {x : Int32} (h : yK n t S) : yK n t (yeS S e x) := h
theorem yK_upF {n t : Nat} {S : yS} {e : Nat} (h : yK n t S) : yK n t (yuS S e false) := by
  refine yK_end (e := e) h (fun _ => rfl) (fun _ _ _ => rfl) (fun _ => rfl) (fun e' he' => ⟨by rw [yu_u, if_neg he'], fun _ _ => rfl, rfl⟩) (fun he => ?_)
  have g := h.1 e he
  exact ⟨g.1, g.2.1, g.2.2.1, g.2.2.2.1, g.2.2.2.2.1, g.2.2.2.2.2.1, fun z => (by rw [yu_u, if_pos rfl] at z; cases z), g.2.2.2.2.2.2.2.2⟩
theorem yK_upT {n t : Nat} {S : yS} {e : Nat} (h : yK n t S) (hc : e < 10 → yn S 0 e = 0 → yn S 4 e = 0) : yK n t (yuS S e true) := by
  refine yK_end (e := e) h (fun _ => rfl) (fun _ _ _ => rfl) (fun _ => rfl) (fun e' he' => ⟨by rw [yu_u, if_neg he'], fun _ _ => rfl, rfl⟩) (fun he => ?_)
  have g := h.1 e he
  exact ⟨g.1, g.2.1, g.2.2.1, g.2.2.2.1, g.2.2.2.2.1, g.2.2.2.2.2.1, fun _ z => hc he z, g.2.2.2.2.2.2.2.2⟩
