/-! The reference's object and arrays behind a state of lists: object 119, arrays 120 to 142. -/
def RB (M0 : zM) : Prop := (∀ a, 119 ≤ a → a < 143 → zk M0 a = yk0 a) ∧ ∀ j, j < 24 → zr M0 119 j = yr0 119 j
theorem bk119 {M0 : zM} (B : RB M0) : zk M0 119 = (6, 0) := (B.1 119 (by decide) (by decide)).trans (by decide +kernel)
theorem bk120 {M0 : zM} (B : RB M0) : zk M0 120 = (20, 1600) := (B.1 120 (by decide) (by decide)).trans (by decide +kernel)
theorem br1 {M0 : zM} (B : RB M0) : zr M0 119 1 = some 120 := (B.2 1 (by decide)).trans (by decide +kernel)
theorem bk121 {M0 : zM} (B : RB M0) : zk M0 121 = (20, 1600) := (B.1 121 (by decide) (by decide)).trans (by decide +kernel)
theorem br2 {M0 : zM} (B : RB M0) : zr M0 119 2 = some 121 := (B.2 2 (by decide)).trans (by decide +kernel)
theorem bk122 {M0 : zM} (B : RB M0) : zk M0 122 = (20, 1600) := (B.1 122 (by decide) (by decide)).trans (by decide +kernel)
theorem br3 {M0 : zM} (B : RB M0) : zr M0 119 3 = some 122 := (B.2 3 (by decide)).trans (by decide +kernel)
theorem bk123 {M0 : zM} (B : RB M0) : zk M0 123 = (20, 1600) := (B.1 123 (by decide) (by decide)).trans (by decide +kernel)
theorem br4 {M0 : zM} (B : RB M0) : zr M0 119 4 = some 123 := (B.2 4 (by decide)).trans (by decide +kernel)
theorem bk124 {M0 : zM} (B : RB M0) : zk M0 124 = (20, 1600) := (B.1 124 (by decide) (by decide)).trans (by decide +kernel)
theorem br5 {M0 : zM} (B : RB M0) : zr M0 119 5 = some 124 := (B.2 5 (by decide)).trans (by decide +kernel)
theorem bk125 {M0 : zM} (B : RB M0) : zk M0 125 = (20, 10) := (B.1 125 (by decide) (by decide)).trans (by decide +kernel)
theorem br6 {M0 : zM} (B : RB M0) : zr M0 119 6 = some 125 := (B.2 6 (by decide)).trans (by decide +kernel)
theorem bk126 {M0 : zM} (B : RB M0) : zk M0 126 = (20, 640) := (B.1 126 (by decide) (by decide)).trans (by decide +kernel)
theorem br7 {M0 : zM} (B : RB M0) : zr M0 119 7 = some 126 := (B.2 7 (by decide)).trans (by decide +kernel)
theorem bk127 {M0 : zM} (B : RB M0) : zk M0 127 = (20, 10) := (B.1 127 (by decide) (by decide)).trans (by decide +kernel)
theorem br8 {M0 : zM} (B : RB M0) : zr M0 119 8 = some 127 := (B.2 8 (by decide)).trans (by decide +kernel)
theorem bk128 {M0 : zM} (B : RB M0) : zk M0 128 = (21, 10) := (B.1 128 (by decide) (by decide)).trans (by decide +kernel)
theorem br9 {M0 : zM} (B : RB M0) : zr M0 119 9 = some 128 := (B.2 9 (by decide)).trans (by decide +kernel)
theorem bk129 {M0 : zM} (B : RB M0) : zk M0 129 = (20, 10) := (B.1 129 (by decide) (by decide)).trans (by decide +kernel)
theorem br10 {M0 : zM} (B : RB M0) : zr M0 119 10 = some 129 := (B.2 10 (by decide)).trans (by decide +kernel)
theorem bk130 {M0 : zM} (B : RB M0) : zk M0 130 = (20, 10) := (B.1 130 (by decide) (by decide)).trans (by decide +kernel)
theorem br11 {M0 : zM} (B : RB M0) : zr M0 119 11 = some 130 := (B.2 11 (by decide)).trans (by decide +kernel)
theorem bk131 {M0 : zM} (B : RB M0) : zk M0 131 = (20, 10) := (B.1 131 (by decide) (by decide)).trans (by decide +kernel)
theorem br12 {M0 : zM} (B : RB M0) : zr M0 119 12 = some 131 := (B.2 12 (by decide)).trans (by decide +kernel)
theorem bk132 {M0 : zM} (B : RB M0) : zk M0 132 = (20, 10) := (B.1 132 (by decide) (by decide)).trans (by decide +kernel)
theorem br13 {M0 : zM} (B : RB M0) : zr M0 119 13 = some 132 := (B.2 13 (by decide)).trans (by decide +kernel)
theorem bk133 {M0 : zM} (B : RB M0) : zk M0 133 = (20, 10) := (B.1 133 (by decide) (by decide)).trans (by decide +kernel)
theorem br14 {M0 : zM} (B : RB M0) : zr M0 119 14 = some 133 := (B.2 14 (by decide)).trans (by decide +kernel)
theorem bk134 {M0 : zM} (B : RB M0) : zk M0 134 = (20, 30) := (B.1 134 (by decide) (by decide)).trans (by decide +kernel)
theorem br15 {M0 : zM} (B : RB M0) : zr M0 119 15 = some 134 := (B.2 15 (by decide)).trans (by decide +kernel)
theorem bk135 {M0 : zM} (B : RB M0) : zk M0 135 = (20, 30) := (B.1 135 (by decide) (by decide)).trans (by decide +kernel)
theorem br16 {M0 : zM} (B : RB M0) : zr M0 119 16 = some 135 := (B.2 16 (by decide)).trans (by decide +kernel)
theorem bk136 {M0 : zM} (B : RB M0) : zk M0 136 = (21, 30) := (B.1 136 (by decide) (by decide)).trans (by decide +kernel)
theorem br17 {M0 : zM} (B : RB M0) : zr M0 119 17 = some 136 := (B.2 17 (by decide)).trans (by decide +kernel)
theorem bk137 {M0 : zM} (B : RB M0) : zk M0 137 = (20, 30) := (B.1 137 (by decide) (by decide)).trans (by decide +kernel)
theorem br18 {M0 : zM} (B : RB M0) : zr M0 119 18 = some 137 := (B.2 18 (by decide)).trans (by decide +kernel)
theorem bk138 {M0 : zM} (B : RB M0) : zk M0 138 = (20, 30) := (B.1 138 (by decide) (by decide)).trans (by decide +kernel)
theorem br19 {M0 : zM} (B : RB M0) : zr M0 119 19 = some 138 := (B.2 19 (by decide)).trans (by decide +kernel)
theorem bk139 {M0 : zM} (B : RB M0) : zk M0 139 = (20, 30) := (B.1 139 (by decide) (by decide)).trans (by decide +kernel)
theorem br20 {M0 : zM} (B : RB M0) : zr M0 119 20 = some 139 := (B.2 20 (by decide)).trans (by decide +kernel)
theorem bk140 {M0 : zM} (B : RB M0) : zk M0 140 = (20, 30) := (B.1 140 (by decide) (by decide)).trans (by decide +kernel)
theorem br21 {M0 : zM} (B : RB M0) : zr M0 119 21 = some 140 := (B.2 21 (by decide)).trans (by decide +kernel)
theorem bk141 {M0 : zM} (B : RB M0) : zk M0 141 = (20, 12) := (B.1 141 (by decide) (by decide)).trans (by decide +kernel)
theorem br22 {M0 : zM} (B : RB M0) : zr M0 119 22 = some 141 := (B.2 22 (by decide)).trans (by decide +kernel)
theorem bk142 {M0 : zM} (B : RB M0) : zk M0 142 = (20, 6144) := (B.1 142 (by decide) (by decide)).trans (by decide +kernel)
theorem br23 {M0 : zM} (B : RB M0) : zr M0 119 23 = some 142 := (B.2 23 (by decide)).trans (by decide +kernel)
def RSt (M0 M : zM) : Prop := zn M = zn M0 ∧ zz M = zz M0 ∧ (∀ a, zk M a = zk M0 a) ∧ (∀ a j, zr M a j = zr M0 a j) ∧ ∀ a j, (a < 119 ∨ 143 ≤ a) → zi M a j = zi M0 a j
theorem RSt_wi {M0 M : zM} {a j : Nat} {x : Int32} (h : RSt M0 M) (h1 : 119 ≤ a) (h2 : a < 143) : RSt M0 (zwi M a j x) := ⟨h.1, h.2.1, h.2.2.1, h.2.2.2.1, fun a' j' ha => by rw [zi_ne (by omega)]; exact h.2.2.2.2 a' j' ha⟩
def RRe (M : zM) (S : yS) : Prop := ∀ e, e < 10 → zi M 127 e = ye S e ∧ zi M 128 e = yb (!yu S e) ∧ ∀ f, f < 5 → zi M (129 + f) e = nI (yn S f e)
def RRk (M : zM) (S : yS) : Prop := ∀ k, k < 30 → zi M 134 k = nI (yn S 5 k) ∧ (ysw (k / 3) = true → (zi M 136 k = 0 ∨ (zi M 136 k = 1 ∧ yf S k = true)) ∧ zi M 135 k = nI (yn S 6 k) ∧ (yn S 5 k = 1 → zi M 136 k = yb (yf S k))) ∧ (ysw (k / 3) = false → ∀ f, 7 ≤ f → f < 11 → zi M (130 + f) k = nI (yn S f k))
def RRv (M : zM) (S : yS) : Prop := ∀ s, s < 12 → zi M 141 s = nI (yv S s).length ∧ ∀ i v, (yv S s)[i]? = some v → zi M 142 (512 * s + i) = nI v
def yFw (M : zM) (b : Nat) (f : yF) : Prop := zi M 126 b = nI f.1 ∧ zi M 126 (b + 1) = f.2.1 ∧ (2 ≤ f.1 → zi M 126 (b + 3) = nI f.2.2.2.1) ∧ (f.1 = 2 → zi M 126 (b + 2) = nI f.2.2.1 ∧ zi M 126 (b + 4) = nI f.2.2.2.2.1 ∧ zi M 126 (b + 5) = nI f.2.2.2.2.2.1 ∧ zi M 126 (b + 6) = nI f.2.2.2.2.2.2.1 ∧ zi M 126 (b + 7) = nI f.2.2.2.2.2.2.2)
def RRf (M : zM) (S : yS) : Prop := ∀ e, e < 10 → zi M 125 e = nI (yw S e).length ∧ ∀ k f, (yw S e)[k]? = some f → yFw M (64 * e + 8 * k) f
def yPl (M : zM) (pl : List (Nat × yP)) : Prop := zi M 119 0 = nI pl.length ∧ ∀ i x, pl[i]? = some x → x.1 < 10 ∧ zi M 120 i = nI x.1 ∧ zi M 121 i = nI x.2.1 ∧ zi M 122 i = nI x.2.2.1 ∧ zi M 123 i = nI x.2.2.2.1 ∧ zi M 124 i = nI x.2.2.2.2
def yRow (pl : List (Nat × yP)) (e : Nat) : List yP := (pl.filter (fun x => x.1 == e)).map (fun x => x.2)
def RRp (M : zM) (S : yS) : Prop := ∃ pl, yPl M pl ∧ ∀ e, e < 10 → yr S e = yRow pl e
def RR (M0 M : zM) (S : yS) : Prop := RB M0 ∧ RSt M0 M ∧ RRe M S ∧ RRk M S ∧ RRv M S ∧ RRf M S ∧ RRp M S
theorem RRe.kept {M M' : zM} {S S' : yS} (h : RRe M S) (hm : ∀ a j, 127 ≤ a → a ≤ 133 → zi M' a j = zi M a j) (h1 : ∀ e, ye S' e = ye S e) (h2 : ∀ e, yu S' e = yu S e) (h3 : ∀ f e, f < 5 → yn S' f e = yn S f e) : RRe M' S' := fun e he => by
  obtain ⟨g1, g2, g3⟩ := h e he
  refine ⟨by rw [hm _ _ (by omega) (by omega), h1]; exact g1, by rw [hm _ _ (by omega) (by omega), h2]; exact g2, fun f hf => ?_⟩
  rw [hm _ _ (by omega) (by omega), h3 f e hf]; exact g3 f hf
theorem RRk.kept {M M' : zM} {S S' : yS} (h : RRk M S) (hm : ∀ a j, 134 ≤ a → a ≤ 140 → zi M' a j = zi M a j) (h1 : ∀ f k, 5 ≤ f → yn S' f k = yn S f k) (h2 : ∀ k, yf S' k = yf S k) : RRk M' S' := fun k hk => by
  have g := h k hk
  rw [hm _ _ (by omega) (by omega), hm _ _ (by omega) (by omega), hm _ _ (by omega) (by omega), h1 5 k (by omega), h1 6 k (by omega), h2]
  refine ⟨g.1, g.2.1, fun hs f hf hf' => ?_⟩
  rw [hm _ _ (by omega) (by omega), h1 f k (by omega)]
  exact g.2.2 hs f hf hf'
theorem RRv.kept {M M' : zM} {S S' : yS} (h : RRv M S) (hm : ∀ a j, 141 ≤ a → a ≤ 142 → zi M' a j = zi M a j) (h1 : ∀ s, yv S' s = yv S s) : RRv M' S' := fun s hs => by
  have g := h s hs
  rw [hm _ _ (by omega) (by omega), h1]
  exact ⟨g.1, fun i v hv => by rw [hm _ _ (by omega) (by omega)]; exact g.2 i v hv⟩
theorem yFw.kept {M M' : zM} {b : Nat} {f : yF} (h : yFw M b f) (hm : ∀ q, q < 8 → zi M' 126 (b + q) = zi M 126 (b + q)) : yFw M' b f := by
  obtain ⟨g1, g2, g3, g4⟩ := h
  refine ⟨by rw [show b = b + 0 from rfl, hm 0 (by omega)]; exact g1, by rw [hm 1 (by omega)]; exact g2, fun z => by rw [hm 3 (by omega)]; exact g3 z, fun z => ?_⟩
  rw [hm 2 (by omega), hm 4 (by omega), hm 5 (by omega), hm 6 (by omega), hm 7 (by omega)]
  exact g4 z
theorem RRf.kept {M M' : zM} {S S' : yS} (h : RRf M S) (hm : ∀ a j, 125 ≤ a → a ≤ 126 → zi M' a j = zi M a j) (h1 : ∀ e, yw S' e = yw S e) : RRf M' S' := fun e he => by
  have g := h e he
  rw [hm _ _ (by omega) (by omega), h1]
  exact ⟨g.1, fun k f hf => (g.2 k f hf).kept (fun q _ => hm _ _ (by omega) (by omega))⟩
theorem RRp.kept {M M' : zM} {S S' : yS} (h : RRp M S) (hm : ∀ a j, 119 ≤ a → a ≤ 124 → zi M' a j = zi M a j) (h1 : ∀ e, yr S' e = yr S e) : RRp M' S' := by
  obtain ⟨pl, ⟨g1, g2⟩, g3⟩ := h
  refine ⟨pl, ⟨by rw [hm _ _ (by omega) (by omega)]; exact g1, fun i x hx => ?_⟩, fun e he => by rw [h1]; exact g3 e he⟩
  rw [hm _ _ (by omega) (by omega), hm _ _ (by omega) (by omega), hm _ _ (by omega) (by omega), hm _ _ (by omega) (by omega), hm _ _ (by omega) (by omega)]
  exact g2 i x hx
/-! one number of an end, one of a channel -/
theorem RR_e {M0 M : zM} {S S' : yS} {a j : Nat} {x : Int32} (h : RR M0 M S) (h1 : 127 ≤ a) (h2 : a ≤ 133) (hE : RRe (zwi M a j x) S') (s1 : ∀ e, yr S' e = yr S e) (s2 : ∀ e, yw S' e = yw S e) (s3 : ∀ f k, 5 ≤ f → yn S' f k = yn S f k) (s4 : ∀ k, yf S' k = yf S k) (s5 : ∀ s, yv S' s = yv S s) : RR M0 (zwi M a j x) S' := by
  obtain ⟨g0, g1, g2, g3, g4, g5, g6⟩ := h
  exact ⟨g0, RSt_wi g1 (by omega) (by omega), hE, g3.kept (fun _ _ _ _ => zi_ne (by omega)) s3 s4, g4.kept (fun _ _ _ _ => zi_ne (by omega)) s5, g5.kept (fun _ _ _ _ => zi_ne (by omega)) s2, g6.kept (fun _ _ _ _ => zi_ne (by omega)) s1⟩
theorem RR_ep {M0 M : zM} {S : yS} {e : Nat} {x : Int32} (h : RR M0 M S) : RR M0 (zwi M 127 e x) (yeS S e x) := by
  refine RR_e h (by omega) (by omega) (fun e' he' => ?_) (fun _ => rfl) (fun _ => rfl) (fun _ _ _ => rfl) (fun _ => rfl) (fun _ => rfl)
  have g := h.2.2.1 e' he'
  refine ⟨?_, by rw [zi_ne (by omega)]; exact g.2.1, fun f hf => by rw [zi_ne (by omega)]; exact g.2.2 f hf⟩
  by_cases hee : e' = e
  · subst hee; rw [zi_eq, ye_e, if_pos rfl]
  · rw [zi_nj hee, ye_e, if_neg hee]; exact g.1
theorem RR_up {M0 M : zM} {S : yS} {e : Nat} {b : Bool} (h : RR M0 M S) : RR M0 (zwi M 128 e (yb (!b))) (yuS S e b) := by
  refine RR_e h (by omega) (by omega) (fun e' he' => ?_) (fun _ => rfl) (fun _ => rfl) (fun _ _ _ => rfl) (fun _ => rfl) (fun _ => rfl)
  have g := h.2.2.1 e' he'
  refine ⟨by rw [zi_ne (by omega)]; exact g.1, ?_, fun f hf => by rw [zi_ne (by omega)]; exact g.2.2 f hf⟩
  by_cases hee : e' = e
  · subst hee; rw [zi_eq, yu_u, if_pos rfl]
  · rw [zi_nj hee, yu_u, if_neg hee]; exact g.2.1
theorem RR_en {M0 M : zM} {S : yS} {e f n : Nat} (h : RR M0 M S) (hf : f < 5) : RR M0 (zwi M (129 + f) e (nI n)) (ynS S f e n) := by
  refine RR_e h (by omega) (by omega) (fun e' he' => ?_) (fun _ => rfl) (fun _ => rfl) (fun _ _ _ => yn_nf (by omega)) (fun _ => rfl) (fun _ => rfl)
  have g := h.2.2.1 e' he'
  refine ⟨by rw [zi_ne (by omega)]; exact g.1, by rw [zi_ne (by omega)]; exact g.2.1, fun f' hf' => ?_⟩
  by_cases hff : f' = f
  · subst hff
    by_cases hee : e' = e
    · subst hee; rw [zi_eq, yn_nn]
    · rw [zi_nj hee, yn_ne hee]; exact g.2.2 f' hf'
  · rw [zi_ne (by omega), yn_nf hff]; exact g.2.2 f' hf'
theorem RR_k {M0 M M' : zM} {S S' : yS} (h : RR M0 M S) (hst : RSt M0 M') (hm : ∀ a j, a < 134 ∨ 141 ≤ a → zi M' a j = zi M a j) (hK : RRk M' S') (s1 : ∀ e, yr S' e = yr S e) (s2 : ∀ e, yw S' e = yw S e) (s3 : ∀ f e, f < 5 → yn S' f e = yn S f e) (s4 : ∀ e, ye S' e = ye S e) (s6 : ∀ e, yu S' e = yu S e) (s5 : ∀ s, yv S' s = yv S s) : RR M0 M' S' := by
  obtain ⟨g0, g1, g2, g3, g4, g5, g6⟩ := h
  exact ⟨g0, hst, g2.kept (fun _ _ _ _ => hm _ _ (by omega)) s4 s6 s3, hK, g4.kept (fun _ _ _ _ => hm _ _ (by omega)) s5, g5.kept (fun _ _ _ _ => hm _ _ (by omega)) s2, g6.kept (fun _ _ _ _ => hm _ _ (by omega)) s1⟩
/-- a channel's state: any but JOINED at a switch -/
theorem RR_st {M0 M : zM} {S : yS} {k m : Nat} (h : RR M0 M S) (hm : ysw (k / 3) = true → m ≠ 1) : RR M0 (zwi M 134 k (nI m)) (ynS S 5 k m) := by
  refine RR_k h (RSt_wi h.2.1 (by omega) (by omega)) (fun _ _ _ => zi_ne (by omega)) (fun k' hk' => ?_) (fun _ => rfl) (fun _ => rfl) (fun _ _ _ => yn_nf (by omega)) (fun _ => rfl) (fun _ => rfl) (fun _ => rfl)
  have g := h.2.2.2.1 k' hk'
  rw [zi_ne (a' := 136) (by omega), zi_ne (a' := 135) (by omega), yn_nf (f' := 6) (by omega)]
  refine ⟨?_, fun hs => ⟨(g.2.1 hs).1, (g.2.1 hs).2.1, fun h1 => ?_⟩, fun hs f hf hf' => by rw [zi_ne (by omega), yn_nf (by omega)]; exact g.2.2 hs f hf hf'⟩
  · by_cases hkk : k' = k
    · subst hkk; rw [zi_eq, yn_nn]
    · rw [zi_nj hkk, yn_ne hkk]; exact g.1
  · by_cases hkk : k' = k
    · subst hkk; rw [yn_nn] at h1; exact absurd h1 (hm hs)
    · rw [yn_ne hkk] at h1; exact (g.2.1 hs).2.2 h1
/-- numbers of a terminal's channel -/
theorem RR_t {M0 M : zM} {S : yS} {k f n : Nat} (h : RR M0 M S) (hf : 7 ≤ f) (hf' : f < 11) : RR M0 (zwi M (130 + f) k (nI n)) (ynS S f k n) := by
  refine RR_k h (RSt_wi h.2.1 (by omega) (by omega)) (fun _ _ _ => zi_ne (by omega)) (fun k' hk' => ?_) (fun _ => rfl) (fun _ => rfl) (fun _ _ _ => yn_nf (by omega)) (fun _ => rfl) (fun _ => rfl) (fun _ => rfl)
  have g := h.2.2.2.1 k' hk'
  rw [zi_ne (a' := 134) (by omega), zi_ne (a' := 136) (by omega), zi_ne (a' := 135) (by omega), yn_nf (f' := 5) (by omega), yn_nf (f' := 6) (by omega)]
  refine ⟨g.1, g.2.1, fun hs f' h7 h11 => ?_⟩
  by_cases hff : f' = f
  · subst hff
    by_cases hkk : k' = k
    · subst hkk; rw [zi_eq, yn_nn]
    · rw [zi_nj hkk, yn_ne hkk]; exact g.2.2 hs f' h7 h11
  · rw [zi_ne (by omega), yn_nf hff]; exact g.2.2 hs f' h7 h11
/-- fresh, made false -/
theorem RR_ff {M0 M : zM} {S : yS} {k : Nat} (h : RR M0 M S) : RR M0 (zwi M 136 k 0) (yfS S k false) := by
  refine RR_k h (RSt_wi h.2.1 (by omega) (by omega)) (fun _ _ _ => zi_ne (by omega)) (fun k' hk' => ?_) (fun _ => rfl) (fun _ => rfl) (fun _ _ _ => rfl) (fun _ => rfl) (fun _ => rfl) (fun _ => rfl)
  have g := h.2.2.2.1 k' hk'
  rw [zi_ne (a' := 134) (by omega), zi_ne (a' := 135) (by omega), yn_f, yn_f, yf_f]
  refine ⟨g.1, fun hs => ?_, fun hs f hf hf' => by rw [zi_ne (by omega), yn_f]; exact g.2.2 hs f hf hf'⟩
  by_cases hkk : k' = k
  · subst hkk
    rw [zi_eq, if_pos rfl]
    exact ⟨Or.inl rfl, (g.2.1 hs).2.1, fun h1 => rfl⟩
  · rw [zi_nj hkk, if_neg hkk]
    exact g.2.1 hs
theorem RR_fz {M0 M : zM} {S : yS} {k : Nat} (h : RR M0 M S) (hn : yn S 5 k ≠ 1) : RR M0 (zwi M 136 k 0) S := by
  refine RR_k h (RSt_wi h.2.1 (by omega) (by omega)) (fun _ _ _ => zi_ne (by omega)) (fun k' hk' => ?_) (fun _ => rfl) (fun _ => rfl) (fun _ _ _ => rfl) (fun _ => rfl) (fun _ => rfl) (fun _ => rfl)
  have g := h.2.2.2.1 k' hk'
  rw [zi_ne (a' := 134) (by omega), zi_ne (a' := 135) (by omega)]
  refine ⟨g.1, fun hs => ?_, fun hs f hf hf' => by rw [zi_ne (by omega)]; exact g.2.2 hs f hf hf'⟩
  by_cases hkk : k' = k
  · subst hkk
    rw [zi_eq]
    exact ⟨Or.inl rfl, (g.2.1 hs).2.1, fun h1 => absurd h1 hn⟩
  · rw [zi_nj hkk]
    exact g.2.1 hs
/-- two channels are joined -/
theorem RR_join {M0 M : zM} {S : yS} {k j : Nat} (h : RR M0 M S) (hkj : k ≠ j) (h0 : ysw (k / 3) = true → zi M 136 k = 0) : RR M0 (zwi (zwi (zwi (zwi (zwi M 134 k 1) 134 j 1) 135 k (nI j)) 135 j (nI k)) 136 j 1) (yJoin S k j) := by
  have hn : ∀ f k', f ≠ 5 → f ≠ 6 → yn (yJoin S k j) f k' = yn S f k' := fun f k' h5 h6 => by unfold yJoin; rw [yn_f, yn_nf h6, yn_nf h5, yn_f, yn_nf h6, yn_nf h5]
  have hst0 : RSt M0 (zwi (zwi (zwi (zwi (zwi M 134 k 1) 134 j 1) 135 k (nI j)) 135 j (nI k)) 136 j 1) := RSt_wi (RSt_wi (RSt_wi (RSt_wi (RSt_wi h.2.1 (by omega) (by omega)) (by omega) (by omega)) (by omega) (by omega)) (by omega) (by omega)) (by omega) (by omega)
  refine RR_k h hst0 (fun a b ha => ?_) (fun k' hk' => ?_) (fun _ => rfl) (fun _ => rfl) (fun f e hf => hn f e (by omega) (by omega)) (fun _ => rfl) (fun _ => rfl) (fun _ => rfl)
  · rw [zi_ne (by omega), zi_ne (by omega), zi_ne (by omega), zi_ne (by omega), zi_ne (by omega)]
  · have g := h.2.2.2.1 k' hk'
    have e4 : zi (zwi (zwi (zwi (zwi (zwi M 134 k 1) 134 j 1) 135 k (nI j)) 135 j (nI k)) 136 j 1) 134 k' = if k' = k ∨ k' = j then 1 else zi M 134 k' := by
      rw [zi_ne (by omega), zi_ne (by omega), zi_ne (by omega)]
      by_cases h1 : k' = j
      · subst h1; rw [zi_eq, if_pos (Or.inr rfl)]
      · rw [zi_nj h1]
        by_cases h2 : k' = k
        · subst h2; rw [zi_eq, if_pos (Or.inl rfl)]
        · rw [zi_nj h2, if_neg (fun z => z.elim h2 h1)]
    have n5 : yn (yJoin S k j) 5 k' = if k' = k ∨ k' = j then 1 else yn S 5 k' := by
      unfold yJoin
      rw [yn_f, yn_nf (by decide)]
      by_cases h1 : k' = j
      · subst h1; rw [yn_nn, if_pos (Or.inr rfl)]
      · rw [yn_ne h1, yn_f, yn_nf (by decide)]
        by_cases h2 : k' = k
        · subst h2; rw [yn_nn, if_pos (Or.inl rfl)]
        · rw [yn_ne h2, if_neg (fun z => z.elim h2 h1)]
    clear hst0
    refine ⟨?_, fun hs => ?_, fun hs f hf hf' => ?_⟩
    · rw [e4, n5]
      split
      · rfl
      · exact g.1
    · by_cases h1 : k' = j
      · subst h1
        have y6 : yn (yJoin S k k') 6 k' = k := by unfold yJoin; rw [yn_f, yn_nn]
        have yff : yf (yJoin S k k') k' = true := by unfold yJoin; rw [yf_f, if_pos rfl]
        rw [zi_eq, zi_ne (by omega), zi_eq, y6, yff]
        exact ⟨Or.inr ⟨rfl, rfl⟩, rfl, fun _ => rfl⟩
      · rw [zi_nj (a' := 136) h1, zi_ne (a' := 136) (by omega), zi_ne (a' := 136) (by omega), zi_ne (a' := 136) (by omega), zi_ne (a' := 136) (by omega), zi_ne (a' := 135) (a := 136) (by omega), zi_nj (a' := 135) h1]
        by_cases h2 : k' = k
        · subst h2
          have y6 : yn (yJoin S k' j) 6 k' = j := by unfold yJoin; rw [yn_f, yn_ne h1, yn_nf (by decide), yn_f, yn_nn]
          have yff : yf (yJoin S k' j) k' = false := by unfold yJoin; rw [yf_f, if_neg h1, yf_n, yf_n, yf_f, if_pos rfl]
          rw [zi_eq, y6, yff, h0 hs]
          exact ⟨Or.inl rfl, rfl, fun _ => rfl⟩
        · have y6 : yn (yJoin S k j) 6 k' = yn S 6 k' := by unfold yJoin; rw [yn_f, yn_ne h1, yn_nf (by decide), yn_f, yn_ne h2, yn_nf (by decide)]
          have yff : yf (yJoin S k j) k' = yf S k' := by unfold yJoin; rw [yf_f, if_neg h1, yf_n, yf_n, yf_f, if_neg h2, yf_n, yf_n]
          rw [zi_nj h2, zi_ne (by omega), zi_ne (by omega), y6, yff, n5, if_neg (fun z => z.elim h2 h1)]
          exact g.2.1 hs
    · rw [zi_ne (by omega), zi_ne (by omega), zi_ne (by omega), zi_ne (by omega), zi_ne (by omega), hn f k' (by omega) (by omega)]
      exact g.2.2 hs f hf hf'
/-- values -/
theorem RR_v {M0 M M' : zM} {S S' : yS} (h : RR M0 M S) (hst : RSt M0 M') (hm : ∀ a j, a < 141 → zi M' a j = zi M a j) (hV : RRv M' S') (s1 : ∀ e, yr S' e = yr S e) (s2 : ∀ e, yw S' e = yw S e) (s3 : ∀ f e, yn S' f e = yn S f e) (s4 : ∀ e, ye S' e = ye S e) (s6 : ∀ e, yu S' e = yu S e) (s5 : ∀ k, yf S' k = yf S k) : RR M0 M' S' := by
  obtain ⟨g0, g1, g2, g3, g4, g5, g6⟩ := h
  exact ⟨g0, hst, g2.kept (fun _ _ _ _ => hm _ _ (by omega)) s4 s6 (fun f e _ => s3 f e), g3.kept (fun _ _ _ _ => hm _ _ (by omega)) (fun f e _ => s3 f e) s5, hV, g5.kept (fun _ _ _ _ => hm _ _ (by omega)) s2, g6.kept (fun _ _ _ _ => hm _ _ (by omega)) s1⟩
theorem RR_v0 {M0 M : zM} {S : yS} {s : Nat} (h : RR M0 M S) : RR M0 (zwi M 141 s 0) (yvS S s []) := by
  refine RR_v h (RSt_wi h.2.1 (by omega) (by omega)) (fun _ _ _ => zi_ne (by omega)) (fun s' hs' => ?_) (fun _ => rfl) (fun _ => rfl) (fun _ _ => rfl) (fun _ => rfl) (fun _ => rfl) (fun _ => rfl)
  have g := h.2.2.2.2.1 s' hs'
  rw [yv_v]
  by_cases hss : s' = s
  · subst hss
    rw [if_pos rfl, zi_eq]
    exact ⟨rfl, fun i v hv => by cases hv⟩
  · rw [if_neg hss, zi_nj hss]
    exact ⟨g.1, fun i v hv => by rw [zi_ne (by omega)]; exact g.2 i v hv⟩
theorem RR_va {M0 M : zM} {S : yS} {s v : Nat} (h : RR M0 M S) (hs : s < 12) (hl : ∀ s, s < 12 → (yv S s).length ≤ 512) (hn : (yv S s).length < 512) : RR M0 (zwi (zwi M 142 (512 * s + (yv S s).length) (nI v)) 141 s (nI ((yv S s).length + 1))) (yvS S s (yv S s ++ [v])) := by
  refine RR_v h (RSt_wi (RSt_wi h.2.1 (by omega) (by omega)) (by omega) (by omega)) (fun _ _ _ => by rw [zi_ne (by omega), zi_ne (by omega)]) (fun s' hs' => ?_) (fun _ => rfl) (fun _ => rfl) (fun _ _ => rfl) (fun _ => rfl) (fun _ => rfl) (fun _ => rfl)
  have g := h.2.2.2.2.1 s' hs'
  rw [yv_v]
  by_cases hss : s' = s
  · subst hss
    rw [if_pos rfl, zi_eq, List.length_append]
    refine ⟨rfl, fun i w hw => ?_⟩
    rw [zi_ne (by omega)]
    by_cases hi : i < (yv S s').length
    · rw [List.getElem?_append_left hi] at hw
      rw [zi_nj (by omega)]
      exact g.2 i w hw
    · rw [List.getElem?_append_right (by omega)] at hw
      have hi0 : i - (yv S s').length = 0 := by
        refine Classical.byContradiction fun z => ?_
        have : ([v] : List Nat)[i - (yv S s').length]? = none := List.getElem?_eq_none (by simp; omega)
        rw [this] at hw
        cases hw
      rw [hi0] at hw
      have hi' : i = (yv S s').length := by omega
      subst hi'
      rw [zi_eq]
      have hw : some v = some w := hw
      rw [Option.some.inj hw]
  · rw [if_neg hss, zi_nj hss, zi_ne (by omega)]
    refine ⟨g.1, fun i w hw => ?_⟩
    have hi : i < (yv S s').length := by
      refine Classical.byContradiction fun z => ?_
      rw [List.getElem?_eq_none (by omega)] at hw
      cases hw
    have := hl s' hs'
    rw [zi_ne (by omega), zi_nj (by omega)]
    exact g.2 i w hw
