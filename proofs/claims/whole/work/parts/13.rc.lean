/-! The class's objects behind a state of lists. -/
def zEn (e : Nat) : Nat := 6 + 12 * (e / 2) + 4 * (e % 2)
def zWi (e : Nat) : Nat := 2 + 12 * (e / 2) + 2 * (e % 2)
def zCh (k : Nat) : Nat := [83, 86, 89, 63, 64, 65, 92, 95, 98, 66, 67, 68, 101, 104, 107, 73, 74, 75, 110, 113, 116, 76, 77, 78, 69, 70, 71, 79, 80, 81].getD k 0
def zLn (q : Nat) : Nat := if q < 10 then zEn q + 1 else zCh (6 * ((q - 10) / 3) + (q - 10) % 3) + 1
def ymut (a j : Nat) : Bool := (decide ((yk0 a).1 = 3) && decide (j = 0)) || (decide ((yk0 a).1 = 2) && decide (j = 1)) || decide (yj0 a ≤ j)
def ycst (a j : Nat) : Bool := (decide ((yk0 a).1 = 1) && decide (j = 2)) || (decide ((yk0 a).1 = 0) && decide (j = 6)) || (decide ((yk0 a).1 = 2) && decide (j = 4))
def yfree (a : Nat) : Bool := decide (143 ≤ a) || decide (yk0 a = (20, 4))
def ySt (M : zM) : Prop := 143 ≤ zn M ∧ (∀ a, a < 143 → zk M a = yk0 a) ∧ (∀ a j, a < 143 → ymut a j = false → zr M a j = yr0 a j) ∧ ∀ a j, a < 143 → ycst a j = true → zi M a j = yi0 a j
def yb (b : Bool) : Int32 := if b = true then 1 else 0
def ypk (p : yP) : Int32 := nI (p.1 * 65536 + p.2.1 * 4096 + p.2.2.1 * 256 + p.2.2.2)
def yfw (f : yF) (q : Nat) : Int32 := match q with
  | 0 => nI f.1
  | 1 => f.2.1
  | 2 => if f.1 = 2 then nI f.2.2.1 else -1
  | 3 => if 2 ≤ f.1 then nI f.2.2.2.1 else -1
  | _ => if f.1 = 2 then ypk f.2.2.2.2 else -1
def yEnds (M : zM) (S : yS) : Prop := ∀ e, e < 10 → zi M (zEn e) 5 = ye S e ∧ zi M (zEn e) 6 = yb (yu S e) ∧ zi M (zEn e) 7 = nI (yn S 0 e) ∧ zi M (zEn e) 8 = nI (yn S 1 e) ∧ zi M (zEn e) 9 = nI (yn S 2 e) ∧ zi M (zEn e) 10 = nI (yn S 3 e) ∧ zi M (zEn e) 11 = nI (yn S 4 e)
def yChS (M : zM) (S : yS) : Prop := ∀ k, k < 30 → ysw (k / 3) = true → zi M (zCh k) 5 = nI (yn S 5 k) ∧ (yn S 5 k = 1 → zi M (zCh k) 2 = yb (yf S k) ∧ zr M (zCh k) 1 = some (zCh (yn S 6 k)))
def yChT (M : zM) (S : yS) : Prop := ∀ k, k < 30 → ysw (k / 3) = false → zi M (zCh k) 7 = nI (yn S 5 k) ∧ zi M (zCh k) 0 = nI (yn S 7 k) ∧ zi M (zCh k) 2 = nI (yn S 8 k) ∧ zi M (zCh k) 3 = nI (yn S 9 k) ∧ zi M (zCh k) 4 = nI (yn S 10 k)
def yWire (M : zM) (w : Nat) (fs : List yF) : Prop := fs.length ≤ 8 ∧ zi M w 2 = nI fs.length ∧ ∃ st, st < 8 ∧ zi M w 1 = nI st ∧ ∀ k f, fs[k]? = some f → ∀ q, q < 5 → zi M (w + 1) ((st + k) % 8 * 5 + q) = yfw f q
def yLine (M : zM) (a it cap : Nat) (xs : List Int32) : Prop := zr M a 0 = some it ∧ zk M it = (20, cap) ∧ (∃ x, 2 ≤ x ∧ x ≤ 12 ∧ cap = 2 ^ x) ∧ xs.length ≤ cap ∧ zi M a 2 = nI xs.length ∧ ∃ st, st < cap ∧ zi M a 1 = nI st ∧ ∀ k v, xs[k]? = some v → zi M it ((st + k) % cap) = v
def yXs (S : yS) (q : Nat) : List Int32 := if q < 10 then (yr S q).map ypk else (yv S (q - 10)).map nI
def yIt (it : Nat → Nat) (n : Nat) : Prop := (∀ q, q < 22 → it q < n ∧ yfree (it q) = true) ∧ ∀ q q', q < 22 → q' < 22 → it q = it q' → q = q'
def ysum (f : Nat → Nat) : Nat → Nat
  | 0 => 0
  | n + 1 => ysum f n + f n
def yLines (M : zM) (S : yS) : Prop := zn M ≤ zz M ∧ ∃ it cap : Nat → Nat, yIt it (zn M) ∧ (∀ q, q < 22 → yLine M (zLn q) (it q) (cap q) (yXs S q)) ∧ zz M + 176 = 16080 + ysum (fun q => 2 * cap q) 22
def RC (M0 M : zM) (S : yS) : Prop := ySt M ∧ yEnds M S ∧ yChS M S ∧ yChT M S ∧ (∀ e, e < 10 → yWire M (zWi e) (yw S e)) ∧ yLines M S ∧ ∀ a j, 119 ≤ a → a < 143 → zi M a j = zi M0 a j
/-! which is which -/
theorem kEn : ∀ e, e < 10 → yk0 (zEn e) = (1, 0) ∧ zEn e < 119 := by decide +kernel
theorem kWi : ∀ e, e < 10 → yk0 (zWi e) = (4, 0) ∧ yk0 (zWi e + 1) = (20, 40) ∧ zWi e + 1 < 119 := by decide +kernel
theorem kChS : ∀ k, k < 30 → ysw (k / 3) = true → yk0 (zCh k) = (2, 0) ∧ zCh k < 119 := by decide +kernel
theorem kChT : ∀ k, k < 30 → ysw (k / 3) = false → yk0 (zCh k) = (0, 0) ∧ zCh k < 119 := by decide +kernel
theorem kLn : ∀ q, q < 22 → yk0 (zLn q) = (3, 0) ∧ zLn q < 119 := by decide +kernel
theorem kE0 : ∀ e, e < 10 → ymut (zEn e) 0 = false ∧ ymut (zEn e) 1 = false ∧ ymut (zEn e) 3 = false ∧ ymut (zEn e) 4 = false := by decide +kernel
theorem kW0 : ∀ e, e < 10 → ymut (zWi e) 0 = false := by decide +kernel
theorem kS0 : ∀ k, k < 30 → ysw (k / 3) = true → ymut (zCh k) 3 = false ∧ ymut (zCh k) 0 = false := by decide +kernel
theorem kT0 : ∀ k, k < 30 → ysw (k / 3) = false → ymut (zCh k) 5 = false ∧ ymut (zCh k) 1 = false := by decide +kernel
theorem kR0 : ∀ a, a < 4 → ymut 62 a = false ∧ ymut 72 a = false := by decide +kernel
theorem iEn : ∀ e, e < 10 → ∀ e', e' < 10 → zEn e = zEn e' → e = e' := by decide +kernel
theorem iWi : ∀ e, e < 10 → ∀ e', e' < 10 → zWi e = zWi e' → e = e' := by decide +kernel
theorem iCh : ∀ k, k < 30 → ∀ k', k' < 30 → zCh k = zCh k' → k = k' := by decide +kernel
theorem iLn : ∀ q, q < 22 → ∀ q', q' < 22 → zLn q = zLn q' → q = q' := by decide +kernel
theorem yne {a b : Nat} (h : yk0 a ≠ yk0 b) : a ≠ b := fun e => h (by rw [e])
theorem yfree_ne {a it : Nat} (hf : yfree it = true) (ha : a < 143) (hk : yk0 a ≠ (20, 4)) : it ≠ a := by
  intro e
  subst e
  unfold yfree at hf
  rw [Bool.or_eq_true, decide_eq_true_eq, decide_eq_true_eq] at hf
  rcases hf with h | h
  · omega
  · exact hk h
/-! reading behind a write -/
theorem zi_wi {M : zM} {a j a' j' : Nat} {x : Int32} : zi (zwi M a j x) a' j' = if a' = a ∧ j' = j then x else zi M a' j' := rfl
theorem zi_wr {M : zM} {a j a' j' : Nat} {x : Option Nat} : zi (zwr M a j x) a' j' = zi M a' j' := rfl
theorem zr_wi {M : zM} {a j a' j' : Nat} {x : Int32} : zr (zwi M a j x) a' j' = zr M a' j' := rfl
theorem zr_wr {M : zM} {a j a' j' : Nat} {x : Option Nat} : zr (zwr M a j x) a' j' = if a' = a ∧ j' = j then x else zr M a' j' := rfl
theorem zk_wi {M : zM} {a j a' : Nat} {x : Int32} : zk (zwi M a j x) a' = zk M a' := rfl
theorem zk_wr {M : zM} {a j a' : Nat} {x : Option Nat} : zk (zwr M a j x) a' = zk M a' := rfl
theorem zn_wi {M : zM} {a j : Nat} {x : Int32} : zn (zwi M a j x) = zn M := rfl
theorem zn_wr {M : zM} {a j : Nat} {x : Option Nat} : zn (zwr M a j x) = zn M := rfl
theorem zz_wi {M : zM} {a j : Nat} {x : Int32} : zz (zwi M a j x) = zz M := rfl
theorem zz_wr {M : zM} {a j : Nat} {x : Option Nat} : zz (zwr M a j x) = zz M := rfl
theorem zi_ne {M : zM} {a j a' j' : Nat} {x : Int32} (h : a' ≠ a) : zi (zwi M a j x) a' j' = zi M a' j' := by rw [zi_wi, if_neg (fun z => h z.1)]
theorem zi_nj {M : zM} {a j a' j' : Nat} {x : Int32} (h : j' ≠ j) : zi (zwi M a j x) a' j' = zi M a' j' := by rw [zi_wi, if_neg (fun z => h z.2)]
theorem zi_eq {M : zM} {a j : Nat} {x : Int32} : zi (zwi M a j x) a j = x := by rw [zi_wi, if_pos ⟨rfl, rfl⟩]
theorem zr_ne {M : zM} {a j a' j' : Nat} {x : Option Nat} (h : a' ≠ a) : zr (zwr M a j x) a' j' = zr M a' j' := by rw [zr_wr, if_neg (fun z => h z.1)]
theorem zr_eq {M : zM} {a j : Nat} {x : Option Nat} : zr (zwr M a j x) a j = x := by rw [zr_wr, if_pos ⟨rfl, rfl⟩]
/-- two memories that agree but at the places of A (the second may have more objects) -/
def zSm (M M' : zM) (A : Nat → Prop) : Prop := zn M ≤ zn M' ∧ (∀ a, a < zn M → zk M' a = zk M a) ∧ ∀ a, a < zn M → ¬ A a → (∀ j, zi M' a j = zi M a j) ∧ ∀ j, zr M' a j = zr M a j
theorem yWire.kept {M M' : zM} {A : Nat → Prop} {w : Nat} {fs : List yF} (h : yWire M w fs) (hs : zSm M M' A) (hn : w + 1 < zn M) (h1 : ¬ A w) (h2 : ¬ A (w + 1)) : yWire M' w fs := by
  obtain ⟨g1, g2, st, g3, g4, g5⟩ := h
  have e1 := (hs.2.2 w (by omega) h1).1
  have e2 := (hs.2.2 (w + 1) hn h2).1
  exact ⟨g1, by rw [e1]; exact g2, st, g3, by rw [e1]; exact g4, fun k f hk q hq => by rw [e2]; exact g5 k f hk q hq⟩
theorem yLine.kept {M M' : zM} {A : Nat → Prop} {a it cap : Nat} {xs : List Int32} (h : yLine M a it cap xs) (hs : zSm M M' A) (hn : a < zn M) (hi : it < zn M) (h1 : ¬ A a) (h2 : ¬ A it) : yLine M' a it cap xs := by
  obtain ⟨g1, g2, g3, g4, g5, st, g6, g7, g8⟩ := h
  have e1 := hs.2.2 a hn h1
  have e2 := (hs.2.2 it hi h2).1
  exact ⟨by rw [e1.2]; exact g1, by rw [hs.2.1 it hi]; exact g2, g3, g4, by rw [e1.1]; exact g5, st, g6, by rw [e1.1]; exact g7, fun k v hk => by rw [e2]; exact g8 k v hk⟩
