/-! The state of lists: what class and reference both hold. Ends e < 10 (end e of a link is 2 link + end), channels k = 3 e + c - 1 < 30, values by s < 12. -/
abbrev yP : Type := Nat × Nat × Nat × Nat
/-- kind, epoch, number, due, packet -/
abbrev yF : Type := Nat × Int32 × Nat × Nat × yP
/-- rows, wires, epochs, up, numbers, fresh, values. Numbers: 0 sent, 1 first, 2 due, 3 tries, 4 clock of an end; 5 state, 6 partner, 7 peer, 8 own, 9 sure, 10 got of a channel -/
abbrev yS : Type := (Nat → List yP) × (Nat → List yF) × (Nat → Int32) × (Nat → Bool) × (Nat → Nat → Nat) × (Nat → Bool) × (Nat → List Nat)
def yr (S : yS) (e : Nat) : List yP := S.1 e
def yw (S : yS) (e : Nat) : List yF := S.2.1 e
def ye (S : yS) (e : Nat) : Int32 := S.2.2.1 e
def yu (S : yS) (e : Nat) : Bool := S.2.2.2.1 e
def yn (S : yS) (f e : Nat) : Nat := S.2.2.2.2.1 f e
def yf (S : yS) (k : Nat) : Bool := S.2.2.2.2.2.1 k
def yv (S : yS) (s : Nat) : List Nat := S.2.2.2.2.2.2 s
def yrS (S : yS) (e : Nat) (l : List yP) : yS := (va_up S.1 e l, S.2)
def ywS (S : yS) (e : Nat) (l : List yF) : yS := (S.1, va_up S.2.1 e l, S.2.2)
def yeS (S : yS) (e : Nat) (x : Int32) : yS := (S.1, S.2.1, va_up S.2.2.1 e x, S.2.2.2)
def yuS (S : yS) (e : Nat) (b : Bool) : yS := (S.1, S.2.1, S.2.2.1, va_up S.2.2.2.1 e b, S.2.2.2.2)
def ynS (S : yS) (f e n : Nat) : yS := (S.1, S.2.1, S.2.2.1, S.2.2.2.1, fun f' e' => if f' = f ∧ e' = e then n else S.2.2.2.2.1 f' e', S.2.2.2.2.2)
def yfS (S : yS) (k : Nat) (b : Bool) : yS := (S.1, S.2.1, S.2.2.1, S.2.2.2.1, S.2.2.2.2.1, va_up S.2.2.2.2.2.1 k b, S.2.2.2.2.2.2)
def yvS (S : yS) (s : Nat) (l : List Nat) : yS := (S.1, S.2.1, S.2.2.1, S.2.2.2.1, S.2.2.2.2.1, S.2.2.2.2.2.1, va_up S.2.2.2.2.2.2 s l)
def yo (e : Nat) : Nat := if e % 2 = 0 then e + 1 else e - 1
def ysw (e : Nat) : Bool := decide (e % 2 = 1 ∨ e = 8)
def ysl (k : Nat) : Nat := 3 * (k / 6) + k % 3
def yPost (S : yS) (e : Nat) (fr : yF) : yS := if (yw S (yo e)).length < 8 then ywS S (yo e) (yw S (yo e) ++ [fr]) else S
def yInfo (S : yS) (e k : Nat) : yS := yPost S e (2, ye S e, (yn S 1 e + k) % 8, yn S 2 e, (yr S e).getD k (0, 0, 0, 0))
def yOn1 (S : yS) (e : Nat) : yS := if yu S e = true ∧ yn S 0 e < 4 ∧ yn S 0 e < (yr S e).length then ynS (yInfo S e (yn S 0 e)) 0 e (yn S 0 e + 1) else S
def yOn (S : yS) (e : Nat) : yS := yOn1 (yOn1 (yOn1 (yOn1 S e) e) e) e
def yPut (S : yS) (e : Nat) (p : yP) : yS := yOn (yrS S e (yr S e ++ [p])) e
def yPutOn (S : yS) (k kind a b : Nat) : yS := yPut S (k / 3) (kind, k % 3 + 1, a, b)
def yCut (S : yS) (k : Nat) : yS := yPutOn (ynS S 5 k 5) k 2 0 0
def yLost (S : yS) (k : Nat) : yS := if ysw (k / 3) = true ∧ yn S 5 k = 1 then yCut (ynS S 5 k 0) (yn S 6 k) else ynS S 5 k 0
def yBrk0 (S : yS) (e : Nat) : yS := ynS (ynS (ynS (ynS (ynS (yrS S e []) 0 e 0) 1 e 0) 2 e 0) 3 e 0) 4 e 0
def yBrk (S : yS) (e : Nat) : yS := yLost (yLost (yLost (yBrk0 S e) (3 * e)) (3 * e + 1)) (3 * e + 2)
def yAgain (S : yS) (e : Nat) : Nat → yS
  | 0 => S
  | n + 1 => yInfo (yAgain S e n) e n
/-- the clock of an end has come to its end -/
def yRing (S : yS) (e : Nat) : yS :=
  if yu S e = true ∧ yn S 3 e < 3 then yAgain (ynS S 3 e (yn S 3 e + 1)) e (yn S 0 e)
  else if yu S e = true then (let S1 := yuS (yBrk (yeS S e (ye S e + 1)) e) e false; yPost S1 e (0, ye S1 e, 0, 0, 0, 0, 0, 0))
  else yPost S e (0, ye S e, 0, 0, 0, 0, 0, 0)
def yTick1 (S : yS) (e : Nat) : yS :=
  if yu S e = true ∧ yn S 0 e = 0 then S
  else if yn S 4 e + 1 < 4 then ynS S 4 e (yn S 4 e + 1)
  else yRing (ynS S 4 e 0) e
def yTickN (S : yS) : Nat → yS
  | 0 => S
  | n + 1 => yTick1 (yTickN S n) n
def yTicks (S : yS) : Nat → yS
  | 0 => S
  | n + 1 => yTickN (yTicks S n) 10
def yConf (S : yS) (e t : Nat) : yS :=
  let d := (t + 8 - yn S 1 e) % 8
  if yn S 0 e < d then S
  else if d = 0 then yOn S e
  else yOn (ynS (ynS (ynS (ynS (yrS S e ((yr S e).drop d)) 0 e (yn S 0 e - d)) 1 e ((yn S 1 e + d) % 8)) 3 e 0) 4 e 0) e
def yRenew (S : yS) (k : Nat) : yS := yvS (ynS (ynS (ynS S 8 k 0) 9 k 0) 10 k 0) (ysl k) []
def yRoute (e t : Nat) : Nat := if t / 2 = (if e < 4 ∨ e = 8 then 0 else 1) then 2 * t + 1 else 8 + (if e < 4 ∨ e = 8 then 0 else 1)
/-- a free channel of an end: end 0 of a link seeks from above, end 1 from below -/
def yFree (S : yS) (y : Nat) : Option Nat :=
  if y % 2 = 0 then (if yn S 5 (3 * y + 2) = 0 then some (3 * y + 2) else if yn S 5 (3 * y + 1) = 0 then some (3 * y + 1) else if yn S 5 (3 * y) = 0 then some (3 * y) else none)
  else (if yn S 5 (3 * y) = 0 then some (3 * y) else if yn S 5 (3 * y + 1) = 0 then some (3 * y + 1) else if yn S 5 (3 * y + 2) = 0 then some (3 * y + 2) else none)
def yJoin (S : yS) (k j : Nat) : yS := yfS (ynS (ynS (yfS (ynS (ynS S 5 k 1) 6 k j) k false) 5 j 1) 6 j k) j true
def yConn (S : yS) (e k a b : Nat) : yS := match (if yRoute e a = e ∨ yu S (yRoute e a) = false then none else yFree S (yRoute e a)) with
  | none => yCut S k
  | some j => yPutOn (yJoin S k j) j 0 a b
def yArrS (S : yS) (e k kind a b : Nat) : yS :=
  let gives := yf S k = true ∧ e % 2 = 1
  let S1 := yfS S k false
  if kind = 0 then
    (let S2 := if yn S1 5 k = 1 ∧ gives then yCut (ynS S1 5 k 0) (yn S1 6 k) else S1
     if yn S2 5 k = 0 then yConn S2 e k a b else S2)
  else if kind = 2 then
    (let S2 := if yn S1 5 k = 5 then ynS S1 5 k 0 else yPutOn (ynS S1 5 k 0) k 3 0 0
     if yn S1 5 k = 1 then yCut S2 (yn S1 6 k) else S2)
  else if kind = 3 then (if yn S1 5 k = 5 then ynS S1 5 k 0 else S1)
  else if yn S1 5 k = 1 then yPutOn S1 (yn S1 6 k) kind a b
  else S1
def yArrT (S : yS) (k kind a b : Nat) : yS :=
  if kind = 0 then (if yn S 5 k = 0 then yRenew (ynS (ynS S 5 k 2) 7 k b) k else S)
  else if kind = 1 then (if yn S 5 k = 1 then ynS S 5 k 3 else S)
  else if kind = 2 then (if yn S 5 k = 5 then ynS S 5 k 0 else yPutOn (ynS S 5 k 0) k 3 0 0)
  else if kind = 3 then (if yn S 5 k = 5 then ynS S 5 k 0 else S)
  else if kind = 4 then (if yn S 5 k = 3 then yvS S (ysl k) (yv S (ysl k) ++ [b]) else S)
  else if kind = 5 then (if yn S 5 k = 3 then ynS S 9 k a else S)
  else if kind = 6 then (if yn S 5 k = 3 then yPutOn (yRenew S k) k 7 0 0 else if yn S 5 k = 4 then ynS S 5 k 3 else S)
  else (if yn S 5 k = 4 then ynS S 5 k 3 else S)
def yArr (S : yS) (e : Nat) (p : yP) : yS := if ysw e = true then yArrS S e (3 * e + p.2.1 - 1) p.1 p.2.2.1 p.2.2.2 else yArrT S (3 * e + p.2.1 - 1) p.1 p.2.2.1 p.2.2.2
/-- a frame meets an end -/
def yMeet (S : yS) (e : Nat) (fr : yF) : yS :=
  if fr.1 = 0 then
    (let S1 := if ye S e < fr.2.1 then yuS (yBrk (yeS S e fr.2.1) e) e true else S
     if fr.2.1 = ye S1 e then yPost S1 e (1, ye S1 e, 0, 0, 0, 0, 0, 0) else S1)
  else if fr.1 = 1 then
    (if fr.2.1 = ye S e ∧ yu S e = false then yOn (ynS (ynS (yuS S e true) 3 e 0) 4 e 0) e else S)
  else if yu S e = true ∧ ye S e = fr.2.1 then
    (let S1 := yConf S e fr.2.2.2.1
     if fr.1 = 2 then
       (if fr.2.2.1 = yn S1 2 e then
         (let S2 := ynS S1 2 e ((yn S1 2 e + 1) % 8)
          yArr (yPost S2 e (3, ye S2 e, 0, yn S2 2 e, 0, 0, 0, 0)) e fr.2.2.2.2)
        else yPost S1 e (3, ye S1 e, 0, yn S1 2 e, 0, 0, 0, 0))
     else S1)
  else S
def y0 : yS := (fun _ => [], fun _ => [], fun _ => 0, fun _ => true, fun _ _ => 0, fun _ => false, fun _ => [])
/-! reading what was set -/
theorem yr_r {S : yS} {e e' : Nat} {l : List yP} : yr (yrS S e l) e' = if e' = e then l else yr S e' := rfl
theorem yr_w {S : yS} {e e' : Nat} {l : List yF} : yr (ywS S e l) e' = yr S e' := rfl
theorem yr_e {S : yS} {e e' : Nat} {x : Int32} : yr (yeS S e x) e' = yr S e' := rfl
theorem yr_u {S : yS} {e e' : Nat} {b : Bool} : yr (yuS S e b) e' = yr S e' := rfl
theorem yr_n {S : yS} {f e e' n : Nat} : yr (ynS S f e n) e' = yr S e' := rfl
theorem yr_f {S : yS} {k e' : Nat} {b : Bool} : yr (yfS S k b) e' = yr S e' := rfl
theorem yr_v {S : yS} {s e' : Nat} {l : List Nat} : yr (yvS S s l) e' = yr S e' := rfl
theorem yw_r {S : yS} {e e' : Nat} {l : List yP} : yw (yrS S e l) e' = yw S e' := rfl
theorem yw_w {S : yS} {e e' : Nat} {l : List yF} : yw (ywS S e l) e' = if e' = e then l else yw S e' := rfl
theorem yw_e {S : yS} {e e' : Nat} {x : Int32} : yw (yeS S e x) e' = yw S e' := rfl
theorem yw_u {S : yS} {e e' : Nat} {b : Bool} : yw (yuS S e b) e' = yw S e' := rfl
theorem yw_n {S : yS} {f e e' n : Nat} : yw (ynS S f e n) e' = yw S e' := rfl
theorem yw_f {S : yS} {k e' : Nat} {b : Bool} : yw (yfS S k b) e' = yw S e' := rfl
theorem yw_v {S : yS} {s e' : Nat} {l : List Nat} : yw (yvS S s l) e' = yw S e' := rfl
theorem ye_r {S : yS} {e e' : Nat} {l : List yP} : ye (yrS S e l) e' = ye S e' := rfl
theorem ye_w {S : yS} {e e' : Nat} {l : List yF} : ye (ywS S e l) e' = ye S e' := rfl
theorem ye_e {S : yS} {e e' : Nat} {x : Int32} : ye (yeS S e x) e' = if e' = e then x else ye S e' := rfl
theorem ye_u {S : yS} {e e' : Nat} {b : Bool} : ye (yuS S e b) e' = ye S e' := rfl
theorem ye_n {S : yS} {f e e' n : Nat} : ye (ynS S f e n) e' = ye S e' := rfl
theorem ye_f {S : yS} {k e' : Nat} {b : Bool} : ye (yfS S k b) e' = ye S e' := rfl
theorem ye_v {S : yS} {s e' : Nat} {l : List Nat} : ye (yvS S s l) e' = ye S e' := rfl
theorem yu_r {S : yS} {e e' : Nat} {l : List yP} : yu (yrS S e l) e' = yu S e' := rfl
theorem yu_w {S : yS} {e e' : Nat} {l : List yF} : yu (ywS S e l) e' = yu S e' := rfl
theorem yu_e {S : yS} {e e' : Nat} {x : Int32} : yu (yeS S e x) e' = yu S e' := rfl
theorem yu_u {S : yS} {e e' : Nat} {b : Bool} : yu (yuS S e b) e' = if e' = e then b else yu S e' := rfl
theorem yu_n {S : yS} {f e e' n : Nat} : yu (ynS S f e n) e' = yu S e' := rfl
theorem yu_f {S : yS} {k e' : Nat} {b : Bool} : yu (yfS S k b) e' = yu S e' := rfl
theorem yu_v {S : yS} {s e' : Nat} {l : List Nat} : yu (yvS S s l) e' = yu S e' := rfl
theorem yn_r {S : yS} {e f' e' : Nat} {l : List yP} : yn (yrS S e l) f' e' = yn S f' e' := rfl
theorem yn_w {S : yS} {e f' e' : Nat} {l : List yF} : yn (ywS S e l) f' e' = yn S f' e' := rfl
theorem yn_e {S : yS} {e f' e' : Nat} {x : Int32} : yn (yeS S e x) f' e' = yn S f' e' := rfl
theorem yn_u {S : yS} {e f' e' : Nat} {b : Bool} : yn (yuS S e b) f' e' = yn S f' e' := rfl
theorem yn_n {S : yS} {f e f' e' n : Nat} : yn (ynS S f e n) f' e' = if f' = f ∧ e' = e then n else yn S f' e' := rfl
theorem yn_f {S : yS} {k f' e' : Nat} {b : Bool} : yn (yfS S k b) f' e' = yn S f' e' := rfl
theorem yn_v {S : yS} {s f' e' : Nat} {l : List Nat} : yn (yvS S s l) f' e' = yn S f' e' := rfl
theorem yf_r {S : yS} {e k' : Nat} {l : List yP} : yf (yrS S e l) k' = yf S k' := rfl
theorem yf_w {S : yS} {e k' : Nat} {l : List yF} : yf (ywS S e l) k' = yf S k' := rfl
theorem yf_e {S : yS} {e k' : Nat} {x : Int32} : yf (yeS S e x) k' = yf S k' := rfl
theorem yf_u {S : yS} {e k' : Nat} {b : Bool} : yf (yuS S e b) k' = yf S k' := rfl
theorem yf_n {S : yS} {f e k' n : Nat} : yf (ynS S f e n) k' = yf S k' := rfl
theorem yf_f {S : yS} {k k' : Nat} {b : Bool} : yf (yfS S k b) k' = if k' = k then b else yf S k' := rfl
theorem yf_v {S : yS} {s k' : Nat} {l : List Nat} : yf (yvS S s l) k' = yf S k' := rfl
theorem yv_r {S : yS} {e s' : Nat} {l : List yP} : yv (yrS S e l) s' = yv S s' := rfl
theorem yv_w {S : yS} {e s' : Nat} {l : List yF} : yv (ywS S e l) s' = yv S s' := rfl
theorem yv_e {S : yS} {e s' : Nat} {x : Int32} : yv (yeS S e x) s' = yv S s' := rfl
theorem yv_u {S : yS} {e s' : Nat} {b : Bool} : yv (yuS S e b) s' = yv S s' := rfl
theorem yv_n {S : yS} {f e s' n : Nat} : yv (ynS S f e n) s' = yv S s' := rfl
theorem yv_f {S : yS} {k s' : Nat} {b : Bool} : yv (yfS S k b) s' = yv S s' := rfl
theorem yv_v {S : yS} {s s' : Nat} {l : List Nat} : yv (yvS S s l) s' = if s' = s then l else yv S s' := rfl
