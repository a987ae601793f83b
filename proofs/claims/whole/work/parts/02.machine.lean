/-! An abstract machine over numbered objects. An object is a number; its kind, its ints and its references stand in three functions. -/
abbrev zI : Type := List (Nat × Nat × Nat)
abbrev zK : Type := Nat × Jvm.ClassFile.Instr × zI
/-- code, locals, rank, the script's length and one (0: no script), the script -/
abbrev zP : Type := (Nat → List zK) × (Nat → Nat) × (Nat → Nat) × Nat × (Nat → Int32)
/-- kinds (class or array kind, length), ints, references, number of objects, number of slots -/
abbrev zM : Type := (Nat → Nat × Nat) × (Nat → Nat → Int32) × (Nat → Nat → Option Nat) × Nat × Nat
abbrev zC : Type := Nat × Nat × List Value × List Value × zM
abbrev zR : Type := Option Value × zM
abbrev zO : Type := Option (zC ⊕ zR ⊕ (zC × Nat × Nat × List Value × List Value))
def zlk (l : List zK) (pc : Nat) : Option (Jvm.ClassFile.Instr × zI) := match l with
  | [] => none
  | q :: t => if q.1 = pc then some q.2 else zlk t pc
def zk (M : zM) (a : Nat) : Nat × Nat := M.1 a
def zi (M : zM) (a j : Nat) : Int32 := M.2.1 a j
def zr (M : zM) (a j : Nat) : Option Nat := M.2.2.1 a j
def zn (M : zM) : Nat := M.2.2.2.1
def zz (M : zM) : Nat := M.2.2.2.2
def zwi (M : zM) (a j : Nat) (x : Int32) : zM := (M.1, fun a' j' => if a' = a ∧ j' = j then x else M.2.1 a' j', M.2.2)
def zwr (M : zM) (a j : Nat) (o : Option Nat) : zM := (M.1, M.2.1, fun a' j' => if a' = a ∧ j' = j then o else M.2.2.1 a' j', M.2.2.2)
def zal (M : zM) (t len k : Nat) : zM := (fun a => if a = M.2.2.2.1 then (t, len) else M.1 a, fun a j => if a = M.2.2.2.1 then 0 else M.2.1 a j, fun a j => if a = M.2.2.2.1 then none else M.2.2.1 a j, M.2.2.2.1 + 1, M.2.2.2.2 + k)
def zok (v : Value) : Bool := match v with
  | .int _ => true
  | .ref _ => true
  | .null => true
  | .long _ => true
  | _ => false
/-- a reference or null -/
def zA (v : Value) : Bool := match v with
  | .ref _ => true
  | .null => true
  | _ => false
/-- .. or the script, which stands here as a long -/
def zAL (v : Value) : Bool := match v with
  | .ref _ => true
  | .null => true
  | .long _ => true
  | _ => false
def zq (v : Value) : Option Nat := match v with
  | .ref a => some a
  | _ => none
def zgo (i pc : Nat) (L st : List Value) (M : zM) : zO := some (.inl (i, pc, L, st, M))
def zgf (inf : zI) (x : Nat) (K : Nat → Nat → zO) : zO := match inf with
  | [] => none
  | q :: t => if x = q.1 then K q.2.1 q.2.2 else zgf t x K
def zsw (inf : zI) (x : Int32) (K : Nat → zO) (d : Nat) : zO := match inf with
  | [] => K d
  | q :: t => if x = Int32.ofNat q.1 then K q.2.1 else zsw t x K d
def zbin (f : Int32 → Int32 → Int32) (i pc : Nat) (L st : List Value) (M : zM) : zO := match st with
  | .int y :: .int x :: t => zgo i (pc + 1) L (.int (f x y) :: t) M
  | _ => none
def zldi (k i pc : Nat) (L st : List Value) (M : zM) : zO := match L[k]? with
  | some (.int x) => zgo i pc L (.int x :: st) M
  | _ => none
def zlda (k i pc : Nat) (L st : List Value) (M : zM) : zO := match L[k]? with
  | some v => if zAL v = true then zgo i pc L (v :: st) M else none
  | none => none
def zsti (k i pc : Nat) (L st : List Value) (M : zM) : zO := match st with
  | .int x :: t => if k < L.length then zgo i pc (L.set k (.int x)) t M else none
  | _ => none
def zsta (k i pc : Nat) (L st : List Value) (M : zM) : zO := match st with
  | v :: t => if zA v = true then (if k < L.length then zgo i pc (L.set k v) t M else none) else none
  | _ => none
def zcal (P : zP) (j cnt i pc : Nat) (L st : List Value) (M : zM) : zO :=
  if P.2.2.1 j < P.2.2.1 i ∧ cnt ≤ st.length ∧ cnt ≤ P.2.1 j ∧ st.length ≤ cnt + 8 then some (.inr (.inr ((j, 0, (st.take cnt).reverse ++ List.replicate (P.2.1 j - cnt) (.double 0), [], M), i, pc + 3, L, st.drop cnt))) else none
def zx1 (i pc : Nat) (ins : Jvm.ClassFile.Instr) (L st : List Value) (M : zM) : zO := match ins with
  | .iconst n => zgo i (pc + 1) L (.int (Int32.ofInt n) :: st) M
  | .bipush n => zgo i (pc + 2) L (.int (Int8.ofInt n).toInt32 :: st) M
  | .sipush n => zgo i (pc + 3) L (.int (Int16.ofInt n).toInt32 :: st) M
  | .aconst_null => zgo i (pc + 1) L (.null :: st) M
  | .iload_n k => zldi k.val i (pc + 1) L st M
  | .iload k => zldi k i (pc + 2) L st M
  | .aload_n k => zlda k.val i (pc + 1) L st M
  | .aload k => zlda k i (pc + 2) L st M
  | .istore_n k => zsti k.val i (pc + 1) L st M
  | .istore k => zsti k i (pc + 2) L st M
  | .astore_n k => zsta k.val i (pc + 1) L st M
  | .astore k => zsta k i (pc + 2) L st M
  | .iinc k n => (match L[k]? with
    | some (.int x) => zgo i (pc + 3) (L.set k (.int (x + Int32.ofInt n))) st M
    | _ => none)
  | .iadd => zbin (fun x y => x + y) i pc L st M
  | .isub => zbin (fun x y => x - y) i pc L st M
  | .imul => zbin (fun x y => x * y) i pc L st M
  | .iand => zbin (fun x y => x &&& y) i pc L st M
  | .ior => zbin (fun x y => x ||| y) i pc L st M
  | .ishl => zbin (fun x y => x <<< (y &&& 31)) i pc L st M
  | .ishr => zbin (fun x y => x >>> (y &&& 31)) i pc L st M
  | .idiv => (match st with
    | .int y :: .int x :: t => if y = 0 then none else zgo i (pc + 1) L (.int (x / y) :: t) M
    | _ => none)
  | .irem => (match st with
    | .int y :: .int x :: t => if y = 0 then none else zgo i (pc + 1) L (.int (x - x / y * y) :: t) M
    | _ => none)
  | .dup => (match st with
    | v :: t => zgo i (pc + 1) L (v :: v :: t) M
    | _ => none)
  | .pop => (match st with
    | _ :: t => zgo i (pc + 1) L t M
    | _ => none)
  | .dup_x1 => (match st with
    | v :: w :: t => zgo i (pc + 1) L (v :: w :: v :: t) M
    | _ => none)
  | .dup_x2 => (match st with
    | v :: w :: u :: t => zgo i (pc + 1) L (v :: w :: u :: v :: t) M
    | _ => none)
  | .dup2 => (match st with
    | v :: w :: t => zgo i (pc + 1) L (v :: w :: v :: w :: t) M
    | _ => none)
  | _ => none
def zx2 (i pc : Nat) (ins : Jvm.ClassFile.Instr) (inf : zI) (L st : List Value) (M : zM) : zO := match inf with
  | [] => none
  | q :: inf' => (match ins with
    | .goto _ => zgo i q.1 L st M
    | .ifCond c _ => (match st with
      | .int x :: t => (match c with
        | .eq => if x = 0 then zgo i q.1 L t M else zgo i (pc + 3) L t M
        | .ne => if x = 0 then zgo i (pc + 3) L t M else zgo i q.1 L t M
        | .lt => if x < 0 then zgo i q.1 L t M else zgo i (pc + 3) L t M
        | .ge => if x < 0 then zgo i (pc + 3) L t M else zgo i q.1 L t M
        | .gt => if 0 < x then zgo i q.1 L t M else zgo i (pc + 3) L t M
        | .le => if 0 < x then zgo i (pc + 3) L t M else zgo i q.1 L t M)
      | _ => none)
    | .if_icmp c _ => (match st with
      | .int y :: .int x :: t => (match c with
        | .eq => if x = y then zgo i q.1 L t M else zgo i (pc + 3) L t M
        | .ne => if x = y then zgo i (pc + 3) L t M else zgo i q.1 L t M
        | .lt => if x < y then zgo i q.1 L t M else zgo i (pc + 3) L t M
        | .ge => if x < y then zgo i (pc + 3) L t M else zgo i q.1 L t M
        | .gt => if y < x then zgo i q.1 L t M else zgo i (pc + 3) L t M
        | .le => if y < x then zgo i (pc + 3) L t M else zgo i q.1 L t M)
      | _ => none)
    | .ifnull _ => (match st with
      | v :: t => if zA v = true then (if zq v = none then zgo i q.1 L t M else zgo i (pc + 3) L t M) else none
      | _ => none)
    | .ifnonnull _ => (match st with
      | v :: t => if zA v = true then (if zq v = none then zgo i (pc + 3) L t M else zgo i q.1 L t M) else none
      | _ => none)
    | .if_acmp c _ => (match st with
      | w :: v :: t => if zA v = true ∧ zA w = true then (match c with
        | .eq => if zq v = zq w then zgo i q.1 L t M else zgo i (pc + 3) L t M
        | .ne => if zq v = zq w then zgo i (pc + 3) L t M else zgo i q.1 L t M) else none
      | _ => none)
    | .tableswitch _ _ _ _ => (match st with
      | .int x :: t => zsw inf' x (fun tg => zgo i tg L t M) q.1
      | _ => none)
    | _ => none)
def zin (k : Int32) (n : Nat) : Bool := decide (¬ k < 0 ∧ k.toNatClampNeg < n)
def zx3 (P : zP) (i pc : Nat) (ins : Jvm.ClassFile.Instr) (inf : zI) (L st : List Value) (M : zM) : zO := match ins with
  | .getfield _ => (match st with
    | .ref a :: t => zgf inf (zk M a).1 (fun j k => if k = 2 then zgo i (pc + 3) L (va_rf (zr M a j) :: t) M else zgo i (pc + 3) L (.int (zi M a j) :: t) M)
    | _ => none)
  | .putfield _ => (match st with
    | v :: .ref a :: t => zgf inf (zk M a).1 (fun j k => if k = 2 then (if zA v = true then zgo i (pc + 3) L t (zwr M a j (zq v)) else none) else (match v with
      | .int x => if k = 0 then zgo i (pc + 3) L t (zwi M a j x) else (if x = 0 ∨ x = 1 then zgo i (pc + 3) L t (zwi M a j x) else none)
      | _ => none))
    | _ => none)
  | .iaload => (match st with
    | .int k :: .ref a :: t => if (zk M a).1 = 20 then (if zin k (zk M a).2 = true then zgo i (pc + 1) L (.int (zi M a k.toNatClampNeg) :: t) M else none) else none
    | .int k :: .long _ :: t => if zin k (P.2.2.2.1 - 1) = true then zgo i (pc + 1) L (.int (P.2.2.2.2 k.toNatClampNeg) :: t) M else none
    | _ => none)
  | .baload => (match st with
    | .int k :: .ref a :: t => if (zk M a).1 = 21 then (if zin k (zk M a).2 = true then zgo i (pc + 1) L (.int (zi M a k.toNatClampNeg) :: t) M else none) else none
    | _ => none)
  | .aaload => (match st with
    | .int k :: .ref a :: t => if 22 ≤ (zk M a).1 ∧ (zk M a).1 < 25 then (if zin k (zk M a).2 = true then zgo i (pc + 1) L (va_rf (zr M a k.toNatClampNeg) :: t) M else none) else none
    | _ => none)
  | .iastore => (match st with
    | .int x :: .int k :: .ref a :: t => if (zk M a).1 = 20 then (if zin k (zk M a).2 = true then zgo i (pc + 1) L t (zwi M a k.toNatClampNeg x) else none) else none
    | _ => none)
  | .bastore => (match st with
    | .int x :: .int k :: .ref a :: t => if (zk M a).1 = 21 then (if zin k (zk M a).2 = true then zgo i (pc + 1) L t (zwi M a k.toNatClampNeg (vp_nar .boolean x)) else none) else none
    | _ => none)
  | .aastore => (match st with
    | .ref v :: .int k :: .ref a :: t => zgf inf (zk M a).1 (fun c1 c2 => if ((zk M v).1 = c1 ∨ (zk M v).1 = c2) ∧ zin k (zk M a).2 = true then zgo i (pc + 1) L t (zwr M a k.toNatClampNeg (some v)) else none)
    | _ => none)
  | .arraylength => (match st with
    | .ref a :: t => if 20 ≤ (zk M a).1 ∧ (zk M a).1 < 25 then zgo i (pc + 1) L (.int (Int32.ofNat (zk M a).2) :: t) M else none
    | .long _ :: t => (match P.2.2.2.1 with
      | 0 => none
      | n + 1 => zgo i (pc + 1) L (.int (Int32.ofNat n) :: t) M)
    | _ => none)
  | .newarray _ => (match st, inf with
    | .int k :: t, q :: _ => if zin k 100000 = true then zgo i (pc + 2) L (.ref (zn M) :: t) (zal M q.1 k.toNatClampNeg k.toNatClampNeg) else none
    | _, _ => none)
  | .anewarray _ => (match st, inf with
    | .int k :: t, q :: _ => if zin k 100000 = true then zgo i (pc + 3) L (.ref (zn M) :: t) (zal M q.1 k.toNatClampNeg k.toNatClampNeg) else none
    | _, _ => none)
  | .new _ => (match inf with
    | q :: _ => zgo i (pc + 3) L (.ref (zn M) :: st) (zal M q.1 0 q.2.1)
    | _ => none)
  | .instanceof _ => (match st with
    | .ref a :: t => zgf inf (zk M a).1 (fun x _ => zgo i (pc + 3) L (.int (Int32.ofNat x) :: t) M)
    | .null :: t => zgo i (pc + 3) L (.int 0 :: t) M
    | _ => none)
  | .checkcast _ => (match st with
    | .ref a :: t => zgf inf (zk M a).1 (fun x _ => if x = 1 then zgo i (pc + 3) L (.ref a :: t) M else none)
    | .null :: t => zgo i (pc + 3) L (.null :: t) M
    | _ => none)
  | _ => none
def zx4 (P : zP) (i pc : Nat) (ins : Jvm.ClassFile.Instr) (inf : zI) (L st : List Value) (M : zM) : zO := match ins with
  | .ireturn => (match st, inf with
    | [.int x], q :: _ => if q.1 = 0 ∨ x = 0 ∨ x = 1 then some (.inr (.inl (some (.int x), M))) else none
    | _, _ => none)
  | .areturn => (match st with
    | [v] => if zA v = true then some (.inr (.inl (some v, M))) else none
    | _ => none)
  | .return_ => (match st with
    | [] => some (.inr (.inl (none, M)))
    | _ => none)
  | .invokestatic _ => (match inf with
    | q :: _ => if q.2.1 = 1001 then (match st with
        | .int y :: .int x :: t => if t.length ≤ 8 then zgo i (pc + 3) L (.int (if x < y then y else x) :: t) M else none
        | _ => none)
      else if q.2.1 = 1002 then (match st with
        | .int y :: .int x :: t => if t.length ≤ 8 then zgo i (pc + 3) L (.int (if y < x then y else x) :: t) M else none
        | _ => none)
      else zcal P q.2.1 q.2.2 i pc L st M
    | _ => none)
  | .invokespecial _ => (match inf with
    | q :: _ => if q.2.1 = 1000 then (match st with
        | .ref _ :: t => if t.length ≤ 8 then zgo i (pc + 3) L t M else none
        | _ => none)
      else (match st[q.2.2]? with
        | some (.ref _) => zcal P q.2.1 (q.2.2 + 1) i pc L st M
        | _ => none)
    | _ => none)
  | .invokevirtual _ => (match inf with
    | q :: _ => (match st[q.2.2]? with
      | some (.ref a) => zgf inf (zk M a).1 (fun j n => zcal P j (n + 1) i pc L st M)
      | _ => none)
    | _ => none)
  | _ => none
def zex (P : zP) (i pc : Nat) (ins : Jvm.ClassFile.Instr) (inf : zI) (L st : List Value) (M : zM) : zO := match ins with
  | .goto _ => zx2 i pc ins inf L st M
  | .ifCond _ _ => zx2 i pc ins inf L st M
  | .if_icmp _ _ => zx2 i pc ins inf L st M
  | .ifnull _ => zx2 i pc ins inf L st M
  | .ifnonnull _ => zx2 i pc ins inf L st M
  | .if_acmp _ _ => zx2 i pc ins inf L st M
  | .tableswitch _ _ _ _ => zx2 i pc ins inf L st M
  | .getfield _ => zx3 P i pc ins inf L st M
  | .putfield _ => zx3 P i pc ins inf L st M
  | .iaload => zx3 P i pc ins inf L st M
  | .baload => zx3 P i pc ins inf L st M
  | .aaload => zx3 P i pc ins inf L st M
  | .iastore => zx3 P i pc ins inf L st M
  | .bastore => zx3 P i pc ins inf L st M
  | .aastore => zx3 P i pc ins inf L st M
  | .arraylength => zx3 P i pc ins inf L st M
  | .newarray _ => zx3 P i pc ins inf L st M
  | .anewarray _ => zx3 P i pc ins inf L st M
  | .new _ => zx3 P i pc ins inf L st M
  | .instanceof _ => zx3 P i pc ins inf L st M
  | .checkcast _ => zx3 P i pc ins inf L st M
  | .ireturn => zx4 P i pc ins inf L st M
  | .areturn => zx4 P i pc ins inf L st M
  | .return_ => zx4 P i pc ins inf L st M
  | .invokestatic _ => zx4 P i pc ins inf L st M
  | .invokespecial _ => zx4 P i pc ins inf L st M
  | .invokevirtual _ => zx4 P i pc ins inf L st M
  | _ => zx1 i pc ins L st M
def zst (P : zP) (c : zC) : zO := match zlk (P.1 c.1) c.2.1 with
  | none => none
  | some q => zex P c.1 c.2.1 q.1 q.2 c.2.2.1 c.2.2.2.1 c.2.2.2.2
def zrun (P : zP) : Nat → zC → Option zR
  | 0, _ => none
  | k + 1, c => match zst P c with
    | none => none
    | some (.inl c') => zrun P k c'
    | some (.inr (.inl r)) => some r
    | some (.inr (.inr q)) => (match zrun P k q.1 with
      | none => none
      | some r => zrun P k (q.2.1, q.2.2.1, q.2.2.2.1, r.1.toList ++ q.2.2.2.2, r.2))
theorem zrun_succ {P : zP} : ∀ {k : Nat} {c : zC} {r : zR}, zrun P k c = some r → zrun P (k + 1) c = some r
  | 0, c, r, h => by simp [zrun] at h
  | k + 1, c, r, h => by
    rw [zrun] at h ⊢
    cases hs : zst P c with
    | none => rw [hs] at h; exact h
    | some o =>
      rw [hs] at h
      cases o with
      | inl c' => exact zrun_succ (k := k) h
      | inr o =>
        cases o with
        | inl r' => exact h
        | inr q =>
          dsimp only at h ⊢
          cases h1 : zrun P k q.1 with
          | none => rw [h1] at h; cases h
          | some r1 =>
            rw [h1] at h
            rw [zrun_succ h1]
            exact zrun_succ (k := k) h
theorem zrun_le {P : zP} {k n : Nat} {c : zC} {r : zR} (h : zrun P k c = some r) (hn : k ≤ n) : zrun P n c = some r := by
  induction hn with
  | refl => exact h
  | step _ ih => exact zrun_succ ih
theorem zrun_inj {P : zP} {k n : Nat} {c : zC} {r r' : zR} (h : zrun P k c = some r) (h' : zrun P n c = some r') : r = r' := by
  have a := zrun_le h (Nat.le_max_left k n)
  have b := zrun_le h' (Nat.le_max_right k n)
  exact Option.some.inj (a.symm.trans b)
/-- what the machine comes to from a configuration, if it comes to an end -/
noncomputable def zV (P : zP) (c : zC) : Option zR := @dite _ (∃ r : zR, ∃ k : Nat, zrun P k c = some r) (Classical.propDecidable _) (fun h => some (Classical.choose h)) (fun _ => none)
theorem zV_iff {P : zP} {c : zC} {r : zR} : zV P c = some r ↔ ∃ k : Nat, zrun P k c = some r := by
  unfold zV
  by_cases h : ∃ r : zR, ∃ k : Nat, zrun P k c = some r
  · rw [dif_pos h]
    constructor
    · intro e
      cases e
      exact Classical.choose_spec h
    · intro ⟨k, hk⟩
      obtain ⟨n, hn⟩ := Classical.choose_spec h
      rw [zrun_inj hn hk]
  · rw [dif_neg h]
    constructor
    · intro e; cases e
    · intro ⟨k, hk⟩; exact absurd ⟨r, k, hk⟩ h
theorem zV_of {P : zP} {k : Nat} {c : zC} {r : zR} (h : zrun P k c = some r) : zV P c = some r := zV_iff.mpr ⟨k, h⟩
theorem zV_ext {P : zP} {c : zC} {o : Option zR} (h : ∀ r, (∃ k, zrun P k c = some r) ↔ o = some r) : zV P c = o := by
  cases o with
  | none =>
    cases hv : zV P c with
    | none => rfl
    | some r => have := (h r).mp (zV_iff.mp hv); cases this
  | some r => exact zV_iff.mpr ((h r).mpr rfl)
theorem zV_no {P : zP} {c : zC} (h : zst P c = none) : zV P c = none := by
  refine zV_ext fun r => ⟨fun ⟨k, hk⟩ => ?_, fun h => by cases h⟩
  cases k with
  | zero => cases hk
  | succ k => rw [zrun, h] at hk; cases hk
theorem zV_go {P : zP} {c c' : zC} (h : zst P c = some (.inl c')) : zV P c = zV P c' := by
  refine zV_ext fun r => ⟨fun ⟨k, hk⟩ => ?_, fun hv => ?_⟩
  · cases k with
    | zero => cases hk
    | succ k => rw [zrun, h] at hk; exact zV_iff.mpr ⟨k, hk⟩
  · obtain ⟨k, hk⟩ := zV_iff.mp hv
    exact ⟨k + 1, by rw [zrun, h]; exact hk⟩
theorem zV_ret {P : zP} {c : zC} {r : zR} (h : zst P c = some (.inr (.inl r))) : zV P c = some r := zV_of (k := 1) (by rw [zrun, h])
theorem zV_call {P : zP} {c cc : zC} {i pc : Nat} {L st : List Value} (h : zst P c = some (.inr (.inr (cc, i, pc, L, st)))) : zV P c = (zV P cc).bind fun r => zV P (i, pc, L, r.1.toList ++ st, r.2) := by
  refine zV_ext fun r => ⟨fun ⟨k, hk⟩ => ?_, fun hv => ?_⟩
  · cases k with
    | zero => cases hk
    | succ k =>
      rw [zrun, h] at hk
      dsimp only at hk
      cases h1 : zrun P k cc with
      | none => rw [h1] at hk; cases hk
      | some r1 =>
        rw [h1] at hk
        rw [zV_of h1]
        exact zV_iff.mpr ⟨k, hk⟩
  · cases h1 : zV P cc with
    | none => rw [h1] at hv; cases hv
    | some r1 =>
      rw [h1] at hv
      obtain ⟨k1, e1⟩ := zV_iff.mp h1
      obtain ⟨k2, e2⟩ := zV_iff.mp (show zV P (i, pc, L, r1.1.toList ++ st, r1.2) = some r from hv)
      refine ⟨max k1 k2 + 1, ?_⟩
      rw [zrun, h]
      dsimp only
      rw [zrun_le e1 (Nat.le_max_left k1 k2)]
      exact zrun_le e2 (Nat.le_max_right k1 k2)
/-- the same, with the machine's own outcome -/
noncomputable def zL (P : zP) (o : zO) : Option zR := match o with
  | none => none
  | some (.inl c) => zV P c
  | some (.inr (.inl r)) => some r
  | some (.inr (.inr q)) => (zV P q.1).bind fun r => zV P (q.2.1, q.2.2.1, q.2.2.2.1, r.1.toList ++ q.2.2.2.2, r.2)
theorem zV_L {P : zP} {c : zC} {o : zO} (h : zst P c = o) : zV P c = zL P o := by
  cases o with
  | none => exact zV_no h
  | some o => cases o with
    | inl c' => exact zV_go h
    | inr o => cases o with
      | inl r => exact zV_ret h
      | inr q => exact zV_call h
theorem zL_if {P : zP} {p : Prop} [Decidable p] {a b : zO} : zL P (if p then a else b) = if p then zL P a else zL P b := by
  by_cases h : p
  · rw [if_pos h, if_pos h]
  · rw [if_neg h, if_neg h]
theorem zV_if {P : zP} {c : zC} {p : Prop} [Decidable p] {a b : zO} (h : zst P c = if p then a else b) : zV P c = if p then zL P a else zL P b := (zV_L h).trans zL_if
/-- what runs without a script runs with one -/
theorem zst_sp {cd : Nat → List zK} {nl rk : Nat → Nat} {f g : Nat → Int32} {n : Nat} {c : zC} {o : zC ⊕ zR ⊕ (zC × Nat × Nat × List Value × List Value)} (h : zst (cd, nl, rk, 0, f) c = some o) : zst (cd, nl, rk, n, g) c = some o := by
  unfold zst at h ⊢
  dsimp only at h ⊢
  cases hl : zlk (cd c.1) c.2.1 with
  | none => rw [hl] at h; cases h
  | some q =>
    rw [hl] at h
    dsimp only at h ⊢
    obtain ⟨ins, inf⟩ := q
    cases ins <;> first | exact h | skip
    case iaload =>
      dsimp only [zex, zx3] at h ⊢
      split at h
      · exact h
      · split at h
        · rename_i hz
          exact absurd (of_decide_eq_true hz).2 (by omega)
        · cases h
      · cases h
    case arraylength =>
      dsimp only [zex, zx3] at h ⊢
      split at h
      · exact h
      · cases h
      · cases h
theorem zrun_sp {cd : Nat → List zK} {nl rk : Nat → Nat} {f g : Nat → Int32} {n : Nat} : ∀ {k : Nat} {c : zC} {r : zR}, zrun (cd, nl, rk, 0, f) k c = some r → zrun (cd, nl, rk, n, g) k c = some r
  | 0, c, r, h => by cases h
  | k + 1, c, r, h => by
    rw [zrun] at h ⊢
    cases hs : zst (cd, nl, rk, 0, f) c with
    | none => rw [hs] at h; cases h
    | some o =>
      rw [hs] at h
      rw [zst_sp hs]
      cases o with
      | inl c' => exact zrun_sp (k := k) h
      | inr o =>
        cases o with
        | inl r' => exact h
        | inr q =>
          dsimp only at h ⊢
          cases h1 : zrun (cd, nl, rk, 0, f) k q.1 with
          | none => rw [h1] at h; cases h
          | some r1 =>
            rw [h1] at h
            rw [zrun_sp h1]
            exact zrun_sp (k := k) h
