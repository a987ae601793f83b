/-- how long an instruction is (a switch apart) -/
def zlen (ins : Jvm.ClassFile.Instr) : Nat := match ins with
  | .bipush _ | .iload _ | .aload _ | .istore _ | .astore _ | .newarray _ => 2
  | .sipush _ | .iinc _ _ | .goto _ | .ifCond _ _ | .if_icmp _ _ | .ifnull _ | .ifnonnull _ | .if_acmp _ _ | .getfield _ | .putfield _ | .anewarray _ | .new _ | .instanceof _ | .checkcast _ | .invokestatic _ | .invokespecial _ | .invokevirtual _ => 3
  | _ => 1
def zdc (cc : ByteArray) (pc : Nat) (ins : Jvm.ClassFile.Instr) : Prop := match ins with
  | .tableswitch _ _ _ _ => ∃ n, decode cc pc = .ok (ins, n)
  | _ => decode cc pc = .ok (ins, zlen ins)
/-! jumps -/
def zjT (pc : Nat) : List Int → zI → Nat → Bool
  | off :: os, x :: t, k => decide (x.1 = k) && decide ((pc : Int) + off = (x.2.1 : Int)) && zjT pc os t (k + 1)
  | _, [], _ => true
  | [], _ :: _, _ => false
def zjB (pc : Nat) (ins : Jvm.ClassFile.Instr) (inf : zI) : Bool := match inf with
  | [] => true
  | q :: t => (match ins with
    | .goto off => decide ((pc : Int) + off = (q.1 : Int))
    | .ifCond _ off => decide ((pc : Int) + off = (q.1 : Int))
    | .if_icmp _ off => decide ((pc : Int) + off = (q.1 : Int))
    | .ifnull off => decide ((pc : Int) + off = (q.1 : Int))
    | .ifnonnull off => decide ((pc : Int) + off = (q.1 : Int))
    | .if_acmp _ off => decide ((pc : Int) + off = (q.1 : Int))
    | .tableswitch d lo hi offs => decide ((pc : Int) + d = (q.1 : Int)) && decide (lo = 0) && decide (hi + 1 = (t.length : Int)) && decide (t.length < 1000) && zjT pc offs.toList t 0
    | _ => true)
/-- a field's link, from a method: class, place, kind (0 int, 1 boolean, 2 reference) -/
def zfk (y : MethodName) (pf : Bool) (idx : Nat) (q : Nat × Nat × Nat) : Prop := ∃ (C : String) (T : u_T) (N : Nat) (ty0 : Nat → FieldType) (ref : String),
  (vwCl[q.1]? = some (C, T, N) ∧ q.1 < 20 ∧ N = zN q.1 ∧ (∀ w ∈ u_ws C T N, w ∈ zWS) ∧ (∀ k, k < N → parseFieldDescriptor (T k).2.2.1 = some (ty0 k)) ∧ (∀ a, a < N → ∀ b, b < N → a ≠ b → (T a).2.1 ≠ (T b).2.1)) ∧
  q.2.1 < N ∧ (Cond.fieldLink y.cls idx ref (T q.2.1).2.1 (T q.2.1).2.2.1 ∈ zWS ∨ ((pf = true → (T q.2.1).2.2.2 = false) ∧ ∃ host, Cond.fieldLinkNest y.cls idx ref (T q.2.1).2.1 (T q.2.1).2.2.1 host ∈ zXS)) ∧
  (ref = (T q.2.1).1 ∨ Cond.sameField ref (T q.2.1).1 (T q.2.1).2.1 (T q.2.1).2.2.1 ∈ zWS) ∧
  ((q.2.2 = 0 ∧ zRf q.1 q.2.1 = false ∧ ty0 q.2.1 = .int) ∨ (q.2.2 = 1 ∧ zRf q.1 q.2.1 = false ∧ ty0 q.2.1 = .boolean) ∨ (q.2.2 = 2 ∧ zRf q.1 q.2.1 = true ∧ ((∃ n, ty0 q.2.1 = .object n) ∨ ∃ t, ty0 q.2.1 = .array t))) ∧
  (pf = true → (T q.2.1).2.2.2 = false ∨ ((T q.2.1).2.2.2 = true ∧ y.name = "<init>" ∧ (T q.2.1).1 = y.cls))
/-- an array's kind and its element's class -/
def zel (t : Nat) : String := if t = 22 then zel22 else if t = 23 then zel23 else zel24
/-- what an allocation's words are -/
def znk (y : MethodName) (idx : Nat) (q : Nat × Nat × Nat) : Prop := ∃ (C : String) (T : u_T) (N : Nat) (ty0 : Nat → FieldType),
  (vwCl[q.1]? = some (C, T, N) ∧ q.1 < 20 ∧ N = zN q.1 ∧ (∀ w ∈ u_ws C T N, w ∈ zWS) ∧ (∀ k, k < N → parseFieldDescriptor (T k).2.2.1 = some (ty0 k))) ∧ q.2.1 = N ∧
  Cond.classLink y.cls idx C ∈ zWS ∧ Cond.instantiable C N ∈ zWS ∧ Cond.initialized C ∈ zWS ∧ ∀ j, j < N → defaultValue (ty0 j) = if zRf q.1 j = true then .null else .int 0
def zo3 (y : MethodName) (ins : Jvm.ClassFile.Instr) (inf : zI) : Prop := match ins with
  | .getfield idx => ∀ q ∈ inf, zfk y false idx q
  | .putfield idx => ∀ q ∈ inf, zfk y true idx q
  | .aastore => ∀ q ∈ inf, (22 ≤ q.1 ∧ q.1 < 25) ∧ ∀ x, (x = q.2.1 ∨ x = q.2.2) → x < 20 ∧ ∃ r : vw_C, vwCl[x]? = some r ∧ (r.1 = zel q.1 ∨ Cond.castable r.1 (zel q.1) ∈ zXS)
  | .newarray at_ => ∀ q ∈ inf, (q.1 = 20 ∧ newarray.typeOf at_ = .int ∧ Cond.arrayClass .int ∈ zWS) ∨ (q.1 = 21 ∧ newarray.typeOf at_ = .boolean ∧ Cond.arrayClass .boolean ∈ zWS)
  | .anewarray idx => ∀ q ∈ inf, (22 ≤ q.1 ∧ q.1 < 25) ∧ Cond.classLink y.cls idx (zel q.1) ∈ zWS ∧ Cond.arrayOver (.object (zel q.1)) ∈ zXS
  | .new idx => ∀ q ∈ inf, znk y idx q
  | .instanceof idx => ∀ q ∈ inf, q.2.1 = 1 ∧ q.1 < 20 ∧ ∃ r : vw_C, vwCl[q.1]? = some r ∧ Cond.classLink y.cls idx r.1 ∈ zWS
  | .checkcast idx => ∀ q ∈ inf, q.2.1 = 1 ∧ q.1 < 20 ∧ ∃ r : vw_C, vwCl[q.1]? = some r ∧ Cond.classLink y.cls idx r.1 ∈ zWS
  | _ => True
def zvk (y : MethodName) (idx : Nat) (C : String) (j : Nat) : Prop :=
  (Cond.methodLink y.cls idx (zy j) ∈ zWS ∧ Cond.instanceMethod (zy j) ∈ zWS ∧ Cond.selects C (zy j) (zy j) ∈ zWS ∧ Cond.initialized (zy j).cls ∈ zWS) ∨
  (∃ host, Cond.methodLinkNest y.cls idx (zy j) host ∈ zXS ∧ Cond.instanceMethod (zy j) ∈ zWS ∧ Cond.selects C (zy j) (zy j) ∈ zWS ∧ Cond.initialized (zy j).cls ∈ zWS) ∨
  (∃ (owner : String) (x : MethodName), (∀ w ∈ ([.methodLink y.cls idx x, .sameMethod x.cls owner x.name x.desc, .selects C x (zy j), .instanceMethod (zy j), .initialized (zy j).cls] : List Cond), w ∈ zWS) ∧ (zy j = ⟨owner, x.name, x.desc⟩ ∨ Cond.declares ⟨owner, x.name, x.desc⟩ ∈ zXS) ∧ (owner ≠ "java/lang/invoke/MethodHandle" ∧ owner ≠ "java/lang/invoke/VarHandle") ∧ x.desc = (zy j).desc)
def zo4 (i : Nat) (ins : Jvm.ClassFile.Instr) (inf : zI) : Prop := match ins with
  | .ireturn => ∀ q ∈ inf, (q.1 = 0 ∧ zty i = some .int) ∨ (q.1 = 1 ∧ zty i = some .boolean)
  | .areturn => (∃ n, zty i = some (.object n)) ∨ ∃ t, zty i = some (.array t)
  | .return_ => zty i = none
  | .invokestatic idx => ∀ q ∈ inf,
      (q.2.1 = 1001 ∧ ∀ w ∈ ([.methodLink (zy i).cls idx Lib.Math.max.name, .static Lib.Math.max.name, .initialized "java/lang/Math", .code Lib.Math.max.name Lib.Math.max.code 2 (some .int)] : List Cond), w ∈ zWS) ∨
      (q.2.1 = 1002 ∧ ∀ w ∈ ([.methodLink (zy i).cls idx Lib.Math.min.name, .static Lib.Math.min.name, .initialized "java/lang/Math", .code Lib.Math.min.name Lib.Math.min.code 2 (some .int)] : List Cond), w ∈ zWS) ∨
      (¬ q.2.1 = 1001 ∧ ¬ q.2.1 = 1002 ∧ q.2.2 = zna q.2.1 ∧ q.2.1 < znm ∧ Cond.static (zy q.2.1) ∈ zWS ∧ Cond.initialized (zy q.2.1).cls ∈ zWS ∧ (Cond.methodLink (zy i).cls idx (zy q.2.1) ∈ zWS ∨ ∃ host, Cond.methodLinkNest (zy i).cls idx (zy q.2.1) host ∈ zXS))
  | .invokespecial idx => ∀ q ∈ inf,
      (q.2.1 = 1000 ∧ ∀ w ∈ ([.methodLink (zy i).cls idx Lib.objectInit, .instanceMethod Lib.objectInit, .code Lib.objectInit ⟨#[0xb1]⟩ 1 none] : List Cond), w ∈ zWS) ∨
      (¬ q.2.1 = 1000 ∧ q.2.2 = zna q.2.1 ∧ q.2.1 < znm ∧ zty q.2.1 = none ∧ (zy q.2.1).name = "<init>" ∧ Cond.instanceMethod (zy q.2.1) ∈ zWS ∧ Cond.initialized (zy q.2.1).cls ∈ zWS ∧ (Cond.methodLink (zy i).cls idx (zy q.2.1) ∈ zWS ∨ ∃ host, Cond.methodLinkNest (zy i).cls idx (zy q.2.1) host ∈ zXS))
  | .invokevirtual idx => ∀ q ∈ inf, (∀ q' ∈ inf, q'.2.2 = q.2.2) ∧ q.2.2 = zna q.2.1 ∧ q.2.1 < znm ∧ q.1 < 20 ∧ ∃ r : vw_C, vwCl[q.1]? = some r ∧ zvk (zy i) idx r.1 q.2.1
  | _ => True
def zFa (i : Nat) : List zK → Prop
  | [] => True
  | q :: t => (zo3 (zy i) q.2.1 q.2.2 ∧ zo4 i q.2.1 q.2.2) ∧ zFa i t
theorem zFc {i pc : Nat} {ins : Jvm.ClassFile.Instr} {inf : zI} {t : List zK} (h3 : zo3 (zy i) ins inf) (h4 : zo4 i ins inf) (ht : zFa i t) : zFa i ((pc, ins, inf) :: t) := ⟨⟨h3, h4⟩, ht⟩
theorem zFn {i : Nat} : zFa i [] := trivial
theorem zFa_app {i : Nat} : ∀ {a b : List zK}, zFa i a → zFa i b → zFa i (a ++ b)
  | [], _, _, h => h
  | _ :: _, _, h1, h2 => ⟨h1.1, zFa_app h1.2 h2⟩
theorem zFa_mem {i : Nat} : ∀ {l : List zK} {q : zK}, zFa i l → q ∈ l → zo3 (zy i) q.2.1 q.2.2 ∧ zo4 i q.2.1 q.2.2
  | [], _, _, h => absurd h List.not_mem_nil
  | a :: t, q, h, hq => by
    rcases List.mem_cons.mp hq with e | e
    · subst e; exact h.1
    · exact zFa_mem h.2 e
theorem zf0 {α : Type} {P : α → Prop} : ∀ q ∈ ([] : List α), P q := fun _ h => absurd h List.not_mem_nil
theorem zfc {α : Type} {P : α → Prop} {a : α} {t : List α} (h : P a) (ht : ∀ q ∈ t, P q) : ∀ q ∈ a :: t, P q := fun q hq => by
  rcases List.mem_cons.mp hq with e | e
  · subst e; exact h
  · exact ht q e
def zdB (cc : ByteArray) (q : zK) : Bool := (match decode cc q.1 with
  | .ok r => decide (r.1 = q.2.1) && (match q.2.1 with
    | .tableswitch _ _ _ _ => true
    | _ => decide (r.2 = zlen q.2.1))
  | _ => false) && zjB q.1 q.2.1 q.2.2
theorem zdB_ok {cc : ByteArray} {q : zK} (h : zdB cc q = true) : zdc cc q.1 q.2.1 ∧ zjB q.1 q.2.1 q.2.2 = true := by
  unfold zdB at h
  rw [Bool.and_eq_true] at h
  refine ⟨?_, h.2⟩
  have h := h.1
  split at h
  · rename_i r hr
    rw [Bool.and_eq_true] at h
    obtain ⟨h1, h2⟩ := h
    have h1 := of_decide_eq_true h1
    obtain ⟨ri, rn⟩ := r
    dsimp only at h1
    subst h1
    unfold zdc
    split
    · rename_i e1
      rw [e1] at hr
      exact ⟨rn, by rw [e1]; exact hr⟩
    · rename_i hne
      split at h2
      · rename_i e1
        exact absurd e1 (hne _ _ _ _)
      · have h2 : rn = zlen q.2.1 := of_decide_eq_true h2
        rw [hr, h2]
  · cases h
theorem zlk_mem : ∀ {l : List zK} {pc : Nat} {x : Jvm.ClassFile.Instr × zI}, zlk l pc = some x → (pc, x) ∈ l
  | [], _, _, h => by cases h
  | q :: t, pc, x, h => by
    rw [zlk] at h
    split at h
    · rename_i e
      cases h
      rw [← e]
      exact List.mem_cons_self
    · exact List.mem_cons_of_mem _ (zlk_mem h)
