section
-- ===== PART A: goes FIRST, ahead of the names: the tables' words, and 'selects' of the private methods out of them =====
/-- a private method of a class that the tables say can be made, by its rows of tables_1 -/
def lw_okq (q : MethodName × Nat) : Prop := (q.1.cls ≠ "java/lang/invoke/MethodHandle" ∧ q.1.cls ≠ "java/lang/invoke/VarHandle") ∧ Cond.instantiable q.1.cls q.2 ∈ tables_1 ∧ Cond.privateMethod q.1 ∈ tables_1 ∧ Cond.instanceMethod q.1 ∈ tables_1
theorem lw_p0 : lw_okq (⟨"CircuitNet", "circuitAt", "(II)LCircuitNet$Circuit;"⟩, 2) := ⟨⟨by decide +kernel, by decide +kernel⟩, List.mem_of_getElem? (i := 12) (by decide +kernel), List.mem_of_getElem? (i := 200) (by decide +kernel), List.mem_of_getElem? (i := 201) (by decide +kernel)⟩
theorem lw_p1 : lw_okq (⟨"CircuitNet$Line", "grow", "()V"⟩, 3) := ⟨⟨by decide +kernel, by decide +kernel⟩, List.mem_of_getElem? (i := 47) (by decide +kernel), List.mem_of_getElem? (i := 239) (by decide +kernel), List.mem_of_getElem? (i := 240) (by decide +kernel)⟩
theorem lw_p2 : lw_okq (⟨"CircuitNet", "endAt", "(II)LCircuitNet$End;"⟩, 2) := ⟨⟨by decide +kernel, by decide +kernel⟩, List.mem_of_getElem? (i := 12) (by decide +kernel), List.mem_of_getElem? (i := 307) (by decide +kernel), List.mem_of_getElem? (i := 308) (by decide +kernel)⟩
theorem lw_p3 : lw_okq (⟨"CircuitNet$End", "breakDown", "()V"⟩, 12) := ⟨⟨by decide +kernel, by decide +kernel⟩, List.mem_of_getElem? (i := 41) (by decide +kernel), List.mem_of_getElem? (i := 327) (by decide +kernel), List.mem_of_getElem? (i := 328) (by decide +kernel)⟩
theorem lw_p4 : lw_okq (⟨"CircuitNet$Joint", "leave", "()LCircuitNet$Joint;"⟩, 6) := ⟨⟨by decide +kernel, by decide +kernel⟩, List.mem_of_getElem? (i := 117) (by decide +kernel), List.mem_of_getElem? (i := 341) (by decide +kernel), List.mem_of_getElem? (i := 342) (by decide +kernel)⟩
theorem lw_p5 : lw_okq (⟨"CircuitNet$Circuit", "change", "(II)V"⟩, 8) := ⟨⟨by decide +kernel, by decide +kernel⟩, List.mem_of_getElem? (i := 157) (by decide +kernel), List.mem_of_getElem? (i := 376) (by decide +kernel), List.mem_of_getElem? (i := 377) (by decide +kernel)⟩
theorem lw_p6 : lw_okq (⟨"CircuitNet$Circuit", "meetClear", "()V"⟩, 8) := ⟨⟨by decide +kernel, by decide +kernel⟩, List.mem_of_getElem? (i := 157) (by decide +kernel), List.mem_of_getElem? (i := 380) (by decide +kernel), List.mem_of_getElem? (i := 381) (by decide +kernel)⟩
theorem lw_p7 : lw_okq (⟨"CircuitNet$Circuit", "meetReset", "()V"⟩, 8) := ⟨⟨by decide +kernel, by decide +kernel⟩, List.mem_of_getElem? (i := 157) (by decide +kernel), List.mem_of_getElem? (i := 385) (by decide +kernel), List.mem_of_getElem? (i := 386) (by decide +kernel)⟩
theorem lw_p8 : lw_okq (⟨"CircuitNet$Joint", "meetCall", "(ZII)V"⟩, 6) := ⟨⟨by decide +kernel, by decide +kernel⟩, List.mem_of_getElem? (i := 117) (by decide +kernel), List.mem_of_getElem? (i := 392) (by decide +kernel), List.mem_of_getElem? (i := 393) (by decide +kernel)⟩
theorem lw_p9 : lw_okq (⟨"CircuitNet$Joint", "connect", "(II)V"⟩, 6) := ⟨⟨by decide +kernel, by decide +kernel⟩, List.mem_of_getElem? (i := 117) (by decide +kernel), List.mem_of_getElem? (i := 396) (by decide +kernel), List.mem_of_getElem? (i := 397) (by decide +kernel)⟩
theorem lw_p10 : lw_okq (⟨"CircuitNet$Joint", "freeJointTo", "(I)LCircuitNet$Joint;"⟩, 6) := ⟨⟨by decide +kernel, by decide +kernel⟩, List.mem_of_getElem? (i := 117) (by decide +kernel), List.mem_of_getElem? (i := 400) (by decide +kernel), List.mem_of_getElem? (i := 401) (by decide +kernel)⟩
theorem lw_p11 : lw_okq (⟨"CircuitNet$Joint", "join", "(LCircuitNet$Joint;)V"⟩, 6) := ⟨⟨by decide +kernel, by decide +kernel⟩, List.mem_of_getElem? (i := 117) (by decide +kernel), List.mem_of_getElem? (i := 405) (by decide +kernel), List.mem_of_getElem? (i := 406) (by decide +kernel)⟩
theorem lw_p12 : lw_okq (⟨"CircuitNet$Joint", "meetClear", "()V"⟩, 6) := ⟨⟨by decide +kernel, by decide +kernel⟩, List.mem_of_getElem? (i := 117) (by decide +kernel), List.mem_of_getElem? (i := 412) (by decide +kernel), List.mem_of_getElem? (i := 413) (by decide +kernel)⟩
theorem lw_p13 : lw_okq (⟨"CircuitNet$End", "sendAgain", "()V"⟩, 12) := ⟨⟨by decide +kernel, by decide +kernel⟩, List.mem_of_getElem? (i := 41) (by decide +kernel), List.mem_of_getElem? (i := 428) (by decide +kernel), List.mem_of_getElem? (i := 429) (by decide +kernel)⟩
theorem lw_p14 : lw_okq (⟨"CircuitNetModel", "tickOf", "(I)V"⟩, 24) := ⟨⟨by decide +kernel, by decide +kernel⟩, List.mem_of_getElem? (i := 468) (by decide +kernel), List.mem_of_getElem? (i := 552) (by decide +kernel), List.mem_of_getElem? (i := 553) (by decide +kernel)⟩
theorem lw_p15 : lw_okq (⟨"CircuitNetModel", "post", "(II)I"⟩, 24) := ⟨⟨by decide +kernel, by decide +kernel⟩, List.mem_of_getElem? (i := 468) (by decide +kernel), List.mem_of_getElem? (i := 556) (by decide +kernel), List.mem_of_getElem? (i := 557) (by decide +kernel)⟩
def lw_privs_1 : List (MethodName × Nat) := [(⟨"CircuitNet", "circuitAt", "(II)LCircuitNet$Circuit;"⟩, 2), (⟨"CircuitNet$Line", "grow", "()V"⟩, 3), (⟨"CircuitNet", "endAt", "(II)LCircuitNet$End;"⟩, 2), (⟨"CircuitNet$End", "breakDown", "()V"⟩, 12), (⟨"CircuitNet$Joint", "leave", "()LCircuitNet$Joint;"⟩, 6), (⟨"CircuitNet$Circuit", "change", "(II)V"⟩, 8), (⟨"CircuitNet$Circuit", "meetClear", "()V"⟩, 8), (⟨"CircuitNet$Circuit", "meetReset", "()V"⟩, 8), (⟨"CircuitNet$Joint", "meetCall", "(ZII)V"⟩, 6), (⟨"CircuitNet$Joint", "connect", "(II)V"⟩, 6), (⟨"CircuitNet$Joint", "freeJointTo", "(I)LCircuitNet$Joint;"⟩, 6), (⟨"CircuitNet$Joint", "join", "(LCircuitNet$Joint;)V"⟩, 6), (⟨"CircuitNet$Joint", "meetClear", "()V"⟩, 6), (⟨"CircuitNet$End", "sendAgain", "()V"⟩, 12), (⟨"CircuitNetModel", "tickOf", "(I)V"⟩, 24), (⟨"CircuitNetModel", "post", "(II)I"⟩, 24)]
theorem lw_r1 : ∀ q ∈ lw_privs_1, lw_okq q := List.forall_mem_cons.mpr ⟨lw_p0, List.forall_mem_cons.mpr ⟨lw_p1, List.forall_mem_cons.mpr ⟨lw_p2, List.forall_mem_cons.mpr ⟨lw_p3, List.forall_mem_cons.mpr ⟨lw_p4, List.forall_mem_cons.mpr ⟨lw_p5, List.forall_mem_cons.mpr ⟨lw_p6, List.forall_mem_cons.mpr ⟨lw_p7, List.forall_mem_cons.mpr ⟨lw_p8, List.forall_mem_cons.mpr ⟨lw_p9, List.forall_mem_cons.mpr ⟨lw_p10, List.forall_mem_cons.mpr ⟨lw_p11, List.forall_mem_cons.mpr ⟨lw_p12, List.forall_mem_cons.mpr ⟨lw_p13, List.forall_mem_cons.mpr ⟨lw_p14, List.forall_mem_cons.mpr ⟨lw_p15, fun _ h => absurd h List.not_mem_nil⟩⟩⟩⟩⟩⟩⟩⟩⟩⟩⟩⟩⟩⟩⟩⟩
theorem lw_p16 : lw_okq (⟨"CircuitNetModel", "fail", "(I)V"⟩, 24) := ⟨⟨by decide +kernel, by decide +kernel⟩, List.mem_of_getElem? (i := 468) (by decide +kernel), List.mem_of_getElem? (i := 560) (by decide +kernel), List.mem_of_getElem? (i := 561) (by decide +kernel)⟩
theorem lw_p17 : lw_okq (⟨"CircuitNetModel", "breakUp", "(I)V"⟩, 24) := ⟨⟨by decide +kernel, by decide +kernel⟩, List.mem_of_getElem? (i := 468) (by decide +kernel), List.mem_of_getElem? (i := 564) (by decide +kernel), List.mem_of_getElem? (i := 565) (by decide +kernel)⟩
theorem lw_p18 : lw_okq (⟨"CircuitNetModel", "remove", "(II)V"⟩, 24) := ⟨⟨by decide +kernel, by decide +kernel⟩, List.mem_of_getElem? (i := 468) (by decide +kernel), List.mem_of_getElem? (i := 568) (by decide +kernel), List.mem_of_getElem? (i := 569) (by decide +kernel)⟩
theorem lw_p19 : lw_okq (⟨"CircuitNetModel", "lost", "(II)V"⟩, 24) := ⟨⟨by decide +kernel, by decide +kernel⟩, List.mem_of_getElem? (i := 468) (by decide +kernel), List.mem_of_getElem? (i := 572) (by decide +kernel), List.mem_of_getElem? (i := 573) (by decide +kernel)⟩
theorem lw_p20 : lw_okq (⟨"CircuitNetModel", "cut", "(I)V"⟩, 24) := ⟨⟨by decide +kernel, by decide +kernel⟩, List.mem_of_getElem? (i := 468) (by decide +kernel), List.mem_of_getElem? (i := 579) (by decide +kernel), List.mem_of_getElem? (i := 580) (by decide +kernel)⟩
theorem lw_p21 : lw_okq (⟨"CircuitNetModel", "putOn", "(II)V"⟩, 24) := ⟨⟨by decide +kernel, by decide +kernel⟩, List.mem_of_getElem? (i := 468) (by decide +kernel), List.mem_of_getElem? (i := 583) (by decide +kernel), List.mem_of_getElem? (i := 584) (by decide +kernel)⟩
theorem lw_p22 : lw_okq (⟨"CircuitNetModel", "put", "(IIIII)V"⟩, 24) := ⟨⟨by decide +kernel, by decide +kernel⟩, List.mem_of_getElem? (i := 468) (by decide +kernel), List.mem_of_getElem? (i := 587) (by decide +kernel), List.mem_of_getElem? (i := 588) (by decide +kernel)⟩
theorem lw_p23 : lw_okq (⟨"CircuitNetModel", "sendOn", "(I)V"⟩, 24) := ⟨⟨by decide +kernel, by decide +kernel⟩, List.mem_of_getElem? (i := 468) (by decide +kernel), List.mem_of_getElem? (i := 591) (by decide +kernel), List.mem_of_getElem? (i := 592) (by decide +kernel)⟩
theorem lw_p24 : lw_okq (⟨"CircuitNetModel", "length", "(I)I"⟩, 24) := ⟨⟨by decide +kernel, by decide +kernel⟩, List.mem_of_getElem? (i := 468) (by decide +kernel), List.mem_of_getElem? (i := 595) (by decide +kernel), List.mem_of_getElem? (i := 596) (by decide +kernel)⟩
theorem lw_p25 : lw_okq (⟨"CircuitNetModel", "info", "(II)V"⟩, 24) := ⟨⟨by decide +kernel, by decide +kernel⟩, List.mem_of_getElem? (i := 468) (by decide +kernel), List.mem_of_getElem? (i := 599) (by decide +kernel), List.mem_of_getElem? (i := 600) (by decide +kernel)⟩
theorem lw_p26 : lw_okq (⟨"CircuitNetModel", "packet", "(II)I"⟩, 24) := ⟨⟨by decide +kernel, by decide +kernel⟩, List.mem_of_getElem? (i := 468) (by decide +kernel), List.mem_of_getElem? (i := 603) (by decide +kernel), List.mem_of_getElem? (i := 604) (by decide +kernel)⟩
theorem lw_p27 : lw_okq (⟨"CircuitNetModel", "shift", "(I)V"⟩, 24) := ⟨⟨by decide +kernel, by decide +kernel⟩, List.mem_of_getElem? (i := 468) (by decide +kernel), List.mem_of_getElem? (i := 617) (by decide +kernel), List.mem_of_getElem? (i := 618) (by decide +kernel)⟩
theorem lw_p28 : lw_okq (⟨"CircuitNetModel", "set", "(II)V"⟩, 24) := ⟨⟨by decide +kernel, by decide +kernel⟩, List.mem_of_getElem? (i := 468) (by decide +kernel), List.mem_of_getElem? (i := 621) (by decide +kernel), List.mem_of_getElem? (i := 622) (by decide +kernel)⟩
theorem lw_p29 : lw_okq (⟨"CircuitNetModel", "confirm", "(II)V"⟩, 24) := ⟨⟨by decide +kernel, by decide +kernel⟩, List.mem_of_getElem? (i := 468) (by decide +kernel), List.mem_of_getElem? (i := 625) (by decide +kernel), List.mem_of_getElem? (i := 626) (by decide +kernel)⟩
theorem lw_p30 : lw_okq (⟨"CircuitNetModel", "arrive", "(IIIII)V"⟩, 24) := ⟨⟨by decide +kernel, by decide +kernel⟩, List.mem_of_getElem? (i := 468) (by decide +kernel), List.mem_of_getElem? (i := 629) (by decide +kernel), List.mem_of_getElem? (i := 630) (by decide +kernel)⟩
theorem lw_p31 : lw_okq (⟨"CircuitNetModel", "atTerminal", "(IIII)V"⟩, 24) := ⟨⟨by decide +kernel, by decide +kernel⟩, List.mem_of_getElem? (i := 468) (by decide +kernel), List.mem_of_getElem? (i := 633) (by decide +kernel), List.mem_of_getElem? (i := 634) (by decide +kernel)⟩
def lw_privs_2 : List (MethodName × Nat) := [(⟨"CircuitNetModel", "fail", "(I)V"⟩, 24), (⟨"CircuitNetModel", "breakUp", "(I)V"⟩, 24), (⟨"CircuitNetModel", "remove", "(II)V"⟩, 24), (⟨"CircuitNetModel", "lost", "(II)V"⟩, 24), (⟨"CircuitNetModel", "cut", "(I)V"⟩, 24), (⟨"CircuitNetModel", "putOn", "(II)V"⟩, 24), (⟨"CircuitNetModel", "put", "(IIIII)V"⟩, 24), (⟨"CircuitNetModel", "sendOn", "(I)V"⟩, 24), (⟨"CircuitNetModel", "length", "(I)I"⟩, 24), (⟨"CircuitNetModel", "info", "(II)V"⟩, 24), (⟨"CircuitNetModel", "packet", "(II)I"⟩, 24), (⟨"CircuitNetModel", "shift", "(I)V"⟩, 24), (⟨"CircuitNetModel", "set", "(II)V"⟩, 24), (⟨"CircuitNetModel", "confirm", "(II)V"⟩, 24), (⟨"CircuitNetModel", "arrive", "(IIIII)V"⟩, 24), (⟨"CircuitNetModel", "atTerminal", "(IIII)V"⟩, 24)]
theorem lw_r2 : ∀ q ∈ lw_privs_2, lw_okq q := List.forall_mem_cons.mpr ⟨lw_p16, List.forall_mem_cons.mpr ⟨lw_p17, List.forall_mem_cons.mpr ⟨lw_p18, List.forall_mem_cons.mpr ⟨lw_p19, List.forall_mem_cons.mpr ⟨lw_p20, List.forall_mem_cons.mpr ⟨lw_p21, List.forall_mem_cons.mpr ⟨lw_p22, List.forall_mem_cons.mpr ⟨lw_p23, List.forall_mem_cons.mpr ⟨lw_p24, List.forall_mem_cons.mpr ⟨lw_p25, List.forall_mem_cons.mpr ⟨lw_p26, List.forall_mem_cons.mpr ⟨lw_p27, List.forall_mem_cons.mpr ⟨lw_p28, List.forall_mem_cons.mpr ⟨lw_p29, List.forall_mem_cons.mpr ⟨lw_p30, List.forall_mem_cons.mpr ⟨lw_p31, fun _ h => absurd h List.not_mem_nil⟩⟩⟩⟩⟩⟩⟩⟩⟩⟩⟩⟩⟩⟩⟩⟩
theorem lw_p32 : lw_okq (⟨"CircuitNetModel", "renew", "(I)V"⟩, 24) := ⟨⟨by decide +kernel, by decide +kernel⟩, List.mem_of_getElem? (i := 468) (by decide +kernel), List.mem_of_getElem? (i := 637) (by decide +kernel), List.mem_of_getElem? (i := 638) (by decide +kernel)⟩
theorem lw_p33 : lw_okq (⟨"CircuitNetModel", "connect", "(IIII)V"⟩, 24) := ⟨⟨by decide +kernel, by decide +kernel⟩, List.mem_of_getElem? (i := 468) (by decide +kernel), List.mem_of_getElem? (i := 644) (by decide +kernel), List.mem_of_getElem? (i := 645) (by decide +kernel)⟩
theorem lw_p34 : lw_okq (⟨"CircuitNetModel", "free", "(I)I"⟩, 24) := ⟨⟨by decide +kernel, by decide +kernel⟩, List.mem_of_getElem? (i := 468) (by decide +kernel), List.mem_of_getElem? (i := 651) (by decide +kernel), List.mem_of_getElem? (i := 652) (by decide +kernel)⟩
def lw_privs_3 : List (MethodName × Nat) := [(⟨"CircuitNetModel", "renew", "(I)V"⟩, 24), (⟨"CircuitNetModel", "connect", "(IIII)V"⟩, 24), (⟨"CircuitNetModel", "free", "(I)I"⟩, 24)]
theorem lw_r3 : ∀ q ∈ lw_privs_3, lw_okq q := List.forall_mem_cons.mpr ⟨lw_p32, List.forall_mem_cons.mpr ⟨lw_p33, List.forall_mem_cons.mpr ⟨lw_p34, fun _ h => absurd h List.not_mem_nil⟩⟩⟩
def lw_privs : List (MethodName × Nat) := lw_privs_1 ++ (lw_privs_2 ++ (lw_privs_3))
def lw_tbl : List Cond := k2_sels lw_privs ++ tables_1
theorem lw_privs_ok : ∀ q ∈ lw_privs, lw_okq q := by
  show ∀ q ∈ lw_privs_1 ++ (lw_privs_2 ++ (lw_privs_3)), lw_okq q
  exact List.forall_mem_append.mpr ⟨lw_r1, List.forall_mem_append.mpr ⟨lw_r2, lw_r3⟩⟩
end
section
/-! An abstract machine over numbered objects. An object is a number; its kind, its ints and its references stand in three functions. -/
abbrev zI : Type := List (Nat × Nat × Nat)
abbrev zK : Type := Nat × Jvm.ClassFile.Instr × zI
/-- code, locals, rank, the script's length and one (0: no script), the script -/
abbrev zP : Type := (Nat → List zK) × (Nat → Nat) × (Nat → Nat) × Nat × (Nat → Int32)
/-- kinds (class or array kind, length), ints, references, number of objects, number of slots -/
abbrev zM : Type := (Nat → Nat × Nat) × (Nat → Nat → Int32) × (Nat → Nat → Option Nat) × Nat × Nat
abbrev zC : Type := Nat × Nat × List Value × List Value × zM
abbrev zR : Type := Option Value × zM
abbrev zO : Type := Option (zC ⊕ zR ⊕ (zC × Nat × Nat × List Value × List Value))
def zlk (l : List zK) (pc : Nat) : Option (Jvm.ClassFile.Instr × zI) := match l with
  | [] => none
  | q :: t => if q.1 = pc then some q.2 else zlk t pc
def zk (M : zM) (a : Nat) : Nat × Nat := M.1 a
def zi (M : zM) (a j : Nat) : Int32 := M.2.1 a j
def zr (M : zM) (a j : Nat) : Option Nat := M.2.2.1 a j
def zn (M : zM) : Nat := M.2.2.2.1
def zz (M : zM) : Nat := M.2.2.2.2
def zwi (M : zM) (a j : Nat) (x : Int32) : zM := (M.1, fun a' j' => if a' = a ∧ j' = j then x else M.2.1 a' j', M.2.2)
def zwr (M : zM) (a j : Nat) (o : Option Nat) : zM := (M.1, M.2.1, fun a' j' => if a' = a ∧ j' = j then o else M.2.2.1 a' j', M.2.2.2)
def zal (M : zM) (t len k : Nat) : zM := (fun a => if a = M.2.2.2.1 then (t, len) else M.1 a, fun a j => if a = M.2.2.2.1 then 0 else M.2.1 a j, fun a j => if a = M.2.2.2.1 then none else M.2.2.1 a j, M.2.2.2.1 + 1, M.2.2.2.2 + k)
def zok (v : Value) : Bool := match v with
  | .int _ => true
  | .ref _ => true
  | .null => true
  | .long _ => true
  | _ => false
/-- a reference or null -/
def zA (v : Value) : Bool := match v with
  | .ref _ => true
  | .null => true
  | _ => false
/-- .. or the script, which stands here as a long -/
def zAL (v : Value) : Bool := match v with
  | .ref _ => true
  | .null => true
  | .long _ => true
  | _ => false
def zq (v : Value) : Option Nat := match v with
  | .ref a => some a
  | _ => none
def zgo (i pc : Nat) (L st : List Value) (M : zM) : zO := some (.inl (i, pc, L, st, M))
def zgf (inf : zI) (x : Nat) (K : Nat → Nat → zO) : zO := match inf with
  | [] => none
  | q :: t => if x = q.1 then K q.2.1 q.2.2 else zgf t x K
def zsw (inf : zI) (x : Int32) (K : Nat → zO) (d : Nat) : zO := match inf with
  | [] => K d
  | q :: t => if x = Int32.ofNat q.1 then K q.2.1 else zsw t x K d
def zbin (f : Int32 → Int32 → Int32) (i pc : Nat) (L st : List Value) (M : zM) : zO := match st with
  | .int y :: .int x :: t => zgo i (pc + 1) L (.int (f x y) :: t) M
  | _ => none
def zldi (k i pc : Nat) (L st : List Value) (M : zM) : zO := match L[k]? with
  | some (.int x) => zgo i pc L (.int x :: st) M
  | _ => none
def zlda (k i pc : Nat) (L st : List Value) (M : zM) : zO := match L[k]? with
  | some v => if zAL v = true then zgo i pc L (v :: st) M else none
  | none => none
def zsti (k i pc : Nat) (L st : List Value) (M : zM) : zO := match st with
  | .int x :: t => if k < L.length then zgo i pc (L.set k (.int x)) t M else none
  | _ => none
def zsta (k i pc : Nat) (L st : List Value) (M : zM) : zO := match st with
  | v :: t => if zA v = true then (if k < L.length then zgo i pc (L.set k v) t M else none) else none
  | _ => none
def zcal (P : zP) (j cnt i pc : Nat) (L st : List Value) (M : zM) : zO :=
  if P.2.2.1 j < P.2.2.1 i ∧ cnt ≤ st.length ∧ cnt ≤ P.2.1 j ∧ st.length ≤ cnt + 8 then some (.inr (.inr ((j, 0, (st.take cnt).reverse ++ List.replicate (P.2.1 j - cnt) (.double 0), [], M), i, pc + 3, L, st.drop cnt))) else none
def zx1 (i pc : Nat) (ins : Jvm.ClassFile.Instr) (L st : List Value) (M : zM) : zO := match ins with
  | .iconst n => zgo i (pc + 1) L (.int (Int32.ofInt n) :: st) M
  | .bipush n => zgo i (pc + 2) L (.int (Int8.ofInt n).toInt32 :: st) M
  | .sipush n => zgo i (pc + 3) L (.int (Int16.ofInt n).toInt32 :: st) M
  | .aconst_null => zgo i (pc + 1) L (.null :: st) M
  | .iload_n k => zldi k.val i (pc + 1) L st M
  | .iload k => zldi k i (pc + 2) L st M
  | .aload_n k => zlda k.val i (pc + 1) L st M
  | .aload k => zlda k i (pc + 2) L st M
  | .istore_n k => zsti k.val i (pc + 1) L st M
  | .istore k => zsti k i (pc + 2) L st M
  | .astore_n k => zsta k.val i (pc + 1) L st M
  | .astore k => zsta k i (pc + 2) L st M
  | .iinc k n => (match L[k]? with
    | some (.int x) => zgo i (pc + 3) (L.set k (.int (x + Int32.ofInt n))) st M
    | _ => none)
  | .iadd => zbin (fun x y => x + y) i pc L st M
  | .isub => zbin (fun x y => x - y) i pc L st M
  | .imul => zbin (fun x y => x * y) i pc L st M
  | .iand => zbin (fun x y => x &&& y) i pc L st M
  | .ior => zbin (fun x y => x ||| y) i pc L st M
  | .ishl => zbin (fun x y => x <<< (y &&& 31)) i pc L st M
  | .ishr => zbin (fun x y => x >>> (y &&& 31)) i pc L st M
  | .idiv => (match st with
    | .int y :: .int x :: t => if y = 0 then none else zgo i (pc + 1) L (.int (x / y) :: t) M
    | _ => none)
  | .irem => (match st with
    | .int y :: .int x :: t => if y = 0 then none else zgo i (pc + 1) L (.int (x - x / y * y) :: t) M
    | _ => none)
  | .dup => (match st with
    | v :: t => zgo i (pc + 1) L (v :: v :: t) M
    | _ => none)
  | .pop => (match st with
    | _ :: t => zgo i (pc + 1) L t M
    | _ => none)
  | .dup_x1 => (match st with
    | v :: w :: t => zgo i (pc + 1) L (v :: w :: v :: t) M
    | _ => none)
  | .dup_x2 => (match st with
    | v :: w :: u :: t => zgo i (pc + 1) L (v :: w :: u :: v :: t) M
    | _ => none)
  | .dup2 => (match st with
    | v :: w :: t => zgo i (pc + 1) L (v :: w :: v :: w :: t) M
    | _ => none)
  | _ => none
def zx2 (i pc : Nat) (ins : Jvm.ClassFile.Instr) (inf : zI) (L st : List Value) (M : zM) : zO := match inf with
  | [] => none
  | q :: inf' => (match ins with
    | .goto _ => zgo i q.1 L st M
    | .ifCond c _ => (match st with
      | .int x :: t => (match c with
        | .eq => if x = 0 then zgo i q.1 L t M else zgo i (pc + 3) L t M
        | .ne => if x = 0 then zgo i (pc + 3) L t M else zgo i q.1 L t M
        | .lt => if x < 0 then zgo i q.1 L t M else zgo i (pc + 3) L t M
        | .ge => if x < 0 then zgo i (pc + 3) L t M else zgo i q.1 L t M
        | .gt => if 0 < x then zgo i q.1 L t M else zgo i (pc + 3) L t M
        | .le => if 0 < x then zgo i (pc + 3) L t M else zgo i q.1 L t M)
      | _ => none)
    | .if_icmp c _ => (match st with
      | .int y :: .int x :: t => (match c with
        | .eq => if x = y then zgo i q.1 L t M else zgo i (pc + 3) L t M
        | .ne => if x = y then zgo i (pc + 3) L t M else zgo i q.1 L t M
        | .lt => if x < y then zgo i q.1 L t M else zgo i (pc + 3) L t M
        | .ge => if x < y then zgo i (pc + 3) L t M else zgo i q.1 L t M
        | .gt => if y < x then zgo i q.1 L t M else zgo i (pc + 3) L t M
        | .le => if y < x then zgo i (pc + 3) L t M else zgo i q.1 L t M)
      | _ => none)
    | .ifnull _ => (match st with
      | v :: t => if zA v = true then (if zq v = none then zgo i q.1 L t M else zgo i (pc + 3) L t M) else none
      | _ => none)
    | .ifnonnull _ => (match st with
      | v :: t => if zA v = true then (if zq v = none then zgo i (pc + 3) L t M else zgo i q.1 L t M) else none
      | _ => none)
    | .if_acmp c _ => (match st with
      | w :: v :: t => if zA v = true ∧ zA w = true then (match c with
        | .eq => if zq v = zq w then zgo i q.1 L t M else zgo i (pc + 3) L t M
        | .ne => if zq v = zq w then zgo i (pc + 3) L t M else zgo i q.1 L t M) else none
      | _ => none)
    | .tableswitch _ _ _ _ => (match st with
      | .int x :: t => zsw inf' x (fun tg => zgo i tg L t M) q.1
      | _ => none)
    | _ => none)
def zin (k : Int32) (n : Nat) : Bool := decide (¬ k < 0 ∧ k.toNatClampNeg < n)
def zx3 (P : zP) (i pc : Nat) (ins : Jvm.ClassFile.Instr) (inf : zI) (L st : List Value) (M : zM) : zO := match ins with
  | .getfield _ => (match st with
    | .ref a :: t => zgf inf (zk M a).1 (fun j k => if k = 2 then zgo i (pc + 3) L (va_rf (zr M a j) :: t) M else zgo i (pc + 3) L (.int (zi M a j) :: t) M)
    | _ => none)
  | .putfield _ => (match st with
    | v :: .ref a :: t => zgf inf (zk M a).1 (fun j k => if k = 2 then (if zA v = true then zgo i (pc + 3) L t (zwr M a j (zq v)) else none) else (match v with
      | .int x => if k = 0 then zgo i (pc + 3) L t (zwi M a j x) else (if x = 0 ∨ x = 1 then zgo i (pc + 3) L t (zwi M a j x) else none)
      | _ => none))
    | _ => none)
  | .iaload => (match st with
    | .int k :: .ref a :: t => if (zk M a).1 = 20 then (if zin k (zk M a).2 = true then zgo i (pc + 1) L (.int (zi M a k.toNatClampNeg) :: t) M else none) else none
    | .int k :: .long _ :: t => if zin k (P.2.2.2.1 - 1) = true then zgo i (pc + 1) L (.int (P.2.2.2.2 k.toNatClampNeg) :: t) M else none
    | _ => none)
  | .baload => (match st with
    | .int k :: .ref a :: t => if (zk M a).1 = 21 then (if zin k (zk M a).2 = true then zgo i (pc + 1) L (.int (zi M a k.toNatClampNeg) :: t) M else none) else none
    | _ => none)
  | .aaload => (match st with
    | .int k :: .ref a :: t => if 22 ≤ (zk M a).1 ∧ (zk M a).1 < 25 then (if zin k (zk M a).2 = true then zgo i (pc + 1) L (va_rf (zr M a k.toNatClampNeg) :: t) M else none) else none
    | _ => none)
  | .iastore => (match st with
    | .int x :: .int k :: .ref a :: t => if (zk M a).1 = 20 then (if zin k (zk M a).2 = true then zgo i (pc + 1) L t (zwi M a k.toNatClampNeg x) else none) else none
    | _ => none)
  | .bastore => (match st with
    | .int x :: .int k :: .ref a :: t => if (zk M a).1 = 21 then (if zin k (zk M a).2 = true then zgo i (pc + 1) L t (zwi M a k.toNatClampNeg (vp_nar .boolean x)) else none) else none
    | _ => none)
  | .aastore => (match st with
    | .ref v :: .int k :: .ref a :: t => zgf inf (zk M a).1 (fun c1 c2 => if ((zk M v).1 = c1 ∨ (zk M v).1 = c2) ∧ zin k (zk M a).2 = true then zgo i (pc + 1) L t (zwr M a k.toNatClampNeg (some v)) else none)
    | _ => none)
  | .arraylength => (match st with
    | .ref a :: t => if 20 ≤ (zk M a).1 ∧ (zk M a).1 < 25 then zgo i (pc + 1) L (.int (Int32.ofNat (zk M a).2) :: t) M else none
    | .long _ :: t => (match P.2.2.2.1 with
      | 0 => none
      | n + 1 => zgo i (pc + 1) L (.int (Int32.ofNat n) :: t) M)
    | _ => none)
  | .newarray _ => (match st, inf with
    | .int k :: t, q :: _ => if zin k 100000 = true then zgo i (pc + 2) L (.ref (zn M) :: t) (zal M q.1 k.toNatClampNeg k.toNatClampNeg) else none
    | _, _ => none)
  | .anewarray _ => (match st, inf with
    | .int k :: t, q :: _ => if zin k 100000 = true then zgo i (pc + 3) L (.ref (zn M) :: t) (zal M q.1 k.toNatClampNeg k.toNatClampNeg) else none
    | _, _ => none)
  | .new _ => (match inf with
    | q :: _ => zgo i (pc + 3) L (.ref (zn M) :: st) (zal M q.1 0 q.2.1)
    | _ => none)
  | .instanceof _ => (match st with
    | .ref a :: t => zgf inf (zk M a).1 (fun x _ => zgo i (pc + 3) L (.int (Int32.ofNat x) :: t) M)
    | .null :: t => zgo i (pc + 3) L (.int 0 :: t) M
    | _ => none)
  | .checkcast _ => (match st with
    | .ref a :: t => zgf inf (zk M a).1 (fun x _ => if x = 1 then zgo i (pc + 3) L (.ref a :: t) M else none)
    | .null :: t => zgo i (pc + 3) L (.null :: t) M
    | _ => none)
  | _ => none
def zx4 (P : zP) (i pc : Nat) (ins : Jvm.ClassFile.Instr) (inf : zI) (L st : List Value) (M : zM) : zO := match ins with
  | .ireturn => (match st, inf with
    | [.int x], q :: _ => if q.1 = 0 ∨ x = 0 ∨ x = 1 then some (.inr (.inl (some (.int x), M))) else none
    | _, _ => none)
  | .areturn => (match st with
    | [v] => if zA v = true then some (.inr (.inl (some v, M))) else none
    | _ => none)
  | .return_ => (match st with
    | [] => some (.inr (.inl (none, M)))
    | _ => none)
  | .invokestatic _ => (match inf with
    | q :: _ => if q.2.1 = 1001 then (match st with
        | .int y :: .int x :: t => if t.length ≤ 8 then zgo i (pc + 3) L (.int (if x < y then y else x) :: t) M else none
        | _ => none)
      else if q.2.1 = 1002 then (match st with
        | .int y :: .int x :: t => if t.length ≤ 8 then zgo i (pc + 3) L (.int (if y < x then y else x) :: t) M else none
        | _ => none)
      else zcal P q.2.1 q.2.2 i pc L st M
    | _ => none)
  | .invokespecial _ => (match inf with
    | q :: _ => if q.2.1 = 1000 then (match st with
        | .ref _ :: t => if t.length ≤ 8 then zgo i (pc + 3) L t M else none
        | _ => none)
      else (match st[q.2.2]? with
        | some (.ref _) => zcal P q.2.1 (q.2.2 + 1) i pc L st M
        | _ => none)
    | _ => none)
  | .invokevirtual _ => (match inf with
    | q :: _ => (match st[q.2.2]? with
      | some (.ref a) => zgf inf (zk M a).1 (fun j n => zcal P j (n + 1) i pc L st M)
      | _ => none)
    | _ => none)
  | _ => none
def zex (P : zP) (i pc : Nat) (ins : Jvm.ClassFile.Instr) (inf : zI) (L st : List Value) (M : zM) : zO := match ins with
  | .goto _ => zx2 i pc ins inf L st M
  | .ifCond _ _ => zx2 i pc ins inf L st M
  | .if_icmp _ _ => zx2 i pc ins inf L st M
  | .ifnull _ => zx2 i pc ins inf L st M
  | .ifnonnull _ => zx2 i pc ins inf L st M
  | .if_acmp _ _ => zx2 i pc ins inf L st M
  | .tableswitch _ _ _ _ => zx2 i pc ins inf L st M
  | .getfield _ => zx3 P i pc ins inf L st M
  | .putfield _ => zx3 P i pc ins inf L st M
  | .iaload => zx3 P i pc ins inf L st M
  | .baload => zx3 P i pc ins inf L st M
  | .aaload => zx3 P i pc ins inf L st M
  | .iastore => zx3 P i pc ins inf L st M
  | .bastore => zx3 P i pc ins inf L st M
  | .aastore => zx3 P i pc ins inf L st M
  | .arraylength => zx3 P i pc ins inf L st M
  | .newarray _ => zx3 P i pc ins inf L st M
  | .anewarray _ => zx3 P i pc ins inf L st M
  | .new _ => zx3 P i pc ins inf L st M
  | .instanceof _ => zx3 P i pc ins inf L st M
  | .checkcast _ => zx3 P i pc ins inf L st M
  | .ireturn => zx4 P i pc ins inf L st M
  | .areturn => zx4 P i pc ins inf L st M
  | .return_ => zx4 P i pc ins inf L st M
  | .invokestatic _ => zx4 P i pc ins inf L st M
  | .invokespecial _ => zx4 P i pc ins inf L st M
  | .invokevirtual _ => zx4 P i pc ins inf L st M
  | _ => zx1 i pc ins L st M
def zst (P : zP) (c : zC) : zO := match zlk (P.1 c.1) c.2.1 with
  | none => none
  | some q => zex P c.1 c.2.1 q.1 q.2 c.2.2.1 c.2.2.2.1 c.2.2.2.2
def zrun (P : zP) : Nat → zC → Option zR
  | 0, _ => none
  | k + 1, c => match zst P c with
    | none => none
    | some (.inl c') => zrun P k c'
    | some (.inr (.inl r)) => some r
    | some (.inr (.inr q)) => (match zrun P k q.1 with
      | none => none
      | some r => zrun P k (q.2.1, q.2.2.1, q.2.2.2.1, r.1.toList ++ q.2.2.2.2, r.2))
theorem zrun_succ {P : zP} : ∀ {k : Nat} {c : zC} {r : zR}, zrun P k c = some r → zrun P (k + 1) c = some r
  | 0, c, r, h => by simp [zrun] at h
  | k + 1, c, r, h => by
    rw [zrun] at h ⊢
    cases hs : zst P c with
    | none => rw [hs] at h; exact h
    | some o =>
      rw [hs] at h
      cases o with
      | inl c' => exact zrun_succ (k := k) h
      | inr o =>
        cases o with
        | inl r' => exact h
        | inr q =>
          dsimp only at h ⊢
          cases h1 : zrun P k q.1 with
          | none => rw [h1] at h; cases h
          | some r1 =>
            rw [h1] at h
            rw [zrun_succ h1]
            exact zrun_succ (k := k) h
theorem zrun_le {P : zP} {k n : Nat} {c : zC} {r : zR} (h : zrun P k c = some r) (hn : k ≤ n) : zrun P n c = some r := by
  induction hn with
  | refl => exact h
  | step _ ih => exact zrun_succ ih
theorem zrun_inj {P : zP} {k n : Nat} {c : zC} {r r' : zR} (h : zrun P k c = some r) (h' : zrun P n c = some r') : r = r' := by
  have a := zrun_le h (Nat.le_max_left k n)
  have b := zrun_le h' (Nat.le_max_right k n)
  exact Option.some.inj (a.symm.trans b)
/-- what the machine comes to from a configuration, if it comes to an end -/
noncomputable def zV (P : zP) (c : zC) : Option zR := @dite _ (∃ r : zR, ∃ k : Nat, zrun P k c = some r) (Classical.propDecidable _) (fun h => some (Classical.choose h)) (fun _ => none)
theorem zV_iff {P : zP} {c : zC} {r : zR} : zV P c = some r ↔ ∃ k : Nat, zrun P k c = some r := by
  unfold zV
  by_cases h : ∃ r : zR, ∃ k : Nat, zrun P k c = some r
  · rw [dif_pos h]
    constructor
    · intro e
      cases e
      exact Classical.choose_spec h
    · intro ⟨k, hk⟩
      obtain ⟨n, hn⟩ := Classical.choose_spec h
      rw [zrun_inj hn hk]
  · rw [dif_neg h]
    constructor
    · intro e; cases e
    · intro ⟨k, hk⟩; exact absurd ⟨r, k, hk⟩ h
theorem zV_of {P : zP} {k : Nat} {c : zC} {r : zR} (h : zrun P k c = some r) : zV P c = some r := zV_iff.mpr ⟨k, h⟩
theorem zV_ext {P : zP} {c : zC} {o : Option zR} (h : ∀ r, (∃ k, zrun P k c = some r) ↔ o = some r) : zV P c = o := by
  cases o with
  | none =>
    cases hv : zV P c with
    | none => rfl
    | some r => have := (h r).mp (zV_iff.mp hv); cases this
  | some r => exact zV_iff.mpr ((h r).mpr rfl)
theorem zV_no {P : zP} {c : zC} (h : zst P c = none) : zV P c = none := by
  refine zV_ext fun r => ⟨fun ⟨k, hk⟩ => ?_, fun h => by cases h⟩
  cases k with
  | zero => cases hk
  | succ k => rw [zrun, h] at hk; cases hk
theorem zV_go {P : zP} {c c' : zC} (h : zst P c = some (.inl c')) : zV P c = zV P c' := by
  refine zV_ext fun r => ⟨fun ⟨k, hk⟩ => ?_, fun hv => ?_⟩
  · cases k with
    | zero => cases hk
    | succ k => rw [zrun, h] at hk; exact zV_iff.mpr ⟨k, hk⟩
  · obtain ⟨k, hk⟩ := zV_iff.mp hv
    exact ⟨k + 1, by rw [zrun, h]; exact hk⟩
theorem zV_ret {P : zP} {c : zC} {r : zR} (h : zst P c = some (.inr (.inl r))) : zV P c = some r := zV_of (k := 1) (by rw [zrun, h])
theorem zV_call {P : zP} {c cc : zC} {i pc : Nat} {L st : List Value} (h : zst P c = some (.inr (.inr (cc, i, pc, L, st)))) : zV P c = (zV P cc).bind fun r => zV P (i, pc, L, r.1.toList ++ st, r.2) := by
  refine zV_ext fun r => ⟨fun ⟨k, hk⟩ => ?_, fun hv => ?_⟩
  · cases k with
    | zero => cases hk
    | succ k =>
      rw [zrun, h] at hk
      dsimp only at hk
      cases h1 : zrun P k cc with
      | none => rw [h1] at hk; cases hk
      | some r1 =>
        rw [h1] at hk
        rw [zV_of h1]
        exact zV_iff.mpr ⟨k, hk⟩
  · cases h1 : zV P cc with
    | none => rw [h1] at hv; cases hv
    | some r1 =>
      rw [h1] at hv
      obtain ⟨k1, e1⟩ := zV_iff.mp h1
      obtain ⟨k2, e2⟩ := zV_iff.mp (show zV P (i, pc, L, r1.1.toList ++ st, r1.2) = some r from hv)
      refine ⟨max k1 k2 + 1, ?_⟩
      rw [zrun, h]
      dsimp only
      rw [zrun_le e1 (Nat.le_max_left k1 k2)]
      exact zrun_le e2 (Nat.le_max_right k1 k2)
/-- the same, with the machine's own outcome -/
noncomputable def zL (P : zP) (o : zO) : Option zR := match o with
  | none => none
  | some (.inl c) => zV P c
  | some (.inr (.inl r)) => some r
  | some (.inr (.inr q)) => (zV P q.1).bind fun r => zV P (q.2.1, q.2.2.1, q.2.2.2.1, r.1.toList ++ q.2.2.2.2, r.2)
theorem zV_L {P : zP} {c : zC} {o : zO} (h : zst P c = o) : zV P c = zL P o := by
  cases o with
  | none => exact zV_no h
  | some o => cases o with
    | inl c' => exact zV_go h
    | inr o => cases o with
      | inl r => exact zV_ret h
      | inr q => exact zV_call h
theorem zL_if {P : zP} {p : Prop} [Decidable p] {a b : zO} : zL P (if p then a else b) = if p then zL P a else zL P b := by
  by_cases h : p
  · rw [if_pos h, if_pos h]
  · rw [if_neg h, if_neg h]
theorem zV_if {P : zP} {c : zC} {p : Prop} [Decidable p] {a b : zO} (h : zst P c = if p then a else b) : zV P c = if p then zL P a else zL P b := (zV_L h).trans zL_if
/-- what runs without a script runs with one -/
theorem zst_sp {cd : Nat → List zK} {nl rk : Nat → Nat} {f g : Nat → Int32} {n : Nat} {c : zC} {o : zC ⊕ zR ⊕ (zC × Nat × Nat × List Value × List Value)} (h : zst (cd, nl, rk, 0, f) c = some o) : zst (cd, nl, rk, n, g) c = some o := by
  unfold zst at h ⊢
  dsimp only at h ⊢
  cases hl : zlk (cd c.1) c.2.1 with
  | none => rw [hl] at h; cases h
  | some q =>
    rw [hl] at h
    dsimp only at h ⊢
    obtain ⟨ins, inf⟩ := q
    cases ins <;> first | exact h | skip
    case iaload =>
      dsimp only [zex, zx3] at h ⊢
      split at h
      · exact h
      · split at h
        · rename_i hz
          exact absurd (of_decide_eq_true hz).2 (by omega)
        · cases h
      · cases h
    case arraylength =>
      dsimp only [zex, zx3] at h ⊢
      split at h
      · exact h
      · cases h
      · cases h
theorem zrun_sp {cd : Nat → List zK} {nl rk : Nat → Nat} {f g : Nat → Int32} {n : Nat} : ∀ {k : Nat} {c : zC} {r : zR}, zrun (cd, nl, rk, 0, f) k c = some r → zrun (cd, nl, rk, n, g) k c = some r
  | 0, c, r, h => by cases h
  | k + 1, c, r, h => by
    rw [zrun] at h ⊢
    cases hs : zst (cd, nl, rk, 0, f) c with
    | none => rw [hs] at h; cases h
    | some o =>
      rw [hs] at h
      rw [zst_sp hs]
      cases o with
      | inl c' => exact zrun_sp (k := k) h
      | inr o =>
        cases o with
        | inl r' => exact h
        | inr q =>
          dsimp only at h ⊢
          cases h1 : zrun (cd, nl, rk, 0, f) k q.1 with
          | none => rw [h1] at h; cases h
          | some r1 =>
            rw [h1] at h
            rw [zrun_sp h1]
            exact zrun_sp (k := k) h
end
section
/-! The tables of the abstract machine: laid by a program (wip/whole/gen.py) out of the words and the listing. -/
def zy (i : Nat) : MethodName := match i with
  | 0 => ⟨"CircuitNet", "<init>", "()V"⟩
  | 1 => ⟨"CircuitNet", "makeEnds", "()[LCircuitNet$End;"⟩
  | 2 => ⟨"CircuitNet$Wire", "<init>", "()V"⟩
  | 3 => ⟨"CircuitNet$End", "<init>", "(LCircuitNet$Wire;LCircuitNet$Wire;Z)V"⟩
  | 4 => ⟨"CircuitNet$Line", "<init>", "()V"⟩
  | 5 => ⟨"CircuitNet", "addSwitch", "([LCircuitNet$End;I)V"⟩
  | 6 => ⟨"CircuitNet", "addJoints", "(LCircuitNet$End;[LCircuitNet$End;)V"⟩
  | 7 => ⟨"CircuitNet$Joint", "<init>", "(LCircuitNet$End;I[LCircuitNet$End;)V"⟩
  | 8 => ⟨"CircuitNet$Channel", "<init>", "(LCircuitNet$End;I)V"⟩
  | 9 => ⟨"CircuitNet", "addCircuits", "([LCircuitNet$End;)[LCircuitNet$Circuit;"⟩
  | 10 => ⟨"CircuitNet$Circuit", "<init>", "(LCircuitNet$End;I)V"⟩
  | 11 => ⟨"CircuitNet", "call", "(II)I"⟩
  | 12 => ⟨"CircuitNet", "isTerminal", "(I)Z"⟩
  | 13 => ⟨"CircuitNet", "circuitAt", "(II)LCircuitNet$Circuit;"⟩
  | 14 => ⟨"CircuitNet$Circuit", "begin", "(II)V"⟩
  | 15 => ⟨"CircuitNet$Circuit", "renew", "()V"⟩
  | 16 => ⟨"CircuitNet$Line", "size", "()I"⟩
  | 17 => ⟨"CircuitNet$Line", "drop", "(I)V"⟩
  | 18 => ⟨"CircuitNet$Channel", "put", "(III)V"⟩
  | 19 => ⟨"CircuitNet$Packet", "of", "(IIII)I"⟩
  | 20 => ⟨"CircuitNet$Line", "add", "(I)V"⟩
  | 21 => ⟨"CircuitNet$Line", "grow", "()V"⟩
  | 22 => ⟨"CircuitNet$End", "sendOn", "()V"⟩
  | 23 => ⟨"CircuitNet$Line", "at", "(I)I"⟩
  | 24 => ⟨"CircuitNet$Wire", "add", "(IIIII)V"⟩
  | 25 => ⟨"CircuitNet", "answer", "(II)Z"⟩
  | 26 => ⟨"CircuitNet", "clear", "(II)Z"⟩
  | 27 => ⟨"CircuitNet$Circuit", "hasPeer", "()Z"⟩
  | 28 => ⟨"CircuitNet$Channel", "startClearing", "()V"⟩
  | 29 => ⟨"CircuitNet", "reset", "(II)Z"⟩
  | 30 => ⟨"CircuitNet", "send", "(III)I"⟩
  | 31 => ⟨"CircuitNet$Circuit", "windowIsFull", "()Z"⟩
  | 32 => ⟨"CircuitNet$Circuit", "putValue", "(I)I"⟩
  | 33 => ⟨"CircuitNet", "read", "(II)I"⟩
  | 34 => ⟨"CircuitNet$Circuit", "takeValue", "()I"⟩
  | 35 => ⟨"CircuitNet", "deliver", "(II)Z"⟩
  | 36 => ⟨"CircuitNet", "endAt", "(II)LCircuitNet$End;"⟩
  | 37 => ⟨"CircuitNet$Wire", "size", "()I"⟩
  | 38 => ⟨"CircuitNet$Wire", "word", "(II)I"⟩
  | 39 => ⟨"CircuitNet$Wire", "dropFirst", "()V"⟩
  | 40 => ⟨"CircuitNet$End", "meetSet", "(I)V"⟩
  | 41 => ⟨"CircuitNet$End", "breakDown", "()V"⟩
  | 42 => ⟨"CircuitNet$Circuit", "beLost", "()V"⟩
  | 43 => ⟨"CircuitNet$Joint", "beLost", "()V"⟩
  | 44 => ⟨"CircuitNet$Joint", "leave", "()LCircuitNet$Joint;"⟩
  | 45 => ⟨"CircuitNet$End", "meetSettled", "(I)V"⟩
  | 46 => ⟨"CircuitNet$End", "confirm", "(I)V"⟩
  | 47 => ⟨"CircuitNet$End", "expects", "(I)Z"⟩
  | 48 => ⟨"CircuitNet$End", "channelOf", "(I)LCircuitNet$Channel;"⟩
  | 49 => ⟨"CircuitNet$Packet", "part", "(II)I"⟩
  | 50 => ⟨"CircuitNet$Circuit", "arrive", "(III)V"⟩
  | 51 => ⟨"CircuitNet$Circuit", "change", "(II)V"⟩
  | 52 => ⟨"CircuitNet$Circuit", "meetClear", "()V"⟩
  | 53 => ⟨"CircuitNet$Circuit", "meetReset", "()V"⟩
  | 54 => ⟨"CircuitNet$Joint", "arrive", "(III)V"⟩
  | 55 => ⟨"CircuitNet$Joint", "meetCall", "(ZII)V"⟩
  | 56 => ⟨"CircuitNet$Joint", "connect", "(II)V"⟩
  | 57 => ⟨"CircuitNet$Joint", "freeJointTo", "(I)LCircuitNet$Joint;"⟩
  | 58 => ⟨"CircuitNet$Joint", "join", "(LCircuitNet$Joint;)V"⟩
  | 59 => ⟨"CircuitNet$Joint", "meetClear", "()V"⟩
  | 60 => ⟨"CircuitNet", "lose", "(II)Z"⟩
  | 61 => ⟨"CircuitNet", "tick", "(I)Z"⟩
  | 62 => ⟨"CircuitNet$End", "passTime", "()V"⟩
  | 63 => ⟨"CircuitNet$End", "sendAgain", "()V"⟩
  | 64 => ⟨"CircuitNet", "state", "(II)I"⟩
  | 65 => ⟨"CircuitNet", "peer", "(II)I"⟩
  | 66 => ⟨"CircuitNet", "unread", "(II)I"⟩
  | 67 => ⟨"CircuitNet", "frames", "(II)I"⟩
  | 68 => ⟨"CircuitNet", "frame", "(IIII)I"⟩
  | 69 => ⟨"CircuitNet", "row", "(II)I"⟩
  | 70 => ⟨"CircuitNet", "epoch", "(II)I"⟩
  | 71 => ⟨"CircuitNet", "up", "(II)Z"⟩
  | 72 => ⟨"CircuitNet", "busy", "(II)I"⟩
  | 73 => ⟨"CircuitNetModel", "<init>", "()V"⟩
  | 74 => ⟨"CircuitNetModel", "tick", "(I)Z"⟩
  | 75 => ⟨"CircuitNetModel", "tickOf", "(I)V"⟩
  | 76 => ⟨"CircuitNetModel", "post", "(II)I"⟩
  | 77 => ⟨"CircuitNetModel", "fail", "(I)V"⟩
  | 78 => ⟨"CircuitNetModel", "breakUp", "(I)V"⟩
  | 79 => ⟨"CircuitNetModel", "remove", "(II)V"⟩
  | 80 => ⟨"CircuitNetModel", "lost", "(II)V"⟩
  | 81 => ⟨"CircuitNetModel", "atSwitch", "(I)Z"⟩
  | 82 => ⟨"CircuitNetModel", "cut", "(I)V"⟩
  | 83 => ⟨"CircuitNetModel", "putOn", "(II)V"⟩
  | 84 => ⟨"CircuitNetModel", "put", "(IIIII)V"⟩
  | 85 => ⟨"CircuitNetModel", "sendOn", "(I)V"⟩
  | 86 => ⟨"CircuitNetModel", "length", "(I)I"⟩
  | 87 => ⟨"CircuitNetModel", "info", "(II)V"⟩
  | 88 => ⟨"CircuitNetModel", "packet", "(II)I"⟩
  | 89 => ⟨"CircuitNetModel", "deliver", "(II)Z"⟩
  | 90 => ⟨"CircuitNetModel", "noEnd", "(II)Z"⟩
  | 91 => ⟨"CircuitNetModel", "below", "(II)Z"⟩
  | 92 => ⟨"CircuitNetModel", "shift", "(I)V"⟩
  | 93 => ⟨"CircuitNetModel", "set", "(II)V"⟩
  | 94 => ⟨"CircuitNetModel", "confirm", "(II)V"⟩
  | 95 => ⟨"CircuitNetModel", "arrive", "(IIIII)V"⟩
  | 96 => ⟨"CircuitNetModel", "atTerminal", "(IIII)V"⟩
  | 97 => ⟨"CircuitNetModel", "renew", "(I)V"⟩
  | 98 => ⟨"CircuitNetModel", "slot", "(I)I"⟩
  | 99 => ⟨"CircuitNetModel", "connect", "(IIII)V"⟩
  | 100 => ⟨"CircuitNetModel", "route", "(II)I"⟩
  | 101 => ⟨"CircuitNetModel", "free", "(I)I"⟩
  | 102 => ⟨"CircuitNetModel", "lose", "(II)Z"⟩
  | 103 => ⟨"CircuitNetModel", "call", "(II)I"⟩
  | 104 => ⟨"CircuitNetModel", "answer", "(II)Z"⟩
  | 105 => ⟨"CircuitNetModel", "noChannel", "(II)Z"⟩
  | 106 => ⟨"CircuitNetModel", "place", "(II)I"⟩
  | 107 => ⟨"CircuitNetModel", "clear", "(II)Z"⟩
  | 108 => ⟨"CircuitNetModel", "reset", "(II)Z"⟩
  | 109 => ⟨"CircuitNetModel", "send", "(III)I"⟩
  | 110 => ⟨"CircuitNetModel", "read", "(II)I"⟩
  | 111 => ⟨"CircuitNetModel", "state", "(II)I"⟩
  | 112 => ⟨"CircuitNetModel", "peer", "(II)I"⟩
  | 113 => ⟨"CircuitNetModel", "unread", "(II)I"⟩
  | 114 => ⟨"CircuitNetModel", "frames", "(II)I"⟩
  | 115 => ⟨"CircuitNetModel", "frame", "(IIII)I"⟩
  | 116 => ⟨"CircuitNetModel", "row", "(II)I"⟩
  | 117 => ⟨"CircuitNetModel", "epoch", "(II)I"⟩
  | 118 => ⟨"CircuitNetModel", "up", "(II)Z"⟩
  | 119 => ⟨"CircuitNetModel", "busy", "(II)I"⟩
  | _ => ⟨"CircuitNetLaw", "law", "([I)Z"⟩
def zb (i : Nat) : ByteArray := match i with
  | 0 => prog_1_method_1_code
  | 1 => prog_1_method_23_code
  | 2 => prog_8_method_1_code
  | 3 => prog_4_method_1_code
  | 4 => prog_6_method_1_code
  | 5 => prog_1_method_24_code
  | 6 => prog_1_method_25_code
  | 7 => prog_5_method_1_code
  | 8 => prog_2_method_1_code
  | 9 => prog_1_method_26_code
  | 10 => prog_3_method_1_code
  | 11 => prog_1_method_2_code
  | 12 => prog_1_method_20_code
  | 13 => prog_1_method_21_code
  | 14 => prog_3_method_3_code
  | 15 => prog_3_method_4_code
  | 16 => prog_6_method_2_code
  | 17 => prog_6_method_5_code
  | 18 => prog_2_method_4_code
  | 19 => prog_7_method_2_code
  | 20 => prog_6_method_4_code
  | 21 => prog_6_method_6_code
  | 22 => prog_4_method_8_code
  | 23 => prog_6_method_3_code
  | 24 => prog_8_method_4_code
  | 25 => prog_1_method_3_code
  | 26 => prog_1_method_4_code
  | 27 => prog_3_method_2_code
  | 28 => prog_2_method_5_code
  | 29 => prog_1_method_5_code
  | 30 => prog_1_method_6_code
  | 31 => prog_3_method_5_code
  | 32 => prog_3_method_6_code
  | 33 => prog_1_method_7_code
  | 34 => prog_3_method_7_code
  | 35 => prog_1_method_8_code
  | 36 => prog_1_method_22_code
  | 37 => prog_8_method_2_code
  | 38 => prog_8_method_3_code
  | 39 => prog_8_method_5_code
  | 40 => prog_4_method_3_code
  | 41 => prog_4_method_10_code
  | 42 => prog_3_method_9_code
  | 43 => prog_5_method_3_code
  | 44 => prog_5_method_8_code
  | 45 => prog_4_method_4_code
  | 46 => prog_4_method_5_code
  | 47 => prog_4_method_6_code
  | 48 => prog_4_method_2_code
  | 49 => prog_7_method_3_code
  | 50 => prog_3_method_8_code
  | 51 => prog_3_method_10_code
  | 52 => prog_3_method_11_code
  | 53 => prog_3_method_12_code
  | 54 => prog_5_method_2_code
  | 55 => prog_5_method_4_code
  | 56 => prog_5_method_6_code
  | 57 => prog_5_method_9_code
  | 58 => prog_5_method_7_code
  | 59 => prog_5_method_5_code
  | 60 => prog_1_method_9_code
  | 61 => prog_1_method_10_code
  | 62 => prog_4_method_7_code
  | 63 => prog_4_method_9_code
  | 64 => prog_1_method_11_code
  | 65 => prog_1_method_12_code
  | 66 => prog_1_method_13_code
  | 67 => prog_1_method_14_code
  | 68 => prog_1_method_15_code
  | 69 => prog_1_method_16_code
  | 70 => prog_1_method_17_code
  | 71 => prog_1_method_18_code
  | 72 => prog_1_method_19_code
  | 73 => prog_10_method_1_code
  | 74 => prog_10_method_19_code
  | 75 => prog_10_method_18_code
  | 76 => prog_10_method_10_code
  | 77 => prog_10_method_17_code
  | 78 => prog_10_method_14_code
  | 79 => prog_10_method_7_code
  | 80 => prog_10_method_15_code
  | 81 => prog_10_method_24_code
  | 82 => prog_10_method_16_code
  | 83 => prog_10_method_9_code
  | 84 => prog_10_method_8_code
  | 85 => prog_10_method_12_code
  | 86 => prog_10_method_5_code
  | 87 => prog_10_method_11_code
  | 88 => prog_10_method_6_code
  | 89 => prog_10_method_21_code
  | 90 => prog_10_method_3_code
  | 91 => prog_10_method_2_code
  | 92 => prog_10_method_13_code
  | 93 => prog_10_method_22_code
  | 94 => prog_10_method_20_code
  | 95 => prog_10_method_25_code
  | 96 => prog_10_method_31_code
  | 97 => prog_10_method_30_code
  | 98 => prog_10_method_29_code
  | 99 => prog_10_method_28_code
  | 100 => prog_10_method_26_code
  | 101 => prog_10_method_27_code
  | 102 => prog_10_method_23_code
  | 103 => prog_10_method_32_code
  | 104 => prog_10_method_34_code
  | 105 => prog_10_method_4_code
  | 106 => prog_10_method_33_code
  | 107 => prog_10_method_35_code
  | 108 => prog_10_method_36_code
  | 109 => prog_10_method_37_code
  | 110 => prog_10_method_38_code
  | 111 => prog_10_method_39_code
  | 112 => prog_10_method_40_code
  | 113 => prog_10_method_41_code
  | 114 => prog_10_method_42_code
  | 115 => prog_10_method_43_code
  | 116 => prog_10_method_44_code
  | 117 => prog_10_method_45_code
  | 118 => prog_10_method_46_code
  | 119 => prog_10_method_47_code
  | _ => code
def znl (i : Nat) : Nat := match i with
  | 0 => 3
  | 1 => 4
  | 2 => 1
  | 3 => 4
  | 4 => 1
  | 5 => 6
  | 6 => 3
  | 7 => 4
  | 8 => 3
  | 9 => 5
  | 10 => 3
  | 11 => 5
  | 12 => 1
  | 13 => 3
  | 14 => 3
  | 15 => 1
  | 16 => 1
  | 17 => 3
  | 18 => 4
  | 19 => 4
  | 20 => 2
  | 21 => 3
  | 22 => 2
  | 23 => 2
  | 24 => 7
  | 25 => 4
  | 26 => 4
  | 27 => 1
  | 28 => 1
  | 29 => 4
  | 30 => 5
  | 31 => 1
  | 32 => 3
  | 33 => 4
  | 34 => 2
  | 35 => 10
  | 36 => 3
  | 37 => 1
  | 38 => 3
  | 39 => 1
  | 40 => 2
  | 41 => 2
  | 42 => 1
  | 43 => 2
  | 44 => 2
  | 45 => 2
  | 46 => 3
  | 47 => 3
  | 48 => 3
  | 49 => 2
  | 50 => 4
  | 51 => 3
  | 52 => 2
  | 53 => 1
  | 54 => 5
  | 55 => 5
  | 56 => 4
  | 57 => 6
  | 58 => 2
  | 59 => 3
  | 60 => 4
  | 61 => 4
  | 62 => 1
  | 63 => 2
  | 64 => 4
  | 65 => 4
  | 66 => 4
  | 67 => 4
  | 68 => 7
  | 69 => 4
  | 70 => 4
  | 71 => 4
  | 72 => 6
  | 73 => 1
  | 74 => 4
  | 75 => 4
  | 76 => 5
  | 77 => 2
  | 78 => 3
  | 79 => 6
  | 80 => 4
  | 81 => 1
  | 82 => 2
  | 83 => 3
  | 84 => 6
  | 85 => 3
  | 86 => 4
  | 87 => 5
  | 88 => 5
  | 89 => 14
  | 90 => 2
  | 91 => 2
  | 92 => 4
  | 93 => 3
  | 94 => 4
  | 95 => 9
  | 96 => 6
  | 97 => 2
  | 98 => 1
  | 99 => 7
  | 100 => 3
  | 101 => 4
  | 102 => 3
  | 103 => 4
  | 104 => 3
  | 105 => 2
  | 106 => 2
  | 107 => 3
  | 108 => 4
  | 109 => 6
  | 110 => 7
  | 111 => 3
  | 112 => 3
  | 113 => 4
  | 114 => 3
  | 115 => 8
  | 116 => 3
  | 117 => 3
  | 118 => 3
  | 119 => 6
  | _ => 4
def zty (i : Nat) : Option FieldType := match i with
  | 0 => (Option.none : Option Jvm.ClassFile.FieldType)
  | 1 => (Option.some (Jvm.ClassFile.FieldType.array (Jvm.ClassFile.FieldType.object "CircuitNet$End")))
  | 2 => (Option.none : Option Jvm.ClassFile.FieldType)
  | 3 => (Option.none : Option Jvm.ClassFile.FieldType)
  | 4 => (Option.none : Option Jvm.ClassFile.FieldType)
  | 5 => (Option.none : Option Jvm.ClassFile.FieldType)
  | 6 => (Option.none : Option Jvm.ClassFile.FieldType)
  | 7 => (Option.none : Option Jvm.ClassFile.FieldType)
  | 8 => (Option.none : Option Jvm.ClassFile.FieldType)
  | 9 => (Option.some (Jvm.ClassFile.FieldType.array (Jvm.ClassFile.FieldType.object "CircuitNet$Circuit")))
  | 10 => (Option.none : Option Jvm.ClassFile.FieldType)
  | 11 => (Option.some Jvm.ClassFile.FieldType.int)
  | 12 => (Option.some Jvm.ClassFile.FieldType.boolean)
  | 13 => (Option.some (Jvm.ClassFile.FieldType.object "CircuitNet$Circuit"))
  | 14 => (Option.none : Option Jvm.ClassFile.FieldType)
  | 15 => (Option.none : Option Jvm.ClassFile.FieldType)
  | 16 => (Option.some Jvm.ClassFile.FieldType.int)
  | 17 => (Option.none : Option Jvm.ClassFile.FieldType)
  | 18 => (Option.none : Option Jvm.ClassFile.FieldType)
  | 19 => (Option.some Jvm.ClassFile.FieldType.int)
  | 20 => (Option.none : Option Jvm.ClassFile.FieldType)
  | 21 => (Option.none : Option Jvm.ClassFile.FieldType)
  | 22 => (Option.none : Option Jvm.ClassFile.FieldType)
  | 23 => (Option.some Jvm.ClassFile.FieldType.int)
  | 24 => (Option.none : Option Jvm.ClassFile.FieldType)
  | 25 => (Option.some Jvm.ClassFile.FieldType.boolean)
  | 26 => (Option.some Jvm.ClassFile.FieldType.boolean)
  | 27 => (Option.some Jvm.ClassFile.FieldType.boolean)
  | 28 => (Option.none : Option Jvm.ClassFile.FieldType)
  | 29 => (Option.some Jvm.ClassFile.FieldType.boolean)
  | 30 => (Option.some Jvm.ClassFile.FieldType.int)
  | 31 => (Option.some Jvm.ClassFile.FieldType.boolean)
  | 32 => (Option.some Jvm.ClassFile.FieldType.int)
  | 33 => (Option.some Jvm.ClassFile.FieldType.int)
  | 34 => (Option.some Jvm.ClassFile.FieldType.int)
  | 35 => (Option.some Jvm.ClassFile.FieldType.boolean)
  | 36 => (Option.some (Jvm.ClassFile.FieldType.object "CircuitNet$End"))
  | 37 => (Option.some Jvm.ClassFile.FieldType.int)
  | 38 => (Option.some Jvm.ClassFile.FieldType.int)
  | 39 => (Option.none : Option Jvm.ClassFile.FieldType)
  | 40 => (Option.none : Option Jvm.ClassFile.FieldType)
  | 41 => (Option.none : Option Jvm.ClassFile.FieldType)
  | 42 => (Option.none : Option Jvm.ClassFile.FieldType)
  | 43 => (Option.none : Option Jvm.ClassFile.FieldType)
  | 44 => (Option.some (Jvm.ClassFile.FieldType.object "CircuitNet$Joint"))
  | 45 => (Option.none : Option Jvm.ClassFile.FieldType)
  | 46 => (Option.none : Option Jvm.ClassFile.FieldType)
  | 47 => (Option.some Jvm.ClassFile.FieldType.boolean)
  | 48 => (Option.some (Jvm.ClassFile.FieldType.object "CircuitNet$Channel"))
  | 49 => (Option.some Jvm.ClassFile.FieldType.int)
  | 50 => (Option.none : Option Jvm.ClassFile.FieldType)
  | 51 => (Option.none : Option Jvm.ClassFile.FieldType)
  | 52 => (Option.none : Option Jvm.ClassFile.FieldType)
  | 53 => (Option.none : Option Jvm.ClassFile.FieldType)
  | 54 => (Option.none : Option Jvm.ClassFile.FieldType)
  | 55 => (Option.none : Option Jvm.ClassFile.FieldType)
  | 56 => (Option.none : Option Jvm.ClassFile.FieldType)
  | 57 => (Option.some (Jvm.ClassFile.FieldType.object "CircuitNet$Joint"))
  | 58 => (Option.none : Option Jvm.ClassFile.FieldType)
  | 59 => (Option.none : Option Jvm.ClassFile.FieldType)
  | 60 => (Option.some Jvm.ClassFile.FieldType.boolean)
  | 61 => (Option.some Jvm.ClassFile.FieldType.boolean)
  | 62 => (Option.none : Option Jvm.ClassFile.FieldType)
  | 63 => (Option.none : Option Jvm.ClassFile.FieldType)
  | 64 => (Option.some Jvm.ClassFile.FieldType.int)
  | 65 => (Option.some Jvm.ClassFile.FieldType.int)
  | 66 => (Option.some Jvm.ClassFile.FieldType.int)
  | 67 => (Option.some Jvm.ClassFile.FieldType.int)
  | 68 => (Option.some Jvm.ClassFile.FieldType.int)
  | 69 => (Option.some Jvm.ClassFile.FieldType.int)
  | 70 => (Option.some Jvm.ClassFile.FieldType.int)
  | 71 => (Option.some Jvm.ClassFile.FieldType.boolean)
  | 72 => (Option.some Jvm.ClassFile.FieldType.int)
  | 73 => (Option.none : Option Jvm.ClassFile.FieldType)
  | 74 => (Option.some Jvm.ClassFile.FieldType.boolean)
  | 75 => (Option.none : Option Jvm.ClassFile.FieldType)
  | 76 => (Option.some Jvm.ClassFile.FieldType.int)
  | 77 => (Option.none : Option Jvm.ClassFile.FieldType)
  | 78 => (Option.none : Option Jvm.ClassFile.FieldType)
  | 79 => (Option.none : Option Jvm.ClassFile.FieldType)
  | 80 => (Option.none : Option Jvm.ClassFile.FieldType)
  | 81 => (Option.some Jvm.ClassFile.FieldType.boolean)
  | 82 => (Option.none : Option Jvm.ClassFile.FieldType)
  | 83 => (Option.none : Option Jvm.ClassFile.FieldType)
  | 84 => (Option.none : Option Jvm.ClassFile.FieldType)
  | 85 => (Option.none : Option Jvm.ClassFile.FieldType)
  | 86 => (Option.some Jvm.ClassFile.FieldType.int)
  | 87 => (Option.none : Option Jvm.ClassFile.FieldType)
  | 88 => (Option.some Jvm.ClassFile.FieldType.int)
  | 89 => (Option.some Jvm.ClassFile.FieldType.boolean)
  | 90 => (Option.some Jvm.ClassFile.FieldType.boolean)
  | 91 => (Option.some Jvm.ClassFile.FieldType.boolean)
  | 92 => (Option.none : Option Jvm.ClassFile.FieldType)
  | 93 => (Option.none : Option Jvm.ClassFile.FieldType)
  | 94 => (Option.none : Option Jvm.ClassFile.FieldType)
  | 95 => (Option.none : Option Jvm.ClassFile.FieldType)
  | 96 => (Option.none : Option Jvm.ClassFile.FieldType)
  | 97 => (Option.none : Option Jvm.ClassFile.FieldType)
  | 98 => (Option.some Jvm.ClassFile.FieldType.int)
  | 99 => (Option.none : Option Jvm.ClassFile.FieldType)
  | 100 => (Option.some Jvm.ClassFile.FieldType.int)
  | 101 => (Option.some Jvm.ClassFile.FieldType.int)
  | 102 => (Option.some Jvm.ClassFile.FieldType.boolean)
  | 103 => (Option.some Jvm.ClassFile.FieldType.int)
  | 104 => (Option.some Jvm.ClassFile.FieldType.boolean)
  | 105 => (Option.some Jvm.ClassFile.FieldType.boolean)
  | 106 => (Option.some Jvm.ClassFile.FieldType.int)
  | 107 => (Option.some Jvm.ClassFile.FieldType.boolean)
  | 108 => (Option.some Jvm.ClassFile.FieldType.boolean)
  | 109 => (Option.some Jvm.ClassFile.FieldType.int)
  | 110 => (Option.some Jvm.ClassFile.FieldType.int)
  | 111 => (Option.some Jvm.ClassFile.FieldType.int)
  | 112 => (Option.some Jvm.ClassFile.FieldType.int)
  | 113 => (Option.some Jvm.ClassFile.FieldType.int)
  | 114 => (Option.some Jvm.ClassFile.FieldType.int)
  | 115 => (Option.some Jvm.ClassFile.FieldType.int)
  | 116 => (Option.some Jvm.ClassFile.FieldType.int)
  | 117 => (Option.some Jvm.ClassFile.FieldType.int)
  | 118 => (Option.some Jvm.ClassFile.FieldType.boolean)
  | 119 => (Option.some Jvm.ClassFile.FieldType.int)
  | _ => some .boolean
def zrk (i : Nat) : Nat := match i with
  | 0 => 5
  | 1 => 3
  | 2 => 1
  | 3 => 2
  | 4 => 1
  | 5 => 4
  | 6 => 3
  | 7 => 2
  | 8 => 1
  | 9 => 3
  | 10 => 2
  | 11 => 4
  | 12 => 1
  | 13 => 2
  | 14 => 3
  | 15 => 2
  | 16 => 1
  | 17 => 1
  | 18 => 3
  | 19 => 1
  | 20 => 2
  | 21 => 1
  | 22 => 2
  | 23 => 1
  | 24 => 1
  | 25 => 4
  | 26 => 5
  | 27 => 1
  | 28 => 4
  | 29 => 4
  | 30 => 5
  | 31 => 1
  | 32 => 4
  | 33 => 5
  | 34 => 4
  | 35 => 8
  | 36 => 1
  | 37 => 1
  | 38 => 1
  | 39 => 1
  | 40 => 7
  | 41 => 6
  | 42 => 1
  | 43 => 5
  | 44 => 1
  | 45 => 3
  | 46 => 3
  | 47 => 2
  | 48 => 2
  | 49 => 1
  | 50 => 5
  | 51 => 1
  | 52 => 4
  | 53 => 4
  | 54 => 7
  | 55 => 6
  | 56 => 5
  | 57 => 1
  | 58 => 1
  | 59 => 5
  | 60 => 2
  | 61 => 8
  | 62 => 7
  | 63 => 2
  | 64 => 3
  | 65 => 3
  | 66 => 3
  | 67 => 2
  | 68 => 2
  | 69 => 2
  | 70 => 2
  | 71 => 2
  | 72 => 2
  | 73 => 1
  | 74 => 11
  | 75 => 10
  | 76 => 1
  | 77 => 9
  | 78 => 8
  | 79 => 1
  | 80 => 7
  | 81 => 1
  | 82 => 6
  | 83 => 5
  | 84 => 4
  | 85 => 3
  | 86 => 1
  | 87 => 2
  | 88 => 1
  | 89 => 10
  | 90 => 2
  | 91 => 1
  | 92 => 1
  | 93 => 9
  | 94 => 4
  | 95 => 8
  | 96 => 6
  | 97 => 2
  | 98 => 1
  | 99 => 7
  | 100 => 1
  | 101 => 1
  | 102 => 3
  | 103 => 5
  | 104 => 6
  | 105 => 2
  | 106 => 1
  | 107 => 6
  | 108 => 6
  | 109 => 5
  | 110 => 5
  | 111 => 3
  | 112 => 3
  | 113 => 3
  | 114 => 3
  | 115 => 3
  | 116 => 3
  | 117 => 3
  | 118 => 3
  | 119 => 3
  | _ => 12
def zna (i : Nat) : Nat := match i with
  | 0 => 0
  | 1 => 0
  | 2 => 0
  | 3 => 3
  | 4 => 0
  | 5 => 2
  | 6 => 2
  | 7 => 3
  | 8 => 2
  | 9 => 1
  | 10 => 2
  | 11 => 2
  | 12 => 1
  | 13 => 2
  | 14 => 2
  | 15 => 0
  | 16 => 0
  | 17 => 1
  | 18 => 3
  | 19 => 4
  | 20 => 1
  | 21 => 0
  | 22 => 0
  | 23 => 1
  | 24 => 5
  | 25 => 2
  | 26 => 2
  | 27 => 0
  | 28 => 0
  | 29 => 2
  | 30 => 3
  | 31 => 0
  | 32 => 1
  | 33 => 2
  | 34 => 0
  | 35 => 2
  | 36 => 2
  | 37 => 0
  | 38 => 2
  | 39 => 0
  | 40 => 1
  | 41 => 0
  | 42 => 0
  | 43 => 0
  | 44 => 0
  | 45 => 1
  | 46 => 1
  | 47 => 1
  | 48 => 1
  | 49 => 2
  | 50 => 3
  | 51 => 2
  | 52 => 0
  | 53 => 0
  | 54 => 3
  | 55 => 3
  | 56 => 2
  | 57 => 1
  | 58 => 1
  | 59 => 0
  | 60 => 2
  | 61 => 1
  | 62 => 0
  | 63 => 0
  | 64 => 2
  | 65 => 2
  | 66 => 2
  | 67 => 2
  | 68 => 4
  | 69 => 2
  | 70 => 2
  | 71 => 2
  | 72 => 2
  | 73 => 0
  | 74 => 1
  | 75 => 1
  | 76 => 2
  | 77 => 1
  | 78 => 1
  | 79 => 2
  | 80 => 2
  | 81 => 1
  | 82 => 1
  | 83 => 2
  | 84 => 5
  | 85 => 1
  | 86 => 1
  | 87 => 2
  | 88 => 2
  | 89 => 2
  | 90 => 2
  | 91 => 2
  | 92 => 1
  | 93 => 2
  | 94 => 2
  | 95 => 5
  | 96 => 4
  | 97 => 1
  | 98 => 1
  | 99 => 4
  | 100 => 2
  | 101 => 1
  | 102 => 2
  | 103 => 2
  | 104 => 2
  | 105 => 2
  | 106 => 2
  | 107 => 2
  | 108 => 2
  | 109 => 3
  | 110 => 2
  | 111 => 2
  | 112 => 2
  | 113 => 2
  | 114 => 2
  | 115 => 4
  | 116 => 2
  | 117 => 2
  | 118 => 2
  | 119 => 2
  | _ => 1
def znm : Nat := 120
def zk_0_0 : List zK := [(0, .aload_n 0, []), (1, .invokespecial 1, [(99, 1000, 0)]), (4, .invokestatic 7, [(99, 1, 0)]), (7, .astore_n 1, []), (8, .iconst 0, []), (9, .istore_n 2, []), (10, .iload_n 2, []), (11, .iconst 2, []), (12, .if_icmp .ge (14), [(26, 0, 0)]), (15, .aload_n 1, []), (16, .iload_n 2, []), (17, .invokestatic 13, [(99, 5, 2)]), (20, .iinc 2 1, []), (23, .goto (-13), [(10, 0, 0)]), (26, .aload_n 0, []), (27, .aload_n 1, []), (28, .invokestatic 17, [(99, 9, 1)]), (31, .putfield 21, [(5, 1, 2)]), (34, .aload_n 0, []), (35, .aload_n 1, []), (36, .putfield 25, [(5, 0, 2)]), (39, .return_, [])]
/-- CircuitNet.<init>()V -/
def zk_0 : List zK := zk_0_0
def zk_1_0 : List zK := [(0, .bipush 10, []), (2, .anewarray 34, [(22, 0, 0)]), (5, .astore_n 0, []), (6, .iconst 0, []), (7, .istore_n 1, []), (8, .iload_n 1, []), (9, .iconst 5, []), (10, .if_icmp .ge (57), [(67, 0, 0)]), (13, .new 96, [(4, 3, 0)]), (16, .dup, []), (17, .invokespecial 149, [(99, 2, 0)]), (20, .astore_n 2, []), (21, .new 96, [(4, 3, 0)]), (24, .dup, []), (25, .invokespecial 149, [(99, 2, 0)]), (28, .astore_n 3, []), (29, .aload_n 0, []), (30, .iconst 2, []), (31, .iload_n 1, []), (32, .imul, []), (33, .new 34, [(1, 12, 0)]), (36, .dup, []), (37, .aload_n 2, []), (38, .aload_n 3, []), (39, .iconst 1, []), (40, .invokespecial 150, [(99, 3, 3)]), (43, .aastore, [(22, 1, 1), (23, 0, 2), (24, 0, 0)]), (44, .aload_n 0, []), (45, .iconst 2, []), (46, .iload_n 1, []), (47, .imul, []), (48, .iconst 1, []), (49, .iadd, []), (50, .new 34, [(1, 12, 0)]), (53, .dup, []), (54, .aload_n 3, []), (55, .aload_n 2, []), (56, .iconst 0, []), (57, .invokespecial 150, [(99, 3, 3)]), (60, .aastore, [(22, 1, 1), (23, 0, 2), (24, 0, 0)]), (61, .iinc 1 1, []), (64, .goto (-56), [(8, 0, 0)]), (67, .aload_n 0, []), (68, .areturn, [])]
/-- CircuitNet.makeEnds()[LCircuitNet$End; -/
def zk_1 : List zK := zk_1_0
def zk_2_0 : List zK := [(0, .aload_n 0, []), (1, .invokespecial 3, [(99, 1000, 0)]), (4, .aload_n 0, []), (5, .bipush 40, []), (7, .newarray .int, [(20, 0, 0)]), (9, .putfield 11, [(4, 0, 2)]), (12, .return_, [])]
/-- CircuitNet$Wire.<init>()V -/
def zk_2 : List zK := zk_2_0
def zk_3_0 : List zK := [(0, .aload_n 0, []), (1, .invokespecial 3, [(99, 1000, 0)]), (4, .aload_n 0, []), (5, .new 9, [(3, 3, 0)]), (8, .dup, []), (9, .invokespecial 11, [(99, 4, 0)]), (12, .putfield 12, [(1, 3, 2)]), (15, .aload_n 0, []), (16, .iconst 3, []), (17, .anewarray 18, [(23, 0, 0)]), (20, .putfield 20, [(1, 4, 2)]), (23, .aload_n 0, []), (24, .iconst 1, []), (25, .putfield 24, [(1, 6, 1)]), (28, .aload_n 0, []), (29, .aload_n 1, []), (30, .putfield 28, [(1, 0, 2)]), (33, .aload_n 0, []), (34, .aload_n 2, []), (35, .putfield 32, [(1, 1, 2)]), (38, .aload_n 0, []), (39, .iload_n 3, []), (40, .putfield 35, [(1, 2, 1)]), (43, .return_, [])]
/-- CircuitNet$End.<init>(LCircuitNet$Wire;LCircuitNet$Wire;Z)V -/
def zk_3 : List zK := zk_3_0
def zk_4_0 : List zK := [(0, .aload_n 0, []), (1, .invokespecial 3, [(99, 1000, 0)]), (4, .aload_n 0, []), (5, .iconst 4, []), (6, .newarray .int, [(20, 0, 0)]), (8, .putfield 9, [(3, 0, 2)]), (11, .return_, [])]
/-- CircuitNet$Line.<init>()V -/
def zk_4 : List zK := zk_4_0
def zk_5_0 : List zK := [(0, .iconst 4, []), (1, .anewarray 34, [(22, 0, 0)]), (4, .astore_n 2, []), (5, .aload_n 0, []), (6, .bipush 8, []), (8, .iload_n 1, []), (9, .iadd, []), (10, .aaload, []), (11, .astore_n 3, []), (12, .iconst 0, []), (13, .istore 4, []), (15, .iload 4, []), (17, .iconst 4, []), (18, .if_icmp .ge (58), [(76, 0, 0)]), (21, .iload 4, []), (23, .iconst 2, []), (24, .idiv, []), (25, .iload_n 1, []), (26, .if_icmp .ne (7), [(33, 0, 0)]), (29, .iconst 1, []), (30, .goto (4), [(34, 0, 0)]), (33, .iconst 0, []), (34, .istore 5, []), (36, .aload_n 2, []), (37, .iload 4, []), (39, .iload 5, []), (41, .ifCond .eq (14), [(55, 0, 0)]), (44, .aload_n 0, []), (45, .iconst 2, []), (46, .iload 4, []), (48, .imul, []), (49, .iconst 1, []), (50, .iadd, []), (51, .aaload, []), (52, .goto (4), [(56, 0, 0)]), (55, .aload_n 3, []), (56, .aastore, [(22, 1, 1), (23, 0, 2), (24, 0, 0)]), (57, .iload 5, []), (59, .ifCond .eq (11), [(70, 0, 0)]), (62, .aload_n 2, []), (63, .iload 4, []), (65, .aaload, []), (66, .aload_n 2, []), (67, .invokestatic 153, [(99, 6, 2)]), (70, .iinc 4 1, []), (73, .goto (-58), [(15, 0, 0)]), (76, .aload_n 3, []), (77, .aload_n 2, []), (78, .invokestatic 153, [(99, 6, 2)]), (81, .return_, [])]
/-- CircuitNet.addSwitch([LCircuitNet$End;I)V -/
def zk_5 : List zK := zk_5_0
def zk_6_0 : List zK := [(0, .iconst 1, []), (1, .istore_n 2, []), (2, .iload_n 2, []), (3, .iconst 3, []), (4, .if_icmp .gt (27), [(31, 0, 0)]), (7, .aload_n 0, []), (8, .getfield 144, [(1, 4, 2)]), (11, .iload_n 2, []), (12, .iconst 1, []), (13, .isub, []), (14, .new 157, [(2, 6, 0)]), (17, .dup, []), (18, .aload_n 0, []), (19, .iload_n 2, []), (20, .aload_n 1, []), (21, .invokespecial 159, [(99, 7, 3)]), (24, .aastore, [(22, 1, 1), (23, 0, 2), (24, 0, 0)]), (25, .iinc 2 1, []), (28, .goto (-26), [(2, 0, 0)]), (31, .return_, [])]
/-- CircuitNet.addJoints(LCircuitNet$End;[LCircuitNet$End;)V -/
def zk_6 : List zK := zk_6_0
def zk_7_0 : List zK := [(0, .aload_n 0, []), (1, .aload_n 1, []), (2, .iload_n 2, []), (3, .invokespecial 3, [(99, 8, 2)]), (6, .aload_n 0, []), (7, .aload_n 3, []), (8, .putfield 9, [(2, 0, 2)]), (11, .return_, [])]
/-- CircuitNet$Joint.<init>(LCircuitNet$End;I[LCircuitNet$End;)V -/
def zk_7 : List zK := zk_7_0
def zk_8_0 : List zK := [(0, .aload_n 0, []), (1, .invokespecial 3, [(99, 1000, 0)]), (4, .aload_n 0, []), (5, .iconst 0, []), (6, .putfield 9, [(0, 7, 0), (2, 5, 0)]), (9, .aload_n 0, []), (10, .aload_n 1, []), (11, .putfield 15, [(0, 5, 2), (2, 3, 2)]), (14, .aload_n 0, []), (15, .iload_n 2, []), (16, .putfield 19, [(0, 6, 0), (2, 4, 0)]), (19, .return_, [])]
/-- CircuitNet$Channel.<init>(LCircuitNet$End;I)V -/
def zk_8 : List zK := zk_8_0
def zk_9_0 : List zK := [(0, .bipush 12, []), (2, .anewarray 44, [(24, 0, 0)]), (5, .astore_n 1, []), (6, .iconst 0, []), (7, .istore_n 2, []), (8, .iload_n 2, []), (9, .iconst 4, []), (10, .if_icmp .ge (62), [(72, 0, 0)]), (13, .iconst 1, []), (14, .istore_n 3, []), (15, .iload_n 3, []), (16, .iconst 3, []), (17, .if_icmp .gt (49), [(66, 0, 0)]), (20, .new 44, [(0, 8, 0)]), (23, .dup, []), (24, .aload_n 0, []), (25, .iconst 2, []), (26, .iload_n 2, []), (27, .imul, []), (28, .aaload, []), (29, .iload_n 3, []), (30, .invokespecial 162, [(99, 10, 2)]), (33, .astore 4, []), (35, .aload_n 0, []), (36, .iconst 2, []), (37, .iload_n 2, []), (38, .imul, []), (39, .aaload, []), (40, .getfield 144, [(1, 4, 2)]), (43, .iload_n 3, []), (44, .iconst 1, []), (45, .isub, []), (46, .aload 4, []), (48, .aastore, [(22, 1, 1), (23, 0, 2), (24, 0, 0)]), (49, .aload_n 1, []), (50, .iconst 3, []), (51, .iload_n 2, []), (52, .imul, []), (53, .iload_n 3, []), (54, .iadd, []), (55, .iconst 1, []), (56, .isub, []), (57, .aload 4, []), (59, .aastore, [(22, 1, 1), (23, 0, 2), (24, 0, 0)]), (60, .iinc 3 1, []), (63, .goto (-48), [(15, 0, 0)]), (66, .iinc 2 1, []), (69, .goto (-61), [(8, 0, 0)]), (72, .aload_n 1, []), (73, .areturn, [])]
/-- CircuitNet.addCircuits([LCircuitNet$End;)[LCircuitNet$Circuit; -/
def zk_9 : List zK := zk_9_0
def zk_10_0 : List zK := [(0, .aload_n 0, []), (1, .aload_n 1, []), (2, .iload_n 2, []), (3, .invokespecial 3, [(99, 8, 2)]), (6, .aload_n 0, []), (7, .new 9, [(3, 3, 0)]), (10, .dup, []), (11, .invokespecial 11, [(99, 4, 0)]), (14, .putfield 14, [(0, 1, 2)]), (17, .return_, [])]
/-- CircuitNet$Circuit.<init>(LCircuitNet$End;I)V -/
def zk_10 : List zK := zk_10_0
def zk_11_0 : List zK := [(0, .iload_n 1, []), (1, .invokestatic 29, [(99, 12, 1)]), (4, .ifCond .eq (29), [(33, 0, 0)]), (7, .iload_n 2, []), (8, .invokestatic 29, [(99, 12, 1)]), (11, .ifCond .eq (22), [(33, 0, 0)]), (14, .iload_n 1, []), (15, .iload_n 2, []), (16, .if_icmp .eq (17), [(33, 0, 0)]), (19, .aload_n 0, []), (20, .getfield 25, [(5, 0, 2)]), (23, .iconst 2, []), (24, .iload_n 1, []), (25, .imul, []), (26, .aaload, []), (27, .getfield 33, [(1, 6, 1)]), (30, .ifCond .ne (5), [(35, 0, 0)]), (33, .iconst (-1), []), (34, .ireturn, [(0, 0, 0)]), (35, .iconst 3, []), (36, .istore_n 3, []), (37, .iload_n 3, []), (38, .iconst 1, []), (39, .if_icmp .lt (47), [(86, 0, 0)]), (42, .aload_n 0, []), (43, .iload_n 1, []), (44, .iload_n 3, []), (45, .invokevirtual 39, [(5, 13, 2)]), (48, .astore 4, []), (50, .aload 4, []), (52, .ifnull (28), [(80, 0, 0)]), (55, .aload 4, []), (57, .getfield 43, [(0, 7, 0)]), (60, .ifCond .ne (20), [(80, 0, 0)]), (63, .aload 4, []), (65, .iconst 1, []), (66, .iload_n 2, []), (67, .invokevirtual 49, [(0, 14, 2)]), (70, .aload 4, []), (72, .iconst 0, []), (73, .iload_n 2, []), (74, .iload_n 1, []), (75, .invokevirtual 53, [(0, 18, 3)]), (78, .iload_n 3, []), (79, .ireturn, [(0, 0, 0)]), (80, .iinc 3 (-1), []), (83, .goto (-46), [(37, 0, 0)]), (86, .iconst (-1), []), (87, .ireturn, [(0, 0, 0)])]
/-- CircuitNet.call(II)I -/
def zk_11 : List zK := zk_11_0
def zk_12_0 : List zK := [(0, .iload_n 0, []), (1, .ifCond .lt (12), [(13, 0, 0)]), (4, .iload_n 0, []), (5, .iconst 4, []), (6, .if_icmp .ge (7), [(13, 0, 0)]), (9, .iconst 1, []), (10, .goto (4), [(14, 0, 0)]), (13, .iconst 0, []), (14, .ireturn, [(1, 0, 0)])]
/-- CircuitNet.isTerminal(I)Z -/
def zk_12 : List zK := zk_12_0
def zk_13_0 : List zK := [(0, .iload_n 1, []), (1, .invokestatic 29, [(99, 12, 1)]), (4, .ifCond .eq (13), [(17, 0, 0)]), (7, .iload_n 2, []), (8, .iconst 1, []), (9, .if_icmp .lt (8), [(17, 0, 0)]), (12, .iload_n 2, []), (13, .iconst 3, []), (14, .if_icmp .le (5), [(19, 0, 0)]), (17, .aconst_null, []), (18, .areturn, []), (19, .aload_n 0, []), (20, .getfield 21, [(5, 1, 2)]), (23, .iconst 3, []), (24, .iload_n 1, []), (25, .imul, []), (26, .iload_n 2, []), (27, .iadd, []), (28, .iconst 1, []), (29, .isub, []), (30, .aaload, []), (31, .areturn, [])]
/-- CircuitNet.circuitAt(II)LCircuitNet$Circuit; -/
def zk_13 : List zK := zk_13_0
def zk_14_0 : List zK := [(0, .aload_n 0, []), (1, .iload_n 1, []), (2, .putfield 20, [(0, 7, 0)]), (5, .aload_n 0, []), (6, .iload_n 2, []), (7, .putfield 24, [(0, 0, 0)]), (10, .aload_n 0, []), (11, .invokevirtual 27, [(0, 15, 0)]), (14, .return_, [])]
/-- CircuitNet$Circuit.begin(II)V -/
def zk_14 : List zK := zk_14_0
def zk_15_0 : List zK := [(0, .aload_n 0, []), (1, .iconst 0, []), (2, .putfield 30, [(0, 2, 0)]), (5, .aload_n 0, []), (6, .iconst 0, []), (7, .putfield 33, [(0, 3, 0)]), (10, .aload_n 0, []), (11, .iconst 0, []), (12, .putfield 36, [(0, 4, 0)]), (15, .aload_n 0, []), (16, .getfield 14, [(0, 1, 2)]), (19, .aload_n 0, []), (20, .getfield 14, [(0, 1, 2)]), (23, .invokevirtual 39, [(3, 16, 0)]), (26, .invokevirtual 43, [(3, 17, 1)]), (29, .return_, [])]
/-- CircuitNet$Circuit.renew()V -/
def zk_15 : List zK := zk_15_0
def zk_16_0 : List zK := [(0, .aload_n 0, []), (1, .getfield 15, [(3, 2, 0)]), (4, .ireturn, [(0, 0, 0)])]
/-- CircuitNet$Line.size()I -/
def zk_16 : List zK := zk_16_0
def zk_17_0 : List zK := [(0, .iconst 0, []), (1, .iload_n 1, []), (2, .aload_n 0, []), (3, .getfield 15, [(3, 2, 0)]), (6, .invokestatic 25, [(99, 1002, 2)]), (9, .invokestatic 31, [(99, 1001, 2)]), (12, .istore_n 2, []), (13, .aload_n 0, []), (14, .aload_n 0, []), (15, .getfield 19, [(3, 1, 0)]), (18, .iload_n 2, []), (19, .iadd, []), (20, .aload_n 0, []), (21, .getfield 9, [(3, 0, 2)]), (24, .arraylength, []), (25, .iconst 1, []), (26, .isub, []), (27, .iand, []), (28, .putfield 19, [(3, 1, 0)]), (31, .aload_n 0, []), (32, .dup, []), (33, .getfield 15, [(3, 2, 0)]), (36, .iload_n 2, []), (37, .isub, []), (38, .putfield 15, [(3, 2, 0)]), (41, .return_, [])]
/-- CircuitNet$Line.drop(I)V -/
def zk_17 : List zK := zk_17_0
def zk_18_0 : List zK := [(0, .aload_n 0, []), (1, .getfield 15, [(0, 5, 2), (2, 3, 2)]), (4, .getfield 22, [(1, 3, 2)]), (7, .iload_n 1, []), (8, .aload_n 0, []), (9, .getfield 19, [(0, 6, 0), (2, 4, 0)]), (12, .iload_n 2, []), (13, .iload_n 3, []), (14, .invokestatic 28, [(99, 19, 4)]), (17, .invokevirtual 34, [(3, 20, 1)]), (20, .aload_n 0, []), (21, .getfield 15, [(0, 5, 2), (2, 3, 2)]), (24, .invokevirtual 40, [(1, 22, 0)]), (27, .return_, [])]
/-- CircuitNet$Channel.put(III)V -/
def zk_18 : List zK := zk_18_0
def zk_19_0 : List zK := [(0, .iload_n 0, []), (1, .bipush 16, []), (3, .ishl, []), (4, .iload_n 1, []), (5, .bipush 12, []), (7, .ishl, []), (8, .ior, []), (9, .iload_n 2, []), (10, .bipush 8, []), (12, .ishl, []), (13, .ior, []), (14, .iload_n 3, []), (15, .ior, []), (16, .ireturn, [(0, 0, 0)])]
/-- CircuitNet$Packet.of(IIII)I -/
def zk_19 : List zK := zk_19_0
def zk_20_0 : List zK := [(0, .aload_n 0, []), (1, .getfield 15, [(3, 2, 0)]), (4, .sipush 2048, []), (7, .if_icmp .lt (4), [(11, 0, 0)]), (10, .return_, []), (11, .aload_n 0, []), (12, .getfield 15, [(3, 2, 0)]), (15, .aload_n 0, []), (16, .getfield 9, [(3, 0, 2)]), (19, .arraylength, []), (20, .if_icmp .ne (7), [(27, 0, 0)]), (23, .aload_n 0, []), (24, .invokevirtual 22, [(3, 21, 0)]), (27, .aload_n 0, []), (28, .getfield 9, [(3, 0, 2)]), (31, .aload_n 0, []), (32, .getfield 19, [(3, 1, 0)]), (35, .aload_n 0, []), (36, .getfield 15, [(3, 2, 0)]), (39, .iadd, []), (40, .aload_n 0, []), (41, .getfield 9, [(3, 0, 2)]), (44, .arraylength, []), (45, .iconst 1, []), (46, .isub, []), (47, .iand, []), (48, .iload_n 1, []), (49, .iastore, []), (50, .aload_n 0, []), (51, .dup, []), (52, .getfield 15, [(3, 2, 0)]), (55, .iconst 1, []), (56, .iadd, []), (57, .putfield 15, [(3, 2, 0)]), (60, .return_, [])]
/-- CircuitNet$Line.add(I)V -/
def zk_20 : List zK := zk_20_0
def zk_21_0 : List zK := [(0, .iconst 2, []), (1, .aload_n 0, []), (2, .getfield 9, [(3, 0, 2)]), (5, .arraylength, []), (6, .imul, []), (7, .newarray .int, [(20, 0, 0)]), (9, .astore_n 1, []), (10, .iconst 0, []), (11, .istore_n 2, []), (12, .iload_n 2, []), (13, .aload_n 0, []), (14, .getfield 15, [(3, 2, 0)]), (17, .if_icmp .ge (31), [(48, 0, 0)]), (20, .aload_n 1, []), (21, .iload_n 2, []), (22, .aload_n 0, []), (23, .getfield 9, [(3, 0, 2)]), (26, .aload_n 0, []), (27, .getfield 19, [(3, 1, 0)]), (30, .iload_n 2, []), (31, .iadd, []), (32, .aload_n 0, []), (33, .getfield 9, [(3, 0, 2)]), (36, .arraylength, []), (37, .iconst 1, []), (38, .isub, []), (39, .iand, []), (40, .iaload, []), (41, .iastore, []), (42, .iinc 2 1, []), (45, .goto (-33), [(12, 0, 0)]), (48, .aload_n 0, []), (49, .aload_n 1, []), (50, .putfield 9, [(3, 0, 2)]), (53, .aload_n 0, []), (54, .iconst 0, []), (55, .putfield 19, [(3, 1, 0)]), (58, .return_, [])]
/-- CircuitNet$Line.grow()V -/
def zk_21 : List zK := zk_21_0
def zk_22_0 : List zK := [(0, .aload_n 0, []), (1, .getfield 69, [(1, 7, 0)]), (4, .istore_n 1, []), (5, .aload_n 0, []), (6, .getfield 24, [(1, 6, 1)]), (9, .ifCond .eq (65), [(74, 0, 0)]), (12, .iload_n 1, []), (13, .iconst 4, []), (14, .if_icmp .ge (60), [(74, 0, 0)]), (17, .iload_n 1, []), (18, .aload_n 0, []), (19, .getfield 12, [(1, 3, 2)]), (22, .invokevirtual 82, [(3, 16, 0)]), (25, .if_icmp .ge (49), [(74, 0, 0)]), (28, .aload_n 0, []), (29, .getfield 32, [(1, 1, 2)]), (32, .iconst 2, []), (33, .aload_n 0, []), (34, .getfield 44, [(1, 5, 0)]), (37, .aload_n 0, []), (38, .getfield 66, [(1, 8, 0)]), (41, .iload_n 1, []), (42, .iadd, []), (43, .bipush 7, []), (45, .iand, []), (46, .aload_n 0, []), (47, .getfield 76, [(1, 9, 0)]), (50, .aload_n 0, []), (51, .getfield 12, [(1, 3, 2)]), (54, .iload_n 1, []), (55, .invokevirtual 86, [(3, 23, 1)]), (58, .invokevirtual 51, [(4, 24, 5)]), (61, .aload_n 0, []), (62, .iload_n 1, []), (63, .iconst 1, []), (64, .iadd, []), (65, .putfield 69, [(1, 7, 0)]), (68, .iinc 1 1, []), (71, .goto (-66), [(5, 0, 0)]), (74, .return_, [])]
/-- CircuitNet$End.sendOn()V -/
def zk_22 : List zK := zk_22_0
def zk_23_0 : List zK := [(0, .iload_n 1, []), (1, .ifCond .lt (11), [(12, 0, 0)]), (4, .iload_n 1, []), (5, .aload_n 0, []), (6, .getfield 15, [(3, 2, 0)]), (9, .if_icmp .lt (7), [(16, 0, 0)]), (12, .iconst (-1), []), (13, .goto (22), [(35, 0, 0)]), (16, .aload_n 0, []), (17, .getfield 9, [(3, 0, 2)]), (20, .aload_n 0, []), (21, .getfield 19, [(3, 1, 0)]), (24, .iload_n 1, []), (25, .iadd, []), (26, .aload_n 0, []), (27, .getfield 9, [(3, 0, 2)]), (30, .arraylength, []), (31, .iconst 1, []), (32, .isub, []), (33, .iand, []), (34, .iaload, []), (35, .ireturn, [(0, 0, 0)])]
/-- CircuitNet$Line.at(I)I -/
def zk_23 : List zK := zk_23_0
def zk_24_0 : List zK := [(0, .aload_n 0, []), (1, .getfield 15, [(4, 2, 0)]), (4, .bipush 8, []), (6, .if_icmp .lt (4), [(10, 0, 0)]), (9, .return_, []), (10, .aload_n 0, []), (11, .getfield 19, [(4, 1, 0)]), (14, .aload_n 0, []), (15, .getfield 15, [(4, 2, 0)]), (18, .iadd, []), (19, .bipush 8, []), (21, .irem, []), (22, .iconst 5, []), (23, .imul, []), (24, .istore 6, []), (26, .aload_n 0, []), (27, .getfield 11, [(4, 0, 2)]), (30, .iload 6, []), (32, .iconst 0, []), (33, .iadd, []), (34, .iload_n 1, []), (35, .iastore, []), (36, .aload_n 0, []), (37, .getfield 11, [(4, 0, 2)]), (40, .iload 6, []), (42, .iconst 1, []), (43, .iadd, []), (44, .iload_n 2, []), (45, .iastore, []), (46, .aload_n 0, []), (47, .getfield 11, [(4, 0, 2)]), (50, .iload 6, []), (52, .iconst 2, []), (53, .iadd, []), (54, .iload_n 3, []), (55, .iastore, []), (56, .aload_n 0, []), (57, .getfield 11, [(4, 0, 2)]), (60, .iload 6, []), (62, .iconst 3, []), (63, .iadd, []), (64, .iload 4, []), (66, .iastore, []), (67, .aload_n 0, []), (68, .getfield 11, [(4, 0, 2)]), (71, .iload 6, []), (73, .iconst 4, []), (74, .iadd, []), (75, .iload 5, []), (77, .iastore, []), (78, .aload_n 0, []), (79, .dup, []), (80, .getfield 15, [(4, 2, 0)]), (83, .iconst 1, []), (84, .iadd, []), (85, .putfield 15, [(4, 2, 0)]), (88, .return_, [])]
/-- CircuitNet$Wire.add(IIIII)V -/
def zk_24 : List zK := zk_24_0
def zk_25_0 : List zK := [(0, .aload_n 0, []), (1, .iload_n 1, []), (2, .iload_n 2, []), (3, .invokevirtual 39, [(5, 13, 2)]), (6, .astore_n 3, []), (7, .aload_n 3, []), (8, .ifnull (11), [(19, 0, 0)]), (11, .aload_n 3, []), (12, .getfield 43, [(0, 7, 0)]), (15, .iconst 2, []), (16, .if_icmp .eq (5), [(21, 0, 0)]), (19, .iconst 0, []), (20, .ireturn, [(1, 0, 0)]), (21, .aload_n 3, []), (22, .iconst 3, []), (23, .putfield 43, [(0, 7, 0)]), (26, .aload_n 3, []), (27, .iconst 1, []), (28, .iconst 0, []), (29, .iconst 0, []), (30, .invokevirtual 53, [(0, 18, 3)]), (33, .iconst 1, []), (34, .ireturn, [(1, 0, 0)])]
/-- CircuitNet.answer(II)Z -/
def zk_25 : List zK := zk_25_0
def zk_26_0 : List zK := [(0, .aload_n 0, []), (1, .iload_n 1, []), (2, .iload_n 2, []), (3, .invokevirtual 39, [(5, 13, 2)]), (6, .astore_n 3, []), (7, .aload_n 3, []), (8, .ifnull (10), [(18, 0, 0)]), (11, .aload_n 3, []), (12, .invokevirtual 57, [(0, 27, 0)]), (15, .ifCond .ne (5), [(20, 0, 0)]), (18, .iconst 0, []), (19, .ireturn, [(1, 0, 0)]), (20, .aload_n 3, []), (21, .invokevirtual 61, [(0, 28, 0)]), (24, .iconst 1, []), (25, .ireturn, [(1, 0, 0)])]
/-- CircuitNet.clear(II)Z -/
def zk_26 : List zK := zk_26_0
def zk_27_0 : List zK := [(0, .aload_n 0, []), (1, .getfield 20, [(0, 7, 0)]), (4, .ifCond .eq (15), [(19, 0, 0)]), (7, .aload_n 0, []), (8, .getfield 20, [(0, 7, 0)]), (11, .iconst 5, []), (12, .if_icmp .eq (7), [(19, 0, 0)]), (15, .iconst 1, []), (16, .goto (4), [(20, 0, 0)]), (19, .iconst 0, []), (20, .ireturn, [(1, 0, 0)])]
/-- CircuitNet$Circuit.hasPeer()Z -/
def zk_27 : List zK := zk_27_0
def zk_28_0 : List zK := [(0, .aload_n 0, []), (1, .iconst 5, []), (2, .putfield 9, [(0, 7, 0), (2, 5, 0)]), (5, .aload_n 0, []), (6, .iconst 2, []), (7, .iconst 0, []), (8, .iconst 0, []), (9, .invokevirtual 43, [(0, 18, 3), (2, 18, 3)]), (12, .return_, [])]
/-- CircuitNet$Channel.startClearing()V -/
def zk_28 : List zK := zk_28_0
def zk_29_0 : List zK := [(0, .aload_n 0, []), (1, .iload_n 1, []), (2, .iload_n 2, []), (3, .invokevirtual 39, [(5, 13, 2)]), (6, .astore_n 3, []), (7, .aload_n 3, []), (8, .ifnull (11), [(19, 0, 0)]), (11, .aload_n 3, []), (12, .getfield 43, [(0, 7, 0)]), (15, .iconst 3, []), (16, .if_icmp .eq (5), [(21, 0, 0)]), (19, .iconst 0, []), (20, .ireturn, [(1, 0, 0)]), (21, .aload_n 3, []), (22, .invokevirtual 64, [(0, 15, 0)]), (25, .aload_n 3, []), (26, .bipush 6, []), (28, .iconst 0, []), (29, .iconst 0, []), (30, .invokevirtual 53, [(0, 18, 3)]), (33, .aload_n 3, []), (34, .iconst 4, []), (35, .putfield 43, [(0, 7, 0)]), (38, .iconst 1, []), (39, .ireturn, [(1, 0, 0)])]
/-- CircuitNet.reset(II)Z -/
def zk_29 : List zK := zk_29_0
def zk_30_0 : List zK := [(0, .aload_n 0, []), (1, .iload_n 1, []), (2, .iload_n 2, []), (3, .invokevirtual 39, [(5, 13, 2)]), (6, .astore 4, []), (8, .aload 4, []), (10, .ifnull (23), [(33, 0, 0)]), (13, .iload_n 3, []), (14, .ifCond .lt (19), [(33, 0, 0)]), (17, .iload_n 3, []), (18, .sipush 255, []), (21, .if_icmp .gt (12), [(33, 0, 0)]), (24, .aload 4, []), (26, .getfield 43, [(0, 7, 0)]), (29, .iconst 3, []), (30, .if_icmp .eq (5), [(35, 0, 0)]), (33, .iconst (-1), []), (34, .ireturn, [(0, 0, 0)]), (35, .aload 4, []), (37, .invokevirtual 67, [(0, 31, 0)]), (40, .ifCond .eq (6), [(46, 0, 0)]), (43, .bipush (-2), []), (45, .ireturn, [(0, 0, 0)]), (46, .aload 4, []), (48, .iload_n 3, []), (49, .invokevirtual 70, [(0, 32, 1)]), (52, .ireturn, [(0, 0, 0)])]
/-- CircuitNet.send(III)I -/
def zk_30 : List zK := zk_30_0
def zk_31_0 : List zK := [(0, .aload_n 0, []), (1, .getfield 30, [(0, 2, 0)]), (4, .aload_n 0, []), (5, .getfield 33, [(0, 3, 0)]), (8, .iconst 3, []), (9, .iadd, []), (10, .bipush 7, []), (12, .iand, []), (13, .if_icmp .ne (7), [(20, 0, 0)]), (16, .iconst 1, []), (17, .goto (4), [(21, 0, 0)]), (20, .iconst 0, []), (21, .ireturn, [(1, 0, 0)])]
/-- CircuitNet$Circuit.windowIsFull()Z -/
def zk_31 : List zK := zk_31_0
def zk_32_0 : List zK := [(0, .aload_n 0, []), (1, .getfield 30, [(0, 2, 0)]), (4, .istore_n 2, []), (5, .aload_n 0, []), (6, .aload_n 0, []), (7, .getfield 30, [(0, 2, 0)]), (10, .iconst 1, []), (11, .iadd, []), (12, .bipush 7, []), (14, .iand, []), (15, .putfield 30, [(0, 2, 0)]), (18, .aload_n 0, []), (19, .iconst 4, []), (20, .iload_n 2, []), (21, .iload_n 1, []), (22, .invokevirtual 47, [(0, 18, 3)]), (25, .iload_n 2, []), (26, .ireturn, [(0, 0, 0)])]
/-- CircuitNet$Circuit.putValue(I)I -/
def zk_32 : List zK := zk_32_0
def zk_33_0 : List zK := [(0, .aload_n 0, []), (1, .iload_n 1, []), (2, .iload_n 2, []), (3, .invokevirtual 39, [(5, 13, 2)]), (6, .astore_n 3, []), (7, .aload_n 3, []), (8, .ifnull (21), [(29, 0, 0)]), (11, .aload_n 3, []), (12, .getfield 43, [(0, 7, 0)]), (15, .iconst 3, []), (16, .if_icmp .ne (13), [(29, 0, 0)]), (19, .aload_n 3, []), (20, .getfield 74, [(0, 1, 2)]), (23, .invokevirtual 78, [(3, 16, 0)]), (26, .ifCond .ne (5), [(31, 0, 0)]), (29, .iconst (-1), []), (30, .ireturn, [(0, 0, 0)]), (31, .aload_n 3, []), (32, .invokevirtual 84, [(0, 34, 0)]), (35, .ireturn, [(0, 0, 0)])]
/-- CircuitNet.read(II)I -/
def zk_33 : List zK := zk_33_0
def zk_34_0 : List zK := [(0, .aload_n 0, []), (1, .getfield 14, [(0, 1, 2)]), (4, .iconst 0, []), (5, .invokevirtual 51, [(3, 23, 1)]), (8, .istore_n 1, []), (9, .aload_n 0, []), (10, .getfield 14, [(0, 1, 2)]), (13, .iconst 1, []), (14, .invokevirtual 43, [(3, 17, 1)]), (17, .aload_n 0, []), (18, .aload_n 0, []), (19, .getfield 36, [(0, 4, 0)]), (22, .iconst 1, []), (23, .iadd, []), (24, .bipush 7, []), (26, .iand, []), (27, .putfield 36, [(0, 4, 0)]), (30, .aload_n 0, []), (31, .iconst 5, []), (32, .aload_n 0, []), (33, .getfield 36, [(0, 4, 0)]), (36, .iconst 0, []), (37, .invokevirtual 47, [(0, 18, 3)]), (40, .iload_n 1, []), (41, .ireturn, [(0, 0, 0)])]
/-- CircuitNet$Circuit.takeValue()I -/
def zk_34 : List zK := zk_34_0
def zk_35_0 : List zK := [(0, .aload_n 0, []), (1, .iload_n 1, []), (2, .iload_n 2, []), (3, .invokevirtual 87, [(5, 36, 2)]), (6, .astore_n 3, []), (7, .aload_n 3, []), (8, .ifnull (13), [(21, 0, 0)]), (11, .aload_n 3, []), (12, .getfield 91, [(1, 0, 2)]), (15, .invokevirtual 95, [(4, 37, 0)]), (18, .ifCond .ne (5), [(23, 0, 0)]), (21, .iconst 0, []), (22, .ireturn, [(1, 0, 0)]), (23, .aload_n 3, []), (24, .getfield 91, [(1, 0, 2)]), (27, .iconst 0, []), (28, .iconst 0, []), (29, .invokevirtual 98, [(4, 38, 2)]), (32, .istore 4, []), (34, .aload_n 3, []), (35, .getfield 91, [(1, 0, 2)]), (38, .iconst 0, []), (39, .iconst 1, []), (40, .invokevirtual 98, [(4, 38, 2)]), (43, .istore 5, []), (45, .aload_n 3, []), (46, .getfield 91, [(1, 0, 2)]), (49, .iconst 0, []), (50, .iconst 2, []), (51, .invokevirtual 98, [(4, 38, 2)]), (54, .istore 6, []), (56, .aload_n 3, []), (57, .getfield 91, [(1, 0, 2)]), (60, .iconst 0, []), (61, .iconst 3, []), (62, .invokevirtual 98, [(4, 38, 2)]), (65, .istore 7, []), (67, .aload_n 3, []), (68, .getfield 91, [(1, 0, 2)]), (71, .iconst 0, []), (72, .iconst 4, []), (73, .invokevirtual 98, [(4, 38, 2)]), (76, .istore 8, []), (78, .aload_n 3, []), (79, .getfield 91, [(1, 0, 2)]), (82, .invokevirtual 102, [(4, 39, 0)]), (85, .iload 4, []), (87, .ifCond .ne (12), [(99, 0, 0)]), (90, .aload_n 3, []), (91, .iload 5, []), (93, .invokevirtual 105, [(1, 40, 1)]), (96, .goto (91), [(187, 0, 0)]), (99, .iload 4, []), (101, .iconst 1, []), (102, .if_icmp .ne (12), [(114, 0, 0)]), (105, .aload_n 3, []), (106, .iload 5, []), (108, .invokevirtual 109, [(1, 45, 1)]), (111, .goto (76), [(187, 0, 0)]), (114, .aload_n 3, []), (115, .getfield 33, [(1, 6, 1)]), (118, .ifCond .eq (69), [(187, 0, 0)]), (121, .aload_n 3, []), (122, .getfield 112, [(1, 5, 0)]), (125, .iload 5, []), (127, .if_icmp .ne (60), [(187, 0, 0)]), (130, .aload_n 3, []), (131, .iload 7, []), (133, .invokevirtual 115, [(1, 46, 1)]), (136, .iload 4, []), (138, .iconst 2, []), (139, .if_icmp .ne (48), [(187, 0, 0)]), (142, .aload_n 3, []), (143, .iload 6, []), (145, .invokevirtual 118, [(1, 47, 1)]), (148, .ifCond .eq (39), [(187, 0, 0)]), (151, .aload_n 3, []), (152, .iload 8, []), (154, .invokevirtual 121, [(1, 48, 1)]), (157, .astore 9, []), (159, .aload 9, []), (161, .ifnull (26), [(187, 0, 0)]), (164, .aload 9, []), (166, .iload 8, []), (168, .iconst 0, []), (169, .invokestatic 127, [(99, 49, 2)]), (172, .iload 8, []), (174, .iconst 2, []), (175, .invokestatic 127, [(99, 49, 2)]), (178, .iload 8, []), (180, .iconst 3, []), (181, .invokestatic 127, [(99, 49, 2)]), (184, .invokevirtual 130, [(0, 50, 3), (2, 54, 3)]), (187, .iconst 1, []), (188, .ireturn, [(1, 0, 0)])]
/-- CircuitNet.deliver(II)Z -/
def zk_35 : List zK := zk_35_0
def zk_36_0 : List zK := [(0, .iload_n 1, []), (1, .ifCond .lt (17), [(18, 0, 0)]), (4, .iload_n 1, []), (5, .iconst 5, []), (6, .if_icmp .ge (12), [(18, 0, 0)]), (9, .iload_n 2, []), (10, .ifCond .lt (8), [(18, 0, 0)]), (13, .iload_n 2, []), (14, .iconst 1, []), (15, .if_icmp .le (5), [(20, 0, 0)]), (18, .aconst_null, []), (19, .areturn, []), (20, .aload_n 0, []), (21, .getfield 25, [(5, 0, 2)]), (24, .iconst 2, []), (25, .iload_n 1, []), (26, .imul, []), (27, .iload_n 2, []), (28, .iadd, []), (29, .aaload, []), (30, .areturn, [])]
/-- CircuitNet.endAt(II)LCircuitNet$End; -/
def zk_36 : List zK := zk_36_0
def zk_37_0 : List zK := [(0, .aload_n 0, []), (1, .getfield 15, [(4, 2, 0)]), (4, .ireturn, [(0, 0, 0)])]
/-- CircuitNet$Wire.size()I -/
def zk_37 : List zK := zk_37_0
def zk_38_0 : List zK := [(0, .iload_n 1, []), (1, .ifCond .lt (20), [(21, 0, 0)]), (4, .iload_n 1, []), (5, .aload_n 0, []), (6, .getfield 15, [(4, 2, 0)]), (9, .if_icmp .ge (12), [(21, 0, 0)]), (12, .iload_n 2, []), (13, .ifCond .lt (8), [(21, 0, 0)]), (16, .iload_n 2, []), (17, .iconst 5, []), (18, .if_icmp .lt (5), [(23, 0, 0)]), (21, .iconst (-1), []), (22, .ireturn, [(0, 0, 0)]), (23, .aload_n 0, []), (24, .getfield 11, [(4, 0, 2)]), (27, .aload_n 0, []), (28, .getfield 19, [(4, 1, 0)]), (31, .iload_n 1, []), (32, .iadd, []), (33, .bipush 8, []), (35, .irem, []), (36, .iconst 5, []), (37, .imul, []), (38, .iload_n 2, []), (39, .iadd, []), (40, .iaload, []), (41, .ireturn, [(0, 0, 0)])]
/-- CircuitNet$Wire.word(II)I -/
def zk_38 : List zK := zk_38_0
def zk_39_0 : List zK := [(0, .aload_n 0, []), (1, .getfield 15, [(4, 2, 0)]), (4, .ifCond .le (26), [(30, 0, 0)]), (7, .aload_n 0, []), (8, .aload_n 0, []), (9, .getfield 19, [(4, 1, 0)]), (12, .iconst 1, []), (13, .iadd, []), (14, .bipush 8, []), (16, .irem, []), (17, .putfield 19, [(4, 1, 0)]), (20, .aload_n 0, []), (21, .dup, []), (22, .getfield 15, [(4, 2, 0)]), (25, .iconst 1, []), (26, .isub, []), (27, .putfield 15, [(4, 2, 0)]), (30, .return_, [])]
/-- CircuitNet$Wire.dropFirst()V -/
def zk_39 : List zK := zk_39_0
def zk_40_0 : List zK := [(0, .iload_n 1, []), (1, .aload_n 0, []), (2, .getfield 44, [(1, 5, 0)]), (5, .if_icmp .le (17), [(22, 0, 0)]), (8, .aload_n 0, []), (9, .iload_n 1, []), (10, .putfield 44, [(1, 5, 0)]), (13, .aload_n 0, []), (14, .invokevirtual 48, [(1, 41, 0)]), (17, .aload_n 0, []), (18, .iconst 1, []), (19, .putfield 24, [(1, 6, 1)]), (22, .iload_n 1, []), (23, .aload_n 0, []), (24, .getfield 44, [(1, 5, 0)]), (27, .if_icmp .ne (18), [(45, 0, 0)]), (30, .aload_n 0, []), (31, .getfield 32, [(1, 1, 2)]), (34, .iconst 1, []), (35, .aload_n 0, []), (36, .getfield 44, [(1, 5, 0)]), (39, .iconst (-1), []), (40, .iconst (-1), []), (41, .iconst (-1), []), (42, .invokevirtual 51, [(4, 24, 5)]), (45, .return_, [])]
/-- CircuitNet$End.meetSet(I)V -/
def zk_40 : List zK := zk_40_0
def zk_41_0 : List zK := [(0, .aload_n 0, []), (1, .getfield 12, [(1, 3, 2)]), (4, .aload_n 0, []), (5, .getfield 12, [(1, 3, 2)]), (8, .invokevirtual 82, [(3, 16, 0)]), (11, .invokevirtual 72, [(3, 17, 1)]), (14, .aload_n 0, []), (15, .iconst 0, []), (16, .putfield 69, [(1, 7, 0)]), (19, .aload_n 0, []), (20, .iconst 0, []), (21, .putfield 66, [(1, 8, 0)]), (24, .aload_n 0, []), (25, .iconst 0, []), (26, .putfield 76, [(1, 9, 0)]), (29, .aload_n 0, []), (30, .iconst 0, []), (31, .putfield 57, [(1, 10, 0)]), (34, .aload_n 0, []), (35, .iconst 0, []), (36, .putfield 60, [(1, 11, 0)]), (39, .iconst 0, []), (40, .istore_n 1, []), (41, .iload_n 1, []), (42, .iconst 3, []), (43, .if_icmp .ge (18), [(61, 0, 0)]), (46, .aload_n 0, []), (47, .getfield 20, [(1, 4, 2)]), (50, .iload_n 1, []), (51, .aaload, []), (52, .invokevirtual 90, [(0, 42, 0), (2, 43, 0)]), (55, .iinc 1 1, []), (58, .goto (-17), [(41, 0, 0)]), (61, .return_, [])]
/-- CircuitNet$End.breakDown()V -/
def zk_41 : List zK := zk_41_0
def zk_42_0 : List zK := [(0, .aload_n 0, []), (1, .iconst 0, []), (2, .putfield 20, [(0, 7, 0)]), (5, .return_, [])]
/-- CircuitNet$Circuit.beLost()V -/
def zk_42 : List zK := zk_42_0
def zk_43_0 : List zK := [(0, .aload_n 0, []), (1, .invokevirtual 48, [(2, 44, 0)]), (4, .astore_n 1, []), (5, .aload_n 1, []), (6, .ifnull (7), [(13, 0, 0)]), (9, .aload_n 1, []), (10, .invokevirtual 52, [(2, 28, 0)]), (13, .return_, [])]
/-- CircuitNet$Joint.beLost()V -/
def zk_43 : List zK := zk_43_0
def zk_44_0 : List zK := [(0, .aload_n 0, []), (1, .getfield 36, [(2, 5, 0)]), (4, .iconst 1, []), (5, .if_icmp .ne (10), [(15, 0, 0)]), (8, .aload_n 0, []), (9, .getfield 40, [(2, 1, 2)]), (12, .goto (4), [(16, 0, 0)]), (15, .aconst_null, []), (16, .astore_n 1, []), (17, .aload_n 0, []), (18, .iconst 0, []), (19, .putfield 36, [(2, 5, 0)]), (22, .aload_n 0, []), (23, .aconst_null, []), (24, .putfield 40, [(2, 1, 2)]), (27, .aload_n 1, []), (28, .areturn, [])]
/-- CircuitNet$Joint.leave()LCircuitNet$Joint; -/
def zk_44 : List zK := zk_44_0
def zk_45_0 : List zK := [(0, .iload_n 1, []), (1, .aload_n 0, []), (2, .getfield 44, [(1, 5, 0)]), (5, .if_icmp .ne (29), [(34, 0, 0)]), (8, .aload_n 0, []), (9, .getfield 24, [(1, 6, 1)]), (12, .ifCond .ne (22), [(34, 0, 0)]), (15, .aload_n 0, []), (16, .iconst 1, []), (17, .putfield 24, [(1, 6, 1)]), (20, .aload_n 0, []), (21, .iconst 0, []), (22, .putfield 57, [(1, 10, 0)]), (25, .aload_n 0, []), (26, .iconst 0, []), (27, .putfield 60, [(1, 11, 0)]), (30, .aload_n 0, []), (31, .invokevirtual 63, [(1, 22, 0)]), (34, .return_, [])]
/-- CircuitNet$End.meetSettled(I)V -/
def zk_45 : List zK := zk_45_0
def zk_46_0 : List zK := [(0, .iload_n 1, []), (1, .aload_n 0, []), (2, .getfield 66, [(1, 8, 0)]), (5, .isub, []), (6, .bipush 7, []), (8, .iand, []), (9, .istore_n 2, []), (10, .iload_n 2, []), (11, .aload_n 0, []), (12, .getfield 69, [(1, 7, 0)]), (15, .if_icmp .le (4), [(19, 0, 0)]), (18, .return_, []), (19, .iload_n 2, []), (20, .ifCond .le (44), [(64, 0, 0)]), (23, .aload_n 0, []), (24, .getfield 12, [(1, 3, 2)]), (27, .iload_n 2, []), (28, .invokevirtual 72, [(3, 17, 1)]), (31, .aload_n 0, []), (32, .dup, []), (33, .getfield 69, [(1, 7, 0)]), (36, .iload_n 2, []), (37, .isub, []), (38, .putfield 69, [(1, 7, 0)]), (41, .aload_n 0, []), (42, .aload_n 0, []), (43, .getfield 66, [(1, 8, 0)]), (46, .iload_n 2, []), (47, .iadd, []), (48, .bipush 7, []), (50, .iand, []), (51, .putfield 66, [(1, 8, 0)]), (54, .aload_n 0, []), (55, .iconst 0, []), (56, .putfield 57, [(1, 10, 0)]), (59, .aload_n 0, []), (60, .iconst 0, []), (61, .putfield 60, [(1, 11, 0)]), (64, .aload_n 0, []), (65, .invokevirtual 63, [(1, 22, 0)]), (68, .return_, [])]
/-- CircuitNet$End.confirm(I)V -/
def zk_46 : List zK := zk_46_0
def zk_47_0 : List zK := [(0, .iload_n 1, []), (1, .aload_n 0, []), (2, .getfield 76, [(1, 9, 0)]), (5, .if_icmp .ne (7), [(12, 0, 0)]), (8, .iconst 1, []), (9, .goto (4), [(13, 0, 0)]), (12, .iconst 0, []), (13, .istore_n 2, []), (14, .iload_n 2, []), (15, .ifCond .eq (16), [(31, 0, 0)]), (18, .aload_n 0, []), (19, .aload_n 0, []), (20, .getfield 76, [(1, 9, 0)]), (23, .iconst 1, []), (24, .iadd, []), (25, .bipush 7, []), (27, .iand, []), (28, .putfield 76, [(1, 9, 0)]), (31, .aload_n 0, []), (32, .getfield 32, [(1, 1, 2)]), (35, .iconst 3, []), (36, .aload_n 0, []), (37, .getfield 44, [(1, 5, 0)]), (40, .iconst (-1), []), (41, .aload_n 0, []), (42, .getfield 76, [(1, 9, 0)]), (45, .iconst (-1), []), (46, .invokevirtual 51, [(4, 24, 5)]), (49, .iload_n 2, []), (50, .ireturn, [(1, 0, 0)])]
/-- CircuitNet$End.expects(I)Z -/
def zk_47 : List zK := zk_47_0
def zk_48_0 : List zK := [(0, .iload_n 1, []), (1, .iconst 1, []), (2, .invokestatic 40, [(99, 49, 2)]), (5, .istore_n 2, []), (6, .iload_n 2, []), (7, .iconst 1, []), (8, .if_icmp .lt (8), [(16, 0, 0)]), (11, .iload_n 2, []), (12, .iconst 3, []), (13, .if_icmp .le (7), [(20, 0, 0)]), (16, .aconst_null, []), (17, .goto (11), [(28, 0, 0)]), (20, .aload_n 0, []), (21, .getfield 20, [(1, 4, 2)]), (24, .iload_n 2, []), (25, .iconst 1, []), (26, .isub, []), (27, .aaload, []), (28, .areturn, [])]
/-- CircuitNet$End.channelOf(I)LCircuitNet$Channel; -/
def zk_48 : List zK := zk_48_0
def zk_49_0 : List zK := [(0, .iload_n 1, []), (1, .tableswitch (58) 0 3 #[31, 36, 44, 52], [(59, 0, 0), (0, 32, 0), (1, 37, 0), (2, 45, 0), (3, 53, 0)]), (32, .iload_n 0, []), (33, .bipush 16, []), (35, .ishr, []), (36, .ireturn, [(0, 0, 0)]), (37, .iload_n 0, []), (38, .bipush 12, []), (40, .ishr, []), (41, .bipush 15, []), (43, .iand, []), (44, .ireturn, [(0, 0, 0)]), (45, .iload_n 0, []), (46, .bipush 8, []), (48, .ishr, []), (49, .bipush 15, []), (51, .iand, []), (52, .ireturn, [(0, 0, 0)]), (53, .iload_n 0, []), (54, .sipush 255, []), (57, .iand, []), (58, .ireturn, [(0, 0, 0)]), (59, .iconst (-1), []), (60, .ireturn, [(0, 0, 0)])]
/-- CircuitNet$Packet.part(II)I -/
def zk_49 : List zK := zk_49_0
def zk_50_0 : List zK := [(0, .iload_n 1, []), (1, .tableswitch (139) 0 7 #[47, 63, 72, 79, 88, 107, 123, 130], [(140, 0, 0), (0, 48, 0), (1, 64, 0), (2, 73, 0), (3, 80, 0), (4, 89, 0), (5, 108, 0), (6, 124, 0), (7, 131, 0)]), (48, .aload_n 0, []), (49, .getfield 20, [(0, 7, 0)]), (52, .ifCond .ne (88), [(140, 0, 0)]), (55, .aload_n 0, []), (56, .iconst 2, []), (57, .iload_n 3, []), (58, .invokevirtual 55, [(0, 14, 2)]), (61, .goto (79), [(140, 0, 0)]), (64, .aload_n 0, []), (65, .iconst 1, []), (66, .iconst 3, []), (67, .invokevirtual 59, [(0, 51, 2)]), (70, .goto (70), [(140, 0, 0)]), (73, .aload_n 0, []), (74, .invokevirtual 62, [(0, 52, 0)]), (77, .goto (63), [(140, 0, 0)]), (80, .aload_n 0, []), (81, .iconst 5, []), (82, .iconst 0, []), (83, .invokevirtual 59, [(0, 51, 2)]), (86, .goto (54), [(140, 0, 0)]), (89, .aload_n 0, []), (90, .getfield 20, [(0, 7, 0)]), (93, .iconst 3, []), (94, .if_icmp .ne (46), [(140, 0, 0)]), (97, .aload_n 0, []), (98, .getfield 14, [(0, 1, 2)]), (101, .iload_n 3, []), (102, .invokevirtual 65, [(3, 20, 1)]), (105, .goto (35), [(140, 0, 0)]), (108, .aload_n 0, []), (109, .getfield 20, [(0, 7, 0)]), (112, .iconst 3, []), (113, .if_icmp .ne (27), [(140, 0, 0)]), (116, .aload_n 0, []), (117, .iload_n 2, []), (118, .putfield 33, [(0, 3, 0)]), (121, .goto (19), [(140, 0, 0)]), (124, .aload_n 0, []), (125, .invokevirtual 68, [(0, 53, 0)]), (128, .goto (12), [(140, 0, 0)]), (131, .aload_n 0, []), (132, .iconst 4, []), (133, .iconst 3, []), (134, .invokevirtual 59, [(0, 51, 2)]), (137, .goto (3), [(140, 0, 0)]), (140, .return_, [])]
/-- CircuitNet$Circuit.arrive(III)V -/
def zk_50 : List zK := zk_50_0
def zk_51_0 : List zK := [(0, .aload_n 0, []), (1, .getfield 20, [(0, 7, 0)]), (4, .iload_n 1, []), (5, .if_icmp .ne (8), [(13, 0, 0)]), (8, .aload_n 0, []), (9, .iload_n 2, []), (10, .putfield 20, [(0, 7, 0)]), (13, .return_, [])]
/-- CircuitNet$Circuit.change(II)V -/
def zk_51 : List zK := zk_51_0
def zk_52_0 : List zK := [(0, .aload_n 0, []), (1, .getfield 20, [(0, 7, 0)]), (4, .iconst 5, []), (5, .if_icmp .ne (7), [(12, 0, 0)]), (8, .iconst 1, []), (9, .goto (4), [(13, 0, 0)]), (12, .iconst 0, []), (13, .istore_n 1, []), (14, .aload_n 0, []), (15, .iconst 0, []), (16, .putfield 20, [(0, 7, 0)]), (19, .iload_n 1, []), (20, .ifCond .ne (10), [(30, 0, 0)]), (23, .aload_n 0, []), (24, .iconst 3, []), (25, .iconst 0, []), (26, .iconst 0, []), (27, .invokevirtual 47, [(0, 18, 3)]), (30, .return_, [])]
/-- CircuitNet$Circuit.meetClear()V -/
def zk_52 : List zK := zk_52_0
def zk_53_0 : List zK := [(0, .aload_n 0, []), (1, .getfield 20, [(0, 7, 0)]), (4, .iconst 3, []), (5, .if_icmp .ne (18), [(23, 0, 0)]), (8, .aload_n 0, []), (9, .invokevirtual 27, [(0, 15, 0)]), (12, .aload_n 0, []), (13, .bipush 7, []), (15, .iconst 0, []), (16, .iconst 0, []), (17, .invokevirtual 47, [(0, 18, 3)]), (20, .goto (9), [(29, 0, 0)]), (23, .aload_n 0, []), (24, .iconst 4, []), (25, .iconst 3, []), (26, .invokevirtual 59, [(0, 51, 2)]), (29, .return_, [])]
/-- CircuitNet$Circuit.meetReset()V -/
def zk_53 : List zK := zk_53_0
def zk_54_0 : List zK := [(0, .aload_n 0, []), (1, .getfield 15, [(2, 2, 1)]), (4, .ifCond .eq (17), [(21, 0, 0)]), (7, .aload_n 0, []), (8, .getfield 19, [(2, 3, 2)]), (11, .getfield 23, [(1, 2, 1)]), (14, .ifCond .ne (7), [(21, 0, 0)]), (17, .iconst 1, []), (18, .goto (4), [(22, 0, 0)]), (21, .iconst 0, []), (22, .istore 4, []), (24, .aload_n 0, []), (25, .iconst 0, []), (26, .putfield 15, [(2, 2, 1)]), (29, .iload_n 1, []), (30, .tableswitch (64) 0 3 #[30, 64, 41, 48], [(94, 0, 0), (0, 60, 0), (1, 94, 0), (2, 71, 0), (3, 78, 0)]), (60, .aload_n 0, []), (61, .iload 4, []), (63, .iload_n 2, []), (64, .iload_n 3, []), (65, .invokevirtual 28, [(2, 55, 3)]), (68, .goto (51), [(119, 0, 0)]), (71, .aload_n 0, []), (72, .invokevirtual 32, [(2, 59, 0)]), (75, .goto (44), [(119, 0, 0)]), (78, .aload_n 0, []), (79, .getfield 36, [(2, 5, 0)]), (82, .iconst 5, []), (83, .if_icmp .ne (36), [(119, 0, 0)]), (86, .aload_n 0, []), (87, .iconst 0, []), (88, .putfield 36, [(2, 5, 0)]), (91, .goto (28), [(119, 0, 0)]), (94, .aload_n 0, []), (95, .getfield 36, [(2, 5, 0)]), (98, .iconst 1, []), (99, .if_icmp .ne (20), [(119, 0, 0)]), (102, .aload_n 0, []), (103, .getfield 40, [(2, 1, 2)]), (106, .ifnull (13), [(119, 0, 0)]), (109, .aload_n 0, []), (110, .getfield 40, [(2, 1, 2)]), (113, .iload_n 1, []), (114, .iload_n 2, []), (115, .iload_n 3, []), (116, .invokevirtual 44, [(2, 18, 3)]), (119, .return_, [])]
/-- CircuitNet$Joint.arrive(III)V -/
def zk_54 : List zK := zk_54_0
def zk_55_0 : List zK := [(0, .aload_n 0, []), (1, .getfield 36, [(2, 5, 0)]), (4, .iconst 1, []), (5, .if_icmp .ne (23), [(28, 0, 0)]), (8, .iload_n 1, []), (9, .ifCond .eq (19), [(28, 0, 0)]), (12, .aload_n 0, []), (13, .invokevirtual 48, [(2, 44, 0)]), (16, .astore 4, []), (18, .aload 4, []), (20, .ifnull (8), [(28, 0, 0)]), (23, .aload 4, []), (25, .invokevirtual 52, [(2, 28, 0)]), (28, .aload_n 0, []), (29, .getfield 36, [(2, 5, 0)]), (32, .ifCond .ne (9), [(41, 0, 0)]), (35, .aload_n 0, []), (36, .iload_n 2, []), (37, .iload_n 3, []), (38, .invokevirtual 55, [(2, 56, 2)]), (41, .return_, [])]
/-- CircuitNet$Joint.meetCall(ZII)V -/
def zk_55 : List zK := zk_55_0
def zk_56_0 : List zK := [(0, .aload_n 0, []), (1, .iload_n 1, []), (2, .invokevirtual 59, [(2, 57, 1)]), (5, .astore_n 3, []), (6, .aload_n 3, []), (7, .ifnonnull (8), [(15, 0, 0)]), (10, .aload_n 0, []), (11, .invokevirtual 52, [(2, 28, 0)]), (14, .return_, []), (15, .aload_n 0, []), (16, .aload_n 3, []), (17, .invokevirtual 63, [(2, 58, 1)]), (20, .aload_n 3, []), (21, .aload_n 0, []), (22, .invokevirtual 63, [(2, 58, 1)]), (25, .aload_n 3, []), (26, .iconst 1, []), (27, .putfield 15, [(2, 2, 1)]), (30, .aload_n 3, []), (31, .iconst 0, []), (32, .iload_n 1, []), (33, .iload_n 2, []), (34, .invokevirtual 44, [(2, 18, 3)]), (37, .return_, [])]
/-- CircuitNet$Joint.connect(II)V -/
def zk_56 : List zK := zk_56_0
def zk_57_0 : List zK := [(0, .iload_n 1, []), (1, .ifCond .lt (12), [(13, 0, 0)]), (4, .iload_n 1, []), (5, .aload_n 0, []), (6, .getfield 9, [(2, 0, 2)]), (9, .arraylength, []), (10, .if_icmp .lt (5), [(15, 0, 0)]), (13, .aconst_null, []), (14, .areturn, []), (15, .aload_n 0, []), (16, .getfield 9, [(2, 0, 2)]), (19, .iload_n 1, []), (20, .aaload, []), (21, .astore_n 2, []), (22, .aload_n 2, []), (23, .ifnull (18), [(41, 0, 0)]), (26, .aload_n 2, []), (27, .aload_n 0, []), (28, .getfield 19, [(2, 3, 2)]), (31, .if_acmp .eq (10), [(41, 0, 0)]), (34, .aload_n 2, []), (35, .getfield 67, [(1, 6, 1)]), (38, .ifCond .ne (5), [(43, 0, 0)]), (41, .aconst_null, []), (42, .areturn, []), (43, .iconst 0, []), (44, .istore_n 3, []), (45, .iload_n 3, []), (46, .iconst 3, []), (47, .if_icmp .ge (56), [(103, 0, 0)]), (50, .aload_n 2, []), (51, .getfield 70, [(1, 4, 2)]), (54, .aload_n 2, []), (55, .getfield 23, [(1, 2, 1)]), (58, .ifCond .eq (9), [(67, 0, 0)]), (61, .iconst 2, []), (62, .iload_n 3, []), (63, .isub, []), (64, .goto (4), [(68, 0, 0)]), (67, .iload_n 3, []), (68, .aaload, []), (69, .astore 4, []), (71, .aload 4, []), (73, .instanceof 10, [(2, 1, 0)]), (76, .ifCond .eq (21), [(97, 0, 0)]), (79, .aload 4, []), (81, .checkcast 10, [(2, 1, 0)]), (84, .astore 5, []), (86, .aload 5, []), (88, .getfield 36, [(2, 5, 0)]), (91, .ifCond .ne (6), [(97, 0, 0)]), (94, .aload 5, []), (96, .areturn, []), (97, .iinc 3 1, []), (100, .goto (-55), [(45, 0, 0)]), (103, .aconst_null, []), (104, .areturn, [])]
/-- CircuitNet$Joint.freeJointTo(I)LCircuitNet$Joint; -/
def zk_57 : List zK := zk_57_0
def zk_58_0 : List zK := [(0, .aload_n 0, []), (1, .iconst 1, []), (2, .putfield 36, [(2, 5, 0)]), (5, .aload_n 0, []), (6, .aload_n 1, []), (7, .putfield 40, [(2, 1, 2)]), (10, .aload_n 0, []), (11, .iconst 0, []), (12, .putfield 15, [(2, 2, 1)]), (15, .return_, [])]
/-- CircuitNet$Joint.join(LCircuitNet$Joint;)V -/
def zk_58 : List zK := zk_58_0
def zk_59_0 : List zK := [(0, .aload_n 0, []), (1, .getfield 36, [(2, 5, 0)]), (4, .iconst 5, []), (5, .if_icmp .ne (7), [(12, 0, 0)]), (8, .iconst 1, []), (9, .goto (4), [(13, 0, 0)]), (12, .iconst 0, []), (13, .istore_n 1, []), (14, .aload_n 0, []), (15, .invokevirtual 48, [(2, 44, 0)]), (18, .astore_n 2, []), (19, .iload_n 1, []), (20, .ifCond .ne (10), [(30, 0, 0)]), (23, .aload_n 0, []), (24, .iconst 3, []), (25, .iconst 0, []), (26, .iconst 0, []), (27, .invokevirtual 44, [(2, 18, 3)]), (30, .aload_n 2, []), (31, .ifnull (7), [(38, 0, 0)]), (34, .aload_n 2, []), (35, .invokevirtual 52, [(2, 28, 0)]), (38, .return_, [])]
/-- CircuitNet$Joint.meetClear()V -/
def zk_59 : List zK := zk_59_0
def zk_60_0 : List zK := [(0, .aload_n 0, []), (1, .iload_n 1, []), (2, .iload_n 2, []), (3, .invokevirtual 87, [(5, 36, 2)]), (6, .astore_n 3, []), (7, .aload_n 3, []), (8, .ifnull (13), [(21, 0, 0)]), (11, .aload_n 3, []), (12, .getfield 91, [(1, 0, 2)]), (15, .invokevirtual 95, [(4, 37, 0)]), (18, .ifCond .ne (5), [(23, 0, 0)]), (21, .iconst 0, []), (22, .ireturn, [(1, 0, 0)]), (23, .aload_n 3, []), (24, .getfield 91, [(1, 0, 2)]), (27, .invokevirtual 102, [(4, 39, 0)]), (30, .iconst 1, []), (31, .ireturn, [(1, 0, 0)])]
/-- CircuitNet.lose(II)Z -/
def zk_60 : List zK := zk_60_0
def zk_61_0 : List zK := [(0, .iload_n 1, []), (1, .iconst 1, []), (2, .if_icmp .lt (9), [(11, 0, 0)]), (5, .iload_n 1, []), (6, .bipush 40, []), (8, .if_icmp .le (5), [(13, 0, 0)]), (11, .iconst 0, []), (12, .ireturn, [(1, 0, 0)]), (13, .iconst 0, []), (14, .istore_n 2, []), (15, .iload_n 2, []), (16, .iload_n 1, []), (17, .if_icmp .ge (35), [(52, 0, 0)]), (20, .iconst 0, []), (21, .istore_n 3, []), (22, .iload_n 3, []), (23, .aload_n 0, []), (24, .getfield 25, [(5, 0, 2)]), (27, .arraylength, []), (28, .if_icmp .ge (18), [(46, 0, 0)]), (31, .aload_n 0, []), (32, .getfield 25, [(5, 0, 2)]), (35, .iload_n 3, []), (36, .aaload, []), (37, .invokevirtual 135, [(1, 62, 0)]), (40, .iinc 3 1, []), (43, .goto (-21), [(22, 0, 0)]), (46, .iinc 2 1, []), (49, .goto (-34), [(15, 0, 0)]), (52, .iconst 1, []), (53, .ireturn, [(1, 0, 0)])]
/-- CircuitNet.tick(I)Z -/
def zk_61 : List zK := zk_61_0
def zk_62_0 : List zK := [(0, .aload_n 0, []), (1, .getfield 24, [(1, 6, 1)]), (4, .ifCond .eq (11), [(15, 0, 0)]), (7, .aload_n 0, []), (8, .getfield 69, [(1, 7, 0)]), (11, .ifCond .ne (4), [(15, 0, 0)]), (14, .return_, []), (15, .aload_n 0, []), (16, .dup, []), (17, .getfield 60, [(1, 11, 0)]), (20, .iconst 1, []), (21, .iadd, []), (22, .putfield 60, [(1, 11, 0)]), (25, .aload_n 0, []), (26, .getfield 60, [(1, 11, 0)]), (29, .iconst 4, []), (30, .if_icmp .ge (4), [(34, 0, 0)]), (33, .return_, []), (34, .aload_n 0, []), (35, .iconst 0, []), (36, .putfield 60, [(1, 11, 0)]), (39, .aload_n 0, []), (40, .getfield 24, [(1, 6, 1)]), (43, .ifCond .eq (26), [(69, 0, 0)]), (46, .aload_n 0, []), (47, .getfield 57, [(1, 10, 0)]), (50, .iconst 3, []), (51, .if_icmp .ge (18), [(69, 0, 0)]), (54, .aload_n 0, []), (55, .dup, []), (56, .getfield 57, [(1, 10, 0)]), (59, .iconst 1, []), (60, .iadd, []), (61, .putfield 57, [(1, 10, 0)]), (64, .aload_n 0, []), (65, .invokevirtual 79, [(1, 63, 0)]), (68, .return_, []), (69, .aload_n 0, []), (70, .getfield 24, [(1, 6, 1)]), (73, .ifCond .eq (22), [(95, 0, 0)]), (76, .aload_n 0, []), (77, .dup, []), (78, .getfield 44, [(1, 5, 0)]), (81, .iconst 1, []), (82, .iadd, []), (83, .putfield 44, [(1, 5, 0)]), (86, .aload_n 0, []), (87, .invokevirtual 48, [(1, 41, 0)]), (90, .aload_n 0, []), (91, .iconst 0, []), (92, .putfield 24, [(1, 6, 1)]), (95, .aload_n 0, []), (96, .getfield 32, [(1, 1, 2)]), (99, .iconst 0, []), (100, .aload_n 0, []), (101, .getfield 44, [(1, 5, 0)]), (104, .iconst (-1), []), (105, .iconst (-1), []), (106, .iconst (-1), []), (107, .invokevirtual 51, [(4, 24, 5)]), (110, .return_, [])]
/-- CircuitNet$End.passTime()V -/
def zk_62 : List zK := zk_62_0
def zk_63_0 : List zK := [(0, .iconst 0, []), (1, .istore_n 1, []), (2, .iload_n 1, []), (3, .aload_n 0, []), (4, .getfield 69, [(1, 7, 0)]), (7, .if_icmp .ge (42), [(49, 0, 0)]), (10, .aload_n 0, []), (11, .getfield 32, [(1, 1, 2)]), (14, .iconst 2, []), (15, .aload_n 0, []), (16, .getfield 44, [(1, 5, 0)]), (19, .aload_n 0, []), (20, .getfield 66, [(1, 8, 0)]), (23, .iload_n 1, []), (24, .iadd, []), (25, .bipush 7, []), (27, .iand, []), (28, .aload_n 0, []), (29, .getfield 76, [(1, 9, 0)]), (32, .aload_n 0, []), (33, .getfield 12, [(1, 3, 2)]), (36, .iload_n 1, []), (37, .invokevirtual 86, [(3, 23, 1)]), (40, .invokevirtual 51, [(4, 24, 5)]), (43, .iinc 1 1, []), (46, .goto (-44), [(2, 0, 0)]), (49, .return_, [])]
/-- CircuitNet$End.sendAgain()V -/
def zk_63 : List zK := zk_63_0
def zk_64_0 : List zK := [(0, .aload_n 0, []), (1, .iload_n 1, []), (2, .iload_n 2, []), (3, .invokevirtual 39, [(5, 13, 2)]), (6, .astore_n 3, []), (7, .aload_n 3, []), (8, .ifnonnull (7), [(15, 0, 0)]), (11, .iconst (-1), []), (12, .goto (7), [(19, 0, 0)]), (15, .aload_n 3, []), (16, .getfield 43, [(0, 7, 0)]), (19, .ireturn, [(0, 0, 0)])]
/-- CircuitNet.state(II)I -/
def zk_64 : List zK := zk_64_0
def zk_65_0 : List zK := [(0, .aload_n 0, []), (1, .iload_n 1, []), (2, .iload_n 2, []), (3, .invokevirtual 39, [(5, 13, 2)]), (6, .astore_n 3, []), (7, .aload_n 3, []), (8, .ifnull (10), [(18, 0, 0)]), (11, .aload_n 3, []), (12, .invokevirtual 57, [(0, 27, 0)]), (15, .ifCond .ne (7), [(22, 0, 0)]), (18, .iconst (-1), []), (19, .goto (7), [(26, 0, 0)]), (22, .aload_n 3, []), (23, .getfield 138, [(0, 0, 0)]), (26, .ireturn, [(0, 0, 0)])]
/-- CircuitNet.peer(II)I -/
def zk_65 : List zK := zk_65_0
def zk_66_0 : List zK := [(0, .aload_n 0, []), (1, .iload_n 1, []), (2, .iload_n 2, []), (3, .invokevirtual 39, [(5, 13, 2)]), (6, .astore_n 3, []), (7, .aload_n 3, []), (8, .ifnonnull (5), [(13, 0, 0)]), (11, .iconst (-1), []), (12, .ireturn, [(0, 0, 0)]), (13, .aload_n 3, []), (14, .getfield 43, [(0, 7, 0)]), (17, .iconst 3, []), (18, .if_icmp .ne (13), [(31, 0, 0)]), (21, .aload_n 3, []), (22, .getfield 74, [(0, 1, 2)]), (25, .invokevirtual 78, [(3, 16, 0)]), (28, .goto (4), [(32, 0, 0)]), (31, .iconst 0, []), (32, .ireturn, [(0, 0, 0)])]
/-- CircuitNet.unread(II)I -/
def zk_66 : List zK := zk_66_0
def zk_67_0 : List zK := [(0, .aload_n 0, []), (1, .iload_n 1, []), (2, .iload_n 2, []), (3, .invokevirtual 87, [(5, 36, 2)]), (6, .astore_n 3, []), (7, .aload_n 3, []), (8, .ifnonnull (7), [(15, 0, 0)]), (11, .iconst (-1), []), (12, .goto (10), [(22, 0, 0)]), (15, .aload_n 3, []), (16, .getfield 91, [(1, 0, 2)]), (19, .invokevirtual 95, [(4, 37, 0)]), (22, .ireturn, [(0, 0, 0)])]
/-- CircuitNet.frames(II)I -/
def zk_67 : List zK := zk_67_0
def zk_68_0 : List zK := [(0, .aload_n 0, []), (1, .iload_n 1, []), (2, .iload_n 2, []), (3, .invokevirtual 87, [(5, 36, 2)]), (6, .astore 5, []), (8, .aload 5, []), (10, .ifnull (8), [(18, 0, 0)]), (13, .iload 4, []), (15, .ifCond .ge (5), [(20, 0, 0)]), (18, .iconst (-1), []), (19, .ireturn, [(0, 0, 0)]), (20, .iload 4, []), (22, .iconst 4, []), (23, .if_icmp .ge (15), [(38, 0, 0)]), (26, .aload 5, []), (28, .getfield 91, [(1, 0, 2)]), (31, .iload_n 3, []), (32, .iload 4, []), (34, .invokevirtual 98, [(4, 38, 2)]), (37, .ireturn, [(0, 0, 0)]), (38, .aload 5, []), (40, .getfield 91, [(1, 0, 2)]), (43, .iload_n 3, []), (44, .iconst 4, []), (45, .invokevirtual 98, [(4, 38, 2)]), (48, .istore 6, []), (50, .iload 6, []), (52, .iconst (-1), []), (53, .if_icmp .ne (7), [(60, 0, 0)]), (56, .iconst (-1), []), (57, .goto (12), [(69, 0, 0)]), (60, .iload 6, []), (62, .iload 4, []), (64, .iconst 4, []), (65, .isub, []), (66, .invokestatic 127, [(99, 49, 2)]), (69, .ireturn, [(0, 0, 0)])]
/-- CircuitNet.frame(IIII)I -/
def zk_68 : List zK := zk_68_0
def zk_69_0 : List zK := [(0, .aload_n 0, []), (1, .iload_n 1, []), (2, .iload_n 2, []), (3, .invokevirtual 87, [(5, 36, 2)]), (6, .astore_n 3, []), (7, .aload_n 3, []), (8, .ifnonnull (7), [(15, 0, 0)]), (11, .iconst (-1), []), (12, .goto (10), [(22, 0, 0)]), (15, .aload_n 3, []), (16, .getfield 141, [(1, 3, 2)]), (19, .invokevirtual 78, [(3, 16, 0)]), (22, .ireturn, [(0, 0, 0)])]
/-- CircuitNet.row(II)I -/
def zk_69 : List zK := zk_69_0
def zk_70_0 : List zK := [(0, .aload_n 0, []), (1, .iload_n 1, []), (2, .iload_n 2, []), (3, .invokevirtual 87, [(5, 36, 2)]), (6, .astore_n 3, []), (7, .aload_n 3, []), (8, .ifnonnull (7), [(15, 0, 0)]), (11, .iconst (-1), []), (12, .goto (7), [(19, 0, 0)]), (15, .aload_n 3, []), (16, .getfield 112, [(1, 5, 0)]), (19, .ireturn, [(0, 0, 0)])]
/-- CircuitNet.epoch(II)I -/
def zk_70 : List zK := zk_70_0
def zk_71_0 : List zK := [(0, .aload_n 0, []), (1, .iload_n 1, []), (2, .iload_n 2, []), (3, .invokevirtual 87, [(5, 36, 2)]), (6, .astore_n 3, []), (7, .aload_n 3, []), (8, .ifnull (14), [(22, 0, 0)]), (11, .aload_n 3, []), (12, .getfield 33, [(1, 6, 1)]), (15, .ifCond .eq (7), [(22, 0, 0)]), (18, .iconst 1, []), (19, .goto (4), [(23, 0, 0)]), (22, .iconst 0, []), (23, .ireturn, [(1, 0, 0)])]
/-- CircuitNet.up(II)Z -/
def zk_71 : List zK := zk_71_0
def zk_72_0 : List zK := [(0, .aload_n 0, []), (1, .iload_n 1, []), (2, .iload_n 2, []), (3, .invokevirtual 87, [(5, 36, 2)]), (6, .astore_n 3, []), (7, .aload_n 3, []), (8, .ifnonnull (5), [(13, 0, 0)]), (11, .iconst (-1), []), (12, .ireturn, [(0, 0, 0)]), (13, .iconst 0, []), (14, .istore 4, []), (16, .iconst 0, []), (17, .istore 5, []), (19, .iload 5, []), (21, .iconst 3, []), (22, .if_icmp .ge (25), [(47, 0, 0)]), (25, .aload_n 3, []), (26, .getfield 144, [(1, 4, 2)]), (29, .iload 5, []), (31, .aaload, []), (32, .getfield 148, [(0, 7, 0), (2, 5, 0)]), (35, .ifCond .eq (6), [(41, 0, 0)]), (38, .iinc 4 1, []), (41, .iinc 5 1, []), (44, .goto (-25), [(19, 0, 0)]), (47, .iload 4, []), (49, .ireturn, [(0, 0, 0)])]
/-- CircuitNet.busy(II)I -/
def zk_72 : List zK := zk_72_0
def zk_73_0 : List zK := [(0, .aload_n 0, []), (1, .invokespecial 1, [(99, 1000, 0)]), (4, .aload_n 0, []), (5, .sipush 1600, []), (8, .newarray .int, [(20, 0, 0)]), (10, .putfield 7, [(6, 1, 2)]), (13, .aload_n 0, []), (14, .sipush 1600, []), (17, .newarray .int, [(20, 0, 0)]), (19, .putfield 13, [(6, 2, 2)]), (22, .aload_n 0, []), (23, .sipush 1600, []), (26, .newarray .int, [(20, 0, 0)]), (28, .putfield 16, [(6, 3, 2)]), (31, .aload_n 0, []), (32, .sipush 1600, []), (35, .newarray .int, [(20, 0, 0)]), (37, .putfield 19, [(6, 4, 2)]), (40, .aload_n 0, []), (41, .sipush 1600, []), (44, .newarray .int, [(20, 0, 0)]), (46, .putfield 22, [(6, 5, 2)]), (49, .aload_n 0, []), (50, .bipush 10, []), (52, .newarray .int, [(20, 0, 0)]), (54, .putfield 25, [(6, 6, 2)]), (57, .aload_n 0, []), (58, .sipush 640, []), (61, .newarray .int, [(20, 0, 0)]), (63, .putfield 28, [(6, 7, 2)]), (66, .aload_n 0, []), (67, .bipush 10, []), (69, .newarray .int, [(20, 0, 0)]), (71, .putfield 31, [(6, 8, 2)]), (74, .aload_n 0, []), (75, .bipush 10, []), (77, .newarray .boolean, [(21, 0, 0)]), (79, .putfield 34, [(6, 9, 2)]), (82, .aload_n 0, []), (83, .bipush 10, []), (85, .newarray .int, [(20, 0, 0)]), (87, .putfield 38, [(6, 10, 2)]), (90, .aload_n 0, []), (91, .bipush 10, []), (93, .newarray .int, [(20, 0, 0)]), (95, .putfield 41, [(6, 11, 2)]), (98, .aload_n 0, []), (99, .bipush 10, []), (101, .newarray .int, [(20, 0, 0)]), (103, .putfield 44, [(6, 12, 2)]), (106, .aload_n 0, []), (107, .bipush 10, []), (109, .newarray .int, [(20, 0, 0)]), (111, .putfield 47, [(6, 13, 2)]), (114, .aload_n 0, []), (115, .bipush 10, []), (117, .newarray .int, [(20, 0, 0)]), (119, .putfield 50, [(6, 14, 2)]), (122, .aload_n 0, []), (123, .bipush 30, []), (125, .newarray .int, [(20, 0, 0)]), (127, .putfield 53, [(6, 15, 2)]), (130, .aload_n 0, []), (131, .bipush 30, []), (133, .newarray .int, [(20, 0, 0)]), (135, .putfield 56, [(6, 16, 2)]), (138, .aload_n 0, []), (139, .bipush 30, []), (141, .newarray .boolean, [(21, 0, 0)]), (143, .putfield 59, [(6, 17, 2)]), (146, .aload_n 0, []), (147, .bipush 30, []), (149, .newarray .int, [(20, 0, 0)]), (151, .putfield 62, [(6, 18, 2)]), (154, .aload_n 0, []), (155, .bipush 30, []), (157, .newarray .int, [(20, 0, 0)]), (159, .putfield 65, [(6, 19, 2)]), (162, .aload_n 0, []), (163, .bipush 30, []), (165, .newarray .int, [(20, 0, 0)]), (167, .putfield 68, [(6, 20, 2)]), (170, .aload_n 0, []), (171, .bipush 30, []), (173, .newarray .int, [(20, 0, 0)]), (175, .putfield 71, [(6, 21, 2)]), (178, .aload_n 0, []), (179, .bipush 12, []), (181, .newarray .int, [(20, 0, 0)]), (183, .putfield 74, [(6, 22, 2)]), (186, .aload_n 0, []), (187, .sipush 6144, []), (190, .newarray .int, [(20, 0, 0)]), (192, .putfield 77, [(6, 23, 2)]), (195, .return_, [])]
/-- CircuitNetModel.<init>()V -/
def zk_73 : List zK := zk_73_0
def zk_74_0 : List zK := [(0, .iload_n 1, []), (1, .iconst 1, []), (2, .if_icmp .lt (9), [(11, 0, 0)]), (5, .iload_n 1, []), (6, .bipush 40, []), (8, .if_icmp .le (5), [(13, 0, 0)]), (11, .iconst 0, []), (12, .ireturn, [(1, 0, 0)]), (13, .iconst 0, []), (14, .istore_n 2, []), (15, .iload_n 2, []), (16, .iload_n 1, []), (17, .if_icmp .ge (28), [(45, 0, 0)]), (20, .iconst 0, []), (21, .istore_n 3, []), (22, .iload_n 3, []), (23, .bipush 10, []), (25, .if_icmp .ge (14), [(39, 0, 0)]), (28, .aload_n 0, []), (29, .iload_n 3, []), (30, .invokevirtual 133, [(6, 75, 1)]), (33, .iinc 3 1, []), (36, .goto (-14), [(22, 0, 0)]), (39, .iinc 2 1, []), (42, .goto (-27), [(15, 0, 0)]), (45, .iconst 1, []), (46, .ireturn, [(1, 0, 0)])]
/-- CircuitNetModel.tick(I)Z -/
def zk_74 : List zK := zk_74_0
def zk_75_0 : List zK := [(0, .aload_n 0, []), (1, .getfield 34, [(6, 9, 2)]), (4, .iload_n 1, []), (5, .baload, []), (6, .ifCond .ne (12), [(18, 0, 0)]), (9, .aload_n 0, []), (10, .getfield 38, [(6, 10, 2)]), (13, .iload_n 1, []), (14, .iaload, []), (15, .ifCond .le (7), [(22, 0, 0)]), (18, .iconst 1, []), (19, .goto (4), [(23, 0, 0)]), (22, .iconst 0, []), (23, .istore_n 2, []), (24, .aload_n 0, []), (25, .getfield 50, [(6, 14, 2)]), (28, .iload_n 1, []), (29, .iload_n 2, []), (30, .ifCond .eq (14), [(44, 0, 0)]), (33, .aload_n 0, []), (34, .getfield 50, [(6, 14, 2)]), (37, .iload_n 1, []), (38, .iaload, []), (39, .iconst 1, []), (40, .iadd, []), (41, .goto (4), [(45, 0, 0)]), (44, .iconst 0, []), (45, .iastore, []), (46, .aload_n 0, []), (47, .getfield 50, [(6, 14, 2)]), (50, .iload_n 1, []), (51, .iaload, []), (52, .iconst 4, []), (53, .if_icmp .ge (4), [(57, 0, 0)]), (56, .return_, []), (57, .aload_n 0, []), (58, .getfield 50, [(6, 14, 2)]), (61, .iload_n 1, []), (62, .iconst 0, []), (63, .iastore, []), (64, .aload_n 0, []), (65, .getfield 34, [(6, 9, 2)]), (68, .iload_n 1, []), (69, .baload, []), (70, .ifCond .eq (13), [(83, 0, 0)]), (73, .aload_n 0, []), (74, .iload_n 1, []), (75, .iconst 0, []), (76, .invokevirtual 96, [(6, 76, 2)]), (79, .pop, []), (80, .goto (55), [(135, 0, 0)]), (83, .aload_n 0, []), (84, .getfield 47, [(6, 13, 2)]), (87, .iload_n 1, []), (88, .iaload, []), (89, .iconst 3, []), (90, .if_icmp .ne (11), [(101, 0, 0)]), (93, .aload_n 0, []), (94, .iload_n 1, []), (95, .invokevirtual 130, [(6, 77, 1)]), (98, .goto (37), [(135, 0, 0)]), (101, .aload_n 0, []), (102, .getfield 47, [(6, 13, 2)]), (105, .iload_n 1, []), (106, .dup2, []), (107, .iaload, []), (108, .iconst 1, []), (109, .iadd, []), (110, .iastore, []), (111, .iconst 0, []), (112, .istore_n 3, []), (113, .iload_n 3, []), (114, .aload_n 0, []), (115, .getfield 38, [(6, 10, 2)]), (118, .iload_n 1, []), (119, .iaload, []), (120, .if_icmp .ge (15), [(135, 0, 0)]), (123, .aload_n 0, []), (124, .iload_n 1, []), (125, .iload_n 3, []), (126, .invokevirtual 107, [(6, 87, 2)]), (129, .iinc 3 1, []), (132, .goto (-19), [(113, 0, 0)]), (135, .return_, [])]
/-- CircuitNetModel.tickOf(I)V -/
def zk_75 : List zK := zk_75_0
def zk_76_0 : List zK := [(0, .iload_n 1, []), (1, .iconst 2, []), (2, .irem, []), (3, .ifCond .ne (9), [(12, 0, 0)]), (6, .iload_n 1, []), (7, .iconst 1, []), (8, .iadd, []), (9, .goto (6), [(15, 0, 0)]), (12, .iload_n 1, []), (13, .iconst 1, []), (14, .isub, []), (15, .istore_n 3, []), (16, .aload_n 0, []), (17, .getfield 25, [(6, 6, 2)]), (20, .iload_n 3, []), (21, .iaload, []), (22, .bipush 8, []), (24, .if_icmp .ne (5), [(29, 0, 0)]), (27, .iconst (-1), []), (28, .ireturn, [(0, 0, 0)]), (29, .bipush 64, []), (31, .iload_n 3, []), (32, .imul, []), (33, .bipush 8, []), (35, .aload_n 0, []), (36, .getfield 25, [(6, 6, 2)]), (39, .iload_n 3, []), (40, .iaload, []), (41, .imul, []), (42, .iadd, []), (43, .istore 4, []), (45, .aload_n 0, []), (46, .getfield 25, [(6, 6, 2)]), (49, .iload_n 3, []), (50, .dup2, []), (51, .iaload, []), (52, .iconst 1, []), (53, .iadd, []), (54, .iastore, []), (55, .aload_n 0, []), (56, .getfield 28, [(6, 7, 2)]), (59, .iload 4, []), (61, .iload_n 2, []), (62, .iastore, []), (63, .aload_n 0, []), (64, .getfield 28, [(6, 7, 2)]), (67, .iload 4, []), (69, .iconst 1, []), (70, .iadd, []), (71, .aload_n 0, []), (72, .getfield 31, [(6, 8, 2)]), (75, .iload_n 1, []), (76, .iaload, []), (77, .iastore, []), (78, .aload_n 0, []), (79, .getfield 28, [(6, 7, 2)]), (82, .iload 4, []), (84, .iconst 3, []), (85, .iadd, []), (86, .aload_n 0, []), (87, .getfield 44, [(6, 12, 2)]), (90, .iload_n 1, []), (91, .iaload, []), (92, .iastore, []), (93, .iload 4, []), (95, .ireturn, [(0, 0, 0)])]
/-- CircuitNetModel.post(II)I -/
def zk_76 : List zK := zk_76_0
def zk_77_0 : List zK := [(0, .aload_n 0, []), (1, .getfield 31, [(6, 8, 2)]), (4, .iload_n 1, []), (5, .dup2, []), (6, .iaload, []), (7, .iconst 1, []), (8, .iadd, []), (9, .iastore, []), (10, .aload_n 0, []), (11, .iload_n 1, []), (12, .invokevirtual 127, [(6, 78, 1)]), (15, .aload_n 0, []), (16, .getfield 34, [(6, 9, 2)]), (19, .iload_n 1, []), (20, .iconst 1, []), (21, .bastore, []), (22, .aload_n 0, []), (23, .iload_n 1, []), (24, .iconst 0, []), (25, .invokevirtual 96, [(6, 76, 2)]), (28, .pop, []), (29, .return_, [])]
/-- CircuitNetModel.fail(I)V -/
def zk_77 : List zK := zk_77_0
def zk_78_0 : List zK := [(0, .aload_n 0, []), (1, .iload_n 1, []), (2, .aload_n 0, []), (3, .getfield 84, [(6, 0, 0)]), (6, .invokevirtual 111, [(6, 79, 2)]), (9, .aload_n 0, []), (10, .getfield 38, [(6, 10, 2)]), (13, .iload_n 1, []), (14, .iconst 0, []), (15, .iastore, []), (16, .aload_n 0, []), (17, .getfield 41, [(6, 11, 2)]), (20, .iload_n 1, []), (21, .iconst 0, []), (22, .iastore, []), (23, .aload_n 0, []), (24, .getfield 44, [(6, 12, 2)]), (27, .iload_n 1, []), (28, .iconst 0, []), (29, .iastore, []), (30, .aload_n 0, []), (31, .getfield 47, [(6, 13, 2)]), (34, .iload_n 1, []), (35, .iconst 0, []), (36, .iastore, []), (37, .aload_n 0, []), (38, .getfield 50, [(6, 14, 2)]), (41, .iload_n 1, []), (42, .iconst 0, []), (43, .iastore, []), (44, .iconst 3, []), (45, .iload_n 1, []), (46, .imul, []), (47, .istore_n 2, []), (48, .iload_n 2, []), (49, .iconst 3, []), (50, .iload_n 1, []), (51, .imul, []), (52, .iconst 3, []), (53, .iadd, []), (54, .if_icmp .ge (15), [(69, 0, 0)]), (57, .aload_n 0, []), (58, .iload_n 1, []), (59, .iload_n 2, []), (60, .invokevirtual 114, [(6, 80, 2)]), (63, .iinc 2 1, []), (66, .goto (-18), [(48, 0, 0)]), (69, .return_, [])]
/-- CircuitNetModel.breakUp(I)V -/
def zk_78 : List zK := zk_78_0
def zk_79_0 : List zK := [(0, .iconst 0, []), (1, .istore_n 3, []), (2, .iconst 0, []), (3, .istore 4, []), (5, .iconst 0, []), (6, .istore 5, []), (8, .iload 5, []), (10, .aload_n 0, []), (11, .getfield 84, [(6, 0, 0)]), (14, .if_icmp .ge (104), [(118, 0, 0)]), (17, .aload_n 0, []), (18, .getfield 7, [(6, 1, 2)]), (21, .iload 5, []), (23, .iaload, []), (24, .iload_n 1, []), (25, .if_icmp .ne (14), [(39, 0, 0)]), (28, .iload_n 3, []), (29, .iload_n 2, []), (30, .if_icmp .ge (9), [(39, 0, 0)]), (33, .iinc 3 1, []), (36, .goto (76), [(112, 0, 0)]), (39, .aload_n 0, []), (40, .getfield 7, [(6, 1, 2)]), (43, .iload 4, []), (45, .aload_n 0, []), (46, .getfield 7, [(6, 1, 2)]), (49, .iload 5, []), (51, .iaload, []), (52, .iastore, []), (53, .aload_n 0, []), (54, .getfield 13, [(6, 2, 2)]), (57, .iload 4, []), (59, .aload_n 0, []), (60, .getfield 13, [(6, 2, 2)]), (63, .iload 5, []), (65, .iaload, []), (66, .iastore, []), (67, .aload_n 0, []), (68, .getfield 16, [(6, 3, 2)]), (71, .iload 4, []), (73, .aload_n 0, []), (74, .getfield 16, [(6, 3, 2)]), (77, .iload 5, []), (79, .iaload, []), (80, .iastore, []), (81, .aload_n 0, []), (82, .getfield 19, [(6, 4, 2)]), (85, .iload 4, []), (87, .aload_n 0, []), (88, .getfield 19, [(6, 4, 2)]), (91, .iload 5, []), (93, .iaload, []), (94, .iastore, []), (95, .aload_n 0, []), (96, .getfield 22, [(6, 5, 2)]), (99, .iload 4, []), (101, .aload_n 0, []), (102, .getfield 22, [(6, 5, 2)]), (105, .iload 5, []), (107, .iaload, []), (108, .iastore, []), (109, .iinc 4 1, []), (112, .iinc 5 1, []), (115, .goto (-107), [(8, 0, 0)]), (118, .aload_n 0, []), (119, .iload 4, []), (121, .putfield 84, [(6, 0, 0)]), (124, .return_, [])]
/-- CircuitNetModel.remove(II)V -/
def zk_79 : List zK := zk_79_0
def zk_80_0 : List zK := [(0, .aload_n 0, []), (1, .getfield 53, [(6, 15, 2)]), (4, .iload_n 2, []), (5, .iaload, []), (6, .istore_n 3, []), (7, .aload_n 0, []), (8, .getfield 53, [(6, 15, 2)]), (11, .iload_n 2, []), (12, .iconst 0, []), (13, .iastore, []), (14, .iload_n 1, []), (15, .invokestatic 117, [(99, 81, 1)]), (18, .ifCond .eq (18), [(36, 0, 0)]), (21, .iload_n 3, []), (22, .iconst 1, []), (23, .if_icmp .ne (13), [(36, 0, 0)]), (26, .aload_n 0, []), (27, .aload_n 0, []), (28, .getfield 56, [(6, 16, 2)]), (31, .iload_n 2, []), (32, .iaload, []), (33, .invokevirtual 121, [(6, 82, 1)]), (36, .return_, [])]
/-- CircuitNetModel.lost(II)V -/
def zk_80 : List zK := zk_80_0
def zk_81_0 : List zK := [(0, .iload_n 0, []), (1, .iconst 2, []), (2, .irem, []), (3, .iconst 1, []), (4, .if_icmp .eq (9), [(13, 0, 0)]), (7, .iload_n 0, []), (8, .bipush 8, []), (10, .if_icmp .ne (7), [(17, 0, 0)]), (13, .iconst 1, []), (14, .goto (4), [(18, 0, 0)]), (17, .iconst 0, []), (18, .ireturn, [(1, 0, 0)])]
/-- CircuitNetModel.atSwitch(I)Z -/
def zk_81 : List zK := zk_81_0
def zk_82_0 : List zK := [(0, .aload_n 0, []), (1, .getfield 53, [(6, 15, 2)]), (4, .iload_n 1, []), (5, .iconst 5, []), (6, .iastore, []), (7, .aload_n 0, []), (8, .getfield 59, [(6, 17, 2)]), (11, .iload_n 1, []), (12, .iconst 0, []), (13, .bastore, []), (14, .aload_n 0, []), (15, .iload_n 1, []), (16, .iconst 2, []), (17, .invokevirtual 124, [(6, 83, 2)]), (20, .return_, [])]
/-- CircuitNetModel.cut(I)V -/
def zk_82 : List zK := zk_82_0
def zk_83_0 : List zK := [(0, .aload_n 0, []), (1, .iload_n 1, []), (2, .iconst 3, []), (3, .idiv, []), (4, .iload_n 2, []), (5, .iload_n 1, []), (6, .iconst 3, []), (7, .irem, []), (8, .iconst 1, []), (9, .iadd, []), (10, .iconst 0, []), (11, .iconst 0, []), (12, .invokevirtual 92, [(6, 84, 5)]), (15, .return_, [])]
/-- CircuitNetModel.putOn(II)V -/
def zk_83 : List zK := zk_83_0
def zk_84_0 : List zK := [(0, .aload_n 0, []), (1, .getfield 7, [(6, 1, 2)]), (4, .aload_n 0, []), (5, .getfield 84, [(6, 0, 0)]), (8, .iload_n 1, []), (9, .iastore, []), (10, .aload_n 0, []), (11, .getfield 13, [(6, 2, 2)]), (14, .aload_n 0, []), (15, .getfield 84, [(6, 0, 0)]), (18, .iload_n 2, []), (19, .iastore, []), (20, .aload_n 0, []), (21, .getfield 16, [(6, 3, 2)]), (24, .aload_n 0, []), (25, .getfield 84, [(6, 0, 0)]), (28, .iload_n 3, []), (29, .iastore, []), (30, .aload_n 0, []), (31, .getfield 19, [(6, 4, 2)]), (34, .aload_n 0, []), (35, .getfield 84, [(6, 0, 0)]), (38, .iload 4, []), (40, .iastore, []), (41, .aload_n 0, []), (42, .getfield 22, [(6, 5, 2)]), (45, .aload_n 0, []), (46, .getfield 84, [(6, 0, 0)]), (49, .iload 5, []), (51, .iastore, []), (52, .aload_n 0, []), (53, .dup, []), (54, .getfield 84, [(6, 0, 0)]), (57, .iconst 1, []), (58, .iadd, []), (59, .putfield 84, [(6, 0, 0)]), (62, .aload_n 0, []), (63, .iload_n 1, []), (64, .invokevirtual 88, [(6, 85, 1)]), (67, .return_, [])]
/-- CircuitNetModel.put(IIIII)V -/
def zk_84 : List zK := zk_84_0
def zk_85_0 : List zK := [(0, .aload_n 0, []), (1, .iload_n 1, []), (2, .invokevirtual 103, [(6, 86, 1)]), (5, .istore_n 2, []), (6, .aload_n 0, []), (7, .getfield 34, [(6, 9, 2)]), (10, .iload_n 1, []), (11, .baload, []), (12, .ifCond .ne (47), [(59, 0, 0)]), (15, .aload_n 0, []), (16, .getfield 38, [(6, 10, 2)]), (19, .iload_n 1, []), (20, .iaload, []), (21, .iconst 4, []), (22, .if_icmp .ge (37), [(59, 0, 0)]), (25, .aload_n 0, []), (26, .getfield 38, [(6, 10, 2)]), (29, .iload_n 1, []), (30, .iaload, []), (31, .iload_n 2, []), (32, .if_icmp .ge (27), [(59, 0, 0)]), (35, .aload_n 0, []), (36, .iload_n 1, []), (37, .aload_n 0, []), (38, .getfield 38, [(6, 10, 2)]), (41, .iload_n 1, []), (42, .iaload, []), (43, .invokevirtual 107, [(6, 87, 2)]), (46, .aload_n 0, []), (47, .getfield 38, [(6, 10, 2)]), (50, .iload_n 1, []), (51, .dup2, []), (52, .iaload, []), (53, .iconst 1, []), (54, .iadd, []), (55, .iastore, []), (56, .goto (-50), [(6, 0, 0)]), (59, .return_, [])]
/-- CircuitNetModel.sendOn(I)V -/
def zk_85 : List zK := zk_85_0
def zk_86_0 : List zK := [(0, .iconst 0, []), (1, .istore_n 2, []), (2, .iconst 0, []), (3, .istore_n 3, []), (4, .iload_n 3, []), (5, .aload_n 0, []), (6, .getfield 84, [(6, 0, 0)]), (9, .if_icmp .ge (27), [(36, 0, 0)]), (12, .iload_n 2, []), (13, .aload_n 0, []), (14, .getfield 7, [(6, 1, 2)]), (17, .iload_n 3, []), (18, .iaload, []), (19, .iload_n 1, []), (20, .if_icmp .ne (7), [(27, 0, 0)]), (23, .iconst 1, []), (24, .goto (4), [(28, 0, 0)]), (27, .iconst 0, []), (28, .iadd, []), (29, .istore_n 2, []), (30, .iinc 3 1, []), (33, .goto (-29), [(4, 0, 0)]), (36, .iload_n 2, []), (37, .ireturn, [(0, 0, 0)])]
/-- CircuitNetModel.length(I)I -/
def zk_86 : List zK := zk_86_0
def zk_87_0 : List zK := [(0, .aload_n 0, []), (1, .iload_n 1, []), (2, .iconst 2, []), (3, .invokevirtual 96, [(6, 76, 2)]), (6, .istore_n 3, []), (7, .iload_n 3, []), (8, .ifCond .ge (4), [(12, 0, 0)]), (11, .return_, []), (12, .aload_n 0, []), (13, .iload_n 1, []), (14, .iload_n 2, []), (15, .invokevirtual 100, [(6, 88, 2)]), (18, .istore 4, []), (20, .aload_n 0, []), (21, .getfield 28, [(6, 7, 2)]), (24, .iload_n 3, []), (25, .iconst 2, []), (26, .iadd, []), (27, .aload_n 0, []), (28, .getfield 41, [(6, 11, 2)]), (31, .iload_n 1, []), (32, .iaload, []), (33, .iload_n 2, []), (34, .iadd, []), (35, .bipush 8, []), (37, .irem, []), (38, .iastore, []), (39, .aload_n 0, []), (40, .getfield 28, [(6, 7, 2)]), (43, .iload_n 3, []), (44, .iconst 4, []), (45, .iadd, []), (46, .aload_n 0, []), (47, .getfield 13, [(6, 2, 2)]), (50, .iload 4, []), (52, .iaload, []), (53, .iastore, []), (54, .aload_n 0, []), (55, .getfield 28, [(6, 7, 2)]), (58, .iload_n 3, []), (59, .iconst 5, []), (60, .iadd, []), (61, .aload_n 0, []), (62, .getfield 16, [(6, 3, 2)]), (65, .iload 4, []), (67, .iaload, []), (68, .iastore, []), (69, .aload_n 0, []), (70, .getfield 28, [(6, 7, 2)]), (73, .iload_n 3, []), (74, .bipush 6, []), (76, .iadd, []), (77, .aload_n 0, []), (78, .getfield 19, [(6, 4, 2)]), (81, .iload 4, []), (83, .iaload, []), (84, .iastore, []), (85, .aload_n 0, []), (86, .getfield 28, [(6, 7, 2)]), (89, .iload_n 3, []), (90, .bipush 7, []), (92, .iadd, []), (93, .aload_n 0, []), (94, .getfield 22, [(6, 5, 2)]), (97, .iload 4, []), (99, .iaload, []), (100, .iastore, []), (101, .return_, [])]
/-- CircuitNetModel.info(II)V -/
def zk_87 : List zK := zk_87_0
def zk_88_0 : List zK := [(0, .iload_n 2, []), (1, .istore_n 3, []), (2, .iconst 0, []), (3, .istore 4, []), (5, .iload 4, []), (7, .aload_n 0, []), (8, .getfield 84, [(6, 0, 0)]), (11, .if_icmp .ge (30), [(41, 0, 0)]), (14, .aload_n 0, []), (15, .getfield 7, [(6, 1, 2)]), (18, .iload 4, []), (20, .iaload, []), (21, .iload_n 1, []), (22, .if_icmp .ne (13), [(35, 0, 0)]), (25, .iload_n 3, []), (26, .ifCond .ne (6), [(32, 0, 0)]), (29, .iload 4, []), (31, .ireturn, [(0, 0, 0)]), (32, .iinc 3 (-1), []), (35, .iinc 4 1, []), (38, .goto (-33), [(5, 0, 0)]), (41, .iconst 0, []), (42, .ireturn, [(0, 0, 0)])]
/-- CircuitNetModel.packet(II)I -/
def zk_88 : List zK := zk_88_0
def zk_89_0 : List zK := [(0, .iload_n 1, []), (1, .iload_n 2, []), (2, .invokestatic 136, [(99, 90, 2)]), (5, .ifCond .ne (16), [(21, 0, 0)]), (8, .aload_n 0, []), (9, .getfield 25, [(6, 6, 2)]), (12, .iconst 2, []), (13, .iload_n 1, []), (14, .imul, []), (15, .iload_n 2, []), (16, .iadd, []), (17, .iaload, []), (18, .ifCond .ne (5), [(23, 0, 0)]), (21, .iconst 0, []), (22, .ireturn, [(1, 0, 0)]), (23, .iconst 2, []), (24, .iload_n 1, []), (25, .imul, []), (26, .iload_n 2, []), (27, .iadd, []), (28, .istore_n 3, []), (29, .bipush 64, []), (31, .iload_n 3, []), (32, .imul, []), (33, .istore 4, []), (35, .aload_n 0, []), (36, .getfield 28, [(6, 7, 2)]), (39, .iload 4, []), (41, .iaload, []), (42, .istore 5, []), (44, .aload_n 0, []), (45, .getfield 28, [(6, 7, 2)]), (48, .iload 4, []), (50, .iconst 1, []), (51, .iadd, []), (52, .iaload, []), (53, .istore 6, []), (55, .aload_n 0, []), (56, .getfield 28, [(6, 7, 2)]), (59, .iload 4, []), (61, .iconst 2, []), (62, .iadd, []), (63, .iaload, []), (64, .istore 7, []), (66, .aload_n 0, []), (67, .getfield 28, [(6, 7, 2)]), (70, .iload 4, []), (72, .iconst 3, []), (73, .iadd, []), (74, .iaload, []), (75, .istore 8, []), (77, .aload_n 0, []), (78, .getfield 28, [(6, 7, 2)]), (81, .iload 4, []), (83, .iconst 4, []), (84, .iadd, []), (85, .iaload, []), (86, .istore 9, []), (88, .aload_n 0, []), (89, .getfield 28, [(6, 7, 2)]), (92, .iload 4, []), (94, .iconst 5, []), (95, .iadd, []), (96, .iaload, []), (97, .istore 10, []), (99, .aload_n 0, []), (100, .getfield 28, [(6, 7, 2)]), (103, .iload 4, []), (105, .bipush 6, []), (107, .iadd, []), (108, .iaload, []), (109, .istore 11, []), (111, .aload_n 0, []), (112, .getfield 28, [(6, 7, 2)]), (115, .iload 4, []), (117, .bipush 7, []), (119, .iadd, []), (120, .iaload, []), (121, .istore 12, []), (123, .aload_n 0, []), (124, .iload_n 3, []), (125, .invokevirtual 139, [(6, 92, 1)]), (128, .iload 5, []), (130, .ifCond .ne (13), [(143, 0, 0)]), (133, .aload_n 0, []), (134, .iload_n 3, []), (135, .iload 6, []), (137, .invokevirtual 142, [(6, 93, 2)]), (140, .goto (165), [(305, 0, 0)]), (143, .iload 5, []), (145, .iconst 1, []), (146, .if_icmp .ne (52), [(198, 0, 0)]), (149, .aload_n 0, []), (150, .getfield 34, [(6, 9, 2)]), (153, .iload_n 3, []), (154, .baload, []), (155, .ifCond .eq (150), [(305, 0, 0)]), (158, .iload 6, []), (160, .aload_n 0, []), (161, .getfield 31, [(6, 8, 2)])]
def zk_89_1 : List zK := [(164, .iload_n 3, []), (165, .iaload, []), (166, .if_icmp .ne (139), [(305, 0, 0)]), (169, .aload_n 0, []), (170, .getfield 34, [(6, 9, 2)]), (173, .iload_n 3, []), (174, .iconst 0, []), (175, .bastore, []), (176, .aload_n 0, []), (177, .getfield 47, [(6, 13, 2)]), (180, .iload_n 3, []), (181, .iconst 0, []), (182, .iastore, []), (183, .aload_n 0, []), (184, .getfield 50, [(6, 14, 2)]), (187, .iload_n 3, []), (188, .iconst 0, []), (189, .iastore, []), (190, .aload_n 0, []), (191, .iload_n 3, []), (192, .invokevirtual 88, [(6, 85, 1)]), (195, .goto (110), [(305, 0, 0)]), (198, .aload_n 0, []), (199, .getfield 34, [(6, 9, 2)]), (202, .iload_n 3, []), (203, .baload, []), (204, .ifCond .ne (101), [(305, 0, 0)]), (207, .iload 6, []), (209, .aload_n 0, []), (210, .getfield 31, [(6, 8, 2)]), (213, .iload_n 3, []), (214, .iaload, []), (215, .if_icmp .ne (90), [(305, 0, 0)]), (218, .aload_n 0, []), (219, .iload_n 3, []), (220, .iload 8, []), (222, .invokevirtual 145, [(6, 94, 2)]), (225, .iload 5, []), (227, .iconst 2, []), (228, .if_icmp .ne (77), [(305, 0, 0)]), (231, .iload 7, []), (233, .aload_n 0, []), (234, .getfield 44, [(6, 12, 2)]), (237, .iload_n 3, []), (238, .iaload, []), (239, .if_icmp .ne (7), [(246, 0, 0)]), (242, .iconst 1, []), (243, .goto (4), [(247, 0, 0)]), (246, .iconst 0, []), (247, .istore 13, []), (249, .aload_n 0, []), (250, .getfield 44, [(6, 12, 2)]), (253, .iload_n 3, []), (254, .iload 13, []), (256, .ifCond .eq (17), [(273, 0, 0)]), (259, .aload_n 0, []), (260, .getfield 44, [(6, 12, 2)]), (263, .iload_n 3, []), (264, .iaload, []), (265, .iconst 1, []), (266, .iadd, []), (267, .bipush 8, []), (269, .irem, []), (270, .goto (9), [(279, 0, 0)]), (273, .aload_n 0, []), (274, .getfield 44, [(6, 12, 2)]), (277, .iload_n 3, []), (278, .iaload, []), (279, .iastore, []), (280, .aload_n 0, []), (281, .iload_n 3, []), (282, .iconst 3, []), (283, .invokevirtual 96, [(6, 76, 2)]), (286, .pop, []), (287, .iload 13, []), (289, .ifCond .eq (16), [(305, 0, 0)]), (292, .aload_n 0, []), (293, .iload_n 3, []), (294, .iload 9, []), (296, .iload 10, []), (298, .iload 11, []), (300, .iload 12, []), (302, .invokevirtual 148, [(6, 95, 5)]), (305, .iconst 1, []), (306, .ireturn, [(1, 0, 0)])]
/-- CircuitNetModel.deliver(II)Z -/
def zk_89 : List zK := zk_89_0 ++ zk_89_1
def zk_90_0 : List zK := [(0, .iload_n 0, []), (1, .iconst 5, []), (2, .invokestatic 80, [(99, 91, 2)]), (5, .ifCond .eq (11), [(16, 0, 0)]), (8, .iload_n 1, []), (9, .iconst 2, []), (10, .invokestatic 80, [(99, 91, 2)]), (13, .ifCond .ne (7), [(20, 0, 0)]), (16, .iconst 1, []), (17, .goto (4), [(21, 0, 0)]), (20, .iconst 0, []), (21, .ireturn, [(1, 0, 0)])]
/-- CircuitNetModel.noEnd(II)Z -/
def zk_90 : List zK := zk_90_0
def zk_91_0 : List zK := [(0, .iload_n 0, []), (1, .ifCond .lt (12), [(13, 0, 0)]), (4, .iload_n 0, []), (5, .iload_n 1, []), (6, .if_icmp .ge (7), [(13, 0, 0)]), (9, .iconst 1, []), (10, .goto (4), [(14, 0, 0)]), (13, .iconst 0, []), (14, .ireturn, [(1, 0, 0)])]
/-- CircuitNetModel.below(II)Z -/
def zk_91 : List zK := zk_91_0
def zk_92_0 : List zK := [(0, .bipush 64, []), (2, .iload_n 1, []), (3, .imul, []), (4, .istore_n 2, []), (5, .iload_n 2, []), (6, .istore_n 3, []), (7, .iload_n 3, []), (8, .iload_n 2, []), (9, .bipush 56, []), (11, .iadd, []), (12, .if_icmp .ge (24), [(36, 0, 0)]), (15, .aload_n 0, []), (16, .getfield 28, [(6, 7, 2)]), (19, .iload_n 3, []), (20, .aload_n 0, []), (21, .getfield 28, [(6, 7, 2)]), (24, .iload_n 3, []), (25, .bipush 8, []), (27, .iadd, []), (28, .iaload, []), (29, .iastore, []), (30, .iinc 3 1, []), (33, .goto (-26), [(7, 0, 0)]), (36, .aload_n 0, []), (37, .getfield 25, [(6, 6, 2)]), (40, .iload_n 1, []), (41, .dup2, []), (42, .iaload, []), (43, .iconst 1, []), (44, .isub, []), (45, .iastore, []), (46, .return_, [])]
/-- CircuitNetModel.shift(I)V -/
def zk_92 : List zK := zk_92_0
def zk_93_0 : List zK := [(0, .iload_n 2, []), (1, .aload_n 0, []), (2, .getfield 31, [(6, 8, 2)]), (5, .iload_n 1, []), (6, .iaload, []), (7, .if_icmp .le (22), [(29, 0, 0)]), (10, .aload_n 0, []), (11, .getfield 31, [(6, 8, 2)]), (14, .iload_n 1, []), (15, .iload_n 2, []), (16, .iastore, []), (17, .aload_n 0, []), (18, .iload_n 1, []), (19, .invokevirtual 127, [(6, 78, 1)]), (22, .aload_n 0, []), (23, .getfield 34, [(6, 9, 2)]), (26, .iload_n 1, []), (27, .iconst 0, []), (28, .bastore, []), (29, .iload_n 2, []), (30, .aload_n 0, []), (31, .getfield 31, [(6, 8, 2)]), (34, .iload_n 1, []), (35, .iaload, []), (36, .if_icmp .ne (10), [(46, 0, 0)]), (39, .aload_n 0, []), (40, .iload_n 1, []), (41, .iconst 1, []), (42, .invokevirtual 96, [(6, 76, 2)]), (45, .pop, []), (46, .return_, [])]
/-- CircuitNetModel.set(II)V -/
def zk_93 : List zK := zk_93_0
def zk_94_0 : List zK := [(0, .iload_n 2, []), (1, .aload_n 0, []), (2, .getfield 41, [(6, 11, 2)]), (5, .iload_n 1, []), (6, .iaload, []), (7, .isub, []), (8, .bipush 8, []), (10, .iadd, []), (11, .bipush 8, []), (13, .irem, []), (14, .istore_n 3, []), (15, .iload_n 3, []), (16, .aload_n 0, []), (17, .getfield 38, [(6, 10, 2)]), (20, .iload_n 1, []), (21, .iaload, []), (22, .if_icmp .le (4), [(26, 0, 0)]), (25, .return_, []), (26, .aload_n 0, []), (27, .iload_n 1, []), (28, .iload_n 3, []), (29, .invokevirtual 111, [(6, 79, 2)]), (32, .aload_n 0, []), (33, .getfield 41, [(6, 11, 2)]), (36, .iload_n 1, []), (37, .aload_n 0, []), (38, .getfield 41, [(6, 11, 2)]), (41, .iload_n 1, []), (42, .iaload, []), (43, .iload_n 3, []), (44, .iadd, []), (45, .bipush 8, []), (47, .irem, []), (48, .iastore, []), (49, .aload_n 0, []), (50, .getfield 38, [(6, 10, 2)]), (53, .iload_n 1, []), (54, .dup2, []), (55, .iaload, []), (56, .iload_n 3, []), (57, .isub, []), (58, .iastore, []), (59, .aload_n 0, []), (60, .getfield 47, [(6, 13, 2)]), (63, .iload_n 1, []), (64, .iload_n 3, []), (65, .ifCond .le (7), [(72, 0, 0)]), (68, .iconst 0, []), (69, .goto (9), [(78, 0, 0)]), (72, .aload_n 0, []), (73, .getfield 47, [(6, 13, 2)]), (76, .iload_n 1, []), (77, .iaload, []), (78, .iastore, []), (79, .aload_n 0, []), (80, .getfield 50, [(6, 14, 2)]), (83, .iload_n 1, []), (84, .iload_n 3, []), (85, .ifCond .le (7), [(92, 0, 0)]), (88, .iconst 0, []), (89, .goto (9), [(98, 0, 0)]), (92, .aload_n 0, []), (93, .getfield 50, [(6, 14, 2)]), (96, .iload_n 1, []), (97, .iaload, []), (98, .iastore, []), (99, .aload_n 0, []), (100, .iload_n 1, []), (101, .invokevirtual 88, [(6, 85, 1)]), (104, .return_, [])]
/-- CircuitNetModel.confirm(II)V -/
def zk_94 : List zK := zk_94_0
def zk_95_0 : List zK := [(0, .iconst 3, []), (1, .iload_n 1, []), (2, .imul, []), (3, .iload_n 3, []), (4, .iadd, []), (5, .iconst 1, []), (6, .isub, []), (7, .istore 6, []), (9, .iload_n 1, []), (10, .invokestatic 117, [(99, 81, 1)]), (13, .ifCond .ne (15), [(28, 0, 0)]), (16, .aload_n 0, []), (17, .iload 6, []), (19, .iload_n 2, []), (20, .iload 4, []), (22, .iload 5, []), (24, .invokevirtual 151, [(6, 96, 4)]), (27, .return_, []), (28, .aload_n 0, []), (29, .getfield 59, [(6, 17, 2)]), (32, .iload 6, []), (34, .baload, []), (35, .ifCond .eq (14), [(49, 0, 0)]), (38, .iload_n 1, []), (39, .iconst 2, []), (40, .irem, []), (41, .iconst 1, []), (42, .if_icmp .ne (7), [(49, 0, 0)]), (45, .iconst 1, []), (46, .goto (4), [(50, 0, 0)]), (49, .iconst 0, []), (50, .istore 7, []), (52, .aload_n 0, []), (53, .getfield 59, [(6, 17, 2)]), (56, .iload 6, []), (58, .iconst 0, []), (59, .bastore, []), (60, .iload_n 2, []), (61, .ifCond .ne (62), [(123, 0, 0)]), (64, .aload_n 0, []), (65, .getfield 53, [(6, 15, 2)]), (68, .iload 6, []), (70, .iaload, []), (71, .iconst 1, []), (72, .if_icmp .ne (27), [(99, 0, 0)]), (75, .iload 7, []), (77, .ifCond .eq (22), [(99, 0, 0)]), (80, .aload_n 0, []), (81, .getfield 53, [(6, 15, 2)]), (84, .iload 6, []), (86, .iconst 0, []), (87, .iastore, []), (88, .aload_n 0, []), (89, .aload_n 0, []), (90, .getfield 56, [(6, 16, 2)]), (93, .iload 6, []), (95, .iaload, []), (96, .invokevirtual 121, [(6, 82, 1)]), (99, .aload_n 0, []), (100, .getfield 53, [(6, 15, 2)]), (103, .iload 6, []), (105, .iaload, []), (106, .ifCond .ne (148), [(254, 0, 0)]), (109, .aload_n 0, []), (110, .iload_n 1, []), (111, .iload 6, []), (113, .iload 4, []), (115, .iload 5, []), (117, .invokevirtual 155, [(6, 99, 4)]), (120, .goto (134), [(254, 0, 0)]), (123, .iload_n 2, []), (124, .iconst 2, []), (125, .if_icmp .ne (53), [(178, 0, 0)]), (128, .aload_n 0, []), (129, .getfield 53, [(6, 15, 2)]), (132, .iload 6, []), (134, .iaload, []), (135, .istore 8, []), (137, .aload_n 0, []), (138, .getfield 53, [(6, 15, 2)]), (141, .iload 6, []), (143, .iconst 0, []), (144, .iastore, []), (145, .iload 8, []), (147, .iconst 5, []), (148, .if_icmp .eq (10), [(158, 0, 0)]), (151, .aload_n 0, []), (152, .iload 6, []), (154, .iconst 3, []), (155, .invokevirtual 124, [(6, 83, 2)]), (158, .iload 8, []), (160, .iconst 1, []), (161, .if_icmp .ne (14), [(175, 0, 0)]), (164, .aload_n 0, []), (165, .aload_n 0, []), (166, .getfield 56, [(6, 16, 2)]), (169, .iload 6, []), (171, .iaload, []), (172, .invokevirtual 121, [(6, 82, 1)]), (175, .goto (79), [(254, 0, 0)])]
def zk_95_1 : List zK := [(178, .iload_n 2, []), (179, .iconst 3, []), (180, .if_icmp .ne (35), [(215, 0, 0)]), (183, .aload_n 0, []), (184, .getfield 53, [(6, 15, 2)]), (187, .iload 6, []), (189, .aload_n 0, []), (190, .getfield 53, [(6, 15, 2)]), (193, .iload 6, []), (195, .iaload, []), (196, .iconst 5, []), (197, .if_icmp .ne (7), [(204, 0, 0)]), (200, .iconst 0, []), (201, .goto (10), [(211, 0, 0)]), (204, .aload_n 0, []), (205, .getfield 53, [(6, 15, 2)]), (208, .iload 6, []), (210, .iaload, []), (211, .iastore, []), (212, .goto (42), [(254, 0, 0)]), (215, .aload_n 0, []), (216, .getfield 53, [(6, 15, 2)]), (219, .iload 6, []), (221, .iaload, []), (222, .iconst 1, []), (223, .if_icmp .ne (31), [(254, 0, 0)]), (226, .aload_n 0, []), (227, .getfield 56, [(6, 16, 2)]), (230, .iload 6, []), (232, .iaload, []), (233, .istore 8, []), (235, .aload_n 0, []), (236, .iload 8, []), (238, .iconst 3, []), (239, .idiv, []), (240, .iload_n 2, []), (241, .iload 8, []), (243, .iconst 3, []), (244, .irem, []), (245, .iconst 1, []), (246, .iadd, []), (247, .iload 4, []), (249, .iload 5, []), (251, .invokevirtual 92, [(6, 84, 5)]), (254, .return_, [])]
/-- CircuitNetModel.arrive(IIIII)V -/
def zk_95 : List zK := zk_95_0 ++ zk_95_1
def zk_96_0 : List zK := [(0, .aload_n 0, []), (1, .getfield 53, [(6, 15, 2)]), (4, .iload_n 1, []), (5, .iaload, []), (6, .istore 5, []), (8, .iload_n 2, []), (9, .ifCond .ne (31), [(40, 0, 0)]), (12, .iload 5, []), (14, .ifCond .ne (26), [(40, 0, 0)]), (17, .aload_n 0, []), (18, .getfield 53, [(6, 15, 2)]), (21, .iload_n 1, []), (22, .iconst 2, []), (23, .iastore, []), (24, .aload_n 0, []), (25, .getfield 62, [(6, 18, 2)]), (28, .iload_n 1, []), (29, .iload 4, []), (31, .iastore, []), (32, .aload_n 0, []), (33, .iload_n 1, []), (34, .invokevirtual 167, [(6, 97, 1)]), (37, .goto (197), [(234, 0, 0)]), (40, .iload_n 2, []), (41, .iconst 1, []), (42, .if_icmp .ne (19), [(61, 0, 0)]), (45, .iload 5, []), (47, .iconst 1, []), (48, .if_icmp .ne (13), [(61, 0, 0)]), (51, .aload_n 0, []), (52, .getfield 53, [(6, 15, 2)]), (55, .iload_n 1, []), (56, .iconst 3, []), (57, .iastore, []), (58, .goto (176), [(234, 0, 0)]), (61, .iload_n 2, []), (62, .iconst 2, []), (63, .if_icmp .ne (25), [(88, 0, 0)]), (66, .aload_n 0, []), (67, .getfield 53, [(6, 15, 2)]), (70, .iload_n 1, []), (71, .iconst 0, []), (72, .iastore, []), (73, .iload 5, []), (75, .iconst 5, []), (76, .if_icmp .eq (158), [(234, 0, 0)]), (79, .aload_n 0, []), (80, .iload_n 1, []), (81, .iconst 3, []), (82, .invokevirtual 124, [(6, 83, 2)]), (85, .goto (149), [(234, 0, 0)]), (88, .iload_n 2, []), (89, .iconst 3, []), (90, .if_icmp .ne (19), [(109, 0, 0)]), (93, .iload 5, []), (95, .iconst 5, []), (96, .if_icmp .ne (13), [(109, 0, 0)]), (99, .aload_n 0, []), (100, .getfield 53, [(6, 15, 2)]), (103, .iload_n 1, []), (104, .iconst 0, []), (105, .iastore, []), (106, .goto (128), [(234, 0, 0)]), (109, .iload_n 2, []), (110, .iconst 4, []), (111, .if_icmp .ne (50), [(161, 0, 0)]), (114, .iload 5, []), (116, .iconst 3, []), (117, .if_icmp .ne (44), [(161, 0, 0)]), (120, .aload_n 0, []), (121, .getfield 77, [(6, 23, 2)]), (124, .sipush 512, []), (127, .iload_n 1, []), (128, .invokestatic 164, [(99, 98, 1)]), (131, .imul, []), (132, .aload_n 0, []), (133, .getfield 74, [(6, 22, 2)]), (136, .iload_n 1, []), (137, .invokestatic 164, [(99, 98, 1)]), (140, .iaload, []), (141, .iadd, []), (142, .iload 4, []), (144, .iastore, []), (145, .aload_n 0, []), (146, .getfield 74, [(6, 22, 2)]), (149, .iload_n 1, []), (150, .invokestatic 164, [(99, 98, 1)]), (153, .dup2, []), (154, .iaload, []), (155, .iconst 1, []), (156, .iadd, []), (157, .iastore, []), (158, .goto (76), [(234, 0, 0)]), (161, .iload_n 2, []), (162, .iconst 5, []), (163, .if_icmp .ne (19), [(182, 0, 0)]), (166, .iload 5, []), (168, .iconst 3, []), (169, .if_icmp .ne (13), [(182, 0, 0)]), (172, .aload_n 0, [])]
def zk_96_1 : List zK := [(173, .getfield 68, [(6, 20, 2)]), (176, .iload_n 1, []), (177, .iload_n 3, []), (178, .iastore, []), (179, .goto (55), [(234, 0, 0)]), (182, .iload_n 2, []), (183, .bipush 6, []), (185, .if_icmp .ne (24), [(209, 0, 0)]), (188, .iload 5, []), (190, .iconst 3, []), (191, .if_icmp .ne (18), [(209, 0, 0)]), (194, .aload_n 0, []), (195, .iload_n 1, []), (196, .invokevirtual 167, [(6, 97, 1)]), (199, .aload_n 0, []), (200, .iload_n 1, []), (201, .bipush 7, []), (203, .invokevirtual 124, [(6, 83, 2)]), (206, .goto (28), [(234, 0, 0)]), (209, .iload_n 2, []), (210, .bipush 6, []), (212, .if_icmp .eq (9), [(221, 0, 0)]), (215, .iload_n 2, []), (216, .bipush 7, []), (218, .if_icmp .ne (16), [(234, 0, 0)]), (221, .iload 5, []), (223, .iconst 4, []), (224, .if_icmp .ne (10), [(234, 0, 0)]), (227, .aload_n 0, []), (228, .getfield 53, [(6, 15, 2)]), (231, .iload_n 1, []), (232, .iconst 3, []), (233, .iastore, []), (234, .return_, [])]
/-- CircuitNetModel.atTerminal(IIII)V -/
def zk_96 : List zK := zk_96_0 ++ zk_96_1
def zk_97_0 : List zK := [(0, .aload_n 0, []), (1, .getfield 65, [(6, 19, 2)]), (4, .iload_n 1, []), (5, .iconst 0, []), (6, .iastore, []), (7, .aload_n 0, []), (8, .getfield 68, [(6, 20, 2)]), (11, .iload_n 1, []), (12, .iconst 0, []), (13, .iastore, []), (14, .aload_n 0, []), (15, .getfield 71, [(6, 21, 2)]), (18, .iload_n 1, []), (19, .iconst 0, []), (20, .iastore, []), (21, .aload_n 0, []), (22, .getfield 74, [(6, 22, 2)]), (25, .iload_n 1, []), (26, .invokestatic 164, [(99, 98, 1)]), (29, .iconst 0, []), (30, .iastore, []), (31, .return_, [])]
/-- CircuitNetModel.renew(I)V -/
def zk_97 : List zK := zk_97_0
def zk_98_0 : List zK := [(0, .iconst 3, []), (1, .iload_n 0, []), (2, .bipush 6, []), (4, .idiv, []), (5, .imul, []), (6, .iload_n 0, []), (7, .iconst 3, []), (8, .irem, []), (9, .iadd, []), (10, .ireturn, [(0, 0, 0)])]
/-- CircuitNetModel.slot(I)I -/
def zk_98 : List zK := zk_98_0
def zk_99_0 : List zK := [(0, .iload_n 1, []), (1, .iload_n 3, []), (2, .invokestatic 158, [(99, 100, 2)]), (5, .istore 5, []), (7, .iload 5, []), (9, .iload_n 1, []), (10, .if_icmp .eq (13), [(23, 0, 0)]), (13, .aload_n 0, []), (14, .getfield 34, [(6, 9, 2)]), (17, .iload 5, []), (19, .baload, []), (20, .ifCond .eq (7), [(27, 0, 0)]), (23, .iconst (-1), []), (24, .goto (9), [(33, 0, 0)]), (27, .aload_n 0, []), (28, .iload 5, []), (30, .invokevirtual 161, [(6, 101, 1)]), (33, .istore 6, []), (35, .iload 6, []), (37, .ifCond .ge (9), [(46, 0, 0)]), (40, .aload_n 0, []), (41, .iload_n 2, []), (42, .invokevirtual 121, [(6, 82, 1)]), (45, .return_, []), (46, .aload_n 0, []), (47, .getfield 53, [(6, 15, 2)]), (50, .iload_n 2, []), (51, .iconst 1, []), (52, .iastore, []), (53, .aload_n 0, []), (54, .getfield 53, [(6, 15, 2)]), (57, .iload 6, []), (59, .iconst 1, []), (60, .iastore, []), (61, .aload_n 0, []), (62, .getfield 56, [(6, 16, 2)]), (65, .iload_n 2, []), (66, .iload 6, []), (68, .iastore, []), (69, .aload_n 0, []), (70, .getfield 56, [(6, 16, 2)]), (73, .iload 6, []), (75, .iload_n 2, []), (76, .iastore, []), (77, .aload_n 0, []), (78, .getfield 59, [(6, 17, 2)]), (81, .iload 6, []), (83, .iconst 1, []), (84, .bastore, []), (85, .aload_n 0, []), (86, .iload 5, []), (88, .iconst 0, []), (89, .iload 6, []), (91, .iconst 3, []), (92, .irem, []), (93, .iconst 1, []), (94, .iadd, []), (95, .iload_n 3, []), (96, .iload 4, []), (98, .invokevirtual 92, [(6, 84, 5)]), (101, .return_, [])]
/-- CircuitNetModel.connect(IIII)V -/
def zk_99 : List zK := zk_99_0
def zk_100_0 : List zK := [(0, .iload_n 0, []), (1, .iconst 4, []), (2, .if_icmp .lt (9), [(11, 0, 0)]), (5, .iload_n 0, []), (6, .bipush 8, []), (8, .if_icmp .ne (7), [(15, 0, 0)]), (11, .iconst 0, []), (12, .goto (4), [(16, 0, 0)]), (15, .iconst 1, []), (16, .istore_n 2, []), (17, .iload_n 1, []), (18, .iconst 2, []), (19, .idiv, []), (20, .iload_n 2, []), (21, .if_icmp .ne (11), [(32, 0, 0)]), (24, .iconst 2, []), (25, .iload_n 1, []), (26, .imul, []), (27, .iconst 1, []), (28, .iadd, []), (29, .goto (7), [(36, 0, 0)]), (32, .bipush 8, []), (34, .iload_n 2, []), (35, .iadd, []), (36, .ireturn, [(0, 0, 0)])]
/-- CircuitNetModel.route(II)I -/
def zk_100 : List zK := zk_100_0
def zk_101_0 : List zK := [(0, .iconst (-1), []), (1, .istore_n 2, []), (2, .iconst 3, []), (3, .iload_n 1, []), (4, .imul, []), (5, .istore_n 3, []), (6, .iload_n 3, []), (7, .iconst 3, []), (8, .iload_n 1, []), (9, .imul, []), (10, .iconst 3, []), (11, .iadd, []), (12, .if_icmp .ge (34), [(46, 0, 0)]), (15, .aload_n 0, []), (16, .getfield 53, [(6, 15, 2)]), (19, .iload_n 3, []), (20, .iaload, []), (21, .ifCond .ne (17), [(38, 0, 0)]), (24, .iload_n 2, []), (25, .ifCond .lt (9), [(34, 0, 0)]), (28, .iload_n 1, []), (29, .iconst 2, []), (30, .irem, []), (31, .ifCond .ne (7), [(38, 0, 0)]), (34, .iload_n 3, []), (35, .goto (4), [(39, 0, 0)]), (38, .iload_n 2, []), (39, .istore_n 2, []), (40, .iinc 3 1, []), (43, .goto (-37), [(6, 0, 0)]), (46, .iload_n 2, []), (47, .ireturn, [(0, 0, 0)])]
/-- CircuitNetModel.free(I)I -/
def zk_101 : List zK := zk_101_0
def zk_102_0 : List zK := [(0, .iload_n 1, []), (1, .iload_n 2, []), (2, .invokestatic 136, [(99, 90, 2)]), (5, .ifCond .ne (16), [(21, 0, 0)]), (8, .aload_n 0, []), (9, .getfield 25, [(6, 6, 2)]), (12, .iconst 2, []), (13, .iload_n 1, []), (14, .imul, []), (15, .iload_n 2, []), (16, .iadd, []), (17, .iaload, []), (18, .ifCond .ne (5), [(23, 0, 0)]), (21, .iconst 0, []), (22, .ireturn, [(1, 0, 0)]), (23, .aload_n 0, []), (24, .iconst 2, []), (25, .iload_n 1, []), (26, .imul, []), (27, .iload_n 2, []), (28, .iadd, []), (29, .invokevirtual 139, [(6, 92, 1)]), (32, .iconst 1, []), (33, .ireturn, [(1, 0, 0)])]
/-- CircuitNetModel.lose(II)Z -/
def zk_102 : List zK := zk_102_0
def zk_103_0 : List zK := [(0, .iload_n 1, []), (1, .iconst 4, []), (2, .invokestatic 80, [(99, 91, 2)]), (5, .ifCond .eq (27), [(32, 0, 0)]), (8, .iload_n 2, []), (9, .iconst 4, []), (10, .invokestatic 80, [(99, 91, 2)]), (13, .ifCond .eq (19), [(32, 0, 0)]), (16, .iload_n 1, []), (17, .iload_n 2, []), (18, .if_icmp .eq (14), [(32, 0, 0)]), (21, .aload_n 0, []), (22, .getfield 34, [(6, 9, 2)]), (25, .iconst 2, []), (26, .iload_n 1, []), (27, .imul, []), (28, .baload, []), (29, .ifCond .eq (5), [(34, 0, 0)]), (32, .iconst (-1), []), (33, .ireturn, [(0, 0, 0)]), (34, .aload_n 0, []), (35, .iconst 2, []), (36, .iload_n 1, []), (37, .imul, []), (38, .invokevirtual 161, [(6, 101, 1)]), (41, .istore_n 3, []), (42, .iload_n 3, []), (43, .ifCond .ge (5), [(48, 0, 0)]), (46, .iconst (-1), []), (47, .ireturn, [(0, 0, 0)]), (48, .aload_n 0, []), (49, .getfield 53, [(6, 15, 2)]), (52, .iload_n 3, []), (53, .iconst 1, []), (54, .iastore, []), (55, .aload_n 0, []), (56, .getfield 62, [(6, 18, 2)]), (59, .iload_n 3, []), (60, .iload_n 2, []), (61, .iastore, []), (62, .aload_n 0, []), (63, .iload_n 3, []), (64, .invokevirtual 167, [(6, 97, 1)]), (67, .aload_n 0, []), (68, .iconst 2, []), (69, .iload_n 1, []), (70, .imul, []), (71, .iconst 0, []), (72, .iload_n 3, []), (73, .iconst 3, []), (74, .irem, []), (75, .iconst 1, []), (76, .iadd, []), (77, .iload_n 2, []), (78, .iload_n 1, []), (79, .invokevirtual 92, [(6, 84, 5)]), (82, .iload_n 3, []), (83, .iconst 3, []), (84, .irem, []), (85, .iconst 1, []), (86, .iadd, []), (87, .ireturn, [(0, 0, 0)])]
/-- CircuitNetModel.call(II)I -/
def zk_103 : List zK := zk_103_0
def zk_104_0 : List zK := [(0, .iload_n 1, []), (1, .iload_n 2, []), (2, .invokestatic 170, [(99, 105, 2)]), (5, .ifCond .ne (17), [(22, 0, 0)]), (8, .aload_n 0, []), (9, .getfield 53, [(6, 15, 2)]), (12, .iload_n 1, []), (13, .iload_n 2, []), (14, .invokestatic 173, [(99, 106, 2)]), (17, .iaload, []), (18, .iconst 2, []), (19, .if_icmp .eq (5), [(24, 0, 0)]), (22, .iconst 0, []), (23, .ireturn, [(1, 0, 0)]), (24, .aload_n 0, []), (25, .getfield 53, [(6, 15, 2)]), (28, .iload_n 1, []), (29, .iload_n 2, []), (30, .invokestatic 173, [(99, 106, 2)]), (33, .iconst 3, []), (34, .iastore, []), (35, .aload_n 0, []), (36, .iload_n 1, []), (37, .iload_n 2, []), (38, .invokestatic 173, [(99, 106, 2)]), (41, .iconst 1, []), (42, .invokevirtual 124, [(6, 83, 2)]), (45, .iconst 1, []), (46, .ireturn, [(1, 0, 0)])]
/-- CircuitNetModel.answer(II)Z -/
def zk_104 : List zK := zk_104_0
def zk_105_0 : List zK := [(0, .iload_n 0, []), (1, .iconst 4, []), (2, .invokestatic 80, [(99, 91, 2)]), (5, .ifCond .eq (13), [(18, 0, 0)]), (8, .iload_n 1, []), (9, .iconst 1, []), (10, .isub, []), (11, .iconst 3, []), (12, .invokestatic 80, [(99, 91, 2)]), (15, .ifCond .ne (7), [(22, 0, 0)]), (18, .iconst 1, []), (19, .goto (4), [(23, 0, 0)]), (22, .iconst 0, []), (23, .ireturn, [(1, 0, 0)])]
/-- CircuitNetModel.noChannel(II)Z -/
def zk_105 : List zK := zk_105_0
def zk_106_0 : List zK := [(0, .bipush 6, []), (2, .iload_n 0, []), (3, .imul, []), (4, .iload_n 1, []), (5, .iadd, []), (6, .iconst 1, []), (7, .isub, []), (8, .ireturn, [(0, 0, 0)])]
/-- CircuitNetModel.place(II)I -/
def zk_106 : List zK := zk_106_0
def zk_107_0 : List zK := [(0, .iload_n 1, []), (1, .iload_n 2, []), (2, .invokestatic 170, [(99, 105, 2)]), (5, .ifCond .ne (30), [(35, 0, 0)]), (8, .aload_n 0, []), (9, .getfield 53, [(6, 15, 2)]), (12, .iload_n 1, []), (13, .iload_n 2, []), (14, .invokestatic 173, [(99, 106, 2)]), (17, .iaload, []), (18, .ifCond .eq (17), [(35, 0, 0)]), (21, .aload_n 0, []), (22, .getfield 53, [(6, 15, 2)]), (25, .iload_n 1, []), (26, .iload_n 2, []), (27, .invokestatic 173, [(99, 106, 2)]), (30, .iaload, []), (31, .iconst 5, []), (32, .if_icmp .ne (5), [(37, 0, 0)]), (35, .iconst 0, []), (36, .ireturn, [(1, 0, 0)]), (37, .aload_n 0, []), (38, .getfield 53, [(6, 15, 2)]), (41, .iload_n 1, []), (42, .iload_n 2, []), (43, .invokestatic 173, [(99, 106, 2)]), (46, .iconst 5, []), (47, .iastore, []), (48, .aload_n 0, []), (49, .iload_n 1, []), (50, .iload_n 2, []), (51, .invokestatic 173, [(99, 106, 2)]), (54, .iconst 2, []), (55, .invokevirtual 124, [(6, 83, 2)]), (58, .iconst 1, []), (59, .ireturn, [(1, 0, 0)])]
/-- CircuitNetModel.clear(II)Z -/
def zk_107 : List zK := zk_107_0
def zk_108_0 : List zK := [(0, .iload_n 1, []), (1, .iload_n 2, []), (2, .invokestatic 170, [(99, 105, 2)]), (5, .ifCond .ne (17), [(22, 0, 0)]), (8, .aload_n 0, []), (9, .getfield 53, [(6, 15, 2)]), (12, .iload_n 1, []), (13, .iload_n 2, []), (14, .invokestatic 173, [(99, 106, 2)]), (17, .iaload, []), (18, .iconst 3, []), (19, .if_icmp .eq (5), [(24, 0, 0)]), (22, .iconst 0, []), (23, .ireturn, [(1, 0, 0)]), (24, .iload_n 1, []), (25, .iload_n 2, []), (26, .invokestatic 173, [(99, 106, 2)]), (29, .istore_n 3, []), (30, .aload_n 0, []), (31, .iload_n 3, []), (32, .invokevirtual 167, [(6, 97, 1)]), (35, .aload_n 0, []), (36, .getfield 53, [(6, 15, 2)]), (39, .iload_n 3, []), (40, .iconst 4, []), (41, .iastore, []), (42, .aload_n 0, []), (43, .iload_n 3, []), (44, .bipush 6, []), (46, .invokevirtual 124, [(6, 83, 2)]), (49, .iconst 1, []), (50, .ireturn, [(1, 0, 0)])]
/-- CircuitNetModel.reset(II)Z -/
def zk_108 : List zK := zk_108_0
def zk_109_0 : List zK := [(0, .iload_n 1, []), (1, .iload_n 2, []), (2, .invokestatic 170, [(99, 105, 2)]), (5, .ifCond .ne (28), [(33, 0, 0)]), (8, .iload_n 3, []), (9, .ifCond .lt (24), [(33, 0, 0)]), (12, .iload_n 3, []), (13, .sipush 255, []), (16, .if_icmp .gt (17), [(33, 0, 0)]), (19, .aload_n 0, []), (20, .getfield 53, [(6, 15, 2)]), (23, .iload_n 1, []), (24, .iload_n 2, []), (25, .invokestatic 173, [(99, 106, 2)]), (28, .iaload, []), (29, .iconst 3, []), (30, .if_icmp .eq (5), [(35, 0, 0)]), (33, .iconst (-1), []), (34, .ireturn, [(0, 0, 0)]), (35, .iload_n 1, []), (36, .iload_n 2, []), (37, .invokestatic 173, [(99, 106, 2)]), (40, .istore 4, []), (42, .aload_n 0, []), (43, .getfield 65, [(6, 19, 2)]), (46, .iload 4, []), (48, .iaload, []), (49, .istore 5, []), (51, .iload 5, []), (53, .aload_n 0, []), (54, .getfield 68, [(6, 20, 2)]), (57, .iload 4, []), (59, .iaload, []), (60, .iconst 3, []), (61, .iadd, []), (62, .bipush 8, []), (64, .irem, []), (65, .if_icmp .ne (6), [(71, 0, 0)]), (68, .bipush (-2), []), (70, .ireturn, [(0, 0, 0)]), (71, .aload_n 0, []), (72, .getfield 65, [(6, 19, 2)]), (75, .iload 4, []), (77, .iload 5, []), (79, .iconst 1, []), (80, .iadd, []), (81, .bipush 8, []), (83, .irem, []), (84, .iastore, []), (85, .aload_n 0, []), (86, .iconst 2, []), (87, .iload_n 1, []), (88, .imul, []), (89, .iconst 4, []), (90, .iload_n 2, []), (91, .iload 5, []), (93, .iload_n 3, []), (94, .invokevirtual 92, [(6, 84, 5)]), (97, .iload 5, []), (99, .ireturn, [(0, 0, 0)])]
/-- CircuitNetModel.send(III)I -/
def zk_109 : List zK := zk_109_0
def zk_110_0 : List zK := [(0, .iload_n 1, []), (1, .iload_n 2, []), (2, .invokestatic 170, [(99, 105, 2)]), (5, .ifCond .ne (17), [(22, 0, 0)]), (8, .aload_n 0, []), (9, .getfield 53, [(6, 15, 2)]), (12, .iload_n 1, []), (13, .iload_n 2, []), (14, .invokestatic 173, [(99, 106, 2)]), (17, .iaload, []), (18, .iconst 3, []), (19, .if_icmp .eq (5), [(24, 0, 0)]), (22, .iconst (-1), []), (23, .ireturn, [(0, 0, 0)]), (24, .iload_n 1, []), (25, .iload_n 2, []), (26, .invokestatic 173, [(99, 106, 2)]), (29, .istore_n 3, []), (30, .iload_n 3, []), (31, .invokestatic 164, [(99, 98, 1)]), (34, .istore 4, []), (36, .aload_n 0, []), (37, .getfield 74, [(6, 22, 2)]), (40, .iload 4, []), (42, .iaload, []), (43, .ifCond .ne (5), [(48, 0, 0)]), (46, .iconst (-1), []), (47, .ireturn, [(0, 0, 0)]), (48, .aload_n 0, []), (49, .getfield 77, [(6, 23, 2)]), (52, .sipush 512, []), (55, .iload 4, []), (57, .imul, []), (58, .iaload, []), (59, .istore 5, []), (61, .aload_n 0, []), (62, .getfield 74, [(6, 22, 2)]), (65, .iload 4, []), (67, .dup2, []), (68, .iaload, []), (69, .iconst 1, []), (70, .isub, []), (71, .iastore, []), (72, .iconst 0, []), (73, .istore 6, []), (75, .iload 6, []), (77, .aload_n 0, []), (78, .getfield 74, [(6, 22, 2)]), (81, .iload 4, []), (83, .iaload, []), (84, .if_icmp .ge (39), [(123, 0, 0)]), (87, .aload_n 0, []), (88, .getfield 77, [(6, 23, 2)]), (91, .sipush 512, []), (94, .iload 4, []), (96, .imul, []), (97, .iload 6, []), (99, .iadd, []), (100, .aload_n 0, []), (101, .getfield 77, [(6, 23, 2)]), (104, .sipush 512, []), (107, .iload 4, []), (109, .imul, []), (110, .iload 6, []), (112, .iadd, []), (113, .iconst 1, []), (114, .iadd, []), (115, .iaload, []), (116, .iastore, []), (117, .iinc 6 1, []), (120, .goto (-45), [(75, 0, 0)]), (123, .aload_n 0, []), (124, .getfield 71, [(6, 21, 2)]), (127, .iload_n 3, []), (128, .aload_n 0, []), (129, .getfield 71, [(6, 21, 2)]), (132, .iload_n 3, []), (133, .iaload, []), (134, .iconst 1, []), (135, .iadd, []), (136, .bipush 8, []), (138, .irem, []), (139, .iastore, []), (140, .aload_n 0, []), (141, .iconst 2, []), (142, .iload_n 1, []), (143, .imul, []), (144, .iconst 5, []), (145, .iload_n 2, []), (146, .aload_n 0, []), (147, .getfield 71, [(6, 21, 2)]), (150, .iload_n 3, []), (151, .iaload, []), (152, .iconst 0, []), (153, .invokevirtual 92, [(6, 84, 5)]), (156, .iload 5, []), (158, .ireturn, [(0, 0, 0)])]
/-- CircuitNetModel.read(II)I -/
def zk_110 : List zK := zk_110_0
def zk_111_0 : List zK := [(0, .iload_n 1, []), (1, .iload_n 2, []), (2, .invokestatic 170, [(99, 105, 2)]), (5, .ifCond .eq (7), [(12, 0, 0)]), (8, .iconst (-1), []), (9, .goto (13), [(22, 0, 0)]), (12, .aload_n 0, []), (13, .getfield 53, [(6, 15, 2)]), (16, .iload_n 1, []), (17, .iload_n 2, []), (18, .invokestatic 173, [(99, 106, 2)]), (21, .iaload, []), (22, .ireturn, [(0, 0, 0)])]
/-- CircuitNetModel.state(II)I -/
def zk_111 : List zK := zk_111_0
def zk_112_0 : List zK := [(0, .iload_n 1, []), (1, .iload_n 2, []), (2, .invokestatic 170, [(99, 105, 2)]), (5, .ifCond .ne (30), [(35, 0, 0)]), (8, .aload_n 0, []), (9, .getfield 53, [(6, 15, 2)]), (12, .iload_n 1, []), (13, .iload_n 2, []), (14, .invokestatic 173, [(99, 106, 2)]), (17, .iaload, []), (18, .ifCond .eq (17), [(35, 0, 0)]), (21, .aload_n 0, []), (22, .getfield 53, [(6, 15, 2)]), (25, .iload_n 1, []), (26, .iload_n 2, []), (27, .invokestatic 173, [(99, 106, 2)]), (30, .iaload, []), (31, .iconst 5, []), (32, .if_icmp .ne (5), [(37, 0, 0)]), (35, .iconst (-1), []), (36, .ireturn, [(0, 0, 0)]), (37, .aload_n 0, []), (38, .getfield 62, [(6, 18, 2)]), (41, .iload_n 1, []), (42, .iload_n 2, []), (43, .invokestatic 173, [(99, 106, 2)]), (46, .iaload, []), (47, .ireturn, [(0, 0, 0)])]
/-- CircuitNetModel.peer(II)I -/
def zk_112 : List zK := zk_112_0
def zk_113_0 : List zK := [(0, .iload_n 1, []), (1, .iload_n 2, []), (2, .invokestatic 170, [(99, 105, 2)]), (5, .ifCond .eq (5), [(10, 0, 0)]), (8, .iconst (-1), []), (9, .ireturn, [(0, 0, 0)]), (10, .iload_n 1, []), (11, .iload_n 2, []), (12, .invokestatic 173, [(99, 106, 2)]), (15, .istore_n 3, []), (16, .aload_n 0, []), (17, .getfield 53, [(6, 15, 2)]), (20, .iload_n 3, []), (21, .iaload, []), (22, .iconst 3, []), (23, .if_icmp .ne (15), [(38, 0, 0)]), (26, .aload_n 0, []), (27, .getfield 74, [(6, 22, 2)]), (30, .iload_n 3, []), (31, .invokestatic 164, [(99, 98, 1)]), (34, .iaload, []), (35, .goto (4), [(39, 0, 0)]), (38, .iconst 0, []), (39, .ireturn, [(0, 0, 0)])]
/-- CircuitNetModel.unread(II)I -/
def zk_113 : List zK := zk_113_0
def zk_114_0 : List zK := [(0, .iload_n 1, []), (1, .iload_n 2, []), (2, .invokestatic 136, [(99, 90, 2)]), (5, .ifCond .eq (7), [(12, 0, 0)]), (8, .iconst (-1), []), (9, .goto (13), [(22, 0, 0)]), (12, .aload_n 0, []), (13, .getfield 25, [(6, 6, 2)]), (16, .iconst 2, []), (17, .iload_n 1, []), (18, .imul, []), (19, .iload_n 2, []), (20, .iadd, []), (21, .iaload, []), (22, .ireturn, [(0, 0, 0)])]
/-- CircuitNetModel.frames(II)I -/
def zk_114 : List zK := zk_114_0
def zk_115_0 : List zK := [(0, .iload_n 1, []), (1, .iload_n 2, []), (2, .invokestatic 136, [(99, 90, 2)]), (5, .ifCond .ne (30), [(35, 0, 0)]), (8, .iload 4, []), (10, .bipush 8, []), (12, .invokestatic 80, [(99, 91, 2)]), (15, .ifCond .eq (20), [(35, 0, 0)]), (18, .iload_n 3, []), (19, .aload_n 0, []), (20, .getfield 25, [(6, 6, 2)]), (23, .iconst 2, []), (24, .iload_n 1, []), (25, .imul, []), (26, .iload_n 2, []), (27, .iadd, []), (28, .iaload, []), (29, .invokestatic 80, [(99, 91, 2)]), (32, .ifCond .ne (5), [(37, 0, 0)]), (35, .iconst (-1), []), (36, .ireturn, [(0, 0, 0)]), (37, .bipush 64, []), (39, .iconst 2, []), (40, .iload_n 1, []), (41, .imul, []), (42, .iload_n 2, []), (43, .iadd, []), (44, .imul, []), (45, .bipush 8, []), (47, .iload_n 3, []), (48, .imul, []), (49, .iadd, []), (50, .istore 5, []), (52, .aload_n 0, []), (53, .getfield 28, [(6, 7, 2)]), (56, .iload 5, []), (58, .iaload, []), (59, .istore 6, []), (61, .iload 4, []), (63, .iconst 2, []), (64, .if_icmp .lt (21), [(85, 0, 0)]), (67, .iload 6, []), (69, .iconst 2, []), (70, .if_icmp .eq (15), [(85, 0, 0)]), (73, .iload 4, []), (75, .iconst 3, []), (76, .if_icmp .ne (13), [(89, 0, 0)]), (79, .iload 6, []), (81, .iconst 3, []), (82, .if_icmp .ne (7), [(89, 0, 0)]), (85, .iconst 1, []), (86, .goto (4), [(90, 0, 0)]), (89, .iconst 0, []), (90, .istore 7, []), (92, .iload 7, []), (94, .ifCond .eq (16), [(110, 0, 0)]), (97, .aload_n 0, []), (98, .getfield 28, [(6, 7, 2)]), (101, .iload 5, []), (103, .iload 4, []), (105, .iadd, []), (106, .iaload, []), (107, .goto (4), [(111, 0, 0)]), (110, .iconst (-1), []), (111, .ireturn, [(0, 0, 0)])]
/-- CircuitNetModel.frame(IIII)I -/
def zk_115 : List zK := zk_115_0
def zk_116_0 : List zK := [(0, .iload_n 1, []), (1, .iload_n 2, []), (2, .invokestatic 136, [(99, 90, 2)]), (5, .ifCond .eq (7), [(12, 0, 0)]), (8, .iconst (-1), []), (9, .goto (12), [(21, 0, 0)]), (12, .aload_n 0, []), (13, .iconst 2, []), (14, .iload_n 1, []), (15, .imul, []), (16, .iload_n 2, []), (17, .iadd, []), (18, .invokevirtual 103, [(6, 86, 1)]), (21, .ireturn, [(0, 0, 0)])]
/-- CircuitNetModel.row(II)I -/
def zk_116 : List zK := zk_116_0
def zk_117_0 : List zK := [(0, .iload_n 1, []), (1, .iload_n 2, []), (2, .invokestatic 136, [(99, 90, 2)]), (5, .ifCond .eq (7), [(12, 0, 0)]), (8, .iconst (-1), []), (9, .goto (13), [(22, 0, 0)]), (12, .aload_n 0, []), (13, .getfield 31, [(6, 8, 2)]), (16, .iconst 2, []), (17, .iload_n 1, []), (18, .imul, []), (19, .iload_n 2, []), (20, .iadd, []), (21, .iaload, []), (22, .ireturn, [(0, 0, 0)])]
/-- CircuitNetModel.epoch(II)I -/
def zk_117 : List zK := zk_117_0
def zk_118_0 : List zK := [(0, .iload_n 1, []), (1, .iload_n 2, []), (2, .invokestatic 136, [(99, 90, 2)]), (5, .ifCond .ne (20), [(25, 0, 0)]), (8, .aload_n 0, []), (9, .getfield 34, [(6, 9, 2)]), (12, .iconst 2, []), (13, .iload_n 1, []), (14, .imul, []), (15, .iload_n 2, []), (16, .iadd, []), (17, .baload, []), (18, .ifCond .ne (7), [(25, 0, 0)]), (21, .iconst 1, []), (22, .goto (4), [(26, 0, 0)]), (25, .iconst 0, []), (26, .ireturn, [(1, 0, 0)])]
/-- CircuitNetModel.up(II)Z -/
def zk_118 : List zK := zk_118_0
def zk_119_0 : List zK := [(0, .iload_n 1, []), (1, .iload_n 2, []), (2, .invokestatic 136, [(99, 90, 2)]), (5, .ifCond .eq (5), [(10, 0, 0)]), (8, .iconst (-1), []), (9, .ireturn, [(0, 0, 0)]), (10, .iconst 2, []), (11, .iload_n 1, []), (12, .imul, []), (13, .iload_n 2, []), (14, .iadd, []), (15, .istore_n 3, []), (16, .iconst 0, []), (17, .istore 4, []), (19, .iconst 3, []), (20, .iload_n 3, []), (21, .imul, []), (22, .istore 5, []), (24, .iload 5, []), (26, .iconst 3, []), (27, .iload_n 3, []), (28, .imul, []), (29, .iconst 3, []), (30, .iadd, []), (31, .if_icmp .ge (29), [(60, 0, 0)]), (34, .iload 4, []), (36, .aload_n 0, []), (37, .getfield 53, [(6, 15, 2)]), (40, .iload 5, []), (42, .iaload, []), (43, .ifCond .eq (7), [(50, 0, 0)]), (46, .iconst 1, []), (47, .goto (4), [(51, 0, 0)]), (50, .iconst 0, []), (51, .iadd, []), (52, .istore 4, []), (54, .iinc 5 1, []), (57, .goto (-33), [(24, 0, 0)]), (60, .iload 4, []), (62, .ireturn, [(0, 0, 0)])]
/-- CircuitNetModel.busy(II)I -/
def zk_119 : List zK := zk_119_0
def zk_120_0 : List zK := [(0, .new 7, [(5, 2, 0)]), (3, .dup, []), (4, .invokespecial 9, [(99, 0, 0)]), (7, .astore_n 1, []), (8, .new 10, [(6, 24, 0)]), (11, .dup, []), (12, .invokespecial 12, [(99, 73, 0)]), (15, .astore_n 2, []), (16, .iconst 0, []), (17, .istore_n 3, []), (18, .iload_n 3, []), (19, .aload_n 0, []), (20, .arraylength, []), (21, .iconst 5, []), (22, .isub, []), (23, .if_icmp .gt (717), [(740, 0, 0)]), (26, .aload_n 0, []), (27, .iload_n 3, []), (28, .iaload, []), (29, .bipush 31, []), (31, .iand, []), (32, .tableswitch (702) 0 17 #[88, 121, 154, 187, 220, 263, 296, 329, 362, 385, 418, 451, 484, 517, 570, 603, 636, 669], [(734, 0, 0), (0, 120, 0), (1, 153, 0), (2, 186, 0), (3, 219, 0), (4, 252, 0), (5, 295, 0), (6, 328, 0), (7, 361, 0), (8, 394, 0), (9, 417, 0), (10, 450, 0), (11, 483, 0), (12, 516, 0), (13, 549, 0), (14, 602, 0), (15, 635, 0), (16, 668, 0), (17, 701, 0)]), (120, .aload_n 1, []), (121, .aload_n 0, []), (122, .iload_n 3, []), (123, .iconst 1, []), (124, .iadd, []), (125, .iaload, []), (126, .aload_n 0, []), (127, .iload_n 3, []), (128, .iconst 2, []), (129, .iadd, []), (130, .iaload, []), (131, .invokevirtual 13, [(5, 11, 2)]), (134, .aload_n 2, []), (135, .aload_n 0, []), (136, .iload_n 3, []), (137, .iconst 1, []), (138, .iadd, []), (139, .iaload, []), (140, .aload_n 0, []), (141, .iload_n 3, []), (142, .iconst 2, []), (143, .iadd, []), (144, .iaload, []), (145, .invokevirtual 17, [(6, 103, 2)]), (148, .if_icmp .eq (586), [(734, 0, 0)]), (151, .iconst 0, []), (152, .ireturn, [(1, 0, 0)]), (153, .aload_n 1, []), (154, .aload_n 0, []), (155, .iload_n 3, []), (156, .iconst 1, []), (157, .iadd, []), (158, .iaload, []), (159, .aload_n 0, []), (160, .iload_n 3, []), (161, .iconst 2, []), (162, .iadd, []), (163, .iaload, []), (164, .invokevirtual 18, [(5, 25, 2)]), (167, .aload_n 2, []), (168, .aload_n 0, []), (169, .iload_n 3, []), (170, .iconst 1, []), (171, .iadd, []), (172, .iaload, []), (173, .aload_n 0, []), (174, .iload_n 3, []), (175, .iconst 2, []), (176, .iadd, []), (177, .iaload, []), (178, .invokevirtual 22, [(6, 104, 2)]), (181, .if_icmp .eq (553), [(734, 0, 0)]), (184, .iconst 0, []), (185, .ireturn, [(1, 0, 0)]), (186, .aload_n 1, []), (187, .aload_n 0, []), (188, .iload_n 3, []), (189, .iconst 1, []), (190, .iadd, []), (191, .iaload, []), (192, .aload_n 0, []), (193, .iload_n 3, []), (194, .iconst 2, []), (195, .iadd, []), (196, .iaload, []), (197, .invokevirtual 23, [(5, 26, 2)]), (200, .aload_n 2, []), (201, .aload_n 0, []), (202, .iload_n 3, []), (203, .iconst 1, []), (204, .iadd, []), (205, .iaload, []), (206, .aload_n 0, []), (207, .iload_n 3, []), (208, .iconst 2, []), (209, .iadd, []), (210, .iaload, []), (211, .invokevirtual 26, [(6, 107, 2)])]
def zk_120_1 : List zK := [(214, .if_icmp .eq (520), [(734, 0, 0)]), (217, .iconst 0, []), (218, .ireturn, [(1, 0, 0)]), (219, .aload_n 1, []), (220, .aload_n 0, []), (221, .iload_n 3, []), (222, .iconst 1, []), (223, .iadd, []), (224, .iaload, []), (225, .aload_n 0, []), (226, .iload_n 3, []), (227, .iconst 2, []), (228, .iadd, []), (229, .iaload, []), (230, .invokevirtual 27, [(5, 29, 2)]), (233, .aload_n 2, []), (234, .aload_n 0, []), (235, .iload_n 3, []), (236, .iconst 1, []), (237, .iadd, []), (238, .iaload, []), (239, .aload_n 0, []), (240, .iload_n 3, []), (241, .iconst 2, []), (242, .iadd, []), (243, .iaload, []), (244, .invokevirtual 30, [(6, 108, 2)]), (247, .if_icmp .eq (487), [(734, 0, 0)]), (250, .iconst 0, []), (251, .ireturn, [(1, 0, 0)]), (252, .aload_n 1, []), (253, .aload_n 0, []), (254, .iload_n 3, []), (255, .iconst 1, []), (256, .iadd, []), (257, .iaload, []), (258, .aload_n 0, []), (259, .iload_n 3, []), (260, .iconst 2, []), (261, .iadd, []), (262, .iaload, []), (263, .aload_n 0, []), (264, .iload_n 3, []), (265, .iconst 3, []), (266, .iadd, []), (267, .iaload, []), (268, .invokevirtual 31, [(5, 30, 3)]), (271, .aload_n 2, []), (272, .aload_n 0, []), (273, .iload_n 3, []), (274, .iconst 1, []), (275, .iadd, []), (276, .iaload, []), (277, .aload_n 0, []), (278, .iload_n 3, []), (279, .iconst 2, []), (280, .iadd, []), (281, .iaload, []), (282, .aload_n 0, []), (283, .iload_n 3, []), (284, .iconst 3, []), (285, .iadd, []), (286, .iaload, []), (287, .invokevirtual 35, [(6, 109, 3)]), (290, .if_icmp .eq (444), [(734, 0, 0)]), (293, .iconst 0, []), (294, .ireturn, [(1, 0, 0)]), (295, .aload_n 1, []), (296, .aload_n 0, []), (297, .iload_n 3, []), (298, .iconst 1, []), (299, .iadd, []), (300, .iaload, []), (301, .aload_n 0, []), (302, .iload_n 3, []), (303, .iconst 2, []), (304, .iadd, []), (305, .iaload, []), (306, .invokevirtual 36, [(5, 33, 2)]), (309, .aload_n 2, []), (310, .aload_n 0, []), (311, .iload_n 3, []), (312, .iconst 1, []), (313, .iadd, []), (314, .iaload, []), (315, .aload_n 0, []), (316, .iload_n 3, []), (317, .iconst 2, []), (318, .iadd, []), (319, .iaload, []), (320, .invokevirtual 39, [(6, 110, 2)]), (323, .if_icmp .eq (411), [(734, 0, 0)]), (326, .iconst 0, []), (327, .ireturn, [(1, 0, 0)]), (328, .aload_n 1, []), (329, .aload_n 0, []), (330, .iload_n 3, []), (331, .iconst 1, []), (332, .iadd, []), (333, .iaload, [])]
def zk_120_2 : List zK := [(334, .aload_n 0, []), (335, .iload_n 3, []), (336, .iconst 2, []), (337, .iadd, []), (338, .iaload, []), (339, .invokevirtual 40, [(5, 35, 2)]), (342, .aload_n 2, []), (343, .aload_n 0, []), (344, .iload_n 3, []), (345, .iconst 1, []), (346, .iadd, []), (347, .iaload, []), (348, .aload_n 0, []), (349, .iload_n 3, []), (350, .iconst 2, []), (351, .iadd, []), (352, .iaload, []), (353, .invokevirtual 43, [(6, 89, 2)]), (356, .if_icmp .eq (378), [(734, 0, 0)]), (359, .iconst 0, []), (360, .ireturn, [(1, 0, 0)]), (361, .aload_n 1, []), (362, .aload_n 0, []), (363, .iload_n 3, []), (364, .iconst 1, []), (365, .iadd, []), (366, .iaload, []), (367, .aload_n 0, []), (368, .iload_n 3, []), (369, .iconst 2, []), (370, .iadd, []), (371, .iaload, []), (372, .invokevirtual 44, [(5, 60, 2)]), (375, .aload_n 2, []), (376, .aload_n 0, []), (377, .iload_n 3, []), (378, .iconst 1, []), (379, .iadd, []), (380, .iaload, []), (381, .aload_n 0, []), (382, .iload_n 3, []), (383, .iconst 2, []), (384, .iadd, []), (385, .iaload, []), (386, .invokevirtual 47, [(6, 102, 2)]), (389, .if_icmp .eq (345), [(734, 0, 0)]), (392, .iconst 0, []), (393, .ireturn, [(1, 0, 0)]), (394, .aload_n 1, []), (395, .aload_n 0, []), (396, .iload_n 3, []), (397, .iconst 1, []), (398, .iadd, []), (399, .iaload, []), (400, .invokevirtual 48, [(5, 61, 1)]), (403, .aload_n 2, []), (404, .aload_n 0, []), (405, .iload_n 3, []), (406, .iconst 1, []), (407, .iadd, []), (408, .iaload, []), (409, .invokevirtual 52, [(6, 74, 1)]), (412, .if_icmp .eq (322), [(734, 0, 0)]), (415, .iconst 0, []), (416, .ireturn, [(1, 0, 0)]), (417, .aload_n 1, []), (418, .aload_n 0, []), (419, .iload_n 3, []), (420, .iconst 1, []), (421, .iadd, []), (422, .iaload, []), (423, .aload_n 0, []), (424, .iload_n 3, []), (425, .iconst 2, []), (426, .iadd, []), (427, .iaload, []), (428, .invokevirtual 53, [(5, 64, 2)]), (431, .aload_n 2, []), (432, .aload_n 0, []), (433, .iload_n 3, []), (434, .iconst 1, []), (435, .iadd, []), (436, .iaload, []), (437, .aload_n 0, []), (438, .iload_n 3, []), (439, .iconst 2, []), (440, .iadd, []), (441, .iaload, []), (442, .invokevirtual 56, [(6, 111, 2)]), (445, .if_icmp .eq (289), [(734, 0, 0)]), (448, .iconst 0, []), (449, .ireturn, [(1, 0, 0)]), (450, .aload_n 1, []), (451, .aload_n 0, []), (452, .iload_n 3, []), (453, .iconst 1, []), (454, .iadd, []), (455, .iaload, []), (456, .aload_n 0, []), (457, .iload_n 3, [])]
def zk_120_3 : List zK := [(458, .iconst 2, []), (459, .iadd, []), (460, .iaload, []), (461, .invokevirtual 57, [(5, 65, 2)]), (464, .aload_n 2, []), (465, .aload_n 0, []), (466, .iload_n 3, []), (467, .iconst 1, []), (468, .iadd, []), (469, .iaload, []), (470, .aload_n 0, []), (471, .iload_n 3, []), (472, .iconst 2, []), (473, .iadd, []), (474, .iaload, []), (475, .invokevirtual 60, [(6, 112, 2)]), (478, .if_icmp .eq (256), [(734, 0, 0)]), (481, .iconst 0, []), (482, .ireturn, [(1, 0, 0)]), (483, .aload_n 1, []), (484, .aload_n 0, []), (485, .iload_n 3, []), (486, .iconst 1, []), (487, .iadd, []), (488, .iaload, []), (489, .aload_n 0, []), (490, .iload_n 3, []), (491, .iconst 2, []), (492, .iadd, []), (493, .iaload, []), (494, .invokevirtual 61, [(5, 66, 2)]), (497, .aload_n 2, []), (498, .aload_n 0, []), (499, .iload_n 3, []), (500, .iconst 1, []), (501, .iadd, []), (502, .iaload, []), (503, .aload_n 0, []), (504, .iload_n 3, []), (505, .iconst 2, []), (506, .iadd, []), (507, .iaload, []), (508, .invokevirtual 64, [(6, 113, 2)]), (511, .if_icmp .eq (223), [(734, 0, 0)]), (514, .iconst 0, []), (515, .ireturn, [(1, 0, 0)]), (516, .aload_n 1, []), (517, .aload_n 0, []), (518, .iload_n 3, []), (519, .iconst 1, []), (520, .iadd, []), (521, .iaload, []), (522, .aload_n 0, []), (523, .iload_n 3, []), (524, .iconst 2, []), (525, .iadd, []), (526, .iaload, []), (527, .invokevirtual 65, [(5, 67, 2)]), (530, .aload_n 2, []), (531, .aload_n 0, []), (532, .iload_n 3, []), (533, .iconst 1, []), (534, .iadd, []), (535, .iaload, []), (536, .aload_n 0, []), (537, .iload_n 3, []), (538, .iconst 2, []), (539, .iadd, []), (540, .iaload, []), (541, .invokevirtual 68, [(6, 114, 2)]), (544, .if_icmp .eq (190), [(734, 0, 0)]), (547, .iconst 0, []), (548, .ireturn, [(1, 0, 0)]), (549, .aload_n 1, []), (550, .aload_n 0, []), (551, .iload_n 3, []), (552, .iconst 1, []), (553, .iadd, []), (554, .iaload, []), (555, .aload_n 0, []), (556, .iload_n 3, []), (557, .iconst 2, []), (558, .iadd, []), (559, .iaload, []), (560, .aload_n 0, []), (561, .iload_n 3, []), (562, .iconst 3, []), (563, .iadd, []), (564, .iaload, []), (565, .aload_n 0, []), (566, .iload_n 3, []), (567, .iconst 4, []), (568, .iadd, []), (569, .iaload, []), (570, .invokevirtual 69, [(5, 68, 4)]), (573, .aload_n 2, []), (574, .aload_n 0, []), (575, .iload_n 3, []), (576, .iconst 1, []), (577, .iadd, [])]
def zk_120_4 : List zK := [(578, .iaload, []), (579, .aload_n 0, []), (580, .iload_n 3, []), (581, .iconst 2, []), (582, .iadd, []), (583, .iaload, []), (584, .aload_n 0, []), (585, .iload_n 3, []), (586, .iconst 3, []), (587, .iadd, []), (588, .iaload, []), (589, .aload_n 0, []), (590, .iload_n 3, []), (591, .iconst 4, []), (592, .iadd, []), (593, .iaload, []), (594, .invokevirtual 73, [(6, 115, 4)]), (597, .if_icmp .eq (137), [(734, 0, 0)]), (600, .iconst 0, []), (601, .ireturn, [(1, 0, 0)]), (602, .aload_n 1, []), (603, .aload_n 0, []), (604, .iload_n 3, []), (605, .iconst 1, []), (606, .iadd, []), (607, .iaload, []), (608, .aload_n 0, []), (609, .iload_n 3, []), (610, .iconst 2, []), (611, .iadd, []), (612, .iaload, []), (613, .invokevirtual 74, [(5, 69, 2)]), (616, .aload_n 2, []), (617, .aload_n 0, []), (618, .iload_n 3, []), (619, .iconst 1, []), (620, .iadd, []), (621, .iaload, []), (622, .aload_n 0, []), (623, .iload_n 3, []), (624, .iconst 2, []), (625, .iadd, []), (626, .iaload, []), (627, .invokevirtual 77, [(6, 116, 2)]), (630, .if_icmp .eq (104), [(734, 0, 0)]), (633, .iconst 0, []), (634, .ireturn, [(1, 0, 0)]), (635, .aload_n 1, []), (636, .aload_n 0, []), (637, .iload_n 3, []), (638, .iconst 1, []), (639, .iadd, []), (640, .iaload, []), (641, .aload_n 0, []), (642, .iload_n 3, []), (643, .iconst 2, []), (644, .iadd, []), (645, .iaload, []), (646, .invokevirtual 78, [(5, 70, 2)]), (649, .aload_n 2, []), (650, .aload_n 0, []), (651, .iload_n 3, []), (652, .iconst 1, []), (653, .iadd, []), (654, .iaload, []), (655, .aload_n 0, []), (656, .iload_n 3, []), (657, .iconst 2, []), (658, .iadd, []), (659, .iaload, []), (660, .invokevirtual 81, [(6, 117, 2)]), (663, .if_icmp .eq (71), [(734, 0, 0)]), (666, .iconst 0, []), (667, .ireturn, [(1, 0, 0)]), (668, .aload_n 1, []), (669, .aload_n 0, []), (670, .iload_n 3, []), (671, .iconst 1, []), (672, .iadd, []), (673, .iaload, []), (674, .aload_n 0, []), (675, .iload_n 3, []), (676, .iconst 2, []), (677, .iadd, []), (678, .iaload, []), (679, .invokevirtual 82, [(5, 71, 2)]), (682, .aload_n 2, []), (683, .aload_n 0, []), (684, .iload_n 3, []), (685, .iconst 1, []), (686, .iadd, []), (687, .iaload, []), (688, .aload_n 0, []), (689, .iload_n 3, []), (690, .iconst 2, []), (691, .iadd, []), (692, .iaload, []), (693, .invokevirtual 85, [(6, 118, 2)]), (696, .if_icmp .eq (38), [(734, 0, 0)]), (699, .iconst 0, [])]
def zk_120_5 : List zK := [(700, .ireturn, [(1, 0, 0)]), (701, .aload_n 1, []), (702, .aload_n 0, []), (703, .iload_n 3, []), (704, .iconst 1, []), (705, .iadd, []), (706, .iaload, []), (707, .aload_n 0, []), (708, .iload_n 3, []), (709, .iconst 2, []), (710, .iadd, []), (711, .iaload, []), (712, .invokevirtual 86, [(5, 72, 2)]), (715, .aload_n 2, []), (716, .aload_n 0, []), (717, .iload_n 3, []), (718, .iconst 1, []), (719, .iadd, []), (720, .iaload, []), (721, .aload_n 0, []), (722, .iload_n 3, []), (723, .iconst 2, []), (724, .iadd, []), (725, .iaload, []), (726, .invokevirtual 89, [(6, 119, 2)]), (729, .if_icmp .eq (5), [(734, 0, 0)]), (732, .iconst 0, []), (733, .ireturn, [(1, 0, 0)]), (734, .iinc 3 5, []), (737, .goto (-719), [(18, 0, 0)]), (740, .iconst 1, []), (741, .ireturn, [(1, 0, 0)])]
/-- CircuitNetLaw.law([I)Z -/
def zk_120 : List zK := zk_120_0 ++ zk_120_1 ++ zk_120_2 ++ zk_120_3 ++ zk_120_4 ++ zk_120_5
def zcd (i : Nat) : List zK := match i with
  | 0 => zk_0
  | 1 => zk_1
  | 2 => zk_2
  | 3 => zk_3
  | 4 => zk_4
  | 5 => zk_5
  | 6 => zk_6
  | 7 => zk_7
  | 8 => zk_8
  | 9 => zk_9
  | 10 => zk_10
  | 11 => zk_11
  | 12 => zk_12
  | 13 => zk_13
  | 14 => zk_14
  | 15 => zk_15
  | 16 => zk_16
  | 17 => zk_17
  | 18 => zk_18
  | 19 => zk_19
  | 20 => zk_20
  | 21 => zk_21
  | 22 => zk_22
  | 23 => zk_23
  | 24 => zk_24
  | 25 => zk_25
  | 26 => zk_26
  | 27 => zk_27
  | 28 => zk_28
  | 29 => zk_29
  | 30 => zk_30
  | 31 => zk_31
  | 32 => zk_32
  | 33 => zk_33
  | 34 => zk_34
  | 35 => zk_35
  | 36 => zk_36
  | 37 => zk_37
  | 38 => zk_38
  | 39 => zk_39
  | 40 => zk_40
  | 41 => zk_41
  | 42 => zk_42
  | 43 => zk_43
  | 44 => zk_44
  | 45 => zk_45
  | 46 => zk_46
  | 47 => zk_47
  | 48 => zk_48
  | 49 => zk_49
  | 50 => zk_50
  | 51 => zk_51
  | 52 => zk_52
  | 53 => zk_53
  | 54 => zk_54
  | 55 => zk_55
  | 56 => zk_56
  | 57 => zk_57
  | 58 => zk_58
  | 59 => zk_59
  | 60 => zk_60
  | 61 => zk_61
  | 62 => zk_62
  | 63 => zk_63
  | 64 => zk_64
  | 65 => zk_65
  | 66 => zk_66
  | 67 => zk_67
  | 68 => zk_68
  | 69 => zk_69
  | 70 => zk_70
  | 71 => zk_71
  | 72 => zk_72
  | 73 => zk_73
  | 74 => zk_74
  | 75 => zk_75
  | 76 => zk_76
  | 77 => zk_77
  | 78 => zk_78
  | 79 => zk_79
  | 80 => zk_80
  | 81 => zk_81
  | 82 => zk_82
  | 83 => zk_83
  | 84 => zk_84
  | 85 => zk_85
  | 86 => zk_86
  | 87 => zk_87
  | 88 => zk_88
  | 89 => zk_89
  | 90 => zk_90
  | 91 => zk_91
  | 92 => zk_92
  | 93 => zk_93
  | 94 => zk_94
  | 95 => zk_95
  | 96 => zk_96
  | 97 => zk_97
  | 98 => zk_98
  | 99 => zk_99
  | 100 => zk_100
  | 101 => zk_101
  | 102 => zk_102
  | 103 => zk_103
  | 104 => zk_104
  | 105 => zk_105
  | 106 => zk_106
  | 107 => zk_107
  | 108 => zk_108
  | 109 => zk_109
  | 110 => zk_110
  | 111 => zk_111
  | 112 => zk_112
  | 113 => zk_113
  | 114 => zk_114
  | 115 => zk_115
  | 116 => zk_116
  | 117 => zk_117
  | 118 => zk_118
  | 119 => zk_119
  | _ => zk_120
def zPr (sp : Nat × (Nat → Int32)) : zP := (zcd, znl, zrk, sp.1 + 1, sp.2)
def zR_0 : String := "CircuitNet$Circuit"
def zF_0 : u_T := fun k => match k with
  | 0 => ("CircuitNet$Circuit", "peer", "I", false)
  | 1 => ("CircuitNet$Circuit", "values", "LCircuitNet$Line;", true)
  | 2 => ("CircuitNet$Circuit", "own", "I", false)
  | 3 => ("CircuitNet$Circuit", "sure", "I", false)
  | 4 => ("CircuitNet$Circuit", "got", "I", false)
  | 5 => ("CircuitNet$Channel", "at", "LCircuitNet$End;", true)
  | 6 => ("CircuitNet$Channel", "number", "I", true)
  | _ => ("CircuitNet$Channel", "state", "I", false)
def zty_0 : Nat → FieldType := fun k => match k with
  | 0 => .int
  | 1 => .object "CircuitNet$Line"
  | 2 => .int
  | 3 => .int
  | 4 => .int
  | 5 => .object "CircuitNet$End"
  | 6 => .int
  | _ => .int
def zR_1 : String := "CircuitNet$End"
def zF_1 : u_T := fun k => match k with
  | 0 => ("CircuitNet$End", "in", "LCircuitNet$Wire;", true)
  | 1 => ("CircuitNet$End", "out", "LCircuitNet$Wire;", true)
  | 2 => ("CircuitNet$End", "isFirst", "Z", true)
  | 3 => ("CircuitNet$End", "row", "LCircuitNet$Line;", true)
  | 4 => ("CircuitNet$End", "channels", "[LCircuitNet$Channel;", true)
  | 5 => ("CircuitNet$End", "epoch", "I", false)
  | 6 => ("CircuitNet$End", "isUp", "Z", false)
  | 7 => ("CircuitNet$End", "unconfirmed", "I", false)
  | 8 => ("CircuitNet$End", "first", "I", false)
  | 9 => ("CircuitNet$End", "due", "I", false)
  | 10 => ("CircuitNet$End", "tries", "I", false)
  | _ => ("CircuitNet$End", "clock", "I", false)
def zty_1 : Nat → FieldType := fun k => match k with
  | 0 => .object "CircuitNet$Wire"
  | 1 => .object "CircuitNet$Wire"
  | 2 => .boolean
  | 3 => .object "CircuitNet$Line"
  | 4 => .array (.object "CircuitNet$Channel")
  | 5 => .int
  | 6 => .boolean
  | 7 => .int
  | 8 => .int
  | 9 => .int
  | 10 => .int
  | _ => .int
def zR_2 : String := "CircuitNet$Joint"
def zF_2 : u_T := fun k => match k with
  | 0 => ("CircuitNet$Joint", "routes", "[LCircuitNet$End;", true)
  | 1 => ("CircuitNet$Joint", "partner", "LCircuitNet$Joint;", false)
  | 2 => ("CircuitNet$Joint", "unanswered", "Z", false)
  | 3 => ("CircuitNet$Channel", "at", "LCircuitNet$End;", true)
  | 4 => ("CircuitNet$Channel", "number", "I", true)
  | _ => ("CircuitNet$Channel", "state", "I", false)
def zty_2 : Nat → FieldType := fun k => match k with
  | 0 => .array (.object "CircuitNet$End")
  | 1 => .object "CircuitNet$Joint"
  | 2 => .boolean
  | 3 => .object "CircuitNet$End"
  | 4 => .int
  | _ => .int
def zR_3 : String := "CircuitNet$Line"
def zF_3 : u_T := fun k => match k with
  | 0 => ("CircuitNet$Line", "items", "[I", false)
  | 1 => ("CircuitNet$Line", "start", "I", false)
  | _ => ("CircuitNet$Line", "count", "I", false)
def zty_3 : Nat → FieldType := fun k => match k with
  | 0 => .array .int
  | 1 => .int
  | _ => .int
def zR_4 : String := "CircuitNet$Wire"
def zF_4 : u_T := fun k => match k with
  | 0 => ("CircuitNet$Wire", "words", "[I", true)
  | 1 => ("CircuitNet$Wire", "start", "I", false)
  | _ => ("CircuitNet$Wire", "count", "I", false)
def zty_4 : Nat → FieldType := fun k => match k with
  | 0 => .array .int
  | 1 => .int
  | _ => .int
def zR_5 : String := "CircuitNet"
def zF_5 : u_T := fun k => match k with
  | 0 => ("CircuitNet", "ends", "[LCircuitNet$End;", true)
  | _ => ("CircuitNet", "circuits", "[LCircuitNet$Circuit;", true)
def zty_5 : Nat → FieldType := fun k => match k with
  | 0 => .array (.object "CircuitNet$End")
  | _ => .array (.object "CircuitNet$Circuit")
def zR_6 : String := "CircuitNetModel"
def zF_6 : u_T := fun k => match k with
  | 0 => ("CircuitNetModel", "packets", "I", false)
  | 1 => ("CircuitNetModel", "at", "[I", true)
  | 2 => ("CircuitNetModel", "sort", "[I", true)
  | 3 => ("CircuitNetModel", "channel", "[I", true)
  | 4 => ("CircuitNetModel", "a", "[I", true)
  | 5 => ("CircuitNetModel", "b", "[I", true)
  | 6 => ("CircuitNetModel", "count", "[I", true)
  | 7 => ("CircuitNetModel", "frame", "[I", true)
  | 8 => ("CircuitNetModel", "epoch", "[I", true)
  | 9 => ("CircuitNetModel", "setting", "[Z", true)
  | 10 => ("CircuitNetModel", "sent", "[I", true)
  | 11 => ("CircuitNetModel", "first", "[I", true)
  | 12 => ("CircuitNetModel", "due", "[I", true)
  | 13 => ("CircuitNetModel", "tries", "[I", true)
  | 14 => ("CircuitNetModel", "clock", "[I", true)
  | 15 => ("CircuitNetModel", "state", "[I", true)
  | 16 => ("CircuitNetModel", "partner", "[I", true)
  | 17 => ("CircuitNetModel", "fresh", "[Z", true)
  | 18 => ("CircuitNetModel", "peer", "[I", true)
  | 19 => ("CircuitNetModel", "own", "[I", true)
  | 20 => ("CircuitNetModel", "sure", "[I", true)
  | 21 => ("CircuitNetModel", "got", "[I", true)
  | 22 => ("CircuitNetModel", "many", "[I", true)
  | _ => ("CircuitNetModel", "value", "[I", true)
def zty_6 : Nat → FieldType := fun k => match k with
  | 0 => .int
  | 1 => .array .int
  | 2 => .array .int
  | 3 => .array .int
  | 4 => .array .int
  | 5 => .array .int
  | 6 => .array .int
  | 7 => .array .int
  | 8 => .array .int
  | 9 => .array .boolean
  | 10 => .array .int
  | 11 => .array .int
  | 12 => .array .int
  | 13 => .array .int
  | 14 => .array .int
  | 15 => .array .int
  | 16 => .array .int
  | 17 => .array .boolean
  | 18 => .array .int
  | 19 => .array .int
  | 20 => .array .int
  | 21 => .array .int
  | 22 => .array .int
  | _ => .array .int
def vwCl : List vw_C := [(zR_0, zF_0, 8), (zR_1, zF_1, 12), (zR_2, zF_2, 6), (zR_3, zF_3, 3), (zR_4, zF_4, 3), (zR_5, zF_5, 2), (zR_6, zF_6, 24)]
def zN (ci : Nat) : Nat := match ci with
  | 0 => 8
  | 1 => 12
  | 2 => 6
  | 3 => 3
  | 4 => 3
  | 5 => 2
  | 6 => 24
  | _ => 0
def zRl (ci : Nat) : List Bool := match ci with
  | 0 => [false, true, false, false, false, true, false, false]
  | 1 => [true, true, false, true, true, false, false, false, false, false, false, false]
  | 2 => [true, true, false, true, false, false]
  | 3 => [true, false, false]
  | 4 => [true, false, false]
  | 5 => [true, true]
  | 6 => [false, true, true, true, true, true, true, true, true, true, true, true, true, true, true, true, true, true, true, true, true, true, true, true]
  | _ => []
def zRf (ci j : Nat) : Bool := (zRl ci).getD j false
def zel22 : String := "CircuitNet$End"
def zel23 : String := "CircuitNet$Channel"
def zel24 : String := "CircuitNet$Circuit"
def zT (CA : Nat → ClassId) : List (ClassId × FieldType) := [(CA 0, .int), (CA 1, .boolean), (CA 2, .object zel22), (CA 3, .object zel23), (CA 4, .object zel24)]
def zWS : List Cond := lw_tbl.filter goodWord
def zXS : List Cond := [Cond.arrayOver (Jvm.ClassFile.FieldType.object "CircuitNet$End"), Cond.methodLinkNest "CircuitNet" 149 (⟨"CircuitNet$Wire", "<init>", "()V"⟩ : MethodName) "CircuitNet", Cond.methodLinkNest "CircuitNet$End" 11 (⟨"CircuitNet$Line", "<init>", "()V"⟩ : MethodName) "CircuitNet", Cond.arrayOver (Jvm.ClassFile.FieldType.object "CircuitNet$Channel"), Cond.arrayOver (Jvm.ClassFile.FieldType.object "CircuitNet$Circuit"), Cond.methodLinkNest "CircuitNet$Circuit" 11 (⟨"CircuitNet$Line", "<init>", "()V"⟩ : MethodName) "CircuitNet", Cond.declares (⟨"CircuitNet$Channel", "arrive", "(III)V"⟩ : MethodName), Cond.declares (⟨"CircuitNet$Channel", "beLost", "()V"⟩ : MethodName), Cond.castable "CircuitNet$Circuit" "CircuitNet$Channel", Cond.castable "CircuitNet$Joint" "CircuitNet$Channel"]
end
section
theorem zq_0 : Cond.methodLink "CircuitNet" 1 (⟨"java/lang/Object", "<init>", "()V"⟩ : MethodName) ∈ zWS := List.mem_filter.mpr ⟨List.mem_of_getElem? (i := 51) (by decide +kernel), rfl⟩
theorem zq_1 : Cond.instanceMethod (⟨"java/lang/Object", "<init>", "()V"⟩ : MethodName) ∈ zWS := List.mem_filter.mpr ⟨List.mem_of_getElem? (i := 52) (by decide +kernel), rfl⟩
theorem zq_2 : Cond.code (⟨"java/lang/Object", "<init>", "()V"⟩ : MethodName) object_method_1_code 1 (Option.none : Option Jvm.ClassFile.FieldType) ∈ zWS := List.mem_filter.mpr ⟨List.mem_of_getElem? (i := 53) (by decide +kernel), rfl⟩
theorem zq_3 : Cond.methodLink "CircuitNet" 7 (⟨"CircuitNet", "makeEnds", "()[LCircuitNet$End;"⟩ : MethodName) ∈ zWS := List.mem_filter.mpr ⟨List.mem_of_getElem? (i := 54) (by decide +kernel), rfl⟩
theorem zq_4 : Cond.static (⟨"CircuitNet", "makeEnds", "()[LCircuitNet$End;"⟩ : MethodName) ∈ zWS := List.mem_filter.mpr ⟨List.mem_of_getElem? (i := 55) (by decide +kernel), rfl⟩
theorem zq_5 : Cond.initialized "CircuitNet" ∈ zWS := List.mem_filter.mpr ⟨List.mem_of_getElem? (i := 36) (by decide +kernel), rfl⟩
theorem zq_6 : Cond.methodLink "CircuitNet" 13 (⟨"CircuitNet", "addSwitch", "([LCircuitNet$End;I)V"⟩ : MethodName) ∈ zWS := List.mem_filter.mpr ⟨List.mem_of_getElem? (i := 145) (by decide +kernel), rfl⟩
theorem zq_7 : Cond.static (⟨"CircuitNet", "addSwitch", "([LCircuitNet$End;I)V"⟩ : MethodName) ∈ zWS := List.mem_filter.mpr ⟨List.mem_of_getElem? (i := 146) (by decide +kernel), rfl⟩
theorem zq_8 : Cond.methodLink "CircuitNet" 17 (⟨"CircuitNet", "addCircuits", "([LCircuitNet$End;)[LCircuitNet$Circuit;"⟩ : MethodName) ∈ zWS := List.mem_filter.mpr ⟨List.mem_of_getElem? (i := 187) (by decide +kernel), rfl⟩
theorem zq_9 : Cond.static (⟨"CircuitNet", "addCircuits", "([LCircuitNet$End;)[LCircuitNet$Circuit;"⟩ : MethodName) ∈ zWS := List.mem_filter.mpr ⟨List.mem_of_getElem? (i := 188) (by decide +kernel), rfl⟩
theorem zq_10 : Cond.fieldLink "CircuitNet" 21 "CircuitNet" "circuits" "[LCircuitNet$Circuit;" ∈ zWS := List.mem_filter.mpr ⟨List.mem_of_getElem? (i := 221) (by decide +kernel), rfl⟩
theorem zq_11 : Cond.fieldLink "CircuitNet" 25 "CircuitNet" "ends" "[LCircuitNet$End;" ∈ zWS := List.mem_filter.mpr ⟨List.mem_of_getElem? (i := 220) (by decide +kernel), rfl⟩
theorem zq_12 : Cond.classLink "CircuitNet" 34 "CircuitNet$End" ∈ zWS := List.mem_filter.mpr ⟨List.mem_of_getElem? (i := 57) (by decide +kernel), rfl⟩
theorem zq_13 : Cond.classLink "CircuitNet" 96 "CircuitNet$Wire" ∈ zWS := List.mem_filter.mpr ⟨List.mem_of_getElem? (i := 59) (by decide +kernel), rfl⟩
theorem zq_14 : Cond.instantiable "CircuitNet$Wire" 3 ∈ zWS := List.mem_filter.mpr ⟨List.mem_of_getElem? (i := 60) (by decide +kernel), rfl⟩
theorem zq_15 : Cond.initialized "CircuitNet$Wire" ∈ zWS := List.mem_filter.mpr ⟨List.mem_of_getElem? (i := 37) (by decide +kernel), rfl⟩
theorem zq_16 : Cond.instanceMethod (⟨"CircuitNet$Wire", "<init>", "()V"⟩ : MethodName) ∈ zWS := List.mem_filter.mpr ⟨List.mem_of_getElem? (i := 62) (by decide +kernel), rfl⟩
theorem zq_17 : Cond.instantiable "CircuitNet$End" 12 ∈ zWS := List.mem_filter.mpr ⟨List.mem_of_getElem? (i := 76) (by decide +kernel), rfl⟩
theorem zq_18 : Cond.initialized "CircuitNet$End" ∈ zWS := List.mem_filter.mpr ⟨List.mem_of_getElem? (i := 38) (by decide +kernel), rfl⟩
theorem zq_19 : Cond.methodLink "CircuitNet" 150 (⟨"CircuitNet$End", "<init>", "(LCircuitNet$Wire;LCircuitNet$Wire;Z)V"⟩ : MethodName) ∈ zWS := List.mem_filter.mpr ⟨List.mem_of_getElem? (i := 77) (by decide +kernel), rfl⟩
theorem zq_20 : Cond.instanceMethod (⟨"CircuitNet$End", "<init>", "(LCircuitNet$Wire;LCircuitNet$Wire;Z)V"⟩ : MethodName) ∈ zWS := List.mem_filter.mpr ⟨List.mem_of_getElem? (i := 78) (by decide +kernel), rfl⟩
theorem zq_21 : Cond.methodLink "CircuitNet$Wire" 3 (⟨"java/lang/Object", "<init>", "()V"⟩ : MethodName) ∈ zWS := List.mem_filter.mpr ⟨List.mem_of_getElem? (i := 64) (by decide +kernel), rfl⟩
theorem zq_22 : Cond.arrayClass Jvm.ClassFile.FieldType.int ∈ zWS := List.mem_filter.mpr ⟨List.mem_of_getElem? (i := 75) (by decide +kernel), rfl⟩
theorem zq_23 : Cond.fieldLink "CircuitNet$Wire" 11 "CircuitNet$Wire" "words" "[I" ∈ zWS := List.mem_filter.mpr ⟨List.mem_of_getElem? (i := 65) (by decide +kernel), rfl⟩
theorem zq_24 : Cond.methodLink "CircuitNet$End" 3 (⟨"java/lang/Object", "<init>", "()V"⟩ : MethodName) ∈ zWS := List.mem_filter.mpr ⟨List.mem_of_getElem? (i := 80) (by decide +kernel), rfl⟩
theorem zq_25 : Cond.classLink "CircuitNet$End" 9 "CircuitNet$Line" ∈ zWS := List.mem_filter.mpr ⟨List.mem_of_getElem? (i := 81) (by decide +kernel), rfl⟩
theorem zq_26 : Cond.instantiable "CircuitNet$Line" 3 ∈ zWS := List.mem_filter.mpr ⟨List.mem_of_getElem? (i := 82) (by decide +kernel), rfl⟩
theorem zq_27 : Cond.initialized "CircuitNet$Line" ∈ zWS := List.mem_filter.mpr ⟨List.mem_of_getElem? (i := 39) (by decide +kernel), rfl⟩
theorem zq_28 : Cond.instanceMethod (⟨"CircuitNet$Line", "<init>", "()V"⟩ : MethodName) ∈ zWS := List.mem_filter.mpr ⟨List.mem_of_getElem? (i := 84) (by decide +kernel), rfl⟩
theorem zq_29 : Cond.fieldLink "CircuitNet$End" 12 "CircuitNet$End" "row" "LCircuitNet$Line;" ∈ zWS := List.mem_filter.mpr ⟨List.mem_of_getElem? (i := 104) (by decide +kernel), rfl⟩
theorem zq_30 : Cond.classLink "CircuitNet$End" 18 "CircuitNet$Channel" ∈ zWS := List.mem_filter.mpr ⟨List.mem_of_getElem? (i := 97) (by decide +kernel), rfl⟩
theorem zq_31 : Cond.fieldLink "CircuitNet$End" 20 "CircuitNet$End" "channels" "[LCircuitNet$Channel;" ∈ zWS := List.mem_filter.mpr ⟨List.mem_of_getElem? (i := 107) (by decide +kernel), rfl⟩
theorem zq_32 : Cond.fieldLink "CircuitNet$End" 24 "CircuitNet$End" "isUp" "Z" ∈ zWS := List.mem_filter.mpr ⟨List.mem_of_getElem? (i := 112) (by decide +kernel), rfl⟩
theorem zq_33 : Cond.fieldLink "CircuitNet$End" 28 "CircuitNet$End" "in" "LCircuitNet$Wire;" ∈ zWS := List.mem_filter.mpr ⟨List.mem_of_getElem? (i := 99) (by decide +kernel), rfl⟩
theorem zq_34 : Cond.fieldLink "CircuitNet$End" 32 "CircuitNet$End" "out" "LCircuitNet$Wire;" ∈ zWS := List.mem_filter.mpr ⟨List.mem_of_getElem? (i := 101) (by decide +kernel), rfl⟩
theorem zq_35 : Cond.fieldLink "CircuitNet$End" 35 "CircuitNet$End" "isFirst" "Z" ∈ zWS := List.mem_filter.mpr ⟨List.mem_of_getElem? (i := 102) (by decide +kernel), rfl⟩
theorem zq_36 : Cond.methodLink "CircuitNet$Line" 3 (⟨"java/lang/Object", "<init>", "()V"⟩ : MethodName) ∈ zWS := List.mem_filter.mpr ⟨List.mem_of_getElem? (i := 86) (by decide +kernel), rfl⟩
theorem zq_37 : Cond.fieldLink "CircuitNet$Line" 9 "CircuitNet$Line" "items" "[I" ∈ zWS := List.mem_filter.mpr ⟨List.mem_of_getElem? (i := 87) (by decide +kernel), rfl⟩
theorem zq_38 : Cond.methodLink "CircuitNet" 153 (⟨"CircuitNet", "addJoints", "(LCircuitNet$End;[LCircuitNet$End;)V"⟩ : MethodName) ∈ zWS := List.mem_filter.mpr ⟨List.mem_of_getElem? (i := 148) (by decide +kernel), rfl⟩
theorem zq_39 : Cond.static (⟨"CircuitNet", "addJoints", "(LCircuitNet$End;[LCircuitNet$End;)V"⟩ : MethodName) ∈ zWS := List.mem_filter.mpr ⟨List.mem_of_getElem? (i := 149) (by decide +kernel), rfl⟩
theorem zq_40 : Cond.fieldLink "CircuitNet" 144 "CircuitNet$End" "channels" "[LCircuitNet$Channel;" ∈ zWS := List.mem_filter.mpr ⟨List.mem_of_getElem? (i := 109) (by decide +kernel), rfl⟩
theorem zq_41 : Cond.classLink "CircuitNet" 157 "CircuitNet$Joint" ∈ zWS := List.mem_filter.mpr ⟨List.mem_of_getElem? (i := 151) (by decide +kernel), rfl⟩
theorem zq_42 : Cond.instantiable "CircuitNet$Joint" 6 ∈ zWS := List.mem_filter.mpr ⟨List.mem_of_getElem? (i := 152) (by decide +kernel), rfl⟩
theorem zq_43 : Cond.initialized "CircuitNet$Joint" ∈ zWS := List.mem_filter.mpr ⟨List.mem_of_getElem? (i := 41) (by decide +kernel), rfl⟩
theorem zq_44 : Cond.methodLink "CircuitNet" 159 (⟨"CircuitNet$Joint", "<init>", "(LCircuitNet$End;I[LCircuitNet$End;)V"⟩ : MethodName) ∈ zWS := List.mem_filter.mpr ⟨List.mem_of_getElem? (i := 153) (by decide +kernel), rfl⟩
theorem zq_45 : Cond.instanceMethod (⟨"CircuitNet$Joint", "<init>", "(LCircuitNet$End;I[LCircuitNet$End;)V"⟩ : MethodName) ∈ zWS := List.mem_filter.mpr ⟨List.mem_of_getElem? (i := 154) (by decide +kernel), rfl⟩
theorem zq_46 : Cond.methodLink "CircuitNet$Joint" 3 (⟨"CircuitNet$Channel", "<init>", "(LCircuitNet$End;I)V"⟩ : MethodName) ∈ zWS := List.mem_filter.mpr ⟨List.mem_of_getElem? (i := 156) (by decide +kernel), rfl⟩
theorem zq_47 : Cond.instanceMethod (⟨"CircuitNet$Channel", "<init>", "(LCircuitNet$End;I)V"⟩ : MethodName) ∈ zWS := List.mem_filter.mpr ⟨List.mem_of_getElem? (i := 157) (by decide +kernel), rfl⟩
theorem zq_48 : Cond.initialized "CircuitNet$Channel" ∈ zWS := List.mem_filter.mpr ⟨List.mem_of_getElem? (i := 40) (by decide +kernel), rfl⟩
theorem zq_49 : Cond.fieldLink "CircuitNet$Joint" 9 "CircuitNet$Joint" "routes" "[LCircuitNet$End;" ∈ zWS := List.mem_filter.mpr ⟨List.mem_of_getElem? (i := 160) (by decide +kernel), rfl⟩
theorem zq_50 : Cond.methodLink "CircuitNet$Channel" 3 (⟨"java/lang/Object", "<init>", "()V"⟩ : MethodName) ∈ zWS := List.mem_filter.mpr ⟨List.mem_of_getElem? (i := 159) (by decide +kernel), rfl⟩
theorem zq_51 : Cond.fieldLink "CircuitNet$Channel" 9 "CircuitNet$Channel" "state" "I" ∈ zWS := List.mem_filter.mpr ⟨List.mem_of_getElem? (i := 167) (by decide +kernel), rfl⟩
theorem zq_52 : Cond.fieldLink "CircuitNet$Channel" 15 "CircuitNet$Channel" "at" "LCircuitNet$End;" ∈ zWS := List.mem_filter.mpr ⟨List.mem_of_getElem? (i := 163) (by decide +kernel), rfl⟩
theorem zq_53 : Cond.fieldLink "CircuitNet$Channel" 19 "CircuitNet$Channel" "number" "I" ∈ zWS := List.mem_filter.mpr ⟨List.mem_of_getElem? (i := 166) (by decide +kernel), rfl⟩
theorem zq_54 : Cond.classLink "CircuitNet" 44 "CircuitNet$Circuit" ∈ zWS := List.mem_filter.mpr ⟨List.mem_of_getElem? (i := 190) (by decide +kernel), rfl⟩
theorem zq_55 : Cond.instantiable "CircuitNet$Circuit" 8 ∈ zWS := List.mem_filter.mpr ⟨List.mem_of_getElem? (i := 192) (by decide +kernel), rfl⟩
theorem zq_56 : Cond.initialized "CircuitNet$Circuit" ∈ zWS := List.mem_filter.mpr ⟨List.mem_of_getElem? (i := 42) (by decide +kernel), rfl⟩
theorem zq_57 : Cond.methodLink "CircuitNet" 162 (⟨"CircuitNet$Circuit", "<init>", "(LCircuitNet$End;I)V"⟩ : MethodName) ∈ zWS := List.mem_filter.mpr ⟨List.mem_of_getElem? (i := 193) (by decide +kernel), rfl⟩
theorem zq_58 : Cond.instanceMethod (⟨"CircuitNet$Circuit", "<init>", "(LCircuitNet$End;I)V"⟩ : MethodName) ∈ zWS := List.mem_filter.mpr ⟨List.mem_of_getElem? (i := 194) (by decide +kernel), rfl⟩
theorem zq_59 : Cond.methodLink "CircuitNet$Circuit" 3 (⟨"CircuitNet$Channel", "<init>", "(LCircuitNet$End;I)V"⟩ : MethodName) ∈ zWS := List.mem_filter.mpr ⟨List.mem_of_getElem? (i := 196) (by decide +kernel), rfl⟩
theorem zq_60 : Cond.classLink "CircuitNet$Circuit" 9 "CircuitNet$Line" ∈ zWS := List.mem_filter.mpr ⟨List.mem_of_getElem? (i := 197) (by decide +kernel), rfl⟩
theorem zq_61 : Cond.fieldLink "CircuitNet$Circuit" 14 "CircuitNet$Circuit" "values" "LCircuitNet$Line;" ∈ zWS := List.mem_filter.mpr ⟨List.mem_of_getElem? (i := 201) (by decide +kernel), rfl⟩
theorem zq_62 : Cond.methodLink "CircuitNet" 29 (⟨"CircuitNet", "isTerminal", "(I)Z"⟩ : MethodName) ∈ zWS := List.mem_filter.mpr ⟨List.mem_of_getElem? (i := 231) (by decide +kernel), rfl⟩
theorem zq_63 : Cond.static (⟨"CircuitNet", "isTerminal", "(I)Z"⟩ : MethodName) ∈ zWS := List.mem_filter.mpr ⟨List.mem_of_getElem? (i := 232) (by decide +kernel), rfl⟩
theorem zq_64 : Cond.fieldLink "CircuitNet" 33 "CircuitNet$End" "isUp" "Z" ∈ zWS := List.mem_filter.mpr ⟨List.mem_of_getElem? (i := 113) (by decide +kernel), rfl⟩
theorem zq_65 : Cond.methodLink "CircuitNet" 39 (⟨"CircuitNet", "circuitAt", "(II)LCircuitNet$Circuit;"⟩ : MethodName) ∈ zWS := List.mem_filter.mpr ⟨List.mem_of_getElem? (i := 234) (by decide +kernel), rfl⟩
theorem zq_66 : Cond.instanceMethod (⟨"CircuitNet", "circuitAt", "(II)LCircuitNet$Circuit;"⟩ : MethodName) ∈ zWS := List.mem_filter.mpr ⟨List.mem_of_getElem? (i := 236) (by decide +kernel), rfl⟩
theorem zq_67 : Cond.selects "CircuitNet" (⟨"CircuitNet", "circuitAt", "(II)LCircuitNet$Circuit;"⟩ : MethodName) (⟨"CircuitNet", "circuitAt", "(II)LCircuitNet$Circuit;"⟩ : MethodName) ∈ zWS := List.mem_filter.mpr ⟨List.mem_of_getElem? (i := 0) (by decide +kernel), rfl⟩
theorem zq_68 : Cond.fieldLink "CircuitNet" 43 "CircuitNet$Circuit" "state" "I" ∈ zWS := List.mem_filter.mpr ⟨List.mem_of_getElem? (i := 170) (by decide +kernel), rfl⟩
theorem zq_69 : Cond.sameField "CircuitNet$Circuit" "CircuitNet$Channel" "state" "I" ∈ zWS := List.mem_filter.mpr ⟨List.mem_of_getElem? (i := 169) (by decide +kernel), rfl⟩
theorem zq_70 : Cond.methodLink "CircuitNet" 49 (⟨"CircuitNet$Circuit", "begin", "(II)V"⟩ : MethodName) ∈ zWS := List.mem_filter.mpr ⟨List.mem_of_getElem? (i := 238) (by decide +kernel), rfl⟩
theorem zq_71 : Cond.instanceMethod (⟨"CircuitNet$Circuit", "begin", "(II)V"⟩ : MethodName) ∈ zWS := List.mem_filter.mpr ⟨List.mem_of_getElem? (i := 239) (by decide +kernel), rfl⟩
theorem zq_72 : Cond.selects "CircuitNet$Circuit" (⟨"CircuitNet$Circuit", "begin", "(II)V"⟩ : MethodName) (⟨"CircuitNet$Circuit", "begin", "(II)V"⟩ : MethodName) ∈ zWS := List.mem_filter.mpr ⟨List.mem_of_getElem? (i := 240) (by decide +kernel), rfl⟩
theorem zq_73 : Cond.methodLink "CircuitNet" 53 (⟨"CircuitNet$Circuit", "put", "(III)V"⟩ : MethodName) ∈ zWS := List.mem_filter.mpr ⟨List.mem_of_getElem? (i := 260) (by decide +kernel), rfl⟩
theorem zq_74 : Cond.sameMethod "CircuitNet$Circuit" "CircuitNet$Channel" "put" "(III)V" ∈ zWS := List.mem_filter.mpr ⟨List.mem_of_getElem? (i := 261) (by decide +kernel), rfl⟩
theorem zq_75 : Cond.selects "CircuitNet$Circuit" (⟨"CircuitNet$Circuit", "put", "(III)V"⟩ : MethodName) (⟨"CircuitNet$Channel", "put", "(III)V"⟩ : MethodName) ∈ zWS := List.mem_filter.mpr ⟨List.mem_of_getElem? (i := 263) (by decide +kernel), rfl⟩
theorem zq_76 : Cond.instanceMethod (⟨"CircuitNet$Channel", "put", "(III)V"⟩ : MethodName) ∈ zWS := List.mem_filter.mpr ⟨List.mem_of_getElem? (i := 264) (by decide +kernel), rfl⟩
theorem zq_77 : Cond.fieldLink "CircuitNet$Circuit" 20 "CircuitNet$Circuit" "state" "I" ∈ zWS := List.mem_filter.mpr ⟨List.mem_of_getElem? (i := 168) (by decide +kernel), rfl⟩
theorem zq_78 : Cond.fieldLink "CircuitNet$Circuit" 24 "CircuitNet$Circuit" "peer" "I" ∈ zWS := List.mem_filter.mpr ⟨List.mem_of_getElem? (i := 199) (by decide +kernel), rfl⟩
theorem zq_79 : Cond.methodLink "CircuitNet$Circuit" 27 (⟨"CircuitNet$Circuit", "renew", "()V"⟩ : MethodName) ∈ zWS := List.mem_filter.mpr ⟨List.mem_of_getElem? (i := 242) (by decide +kernel), rfl⟩
theorem zq_80 : Cond.instanceMethod (⟨"CircuitNet$Circuit", "renew", "()V"⟩ : MethodName) ∈ zWS := List.mem_filter.mpr ⟨List.mem_of_getElem? (i := 243) (by decide +kernel), rfl⟩
theorem zq_81 : Cond.selects "CircuitNet$Circuit" (⟨"CircuitNet$Circuit", "renew", "()V"⟩ : MethodName) (⟨"CircuitNet$Circuit", "renew", "()V"⟩ : MethodName) ∈ zWS := List.mem_filter.mpr ⟨List.mem_of_getElem? (i := 244) (by decide +kernel), rfl⟩
theorem zq_82 : Cond.fieldLink "CircuitNet$Circuit" 30 "CircuitNet$Circuit" "own" "I" ∈ zWS := List.mem_filter.mpr ⟨List.mem_of_getElem? (i := 203) (by decide +kernel), rfl⟩
theorem zq_83 : Cond.fieldLink "CircuitNet$Circuit" 33 "CircuitNet$Circuit" "sure" "I" ∈ zWS := List.mem_filter.mpr ⟨List.mem_of_getElem? (i := 204) (by decide +kernel), rfl⟩
theorem zq_84 : Cond.fieldLink "CircuitNet$Circuit" 36 "CircuitNet$Circuit" "got" "I" ∈ zWS := List.mem_filter.mpr ⟨List.mem_of_getElem? (i := 205) (by decide +kernel), rfl⟩
theorem zq_85 : Cond.methodLink "CircuitNet$Circuit" 39 (⟨"CircuitNet$Line", "size", "()I"⟩ : MethodName) ∈ zWS := List.mem_filter.mpr ⟨List.mem_of_getElem? (i := 246) (by decide +kernel), rfl⟩
theorem zq_86 : Cond.instanceMethod (⟨"CircuitNet$Line", "size", "()I"⟩ : MethodName) ∈ zWS := List.mem_filter.mpr ⟨List.mem_of_getElem? (i := 247) (by decide +kernel), rfl⟩
theorem zq_87 : Cond.selects "CircuitNet$Line" (⟨"CircuitNet$Line", "size", "()I"⟩ : MethodName) (⟨"CircuitNet$Line", "size", "()I"⟩ : MethodName) ∈ zWS := List.mem_filter.mpr ⟨List.mem_of_getElem? (i := 248) (by decide +kernel), rfl⟩
theorem zq_88 : Cond.methodLink "CircuitNet$Circuit" 43 (⟨"CircuitNet$Line", "drop", "(I)V"⟩ : MethodName) ∈ zWS := List.mem_filter.mpr ⟨List.mem_of_getElem? (i := 250) (by decide +kernel), rfl⟩
theorem zq_89 : Cond.instanceMethod (⟨"CircuitNet$Line", "drop", "(I)V"⟩ : MethodName) ∈ zWS := List.mem_filter.mpr ⟨List.mem_of_getElem? (i := 251) (by decide +kernel), rfl⟩
theorem zq_90 : Cond.selects "CircuitNet$Line" (⟨"CircuitNet$Line", "drop", "(I)V"⟩ : MethodName) (⟨"CircuitNet$Line", "drop", "(I)V"⟩ : MethodName) ∈ zWS := List.mem_filter.mpr ⟨List.mem_of_getElem? (i := 252) (by decide +kernel), rfl⟩
theorem zq_91 : Cond.fieldLink "CircuitNet$Line" 15 "CircuitNet$Line" "count" "I" ∈ zWS := List.mem_filter.mpr ⟨List.mem_of_getElem? (i := 89) (by decide +kernel), rfl⟩
theorem zq_92 : Cond.methodLink "CircuitNet$Line" 25 (⟨"java/lang/Math", "min", "(II)I"⟩ : MethodName) ∈ zWS := List.mem_filter.mpr ⟨List.mem_of_getElem? (i := 254) (by decide +kernel), rfl⟩
theorem zq_93 : Cond.static (⟨"java/lang/Math", "min", "(II)I"⟩ : MethodName) ∈ zWS := List.mem_filter.mpr ⟨List.mem_of_getElem? (i := 255) (by decide +kernel), rfl⟩
theorem zq_94 : Cond.initialized "java/lang/Math" ∈ zWS := List.mem_filter.mpr ⟨List.mem_of_getElem? (i := 44) (by decide +kernel), rfl⟩
theorem zq_95 : Cond.code (⟨"java/lang/Math", "min", "(II)I"⟩ : MethodName) prog_11_method_69_code 2 (Option.some Jvm.ClassFile.FieldType.int) ∈ zWS := List.mem_filter.mpr ⟨List.mem_of_getElem? (i := 256) (by decide +kernel), rfl⟩
theorem zq_96 : Cond.methodLink "CircuitNet$Line" 31 (⟨"java/lang/Math", "max", "(II)I"⟩ : MethodName) ∈ zWS := List.mem_filter.mpr ⟨List.mem_of_getElem? (i := 257) (by decide +kernel), rfl⟩
theorem zq_97 : Cond.static (⟨"java/lang/Math", "max", "(II)I"⟩ : MethodName) ∈ zWS := List.mem_filter.mpr ⟨List.mem_of_getElem? (i := 258) (by decide +kernel), rfl⟩
theorem zq_98 : Cond.code (⟨"java/lang/Math", "max", "(II)I"⟩ : MethodName) prog_11_method_65_code 2 (Option.some Jvm.ClassFile.FieldType.int) ∈ zWS := List.mem_filter.mpr ⟨List.mem_of_getElem? (i := 259) (by decide +kernel), rfl⟩
theorem zq_99 : Cond.fieldLink "CircuitNet$Line" 19 "CircuitNet$Line" "start" "I" ∈ zWS := List.mem_filter.mpr ⟨List.mem_of_getElem? (i := 88) (by decide +kernel), rfl⟩
theorem zq_100 : Cond.fieldLink "CircuitNet$Channel" 22 "CircuitNet$End" "row" "LCircuitNet$Line;" ∈ zWS := List.mem_filter.mpr ⟨List.mem_of_getElem? (i := 105) (by decide +kernel), rfl⟩
theorem zq_101 : Cond.methodLink "CircuitNet$Channel" 28 (⟨"CircuitNet$Packet", "of", "(IIII)I"⟩ : MethodName) ∈ zWS := List.mem_filter.mpr ⟨List.mem_of_getElem? (i := 266) (by decide +kernel), rfl⟩
theorem zq_102 : Cond.static (⟨"CircuitNet$Packet", "of", "(IIII)I"⟩ : MethodName) ∈ zWS := List.mem_filter.mpr ⟨List.mem_of_getElem? (i := 267) (by decide +kernel), rfl⟩
theorem zq_103 : Cond.initialized "CircuitNet$Packet" ∈ zWS := List.mem_filter.mpr ⟨List.mem_of_getElem? (i := 45) (by decide +kernel), rfl⟩
theorem zq_104 : Cond.methodLink "CircuitNet$Channel" 34 (⟨"CircuitNet$Line", "add", "(I)V"⟩ : MethodName) ∈ zWS := List.mem_filter.mpr ⟨List.mem_of_getElem? (i := 269) (by decide +kernel), rfl⟩
theorem zq_105 : Cond.instanceMethod (⟨"CircuitNet$Line", "add", "(I)V"⟩ : MethodName) ∈ zWS := List.mem_filter.mpr ⟨List.mem_of_getElem? (i := 270) (by decide +kernel), rfl⟩
theorem zq_106 : Cond.selects "CircuitNet$Line" (⟨"CircuitNet$Line", "add", "(I)V"⟩ : MethodName) (⟨"CircuitNet$Line", "add", "(I)V"⟩ : MethodName) ∈ zWS := List.mem_filter.mpr ⟨List.mem_of_getElem? (i := 271) (by decide +kernel), rfl⟩
theorem zq_107 : Cond.methodLink "CircuitNet$Channel" 40 (⟨"CircuitNet$End", "sendOn", "()V"⟩ : MethodName) ∈ zWS := List.mem_filter.mpr ⟨List.mem_of_getElem? (i := 277) (by decide +kernel), rfl⟩
theorem zq_108 : Cond.instanceMethod (⟨"CircuitNet$End", "sendOn", "()V"⟩ : MethodName) ∈ zWS := List.mem_filter.mpr ⟨List.mem_of_getElem? (i := 278) (by decide +kernel), rfl⟩
theorem zq_109 : Cond.selects "CircuitNet$End" (⟨"CircuitNet$End", "sendOn", "()V"⟩ : MethodName) (⟨"CircuitNet$End", "sendOn", "()V"⟩ : MethodName) ∈ zWS := List.mem_filter.mpr ⟨List.mem_of_getElem? (i := 279) (by decide +kernel), rfl⟩
theorem zq_110 : Cond.methodLink "CircuitNet$Line" 22 (⟨"CircuitNet$Line", "grow", "()V"⟩ : MethodName) ∈ zWS := List.mem_filter.mpr ⟨List.mem_of_getElem? (i := 273) (by decide +kernel), rfl⟩
theorem zq_111 : Cond.instanceMethod (⟨"CircuitNet$Line", "grow", "()V"⟩ : MethodName) ∈ zWS := List.mem_filter.mpr ⟨List.mem_of_getElem? (i := 275) (by decide +kernel), rfl⟩
theorem zq_112 : Cond.selects "CircuitNet$Line" (⟨"CircuitNet$Line", "grow", "()V"⟩ : MethodName) (⟨"CircuitNet$Line", "grow", "()V"⟩ : MethodName) ∈ zWS := List.mem_filter.mpr ⟨List.mem_of_getElem? (i := 1) (by decide +kernel), rfl⟩
theorem zq_113 : Cond.fieldLink "CircuitNet$End" 69 "CircuitNet$End" "unconfirmed" "I" ∈ zWS := List.mem_filter.mpr ⟨List.mem_of_getElem? (i := 115) (by decide +kernel), rfl⟩
theorem zq_114 : Cond.methodLink "CircuitNet$End" 82 (⟨"CircuitNet$Line", "size", "()I"⟩ : MethodName) ∈ zWS := List.mem_filter.mpr ⟨List.mem_of_getElem? (i := 281) (by decide +kernel), rfl⟩
theorem zq_115 : Cond.fieldLink "CircuitNet$End" 44 "CircuitNet$End" "epoch" "I" ∈ zWS := List.mem_filter.mpr ⟨List.mem_of_getElem? (i := 110) (by decide +kernel), rfl⟩
theorem zq_116 : Cond.fieldLink "CircuitNet$End" 66 "CircuitNet$End" "first" "I" ∈ zWS := List.mem_filter.mpr ⟨List.mem_of_getElem? (i := 116) (by decide +kernel), rfl⟩
theorem zq_117 : Cond.fieldLink "CircuitNet$End" 76 "CircuitNet$End" "due" "I" ∈ zWS := List.mem_filter.mpr ⟨List.mem_of_getElem? (i := 117) (by decide +kernel), rfl⟩
theorem zq_118 : Cond.methodLink "CircuitNet$End" 86 (⟨"CircuitNet$Line", "at", "(I)I"⟩ : MethodName) ∈ zWS := List.mem_filter.mpr ⟨List.mem_of_getElem? (i := 282) (by decide +kernel), rfl⟩
theorem zq_119 : Cond.instanceMethod (⟨"CircuitNet$Line", "at", "(I)I"⟩ : MethodName) ∈ zWS := List.mem_filter.mpr ⟨List.mem_of_getElem? (i := 283) (by decide +kernel), rfl⟩
theorem zq_120 : Cond.selects "CircuitNet$Line" (⟨"CircuitNet$Line", "at", "(I)I"⟩ : MethodName) (⟨"CircuitNet$Line", "at", "(I)I"⟩ : MethodName) ∈ zWS := List.mem_filter.mpr ⟨List.mem_of_getElem? (i := 284) (by decide +kernel), rfl⟩
theorem zq_121 : Cond.methodLink "CircuitNet$End" 51 (⟨"CircuitNet$Wire", "add", "(IIIII)V"⟩ : MethodName) ∈ zWS := List.mem_filter.mpr ⟨List.mem_of_getElem? (i := 286) (by decide +kernel), rfl⟩
theorem zq_122 : Cond.instanceMethod (⟨"CircuitNet$Wire", "add", "(IIIII)V"⟩ : MethodName) ∈ zWS := List.mem_filter.mpr ⟨List.mem_of_getElem? (i := 287) (by decide +kernel), rfl⟩
theorem zq_123 : Cond.selects "CircuitNet$Wire" (⟨"CircuitNet$Wire", "add", "(IIIII)V"⟩ : MethodName) (⟨"CircuitNet$Wire", "add", "(IIIII)V"⟩ : MethodName) ∈ zWS := List.mem_filter.mpr ⟨List.mem_of_getElem? (i := 288) (by decide +kernel), rfl⟩
theorem zq_124 : Cond.fieldLink "CircuitNet$Wire" 15 "CircuitNet$Wire" "count" "I" ∈ zWS := List.mem_filter.mpr ⟨List.mem_of_getElem? (i := 67) (by decide +kernel), rfl⟩
theorem zq_125 : Cond.fieldLink "CircuitNet$Wire" 19 "CircuitNet$Wire" "start" "I" ∈ zWS := List.mem_filter.mpr ⟨List.mem_of_getElem? (i := 66) (by decide +kernel), rfl⟩
theorem zq_126 : Cond.methodLink "CircuitNet" 57 (⟨"CircuitNet$Circuit", "hasPeer", "()Z"⟩ : MethodName) ∈ zWS := List.mem_filter.mpr ⟨List.mem_of_getElem? (i := 298) (by decide +kernel), rfl⟩
theorem zq_127 : Cond.instanceMethod (⟨"CircuitNet$Circuit", "hasPeer", "()Z"⟩ : MethodName) ∈ zWS := List.mem_filter.mpr ⟨List.mem_of_getElem? (i := 299) (by decide +kernel), rfl⟩
theorem zq_128 : Cond.selects "CircuitNet$Circuit" (⟨"CircuitNet$Circuit", "hasPeer", "()Z"⟩ : MethodName) (⟨"CircuitNet$Circuit", "hasPeer", "()Z"⟩ : MethodName) ∈ zWS := List.mem_filter.mpr ⟨List.mem_of_getElem? (i := 300) (by decide +kernel), rfl⟩
theorem zq_129 : Cond.methodLink "CircuitNet" 61 (⟨"CircuitNet$Circuit", "startClearing", "()V"⟩ : MethodName) ∈ zWS := List.mem_filter.mpr ⟨List.mem_of_getElem? (i := 302) (by decide +kernel), rfl⟩
theorem zq_130 : Cond.sameMethod "CircuitNet$Circuit" "CircuitNet$Channel" "startClearing" "()V" ∈ zWS := List.mem_filter.mpr ⟨List.mem_of_getElem? (i := 303) (by decide +kernel), rfl⟩
theorem zq_131 : Cond.selects "CircuitNet$Circuit" (⟨"CircuitNet$Circuit", "startClearing", "()V"⟩ : MethodName) (⟨"CircuitNet$Channel", "startClearing", "()V"⟩ : MethodName) ∈ zWS := List.mem_filter.mpr ⟨List.mem_of_getElem? (i := 305) (by decide +kernel), rfl⟩
theorem zq_132 : Cond.instanceMethod (⟨"CircuitNet$Channel", "startClearing", "()V"⟩ : MethodName) ∈ zWS := List.mem_filter.mpr ⟨List.mem_of_getElem? (i := 306) (by decide +kernel), rfl⟩
theorem zq_133 : Cond.methodLink "CircuitNet$Channel" 43 (⟨"CircuitNet$Channel", "put", "(III)V"⟩ : MethodName) ∈ zWS := List.mem_filter.mpr ⟨List.mem_of_getElem? (i := 308) (by decide +kernel), rfl⟩
theorem zq_134 : Cond.sameMethod "CircuitNet$Channel" "CircuitNet$Channel" "put" "(III)V" ∈ zWS := List.mem_filter.mpr ⟨List.mem_of_getElem? (i := 759) (by decide +kernel), rfl⟩
theorem zq_135 : Cond.selects "CircuitNet$Circuit" (⟨"CircuitNet$Channel", "put", "(III)V"⟩ : MethodName) (⟨"CircuitNet$Channel", "put", "(III)V"⟩ : MethodName) ∈ zWS := List.mem_filter.mpr ⟨List.mem_of_getElem? (i := 760) (by decide +kernel), rfl⟩
theorem zq_136 : Cond.selects "CircuitNet$Joint" (⟨"CircuitNet$Channel", "put", "(III)V"⟩ : MethodName) (⟨"CircuitNet$Channel", "put", "(III)V"⟩ : MethodName) ∈ zWS := List.mem_filter.mpr ⟨List.mem_of_getElem? (i := 761) (by decide +kernel), rfl⟩
theorem zq_137 : Cond.methodLink "CircuitNet" 64 (⟨"CircuitNet$Circuit", "renew", "()V"⟩ : MethodName) ∈ zWS := List.mem_filter.mpr ⟨List.mem_of_getElem? (i := 313) (by decide +kernel), rfl⟩
theorem zq_138 : Cond.methodLink "CircuitNet" 67 (⟨"CircuitNet$Circuit", "windowIsFull", "()Z"⟩ : MethodName) ∈ zWS := List.mem_filter.mpr ⟨List.mem_of_getElem? (i := 318) (by decide +kernel), rfl⟩
theorem zq_139 : Cond.instanceMethod (⟨"CircuitNet$Circuit", "windowIsFull", "()Z"⟩ : MethodName) ∈ zWS := List.mem_filter.mpr ⟨List.mem_of_getElem? (i := 319) (by decide +kernel), rfl⟩
theorem zq_140 : Cond.selects "CircuitNet$Circuit" (⟨"CircuitNet$Circuit", "windowIsFull", "()Z"⟩ : MethodName) (⟨"CircuitNet$Circuit", "windowIsFull", "()Z"⟩ : MethodName) ∈ zWS := List.mem_filter.mpr ⟨List.mem_of_getElem? (i := 320) (by decide +kernel), rfl⟩
theorem zq_141 : Cond.methodLink "CircuitNet" 70 (⟨"CircuitNet$Circuit", "putValue", "(I)I"⟩ : MethodName) ∈ zWS := List.mem_filter.mpr ⟨List.mem_of_getElem? (i := 322) (by decide +kernel), rfl⟩
theorem zq_142 : Cond.instanceMethod (⟨"CircuitNet$Circuit", "putValue", "(I)I"⟩ : MethodName) ∈ zWS := List.mem_filter.mpr ⟨List.mem_of_getElem? (i := 323) (by decide +kernel), rfl⟩
theorem zq_143 : Cond.selects "CircuitNet$Circuit" (⟨"CircuitNet$Circuit", "putValue", "(I)I"⟩ : MethodName) (⟨"CircuitNet$Circuit", "putValue", "(I)I"⟩ : MethodName) ∈ zWS := List.mem_filter.mpr ⟨List.mem_of_getElem? (i := 324) (by decide +kernel), rfl⟩
theorem zq_144 : Cond.methodLink "CircuitNet$Circuit" 47 (⟨"CircuitNet$Circuit", "put", "(III)V"⟩ : MethodName) ∈ zWS := List.mem_filter.mpr ⟨List.mem_of_getElem? (i := 326) (by decide +kernel), rfl⟩
theorem zq_145 : Cond.fieldLink "CircuitNet" 74 "CircuitNet$Circuit" "values" "LCircuitNet$Line;" ∈ zWS := List.mem_filter.mpr ⟨List.mem_of_getElem? (i := 202) (by decide +kernel), rfl⟩
theorem zq_146 : Cond.methodLink "CircuitNet" 78 (⟨"CircuitNet$Line", "size", "()I"⟩ : MethodName) ∈ zWS := List.mem_filter.mpr ⟨List.mem_of_getElem? (i := 331) (by decide +kernel), rfl⟩
theorem zq_147 : Cond.methodLink "CircuitNet" 84 (⟨"CircuitNet$Circuit", "takeValue", "()I"⟩ : MethodName) ∈ zWS := List.mem_filter.mpr ⟨List.mem_of_getElem? (i := 332) (by decide +kernel), rfl⟩
theorem zq_148 : Cond.instanceMethod (⟨"CircuitNet$Circuit", "takeValue", "()I"⟩ : MethodName) ∈ zWS := List.mem_filter.mpr ⟨List.mem_of_getElem? (i := 333) (by decide +kernel), rfl⟩
theorem zq_149 : Cond.selects "CircuitNet$Circuit" (⟨"CircuitNet$Circuit", "takeValue", "()I"⟩ : MethodName) (⟨"CircuitNet$Circuit", "takeValue", "()I"⟩ : MethodName) ∈ zWS := List.mem_filter.mpr ⟨List.mem_of_getElem? (i := 334) (by decide +kernel), rfl⟩
theorem zq_150 : Cond.methodLink "CircuitNet$Circuit" 51 (⟨"CircuitNet$Line", "at", "(I)I"⟩ : MethodName) ∈ zWS := List.mem_filter.mpr ⟨List.mem_of_getElem? (i := 336) (by decide +kernel), rfl⟩
theorem zq_151 : Cond.methodLink "CircuitNet" 87 (⟨"CircuitNet", "endAt", "(II)LCircuitNet$End;"⟩ : MethodName) ∈ zWS := List.mem_filter.mpr ⟨List.mem_of_getElem? (i := 341) (by decide +kernel), rfl⟩
theorem zq_152 : Cond.instanceMethod (⟨"CircuitNet", "endAt", "(II)LCircuitNet$End;"⟩ : MethodName) ∈ zWS := List.mem_filter.mpr ⟨List.mem_of_getElem? (i := 343) (by decide +kernel), rfl⟩
theorem zq_153 : Cond.selects "CircuitNet" (⟨"CircuitNet", "endAt", "(II)LCircuitNet$End;"⟩ : MethodName) (⟨"CircuitNet", "endAt", "(II)LCircuitNet$End;"⟩ : MethodName) ∈ zWS := List.mem_filter.mpr ⟨List.mem_of_getElem? (i := 2) (by decide +kernel), rfl⟩
theorem zq_154 : Cond.fieldLink "CircuitNet" 91 "CircuitNet$End" "in" "LCircuitNet$Wire;" ∈ zWS := List.mem_filter.mpr ⟨List.mem_of_getElem? (i := 100) (by decide +kernel), rfl⟩
theorem zq_155 : Cond.methodLink "CircuitNet" 95 (⟨"CircuitNet$Wire", "size", "()I"⟩ : MethodName) ∈ zWS := List.mem_filter.mpr ⟨List.mem_of_getElem? (i := 345) (by decide +kernel), rfl⟩
theorem zq_156 : Cond.instanceMethod (⟨"CircuitNet$Wire", "size", "()I"⟩ : MethodName) ∈ zWS := List.mem_filter.mpr ⟨List.mem_of_getElem? (i := 346) (by decide +kernel), rfl⟩
theorem zq_157 : Cond.selects "CircuitNet$Wire" (⟨"CircuitNet$Wire", "size", "()I"⟩ : MethodName) (⟨"CircuitNet$Wire", "size", "()I"⟩ : MethodName) ∈ zWS := List.mem_filter.mpr ⟨List.mem_of_getElem? (i := 347) (by decide +kernel), rfl⟩
theorem zq_158 : Cond.methodLink "CircuitNet" 98 (⟨"CircuitNet$Wire", "word", "(II)I"⟩ : MethodName) ∈ zWS := List.mem_filter.mpr ⟨List.mem_of_getElem? (i := 349) (by decide +kernel), rfl⟩
theorem zq_159 : Cond.instanceMethod (⟨"CircuitNet$Wire", "word", "(II)I"⟩ : MethodName) ∈ zWS := List.mem_filter.mpr ⟨List.mem_of_getElem? (i := 350) (by decide +kernel), rfl⟩
theorem zq_160 : Cond.selects "CircuitNet$Wire" (⟨"CircuitNet$Wire", "word", "(II)I"⟩ : MethodName) (⟨"CircuitNet$Wire", "word", "(II)I"⟩ : MethodName) ∈ zWS := List.mem_filter.mpr ⟨List.mem_of_getElem? (i := 351) (by decide +kernel), rfl⟩
theorem zq_161 : Cond.methodLink "CircuitNet" 102 (⟨"CircuitNet$Wire", "dropFirst", "()V"⟩ : MethodName) ∈ zWS := List.mem_filter.mpr ⟨List.mem_of_getElem? (i := 353) (by decide +kernel), rfl⟩
theorem zq_162 : Cond.instanceMethod (⟨"CircuitNet$Wire", "dropFirst", "()V"⟩ : MethodName) ∈ zWS := List.mem_filter.mpr ⟨List.mem_of_getElem? (i := 354) (by decide +kernel), rfl⟩
theorem zq_163 : Cond.selects "CircuitNet$Wire" (⟨"CircuitNet$Wire", "dropFirst", "()V"⟩ : MethodName) (⟨"CircuitNet$Wire", "dropFirst", "()V"⟩ : MethodName) ∈ zWS := List.mem_filter.mpr ⟨List.mem_of_getElem? (i := 355) (by decide +kernel), rfl⟩
theorem zq_164 : Cond.methodLink "CircuitNet" 105 (⟨"CircuitNet$End", "meetSet", "(I)V"⟩ : MethodName) ∈ zWS := List.mem_filter.mpr ⟨List.mem_of_getElem? (i := 357) (by decide +kernel), rfl⟩
theorem zq_165 : Cond.instanceMethod (⟨"CircuitNet$End", "meetSet", "(I)V"⟩ : MethodName) ∈ zWS := List.mem_filter.mpr ⟨List.mem_of_getElem? (i := 358) (by decide +kernel), rfl⟩
theorem zq_166 : Cond.selects "CircuitNet$End" (⟨"CircuitNet$End", "meetSet", "(I)V"⟩ : MethodName) (⟨"CircuitNet$End", "meetSet", "(I)V"⟩ : MethodName) ∈ zWS := List.mem_filter.mpr ⟨List.mem_of_getElem? (i := 359) (by decide +kernel), rfl⟩
theorem zq_167 : Cond.methodLink "CircuitNet" 109 (⟨"CircuitNet$End", "meetSettled", "(I)V"⟩ : MethodName) ∈ zWS := List.mem_filter.mpr ⟨List.mem_of_getElem? (i := 382) (by decide +kernel), rfl⟩
theorem zq_168 : Cond.instanceMethod (⟨"CircuitNet$End", "meetSettled", "(I)V"⟩ : MethodName) ∈ zWS := List.mem_filter.mpr ⟨List.mem_of_getElem? (i := 383) (by decide +kernel), rfl⟩
theorem zq_169 : Cond.selects "CircuitNet$End" (⟨"CircuitNet$End", "meetSettled", "(I)V"⟩ : MethodName) (⟨"CircuitNet$End", "meetSettled", "(I)V"⟩ : MethodName) ∈ zWS := List.mem_filter.mpr ⟨List.mem_of_getElem? (i := 384) (by decide +kernel), rfl⟩
theorem zq_170 : Cond.fieldLink "CircuitNet" 112 "CircuitNet$End" "epoch" "I" ∈ zWS := List.mem_filter.mpr ⟨List.mem_of_getElem? (i := 111) (by decide +kernel), rfl⟩
theorem zq_171 : Cond.methodLink "CircuitNet" 115 (⟨"CircuitNet$End", "confirm", "(I)V"⟩ : MethodName) ∈ zWS := List.mem_filter.mpr ⟨List.mem_of_getElem? (i := 387) (by decide +kernel), rfl⟩
theorem zq_172 : Cond.instanceMethod (⟨"CircuitNet$End", "confirm", "(I)V"⟩ : MethodName) ∈ zWS := List.mem_filter.mpr ⟨List.mem_of_getElem? (i := 388) (by decide +kernel), rfl⟩
theorem zq_173 : Cond.selects "CircuitNet$End" (⟨"CircuitNet$End", "confirm", "(I)V"⟩ : MethodName) (⟨"CircuitNet$End", "confirm", "(I)V"⟩ : MethodName) ∈ zWS := List.mem_filter.mpr ⟨List.mem_of_getElem? (i := 389) (by decide +kernel), rfl⟩
theorem zq_174 : Cond.methodLink "CircuitNet" 118 (⟨"CircuitNet$End", "expects", "(I)Z"⟩ : MethodName) ∈ zWS := List.mem_filter.mpr ⟨List.mem_of_getElem? (i := 391) (by decide +kernel), rfl⟩
theorem zq_175 : Cond.instanceMethod (⟨"CircuitNet$End", "expects", "(I)Z"⟩ : MethodName) ∈ zWS := List.mem_filter.mpr ⟨List.mem_of_getElem? (i := 392) (by decide +kernel), rfl⟩
theorem zq_176 : Cond.selects "CircuitNet$End" (⟨"CircuitNet$End", "expects", "(I)Z"⟩ : MethodName) (⟨"CircuitNet$End", "expects", "(I)Z"⟩ : MethodName) ∈ zWS := List.mem_filter.mpr ⟨List.mem_of_getElem? (i := 393) (by decide +kernel), rfl⟩
theorem zq_177 : Cond.methodLink "CircuitNet" 121 (⟨"CircuitNet$End", "channelOf", "(I)LCircuitNet$Channel;"⟩ : MethodName) ∈ zWS := List.mem_filter.mpr ⟨List.mem_of_getElem? (i := 395) (by decide +kernel), rfl⟩
theorem zq_178 : Cond.instanceMethod (⟨"CircuitNet$End", "channelOf", "(I)LCircuitNet$Channel;"⟩ : MethodName) ∈ zWS := List.mem_filter.mpr ⟨List.mem_of_getElem? (i := 396) (by decide +kernel), rfl⟩
theorem zq_179 : Cond.selects "CircuitNet$End" (⟨"CircuitNet$End", "channelOf", "(I)LCircuitNet$Channel;"⟩ : MethodName) (⟨"CircuitNet$End", "channelOf", "(I)LCircuitNet$Channel;"⟩ : MethodName) ∈ zWS := List.mem_filter.mpr ⟨List.mem_of_getElem? (i := 397) (by decide +kernel), rfl⟩
theorem zq_180 : Cond.methodLink "CircuitNet" 127 (⟨"CircuitNet$Packet", "part", "(II)I"⟩ : MethodName) ∈ zWS := List.mem_filter.mpr ⟨List.mem_of_getElem? (i := 402) (by decide +kernel), rfl⟩
theorem zq_181 : Cond.static (⟨"CircuitNet$Packet", "part", "(II)I"⟩ : MethodName) ∈ zWS := List.mem_filter.mpr ⟨List.mem_of_getElem? (i := 400) (by decide +kernel), rfl⟩
theorem zq_182 : Cond.methodLink "CircuitNet" 130 (⟨"CircuitNet$Channel", "arrive", "(III)V"⟩ : MethodName) ∈ zWS := List.mem_filter.mpr ⟨List.mem_of_getElem? (i := 403) (by decide +kernel), rfl⟩
theorem zq_183 : Cond.sameMethod "CircuitNet$Channel" "CircuitNet$Channel" "arrive" "(III)V" ∈ zWS := List.mem_filter.mpr ⟨List.mem_of_getElem? (i := 405) (by decide +kernel), rfl⟩
theorem zq_184 : Cond.selects "CircuitNet$Circuit" (⟨"CircuitNet$Channel", "arrive", "(III)V"⟩ : MethodName) (⟨"CircuitNet$Circuit", "arrive", "(III)V"⟩ : MethodName) ∈ zWS := List.mem_filter.mpr ⟨List.mem_of_getElem? (i := 406) (by decide +kernel), rfl⟩
theorem zq_185 : Cond.instanceMethod (⟨"CircuitNet$Circuit", "arrive", "(III)V"⟩ : MethodName) ∈ zWS := List.mem_filter.mpr ⟨List.mem_of_getElem? (i := 407) (by decide +kernel), rfl⟩
theorem zq_186 : Cond.selects "CircuitNet$Joint" (⟨"CircuitNet$Channel", "arrive", "(III)V"⟩ : MethodName) (⟨"CircuitNet$Joint", "arrive", "(III)V"⟩ : MethodName) ∈ zWS := List.mem_filter.mpr ⟨List.mem_of_getElem? (i := 423) (by decide +kernel), rfl⟩
theorem zq_187 : Cond.instanceMethod (⟨"CircuitNet$Joint", "arrive", "(III)V"⟩ : MethodName) ∈ zWS := List.mem_filter.mpr ⟨List.mem_of_getElem? (i := 424) (by decide +kernel), rfl⟩
theorem zq_188 : Cond.methodLink "CircuitNet$End" 48 (⟨"CircuitNet$End", "breakDown", "()V"⟩ : MethodName) ∈ zWS := List.mem_filter.mpr ⟨List.mem_of_getElem? (i := 361) (by decide +kernel), rfl⟩
theorem zq_189 : Cond.instanceMethod (⟨"CircuitNet$End", "breakDown", "()V"⟩ : MethodName) ∈ zWS := List.mem_filter.mpr ⟨List.mem_of_getElem? (i := 363) (by decide +kernel), rfl⟩
theorem zq_190 : Cond.selects "CircuitNet$End" (⟨"CircuitNet$End", "breakDown", "()V"⟩ : MethodName) (⟨"CircuitNet$End", "breakDown", "()V"⟩ : MethodName) ∈ zWS := List.mem_filter.mpr ⟨List.mem_of_getElem? (i := 3) (by decide +kernel), rfl⟩
theorem zq_191 : Cond.methodLink "CircuitNet$End" 72 (⟨"CircuitNet$Line", "drop", "(I)V"⟩ : MethodName) ∈ zWS := List.mem_filter.mpr ⟨List.mem_of_getElem? (i := 365) (by decide +kernel), rfl⟩
theorem zq_192 : Cond.fieldLink "CircuitNet$End" 57 "CircuitNet$End" "tries" "I" ∈ zWS := List.mem_filter.mpr ⟨List.mem_of_getElem? (i := 118) (by decide +kernel), rfl⟩
theorem zq_193 : Cond.fieldLink "CircuitNet$End" 60 "CircuitNet$End" "clock" "I" ∈ zWS := List.mem_filter.mpr ⟨List.mem_of_getElem? (i := 119) (by decide +kernel), rfl⟩
theorem zq_194 : Cond.methodLink "CircuitNet$End" 90 (⟨"CircuitNet$Channel", "beLost", "()V"⟩ : MethodName) ∈ zWS := List.mem_filter.mpr ⟨List.mem_of_getElem? (i := 366) (by decide +kernel), rfl⟩
theorem zq_195 : Cond.sameMethod "CircuitNet$Channel" "CircuitNet$Channel" "beLost" "()V" ∈ zWS := List.mem_filter.mpr ⟨List.mem_of_getElem? (i := 368) (by decide +kernel), rfl⟩
theorem zq_196 : Cond.selects "CircuitNet$Circuit" (⟨"CircuitNet$Channel", "beLost", "()V"⟩ : MethodName) (⟨"CircuitNet$Circuit", "beLost", "()V"⟩ : MethodName) ∈ zWS := List.mem_filter.mpr ⟨List.mem_of_getElem? (i := 369) (by decide +kernel), rfl⟩
theorem zq_197 : Cond.instanceMethod (⟨"CircuitNet$Circuit", "beLost", "()V"⟩ : MethodName) ∈ zWS := List.mem_filter.mpr ⟨List.mem_of_getElem? (i := 370) (by decide +kernel), rfl⟩
theorem zq_198 : Cond.selects "CircuitNet$Joint" (⟨"CircuitNet$Channel", "beLost", "()V"⟩ : MethodName) (⟨"CircuitNet$Joint", "beLost", "()V"⟩ : MethodName) ∈ zWS := List.mem_filter.mpr ⟨List.mem_of_getElem? (i := 372) (by decide +kernel), rfl⟩
theorem zq_199 : Cond.instanceMethod (⟨"CircuitNet$Joint", "beLost", "()V"⟩ : MethodName) ∈ zWS := List.mem_filter.mpr ⟨List.mem_of_getElem? (i := 373) (by decide +kernel), rfl⟩
theorem zq_200 : Cond.methodLink "CircuitNet$Joint" 48 (⟨"CircuitNet$Joint", "leave", "()LCircuitNet$Joint;"⟩ : MethodName) ∈ zWS := List.mem_filter.mpr ⟨List.mem_of_getElem? (i := 375) (by decide +kernel), rfl⟩
theorem zq_201 : Cond.instanceMethod (⟨"CircuitNet$Joint", "leave", "()LCircuitNet$Joint;"⟩ : MethodName) ∈ zWS := List.mem_filter.mpr ⟨List.mem_of_getElem? (i := 377) (by decide +kernel), rfl⟩
theorem zq_202 : Cond.selects "CircuitNet$Joint" (⟨"CircuitNet$Joint", "leave", "()LCircuitNet$Joint;"⟩ : MethodName) (⟨"CircuitNet$Joint", "leave", "()LCircuitNet$Joint;"⟩ : MethodName) ∈ zWS := List.mem_filter.mpr ⟨List.mem_of_getElem? (i := 4) (by decide +kernel), rfl⟩
theorem zq_203 : Cond.methodLink "CircuitNet$Joint" 52 (⟨"CircuitNet$Joint", "startClearing", "()V"⟩ : MethodName) ∈ zWS := List.mem_filter.mpr ⟨List.mem_of_getElem? (i := 379) (by decide +kernel), rfl⟩
theorem zq_204 : Cond.sameMethod "CircuitNet$Joint" "CircuitNet$Channel" "startClearing" "()V" ∈ zWS := List.mem_filter.mpr ⟨List.mem_of_getElem? (i := 380) (by decide +kernel), rfl⟩
theorem zq_205 : Cond.selects "CircuitNet$Joint" (⟨"CircuitNet$Joint", "startClearing", "()V"⟩ : MethodName) (⟨"CircuitNet$Channel", "startClearing", "()V"⟩ : MethodName) ∈ zWS := List.mem_filter.mpr ⟨List.mem_of_getElem? (i := 381) (by decide +kernel), rfl⟩
theorem zq_206 : Cond.fieldLink "CircuitNet$Joint" 36 "CircuitNet$Joint" "state" "I" ∈ zWS := List.mem_filter.mpr ⟨List.mem_of_getElem? (i := 171) (by decide +kernel), rfl⟩
theorem zq_207 : Cond.sameField "CircuitNet$Joint" "CircuitNet$Channel" "state" "I" ∈ zWS := List.mem_filter.mpr ⟨List.mem_of_getElem? (i := 172) (by decide +kernel), rfl⟩
theorem zq_208 : Cond.fieldLink "CircuitNet$Joint" 40 "CircuitNet$Joint" "partner" "LCircuitNet$Joint;" ∈ zWS := List.mem_filter.mpr ⟨List.mem_of_getElem? (i := 161) (by decide +kernel), rfl⟩
theorem zq_209 : Cond.methodLink "CircuitNet$End" 63 (⟨"CircuitNet$End", "sendOn", "()V"⟩ : MethodName) ∈ zWS := List.mem_filter.mpr ⟨List.mem_of_getElem? (i := 386) (by decide +kernel), rfl⟩
theorem zq_210 : Cond.methodLink "CircuitNet$End" 40 (⟨"CircuitNet$Packet", "part", "(II)I"⟩ : MethodName) ∈ zWS := List.mem_filter.mpr ⟨List.mem_of_getElem? (i := 399) (by decide +kernel), rfl⟩
theorem zq_211 : Cond.methodLink "CircuitNet$Circuit" 55 (⟨"CircuitNet$Circuit", "begin", "(II)V"⟩ : MethodName) ∈ zWS := List.mem_filter.mpr ⟨List.mem_of_getElem? (i := 409) (by decide +kernel), rfl⟩
theorem zq_212 : Cond.methodLink "CircuitNet$Circuit" 59 (⟨"CircuitNet$Circuit", "change", "(II)V"⟩ : MethodName) ∈ zWS := List.mem_filter.mpr ⟨List.mem_of_getElem? (i := 410) (by decide +kernel), rfl⟩
theorem zq_213 : Cond.instanceMethod (⟨"CircuitNet$Circuit", "change", "(II)V"⟩ : MethodName) ∈ zWS := List.mem_filter.mpr ⟨List.mem_of_getElem? (i := 412) (by decide +kernel), rfl⟩
theorem zq_214 : Cond.selects "CircuitNet$Circuit" (⟨"CircuitNet$Circuit", "change", "(II)V"⟩ : MethodName) (⟨"CircuitNet$Circuit", "change", "(II)V"⟩ : MethodName) ∈ zWS := List.mem_filter.mpr ⟨List.mem_of_getElem? (i := 5) (by decide +kernel), rfl⟩
theorem zq_215 : Cond.methodLink "CircuitNet$Circuit" 62 (⟨"CircuitNet$Circuit", "meetClear", "()V"⟩ : MethodName) ∈ zWS := List.mem_filter.mpr ⟨List.mem_of_getElem? (i := 414) (by decide +kernel), rfl⟩
theorem zq_216 : Cond.instanceMethod (⟨"CircuitNet$Circuit", "meetClear", "()V"⟩ : MethodName) ∈ zWS := List.mem_filter.mpr ⟨List.mem_of_getElem? (i := 416) (by decide +kernel), rfl⟩
theorem zq_217 : Cond.selects "CircuitNet$Circuit" (⟨"CircuitNet$Circuit", "meetClear", "()V"⟩ : MethodName) (⟨"CircuitNet$Circuit", "meetClear", "()V"⟩ : MethodName) ∈ zWS := List.mem_filter.mpr ⟨List.mem_of_getElem? (i := 6) (by decide +kernel), rfl⟩
theorem zq_218 : Cond.methodLink "CircuitNet$Circuit" 65 (⟨"CircuitNet$Line", "add", "(I)V"⟩ : MethodName) ∈ zWS := List.mem_filter.mpr ⟨List.mem_of_getElem? (i := 418) (by decide +kernel), rfl⟩
theorem zq_219 : Cond.methodLink "CircuitNet$Circuit" 68 (⟨"CircuitNet$Circuit", "meetReset", "()V"⟩ : MethodName) ∈ zWS := List.mem_filter.mpr ⟨List.mem_of_getElem? (i := 419) (by decide +kernel), rfl⟩
theorem zq_220 : Cond.instanceMethod (⟨"CircuitNet$Circuit", "meetReset", "()V"⟩ : MethodName) ∈ zWS := List.mem_filter.mpr ⟨List.mem_of_getElem? (i := 421) (by decide +kernel), rfl⟩
theorem zq_221 : Cond.selects "CircuitNet$Circuit" (⟨"CircuitNet$Circuit", "meetReset", "()V"⟩ : MethodName) (⟨"CircuitNet$Circuit", "meetReset", "()V"⟩ : MethodName) ∈ zWS := List.mem_filter.mpr ⟨List.mem_of_getElem? (i := 7) (by decide +kernel), rfl⟩
theorem zq_222 : Cond.fieldLink "CircuitNet$Joint" 15 "CircuitNet$Joint" "unanswered" "Z" ∈ zWS := List.mem_filter.mpr ⟨List.mem_of_getElem? (i := 162) (by decide +kernel), rfl⟩
theorem zq_223 : Cond.fieldLink "CircuitNet$Joint" 19 "CircuitNet$Joint" "at" "LCircuitNet$End;" ∈ zWS := List.mem_filter.mpr ⟨List.mem_of_getElem? (i := 164) (by decide +kernel), rfl⟩
theorem zq_224 : Cond.sameField "CircuitNet$Joint" "CircuitNet$Channel" "at" "LCircuitNet$End;" ∈ zWS := List.mem_filter.mpr ⟨List.mem_of_getElem? (i := 165) (by decide +kernel), rfl⟩
theorem zq_225 : Cond.fieldLink "CircuitNet$Joint" 23 "CircuitNet$End" "isFirst" "Z" ∈ zWS := List.mem_filter.mpr ⟨List.mem_of_getElem? (i := 103) (by decide +kernel), rfl⟩
theorem zq_226 : Cond.methodLink "CircuitNet$Joint" 28 (⟨"CircuitNet$Joint", "meetCall", "(ZII)V"⟩ : MethodName) ∈ zWS := List.mem_filter.mpr ⟨List.mem_of_getElem? (i := 426) (by decide +kernel), rfl⟩
theorem zq_227 : Cond.instanceMethod (⟨"CircuitNet$Joint", "meetCall", "(ZII)V"⟩ : MethodName) ∈ zWS := List.mem_filter.mpr ⟨List.mem_of_getElem? (i := 428) (by decide +kernel), rfl⟩
theorem zq_228 : Cond.selects "CircuitNet$Joint" (⟨"CircuitNet$Joint", "meetCall", "(ZII)V"⟩ : MethodName) (⟨"CircuitNet$Joint", "meetCall", "(ZII)V"⟩ : MethodName) ∈ zWS := List.mem_filter.mpr ⟨List.mem_of_getElem? (i := 8) (by decide +kernel), rfl⟩
theorem zq_229 : Cond.methodLink "CircuitNet$Joint" 32 (⟨"CircuitNet$Joint", "meetClear", "()V"⟩ : MethodName) ∈ zWS := List.mem_filter.mpr ⟨List.mem_of_getElem? (i := 446) (by decide +kernel), rfl⟩
theorem zq_230 : Cond.instanceMethod (⟨"CircuitNet$Joint", "meetClear", "()V"⟩ : MethodName) ∈ zWS := List.mem_filter.mpr ⟨List.mem_of_getElem? (i := 448) (by decide +kernel), rfl⟩
theorem zq_231 : Cond.selects "CircuitNet$Joint" (⟨"CircuitNet$Joint", "meetClear", "()V"⟩ : MethodName) (⟨"CircuitNet$Joint", "meetClear", "()V"⟩ : MethodName) ∈ zWS := List.mem_filter.mpr ⟨List.mem_of_getElem? (i := 12) (by decide +kernel), rfl⟩
theorem zq_232 : Cond.methodLink "CircuitNet$Joint" 44 (⟨"CircuitNet$Joint", "put", "(III)V"⟩ : MethodName) ∈ zWS := List.mem_filter.mpr ⟨List.mem_of_getElem? (i := 443) (by decide +kernel), rfl⟩
theorem zq_233 : Cond.sameMethod "CircuitNet$Joint" "CircuitNet$Channel" "put" "(III)V" ∈ zWS := List.mem_filter.mpr ⟨List.mem_of_getElem? (i := 444) (by decide +kernel), rfl⟩
theorem zq_234 : Cond.selects "CircuitNet$Joint" (⟨"CircuitNet$Joint", "put", "(III)V"⟩ : MethodName) (⟨"CircuitNet$Channel", "put", "(III)V"⟩ : MethodName) ∈ zWS := List.mem_filter.mpr ⟨List.mem_of_getElem? (i := 445) (by decide +kernel), rfl⟩
theorem zq_235 : Cond.methodLink "CircuitNet$Joint" 55 (⟨"CircuitNet$Joint", "connect", "(II)V"⟩ : MethodName) ∈ zWS := List.mem_filter.mpr ⟨List.mem_of_getElem? (i := 430) (by decide +kernel), rfl⟩
theorem zq_236 : Cond.instanceMethod (⟨"CircuitNet$Joint", "connect", "(II)V"⟩ : MethodName) ∈ zWS := List.mem_filter.mpr ⟨List.mem_of_getElem? (i := 432) (by decide +kernel), rfl⟩
theorem zq_237 : Cond.selects "CircuitNet$Joint" (⟨"CircuitNet$Joint", "connect", "(II)V"⟩ : MethodName) (⟨"CircuitNet$Joint", "connect", "(II)V"⟩ : MethodName) ∈ zWS := List.mem_filter.mpr ⟨List.mem_of_getElem? (i := 9) (by decide +kernel), rfl⟩
theorem zq_238 : Cond.methodLink "CircuitNet$Joint" 59 (⟨"CircuitNet$Joint", "freeJointTo", "(I)LCircuitNet$Joint;"⟩ : MethodName) ∈ zWS := List.mem_filter.mpr ⟨List.mem_of_getElem? (i := 434) (by decide +kernel), rfl⟩
theorem zq_239 : Cond.instanceMethod (⟨"CircuitNet$Joint", "freeJointTo", "(I)LCircuitNet$Joint;"⟩ : MethodName) ∈ zWS := List.mem_filter.mpr ⟨List.mem_of_getElem? (i := 436) (by decide +kernel), rfl⟩
theorem zq_240 : Cond.selects "CircuitNet$Joint" (⟨"CircuitNet$Joint", "freeJointTo", "(I)LCircuitNet$Joint;"⟩ : MethodName) (⟨"CircuitNet$Joint", "freeJointTo", "(I)LCircuitNet$Joint;"⟩ : MethodName) ∈ zWS := List.mem_filter.mpr ⟨List.mem_of_getElem? (i := 10) (by decide +kernel), rfl⟩
theorem zq_241 : Cond.methodLink "CircuitNet$Joint" 63 (⟨"CircuitNet$Joint", "join", "(LCircuitNet$Joint;)V"⟩ : MethodName) ∈ zWS := List.mem_filter.mpr ⟨List.mem_of_getElem? (i := 439) (by decide +kernel), rfl⟩
theorem zq_242 : Cond.instanceMethod (⟨"CircuitNet$Joint", "join", "(LCircuitNet$Joint;)V"⟩ : MethodName) ∈ zWS := List.mem_filter.mpr ⟨List.mem_of_getElem? (i := 441) (by decide +kernel), rfl⟩
theorem zq_243 : Cond.selects "CircuitNet$Joint" (⟨"CircuitNet$Joint", "join", "(LCircuitNet$Joint;)V"⟩ : MethodName) (⟨"CircuitNet$Joint", "join", "(LCircuitNet$Joint;)V"⟩ : MethodName) ∈ zWS := List.mem_filter.mpr ⟨List.mem_of_getElem? (i := 11) (by decide +kernel), rfl⟩
theorem zq_244 : Cond.fieldLink "CircuitNet$Joint" 67 "CircuitNet$End" "isUp" "Z" ∈ zWS := List.mem_filter.mpr ⟨List.mem_of_getElem? (i := 114) (by decide +kernel), rfl⟩
theorem zq_245 : Cond.fieldLink "CircuitNet$Joint" 70 "CircuitNet$End" "channels" "[LCircuitNet$Channel;" ∈ zWS := List.mem_filter.mpr ⟨List.mem_of_getElem? (i := 108) (by decide +kernel), rfl⟩
theorem zq_246 : Cond.classLink "CircuitNet$Joint" 10 "CircuitNet$Joint" ∈ zWS := List.mem_filter.mpr ⟨List.mem_of_getElem? (i := 438) (by decide +kernel), rfl⟩
theorem zq_247 : Cond.methodLink "CircuitNet" 135 (⟨"CircuitNet$End", "passTime", "()V"⟩ : MethodName) ∈ zWS := List.mem_filter.mpr ⟨List.mem_of_getElem? (i := 458) (by decide +kernel), rfl⟩
theorem zq_248 : Cond.instanceMethod (⟨"CircuitNet$End", "passTime", "()V"⟩ : MethodName) ∈ zWS := List.mem_filter.mpr ⟨List.mem_of_getElem? (i := 459) (by decide +kernel), rfl⟩
theorem zq_249 : Cond.selects "CircuitNet$End" (⟨"CircuitNet$End", "passTime", "()V"⟩ : MethodName) (⟨"CircuitNet$End", "passTime", "()V"⟩ : MethodName) ∈ zWS := List.mem_filter.mpr ⟨List.mem_of_getElem? (i := 460) (by decide +kernel), rfl⟩
theorem zq_250 : Cond.methodLink "CircuitNet$End" 79 (⟨"CircuitNet$End", "sendAgain", "()V"⟩ : MethodName) ∈ zWS := List.mem_filter.mpr ⟨List.mem_of_getElem? (i := 462) (by decide +kernel), rfl⟩
theorem zq_251 : Cond.instanceMethod (⟨"CircuitNet$End", "sendAgain", "()V"⟩ : MethodName) ∈ zWS := List.mem_filter.mpr ⟨List.mem_of_getElem? (i := 464) (by decide +kernel), rfl⟩
theorem zq_252 : Cond.selects "CircuitNet$End" (⟨"CircuitNet$End", "sendAgain", "()V"⟩ : MethodName) (⟨"CircuitNet$End", "sendAgain", "()V"⟩ : MethodName) ∈ zWS := List.mem_filter.mpr ⟨List.mem_of_getElem? (i := 13) (by decide +kernel), rfl⟩
theorem zq_253 : Cond.fieldLink "CircuitNet" 138 "CircuitNet$Circuit" "peer" "I" ∈ zWS := List.mem_filter.mpr ⟨List.mem_of_getElem? (i := 200) (by decide +kernel), rfl⟩
theorem zq_254 : Cond.fieldLink "CircuitNet" 141 "CircuitNet$End" "row" "LCircuitNet$Line;" ∈ zWS := List.mem_filter.mpr ⟨List.mem_of_getElem? (i := 106) (by decide +kernel), rfl⟩
theorem zq_255 : Cond.fieldLink "CircuitNet" 148 "CircuitNet$Channel" "state" "I" ∈ zWS := List.mem_filter.mpr ⟨List.mem_of_getElem? (i := 173) (by decide +kernel), rfl⟩
theorem zq_256 : Cond.methodLink "CircuitNetModel" 1 (⟨"java/lang/Object", "<init>", "()V"⟩ : MethodName) ∈ zWS := List.mem_filter.mpr ⟨List.mem_of_getElem? (i := 507) (by decide +kernel), rfl⟩
theorem zq_257 : Cond.fieldLink "CircuitNetModel" 7 "CircuitNetModel" "at" "[I" ∈ zWS := List.mem_filter.mpr ⟨List.mem_of_getElem? (i := 509) (by decide +kernel), rfl⟩
theorem zq_258 : Cond.fieldLink "CircuitNetModel" 13 "CircuitNetModel" "sort" "[I" ∈ zWS := List.mem_filter.mpr ⟨List.mem_of_getElem? (i := 510) (by decide +kernel), rfl⟩
theorem zq_259 : Cond.fieldLink "CircuitNetModel" 16 "CircuitNetModel" "channel" "[I" ∈ zWS := List.mem_filter.mpr ⟨List.mem_of_getElem? (i := 511) (by decide +kernel), rfl⟩
theorem zq_260 : Cond.fieldLink "CircuitNetModel" 19 "CircuitNetModel" "a" "[I" ∈ zWS := List.mem_filter.mpr ⟨List.mem_of_getElem? (i := 512) (by decide +kernel), rfl⟩
theorem zq_261 : Cond.fieldLink "CircuitNetModel" 22 "CircuitNetModel" "b" "[I" ∈ zWS := List.mem_filter.mpr ⟨List.mem_of_getElem? (i := 513) (by decide +kernel), rfl⟩
theorem zq_262 : Cond.fieldLink "CircuitNetModel" 25 "CircuitNetModel" "count" "[I" ∈ zWS := List.mem_filter.mpr ⟨List.mem_of_getElem? (i := 514) (by decide +kernel), rfl⟩
theorem zq_263 : Cond.fieldLink "CircuitNetModel" 28 "CircuitNetModel" "frame" "[I" ∈ zWS := List.mem_filter.mpr ⟨List.mem_of_getElem? (i := 515) (by decide +kernel), rfl⟩
theorem zq_264 : Cond.fieldLink "CircuitNetModel" 31 "CircuitNetModel" "epoch" "[I" ∈ zWS := List.mem_filter.mpr ⟨List.mem_of_getElem? (i := 516) (by decide +kernel), rfl⟩
theorem zq_265 : Cond.arrayClass Jvm.ClassFile.FieldType.boolean ∈ zWS := List.mem_filter.mpr ⟨List.mem_of_getElem? (i := 581) (by decide +kernel), rfl⟩
theorem zq_266 : Cond.fieldLink "CircuitNetModel" 34 "CircuitNetModel" "setting" "[Z" ∈ zWS := List.mem_filter.mpr ⟨List.mem_of_getElem? (i := 517) (by decide +kernel), rfl⟩
theorem zq_267 : Cond.fieldLink "CircuitNetModel" 38 "CircuitNetModel" "sent" "[I" ∈ zWS := List.mem_filter.mpr ⟨List.mem_of_getElem? (i := 518) (by decide +kernel), rfl⟩
theorem zq_268 : Cond.fieldLink "CircuitNetModel" 41 "CircuitNetModel" "first" "[I" ∈ zWS := List.mem_filter.mpr ⟨List.mem_of_getElem? (i := 519) (by decide +kernel), rfl⟩
theorem zq_269 : Cond.fieldLink "CircuitNetModel" 44 "CircuitNetModel" "due" "[I" ∈ zWS := List.mem_filter.mpr ⟨List.mem_of_getElem? (i := 520) (by decide +kernel), rfl⟩
theorem zq_270 : Cond.fieldLink "CircuitNetModel" 47 "CircuitNetModel" "tries" "[I" ∈ zWS := List.mem_filter.mpr ⟨List.mem_of_getElem? (i := 521) (by decide +kernel), rfl⟩
theorem zq_271 : Cond.fieldLink "CircuitNetModel" 50 "CircuitNetModel" "clock" "[I" ∈ zWS := List.mem_filter.mpr ⟨List.mem_of_getElem? (i := 522) (by decide +kernel), rfl⟩
theorem zq_272 : Cond.fieldLink "CircuitNetModel" 53 "CircuitNetModel" "state" "[I" ∈ zWS := List.mem_filter.mpr ⟨List.mem_of_getElem? (i := 523) (by decide +kernel), rfl⟩
theorem zq_273 : Cond.fieldLink "CircuitNetModel" 56 "CircuitNetModel" "partner" "[I" ∈ zWS := List.mem_filter.mpr ⟨List.mem_of_getElem? (i := 524) (by decide +kernel), rfl⟩
theorem zq_274 : Cond.fieldLink "CircuitNetModel" 59 "CircuitNetModel" "fresh" "[Z" ∈ zWS := List.mem_filter.mpr ⟨List.mem_of_getElem? (i := 525) (by decide +kernel), rfl⟩
theorem zq_275 : Cond.fieldLink "CircuitNetModel" 62 "CircuitNetModel" "peer" "[I" ∈ zWS := List.mem_filter.mpr ⟨List.mem_of_getElem? (i := 526) (by decide +kernel), rfl⟩
theorem zq_276 : Cond.fieldLink "CircuitNetModel" 65 "CircuitNetModel" "own" "[I" ∈ zWS := List.mem_filter.mpr ⟨List.mem_of_getElem? (i := 527) (by decide +kernel), rfl⟩
theorem zq_277 : Cond.fieldLink "CircuitNetModel" 68 "CircuitNetModel" "sure" "[I" ∈ zWS := List.mem_filter.mpr ⟨List.mem_of_getElem? (i := 528) (by decide +kernel), rfl⟩
theorem zq_278 : Cond.fieldLink "CircuitNetModel" 71 "CircuitNetModel" "got" "[I" ∈ zWS := List.mem_filter.mpr ⟨List.mem_of_getElem? (i := 529) (by decide +kernel), rfl⟩
theorem zq_279 : Cond.fieldLink "CircuitNetModel" 74 "CircuitNetModel" "many" "[I" ∈ zWS := List.mem_filter.mpr ⟨List.mem_of_getElem? (i := 530) (by decide +kernel), rfl⟩
theorem zq_280 : Cond.fieldLink "CircuitNetModel" 77 "CircuitNetModel" "value" "[I" ∈ zWS := List.mem_filter.mpr ⟨List.mem_of_getElem? (i := 531) (by decide +kernel), rfl⟩
theorem zq_281 : Cond.methodLink "CircuitNetModel" 133 (⟨"CircuitNetModel", "tickOf", "(I)V"⟩ : MethodName) ∈ zWS := List.mem_filter.mpr ⟨List.mem_of_getElem? (i := 586) (by decide +kernel), rfl⟩
theorem zq_282 : Cond.instanceMethod (⟨"CircuitNetModel", "tickOf", "(I)V"⟩ : MethodName) ∈ zWS := List.mem_filter.mpr ⟨List.mem_of_getElem? (i := 588) (by decide +kernel), rfl⟩
theorem zq_283 : Cond.selects "CircuitNetModel" (⟨"CircuitNetModel", "tickOf", "(I)V"⟩ : MethodName) (⟨"CircuitNetModel", "tickOf", "(I)V"⟩ : MethodName) ∈ zWS := List.mem_filter.mpr ⟨List.mem_of_getElem? (i := 14) (by decide +kernel), rfl⟩
theorem zq_284 : Cond.initialized "CircuitNetModel" ∈ zWS := List.mem_filter.mpr ⟨List.mem_of_getElem? (i := 43) (by decide +kernel), rfl⟩
theorem zq_285 : Cond.methodLink "CircuitNetModel" 96 (⟨"CircuitNetModel", "post", "(II)I"⟩ : MethodName) ∈ zWS := List.mem_filter.mpr ⟨List.mem_of_getElem? (i := 590) (by decide +kernel), rfl⟩
theorem zq_286 : Cond.instanceMethod (⟨"CircuitNetModel", "post", "(II)I"⟩ : MethodName) ∈ zWS := List.mem_filter.mpr ⟨List.mem_of_getElem? (i := 592) (by decide +kernel), rfl⟩
theorem zq_287 : Cond.selects "CircuitNetModel" (⟨"CircuitNetModel", "post", "(II)I"⟩ : MethodName) (⟨"CircuitNetModel", "post", "(II)I"⟩ : MethodName) ∈ zWS := List.mem_filter.mpr ⟨List.mem_of_getElem? (i := 15) (by decide +kernel), rfl⟩
theorem zq_288 : Cond.methodLink "CircuitNetModel" 130 (⟨"CircuitNetModel", "fail", "(I)V"⟩ : MethodName) ∈ zWS := List.mem_filter.mpr ⟨List.mem_of_getElem? (i := 594) (by decide +kernel), rfl⟩
theorem zq_289 : Cond.instanceMethod (⟨"CircuitNetModel", "fail", "(I)V"⟩ : MethodName) ∈ zWS := List.mem_filter.mpr ⟨List.mem_of_getElem? (i := 596) (by decide +kernel), rfl⟩
theorem zq_290 : Cond.selects "CircuitNetModel" (⟨"CircuitNetModel", "fail", "(I)V"⟩ : MethodName) (⟨"CircuitNetModel", "fail", "(I)V"⟩ : MethodName) ∈ zWS := List.mem_filter.mpr ⟨List.mem_of_getElem? (i := 16) (by decide +kernel), rfl⟩
theorem zq_291 : Cond.methodLink "CircuitNetModel" 107 (⟨"CircuitNetModel", "info", "(II)V"⟩ : MethodName) ∈ zWS := List.mem_filter.mpr ⟨List.mem_of_getElem? (i := 633) (by decide +kernel), rfl⟩
theorem zq_292 : Cond.instanceMethod (⟨"CircuitNetModel", "info", "(II)V"⟩ : MethodName) ∈ zWS := List.mem_filter.mpr ⟨List.mem_of_getElem? (i := 635) (by decide +kernel), rfl⟩
theorem zq_293 : Cond.selects "CircuitNetModel" (⟨"CircuitNetModel", "info", "(II)V"⟩ : MethodName) (⟨"CircuitNetModel", "info", "(II)V"⟩ : MethodName) ∈ zWS := List.mem_filter.mpr ⟨List.mem_of_getElem? (i := 25) (by decide +kernel), rfl⟩
theorem zq_294 : Cond.methodLink "CircuitNetModel" 127 (⟨"CircuitNetModel", "breakUp", "(I)V"⟩ : MethodName) ∈ zWS := List.mem_filter.mpr ⟨List.mem_of_getElem? (i := 598) (by decide +kernel), rfl⟩
theorem zq_295 : Cond.instanceMethod (⟨"CircuitNetModel", "breakUp", "(I)V"⟩ : MethodName) ∈ zWS := List.mem_filter.mpr ⟨List.mem_of_getElem? (i := 600) (by decide +kernel), rfl⟩
theorem zq_296 : Cond.selects "CircuitNetModel" (⟨"CircuitNetModel", "breakUp", "(I)V"⟩ : MethodName) (⟨"CircuitNetModel", "breakUp", "(I)V"⟩ : MethodName) ∈ zWS := List.mem_filter.mpr ⟨List.mem_of_getElem? (i := 17) (by decide +kernel), rfl⟩
theorem zq_297 : Cond.fieldLink "CircuitNetModel" 84 "CircuitNetModel" "packets" "I" ∈ zWS := List.mem_filter.mpr ⟨List.mem_of_getElem? (i := 508) (by decide +kernel), rfl⟩
theorem zq_298 : Cond.methodLink "CircuitNetModel" 111 (⟨"CircuitNetModel", "remove", "(II)V"⟩ : MethodName) ∈ zWS := List.mem_filter.mpr ⟨List.mem_of_getElem? (i := 602) (by decide +kernel), rfl⟩
theorem zq_299 : Cond.instanceMethod (⟨"CircuitNetModel", "remove", "(II)V"⟩ : MethodName) ∈ zWS := List.mem_filter.mpr ⟨List.mem_of_getElem? (i := 604) (by decide +kernel), rfl⟩
theorem zq_300 : Cond.selects "CircuitNetModel" (⟨"CircuitNetModel", "remove", "(II)V"⟩ : MethodName) (⟨"CircuitNetModel", "remove", "(II)V"⟩ : MethodName) ∈ zWS := List.mem_filter.mpr ⟨List.mem_of_getElem? (i := 18) (by decide +kernel), rfl⟩
theorem zq_301 : Cond.methodLink "CircuitNetModel" 114 (⟨"CircuitNetModel", "lost", "(II)V"⟩ : MethodName) ∈ zWS := List.mem_filter.mpr ⟨List.mem_of_getElem? (i := 606) (by decide +kernel), rfl⟩
theorem zq_302 : Cond.instanceMethod (⟨"CircuitNetModel", "lost", "(II)V"⟩ : MethodName) ∈ zWS := List.mem_filter.mpr ⟨List.mem_of_getElem? (i := 608) (by decide +kernel), rfl⟩
theorem zq_303 : Cond.selects "CircuitNetModel" (⟨"CircuitNetModel", "lost", "(II)V"⟩ : MethodName) (⟨"CircuitNetModel", "lost", "(II)V"⟩ : MethodName) ∈ zWS := List.mem_filter.mpr ⟨List.mem_of_getElem? (i := 19) (by decide +kernel), rfl⟩
theorem zq_304 : Cond.methodLink "CircuitNetModel" 117 (⟨"CircuitNetModel", "atSwitch", "(I)Z"⟩ : MethodName) ∈ zWS := List.mem_filter.mpr ⟨List.mem_of_getElem? (i := 610) (by decide +kernel), rfl⟩
theorem zq_305 : Cond.static (⟨"CircuitNetModel", "atSwitch", "(I)Z"⟩ : MethodName) ∈ zWS := List.mem_filter.mpr ⟨List.mem_of_getElem? (i := 611) (by decide +kernel), rfl⟩
theorem zq_306 : Cond.methodLink "CircuitNetModel" 121 (⟨"CircuitNetModel", "cut", "(I)V"⟩ : MethodName) ∈ zWS := List.mem_filter.mpr ⟨List.mem_of_getElem? (i := 613) (by decide +kernel), rfl⟩
theorem zq_307 : Cond.instanceMethod (⟨"CircuitNetModel", "cut", "(I)V"⟩ : MethodName) ∈ zWS := List.mem_filter.mpr ⟨List.mem_of_getElem? (i := 615) (by decide +kernel), rfl⟩
theorem zq_308 : Cond.selects "CircuitNetModel" (⟨"CircuitNetModel", "cut", "(I)V"⟩ : MethodName) (⟨"CircuitNetModel", "cut", "(I)V"⟩ : MethodName) ∈ zWS := List.mem_filter.mpr ⟨List.mem_of_getElem? (i := 20) (by decide +kernel), rfl⟩
theorem zq_309 : Cond.methodLink "CircuitNetModel" 124 (⟨"CircuitNetModel", "putOn", "(II)V"⟩ : MethodName) ∈ zWS := List.mem_filter.mpr ⟨List.mem_of_getElem? (i := 617) (by decide +kernel), rfl⟩
theorem zq_310 : Cond.instanceMethod (⟨"CircuitNetModel", "putOn", "(II)V"⟩ : MethodName) ∈ zWS := List.mem_filter.mpr ⟨List.mem_of_getElem? (i := 619) (by decide +kernel), rfl⟩
theorem zq_311 : Cond.selects "CircuitNetModel" (⟨"CircuitNetModel", "putOn", "(II)V"⟩ : MethodName) (⟨"CircuitNetModel", "putOn", "(II)V"⟩ : MethodName) ∈ zWS := List.mem_filter.mpr ⟨List.mem_of_getElem? (i := 21) (by decide +kernel), rfl⟩
theorem zq_312 : Cond.methodLink "CircuitNetModel" 92 (⟨"CircuitNetModel", "put", "(IIIII)V"⟩ : MethodName) ∈ zWS := List.mem_filter.mpr ⟨List.mem_of_getElem? (i := 621) (by decide +kernel), rfl⟩
theorem zq_313 : Cond.instanceMethod (⟨"CircuitNetModel", "put", "(IIIII)V"⟩ : MethodName) ∈ zWS := List.mem_filter.mpr ⟨List.mem_of_getElem? (i := 623) (by decide +kernel), rfl⟩
theorem zq_314 : Cond.selects "CircuitNetModel" (⟨"CircuitNetModel", "put", "(IIIII)V"⟩ : MethodName) (⟨"CircuitNetModel", "put", "(IIIII)V"⟩ : MethodName) ∈ zWS := List.mem_filter.mpr ⟨List.mem_of_getElem? (i := 22) (by decide +kernel), rfl⟩
theorem zq_315 : Cond.methodLink "CircuitNetModel" 88 (⟨"CircuitNetModel", "sendOn", "(I)V"⟩ : MethodName) ∈ zWS := List.mem_filter.mpr ⟨List.mem_of_getElem? (i := 625) (by decide +kernel), rfl⟩
theorem zq_316 : Cond.instanceMethod (⟨"CircuitNetModel", "sendOn", "(I)V"⟩ : MethodName) ∈ zWS := List.mem_filter.mpr ⟨List.mem_of_getElem? (i := 627) (by decide +kernel), rfl⟩
theorem zq_317 : Cond.selects "CircuitNetModel" (⟨"CircuitNetModel", "sendOn", "(I)V"⟩ : MethodName) (⟨"CircuitNetModel", "sendOn", "(I)V"⟩ : MethodName) ∈ zWS := List.mem_filter.mpr ⟨List.mem_of_getElem? (i := 23) (by decide +kernel), rfl⟩
theorem zq_318 : Cond.methodLink "CircuitNetModel" 103 (⟨"CircuitNetModel", "length", "(I)I"⟩ : MethodName) ∈ zWS := List.mem_filter.mpr ⟨List.mem_of_getElem? (i := 629) (by decide +kernel), rfl⟩
theorem zq_319 : Cond.instanceMethod (⟨"CircuitNetModel", "length", "(I)I"⟩ : MethodName) ∈ zWS := List.mem_filter.mpr ⟨List.mem_of_getElem? (i := 631) (by decide +kernel), rfl⟩
theorem zq_320 : Cond.selects "CircuitNetModel" (⟨"CircuitNetModel", "length", "(I)I"⟩ : MethodName) (⟨"CircuitNetModel", "length", "(I)I"⟩ : MethodName) ∈ zWS := List.mem_filter.mpr ⟨List.mem_of_getElem? (i := 24) (by decide +kernel), rfl⟩
theorem zq_321 : Cond.methodLink "CircuitNetModel" 100 (⟨"CircuitNetModel", "packet", "(II)I"⟩ : MethodName) ∈ zWS := List.mem_filter.mpr ⟨List.mem_of_getElem? (i := 637) (by decide +kernel), rfl⟩
theorem zq_322 : Cond.instanceMethod (⟨"CircuitNetModel", "packet", "(II)I"⟩ : MethodName) ∈ zWS := List.mem_filter.mpr ⟨List.mem_of_getElem? (i := 639) (by decide +kernel), rfl⟩
theorem zq_323 : Cond.selects "CircuitNetModel" (⟨"CircuitNetModel", "packet", "(II)I"⟩ : MethodName) (⟨"CircuitNetModel", "packet", "(II)I"⟩ : MethodName) ∈ zWS := List.mem_filter.mpr ⟨List.mem_of_getElem? (i := 26) (by decide +kernel), rfl⟩
theorem zq_324 : Cond.methodLink "CircuitNetModel" 136 (⟨"CircuitNetModel", "noEnd", "(II)Z"⟩ : MethodName) ∈ zWS := List.mem_filter.mpr ⟨List.mem_of_getElem? (i := 645) (by decide +kernel), rfl⟩
theorem zq_325 : Cond.static (⟨"CircuitNetModel", "noEnd", "(II)Z"⟩ : MethodName) ∈ zWS := List.mem_filter.mpr ⟨List.mem_of_getElem? (i := 646) (by decide +kernel), rfl⟩
theorem zq_326 : Cond.methodLink "CircuitNetModel" 139 (⟨"CircuitNetModel", "shift", "(I)V"⟩ : MethodName) ∈ zWS := List.mem_filter.mpr ⟨List.mem_of_getElem? (i := 651) (by decide +kernel), rfl⟩
theorem zq_327 : Cond.instanceMethod (⟨"CircuitNetModel", "shift", "(I)V"⟩ : MethodName) ∈ zWS := List.mem_filter.mpr ⟨List.mem_of_getElem? (i := 653) (by decide +kernel), rfl⟩
theorem zq_328 : Cond.selects "CircuitNetModel" (⟨"CircuitNetModel", "shift", "(I)V"⟩ : MethodName) (⟨"CircuitNetModel", "shift", "(I)V"⟩ : MethodName) ∈ zWS := List.mem_filter.mpr ⟨List.mem_of_getElem? (i := 27) (by decide +kernel), rfl⟩
theorem zq_329 : Cond.methodLink "CircuitNetModel" 142 (⟨"CircuitNetModel", "set", "(II)V"⟩ : MethodName) ∈ zWS := List.mem_filter.mpr ⟨List.mem_of_getElem? (i := 655) (by decide +kernel), rfl⟩
theorem zq_330 : Cond.instanceMethod (⟨"CircuitNetModel", "set", "(II)V"⟩ : MethodName) ∈ zWS := List.mem_filter.mpr ⟨List.mem_of_getElem? (i := 657) (by decide +kernel), rfl⟩
theorem zq_331 : Cond.selects "CircuitNetModel" (⟨"CircuitNetModel", "set", "(II)V"⟩ : MethodName) (⟨"CircuitNetModel", "set", "(II)V"⟩ : MethodName) ∈ zWS := List.mem_filter.mpr ⟨List.mem_of_getElem? (i := 28) (by decide +kernel), rfl⟩
theorem zq_332 : Cond.methodLink "CircuitNetModel" 145 (⟨"CircuitNetModel", "confirm", "(II)V"⟩ : MethodName) ∈ zWS := List.mem_filter.mpr ⟨List.mem_of_getElem? (i := 659) (by decide +kernel), rfl⟩
theorem zq_333 : Cond.instanceMethod (⟨"CircuitNetModel", "confirm", "(II)V"⟩ : MethodName) ∈ zWS := List.mem_filter.mpr ⟨List.mem_of_getElem? (i := 661) (by decide +kernel), rfl⟩
theorem zq_334 : Cond.selects "CircuitNetModel" (⟨"CircuitNetModel", "confirm", "(II)V"⟩ : MethodName) (⟨"CircuitNetModel", "confirm", "(II)V"⟩ : MethodName) ∈ zWS := List.mem_filter.mpr ⟨List.mem_of_getElem? (i := 29) (by decide +kernel), rfl⟩
theorem zq_335 : Cond.methodLink "CircuitNetModel" 148 (⟨"CircuitNetModel", "arrive", "(IIIII)V"⟩ : MethodName) ∈ zWS := List.mem_filter.mpr ⟨List.mem_of_getElem? (i := 663) (by decide +kernel), rfl⟩
theorem zq_336 : Cond.instanceMethod (⟨"CircuitNetModel", "arrive", "(IIIII)V"⟩ : MethodName) ∈ zWS := List.mem_filter.mpr ⟨List.mem_of_getElem? (i := 665) (by decide +kernel), rfl⟩
theorem zq_337 : Cond.selects "CircuitNetModel" (⟨"CircuitNetModel", "arrive", "(IIIII)V"⟩ : MethodName) (⟨"CircuitNetModel", "arrive", "(IIIII)V"⟩ : MethodName) ∈ zWS := List.mem_filter.mpr ⟨List.mem_of_getElem? (i := 30) (by decide +kernel), rfl⟩
theorem zq_338 : Cond.methodLink "CircuitNetModel" 80 (⟨"CircuitNetModel", "below", "(II)Z"⟩ : MethodName) ∈ zWS := List.mem_filter.mpr ⟨List.mem_of_getElem? (i := 648) (by decide +kernel), rfl⟩
theorem zq_339 : Cond.static (⟨"CircuitNetModel", "below", "(II)Z"⟩ : MethodName) ∈ zWS := List.mem_filter.mpr ⟨List.mem_of_getElem? (i := 649) (by decide +kernel), rfl⟩
theorem zq_340 : Cond.methodLink "CircuitNetModel" 151 (⟨"CircuitNetModel", "atTerminal", "(IIII)V"⟩ : MethodName) ∈ zWS := List.mem_filter.mpr ⟨List.mem_of_getElem? (i := 667) (by decide +kernel), rfl⟩
theorem zq_341 : Cond.instanceMethod (⟨"CircuitNetModel", "atTerminal", "(IIII)V"⟩ : MethodName) ∈ zWS := List.mem_filter.mpr ⟨List.mem_of_getElem? (i := 669) (by decide +kernel), rfl⟩
theorem zq_342 : Cond.selects "CircuitNetModel" (⟨"CircuitNetModel", "atTerminal", "(IIII)V"⟩ : MethodName) (⟨"CircuitNetModel", "atTerminal", "(IIII)V"⟩ : MethodName) ∈ zWS := List.mem_filter.mpr ⟨List.mem_of_getElem? (i := 31) (by decide +kernel), rfl⟩
theorem zq_343 : Cond.methodLink "CircuitNetModel" 155 (⟨"CircuitNetModel", "connect", "(IIII)V"⟩ : MethodName) ∈ zWS := List.mem_filter.mpr ⟨List.mem_of_getElem? (i := 678) (by decide +kernel), rfl⟩
theorem zq_344 : Cond.instanceMethod (⟨"CircuitNetModel", "connect", "(IIII)V"⟩ : MethodName) ∈ zWS := List.mem_filter.mpr ⟨List.mem_of_getElem? (i := 680) (by decide +kernel), rfl⟩
theorem zq_345 : Cond.selects "CircuitNetModel" (⟨"CircuitNetModel", "connect", "(IIII)V"⟩ : MethodName) (⟨"CircuitNetModel", "connect", "(IIII)V"⟩ : MethodName) ∈ zWS := List.mem_filter.mpr ⟨List.mem_of_getElem? (i := 33) (by decide +kernel), rfl⟩
theorem zq_346 : Cond.methodLink "CircuitNetModel" 167 (⟨"CircuitNetModel", "renew", "(I)V"⟩ : MethodName) ∈ zWS := List.mem_filter.mpr ⟨List.mem_of_getElem? (i := 671) (by decide +kernel), rfl⟩
theorem zq_347 : Cond.instanceMethod (⟨"CircuitNetModel", "renew", "(I)V"⟩ : MethodName) ∈ zWS := List.mem_filter.mpr ⟨List.mem_of_getElem? (i := 673) (by decide +kernel), rfl⟩
theorem zq_348 : Cond.selects "CircuitNetModel" (⟨"CircuitNetModel", "renew", "(I)V"⟩ : MethodName) (⟨"CircuitNetModel", "renew", "(I)V"⟩ : MethodName) ∈ zWS := List.mem_filter.mpr ⟨List.mem_of_getElem? (i := 32) (by decide +kernel), rfl⟩
theorem zq_349 : Cond.methodLink "CircuitNetModel" 164 (⟨"CircuitNetModel", "slot", "(I)I"⟩ : MethodName) ∈ zWS := List.mem_filter.mpr ⟨List.mem_of_getElem? (i := 675) (by decide +kernel), rfl⟩
theorem zq_350 : Cond.static (⟨"CircuitNetModel", "slot", "(I)I"⟩ : MethodName) ∈ zWS := List.mem_filter.mpr ⟨List.mem_of_getElem? (i := 676) (by decide +kernel), rfl⟩
theorem zq_351 : Cond.methodLink "CircuitNetModel" 158 (⟨"CircuitNetModel", "route", "(II)I"⟩ : MethodName) ∈ zWS := List.mem_filter.mpr ⟨List.mem_of_getElem? (i := 682) (by decide +kernel), rfl⟩
theorem zq_352 : Cond.static (⟨"CircuitNetModel", "route", "(II)I"⟩ : MethodName) ∈ zWS := List.mem_filter.mpr ⟨List.mem_of_getElem? (i := 683) (by decide +kernel), rfl⟩
theorem zq_353 : Cond.methodLink "CircuitNetModel" 161 (⟨"CircuitNetModel", "free", "(I)I"⟩ : MethodName) ∈ zWS := List.mem_filter.mpr ⟨List.mem_of_getElem? (i := 685) (by decide +kernel), rfl⟩
theorem zq_354 : Cond.instanceMethod (⟨"CircuitNetModel", "free", "(I)I"⟩ : MethodName) ∈ zWS := List.mem_filter.mpr ⟨List.mem_of_getElem? (i := 687) (by decide +kernel), rfl⟩
theorem zq_355 : Cond.selects "CircuitNetModel" (⟨"CircuitNetModel", "free", "(I)I"⟩ : MethodName) (⟨"CircuitNetModel", "free", "(I)I"⟩ : MethodName) ∈ zWS := List.mem_filter.mpr ⟨List.mem_of_getElem? (i := 34) (by decide +kernel), rfl⟩
theorem zq_356 : Cond.methodLink "CircuitNetModel" 170 (⟨"CircuitNetModel", "noChannel", "(II)Z"⟩ : MethodName) ∈ zWS := List.mem_filter.mpr ⟨List.mem_of_getElem? (i := 701) (by decide +kernel), rfl⟩
theorem zq_357 : Cond.static (⟨"CircuitNetModel", "noChannel", "(II)Z"⟩ : MethodName) ∈ zWS := List.mem_filter.mpr ⟨List.mem_of_getElem? (i := 702) (by decide +kernel), rfl⟩
theorem zq_358 : Cond.methodLink "CircuitNetModel" 173 (⟨"CircuitNetModel", "place", "(II)I"⟩ : MethodName) ∈ zWS := List.mem_filter.mpr ⟨List.mem_of_getElem? (i := 704) (by decide +kernel), rfl⟩
theorem zq_359 : Cond.static (⟨"CircuitNetModel", "place", "(II)I"⟩ : MethodName) ∈ zWS := List.mem_filter.mpr ⟨List.mem_of_getElem? (i := 705) (by decide +kernel), rfl⟩
theorem zq_360 : Cond.classLink "CircuitNetLaw" 7 "CircuitNet" ∈ zWS := List.mem_filter.mpr ⟨List.mem_of_getElem? (i := 46) (by decide +kernel), rfl⟩
theorem zq_361 : Cond.instantiable "CircuitNet" 2 ∈ zWS := List.mem_filter.mpr ⟨List.mem_of_getElem? (i := 47) (by decide +kernel), rfl⟩
theorem zq_362 : Cond.methodLink "CircuitNetLaw" 9 (⟨"CircuitNet", "<init>", "()V"⟩ : MethodName) ∈ zWS := List.mem_filter.mpr ⟨List.mem_of_getElem? (i := 48) (by decide +kernel), rfl⟩
theorem zq_363 : Cond.instanceMethod (⟨"CircuitNet", "<init>", "()V"⟩ : MethodName) ∈ zWS := List.mem_filter.mpr ⟨List.mem_of_getElem? (i := 49) (by decide +kernel), rfl⟩
theorem zq_364 : Cond.classLink "CircuitNetLaw" 10 "CircuitNetModel" ∈ zWS := List.mem_filter.mpr ⟨List.mem_of_getElem? (i := 502) (by decide +kernel), rfl⟩
theorem zq_365 : Cond.instantiable "CircuitNetModel" 24 ∈ zWS := List.mem_filter.mpr ⟨List.mem_of_getElem? (i := 503) (by decide +kernel), rfl⟩
theorem zq_366 : Cond.methodLink "CircuitNetLaw" 12 (⟨"CircuitNetModel", "<init>", "()V"⟩ : MethodName) ∈ zWS := List.mem_filter.mpr ⟨List.mem_of_getElem? (i := 504) (by decide +kernel), rfl⟩
theorem zq_367 : Cond.instanceMethod (⟨"CircuitNetModel", "<init>", "()V"⟩ : MethodName) ∈ zWS := List.mem_filter.mpr ⟨List.mem_of_getElem? (i := 505) (by decide +kernel), rfl⟩
theorem zq_368 : Cond.methodLink "CircuitNetLaw" 13 (⟨"CircuitNet", "call", "(II)I"⟩ : MethodName) ∈ zWS := List.mem_filter.mpr ⟨List.mem_of_getElem? (i := 227) (by decide +kernel), rfl⟩
theorem zq_369 : Cond.instanceMethod (⟨"CircuitNet", "call", "(II)I"⟩ : MethodName) ∈ zWS := List.mem_filter.mpr ⟨List.mem_of_getElem? (i := 228) (by decide +kernel), rfl⟩
theorem zq_370 : Cond.selects "CircuitNet" (⟨"CircuitNet", "call", "(II)I"⟩ : MethodName) (⟨"CircuitNet", "call", "(II)I"⟩ : MethodName) ∈ zWS := List.mem_filter.mpr ⟨List.mem_of_getElem? (i := 229) (by decide +kernel), rfl⟩
theorem zq_371 : Cond.methodLink "CircuitNetLaw" 17 (⟨"CircuitNetModel", "call", "(II)I"⟩ : MethodName) ∈ zWS := List.mem_filter.mpr ⟨List.mem_of_getElem? (i := 693) (by decide +kernel), rfl⟩
theorem zq_372 : Cond.instanceMethod (⟨"CircuitNetModel", "call", "(II)I"⟩ : MethodName) ∈ zWS := List.mem_filter.mpr ⟨List.mem_of_getElem? (i := 694) (by decide +kernel), rfl⟩
theorem zq_373 : Cond.selects "CircuitNetModel" (⟨"CircuitNetModel", "call", "(II)I"⟩ : MethodName) (⟨"CircuitNetModel", "call", "(II)I"⟩ : MethodName) ∈ zWS := List.mem_filter.mpr ⟨List.mem_of_getElem? (i := 695) (by decide +kernel), rfl⟩
theorem zq_374 : Cond.methodLink "CircuitNetLaw" 18 (⟨"CircuitNet", "answer", "(II)Z"⟩ : MethodName) ∈ zWS := List.mem_filter.mpr ⟨List.mem_of_getElem? (i := 290) (by decide +kernel), rfl⟩
theorem zq_375 : Cond.instanceMethod (⟨"CircuitNet", "answer", "(II)Z"⟩ : MethodName) ∈ zWS := List.mem_filter.mpr ⟨List.mem_of_getElem? (i := 291) (by decide +kernel), rfl⟩
theorem zq_376 : Cond.selects "CircuitNet" (⟨"CircuitNet", "answer", "(II)Z"⟩ : MethodName) (⟨"CircuitNet", "answer", "(II)Z"⟩ : MethodName) ∈ zWS := List.mem_filter.mpr ⟨List.mem_of_getElem? (i := 292) (by decide +kernel), rfl⟩
theorem zq_377 : Cond.methodLink "CircuitNetLaw" 22 (⟨"CircuitNetModel", "answer", "(II)Z"⟩ : MethodName) ∈ zWS := List.mem_filter.mpr ⟨List.mem_of_getElem? (i := 697) (by decide +kernel), rfl⟩
theorem zq_378 : Cond.instanceMethod (⟨"CircuitNetModel", "answer", "(II)Z"⟩ : MethodName) ∈ zWS := List.mem_filter.mpr ⟨List.mem_of_getElem? (i := 698) (by decide +kernel), rfl⟩
theorem zq_379 : Cond.selects "CircuitNetModel" (⟨"CircuitNetModel", "answer", "(II)Z"⟩ : MethodName) (⟨"CircuitNetModel", "answer", "(II)Z"⟩ : MethodName) ∈ zWS := List.mem_filter.mpr ⟨List.mem_of_getElem? (i := 699) (by decide +kernel), rfl⟩
theorem zq_380 : Cond.methodLink "CircuitNetLaw" 23 (⟨"CircuitNet", "clear", "(II)Z"⟩ : MethodName) ∈ zWS := List.mem_filter.mpr ⟨List.mem_of_getElem? (i := 294) (by decide +kernel), rfl⟩
theorem zq_381 : Cond.instanceMethod (⟨"CircuitNet", "clear", "(II)Z"⟩ : MethodName) ∈ zWS := List.mem_filter.mpr ⟨List.mem_of_getElem? (i := 295) (by decide +kernel), rfl⟩
theorem zq_382 : Cond.selects "CircuitNet" (⟨"CircuitNet", "clear", "(II)Z"⟩ : MethodName) (⟨"CircuitNet", "clear", "(II)Z"⟩ : MethodName) ∈ zWS := List.mem_filter.mpr ⟨List.mem_of_getElem? (i := 296) (by decide +kernel), rfl⟩
theorem zq_383 : Cond.methodLink "CircuitNetLaw" 26 (⟨"CircuitNetModel", "clear", "(II)Z"⟩ : MethodName) ∈ zWS := List.mem_filter.mpr ⟨List.mem_of_getElem? (i := 707) (by decide +kernel), rfl⟩
theorem zq_384 : Cond.instanceMethod (⟨"CircuitNetModel", "clear", "(II)Z"⟩ : MethodName) ∈ zWS := List.mem_filter.mpr ⟨List.mem_of_getElem? (i := 708) (by decide +kernel), rfl⟩
theorem zq_385 : Cond.selects "CircuitNetModel" (⟨"CircuitNetModel", "clear", "(II)Z"⟩ : MethodName) (⟨"CircuitNetModel", "clear", "(II)Z"⟩ : MethodName) ∈ zWS := List.mem_filter.mpr ⟨List.mem_of_getElem? (i := 709) (by decide +kernel), rfl⟩
theorem zq_386 : Cond.methodLink "CircuitNetLaw" 27 (⟨"CircuitNet", "reset", "(II)Z"⟩ : MethodName) ∈ zWS := List.mem_filter.mpr ⟨List.mem_of_getElem? (i := 309) (by decide +kernel), rfl⟩
theorem zq_387 : Cond.instanceMethod (⟨"CircuitNet", "reset", "(II)Z"⟩ : MethodName) ∈ zWS := List.mem_filter.mpr ⟨List.mem_of_getElem? (i := 310) (by decide +kernel), rfl⟩
theorem zq_388 : Cond.selects "CircuitNet" (⟨"CircuitNet", "reset", "(II)Z"⟩ : MethodName) (⟨"CircuitNet", "reset", "(II)Z"⟩ : MethodName) ∈ zWS := List.mem_filter.mpr ⟨List.mem_of_getElem? (i := 311) (by decide +kernel), rfl⟩
theorem zq_389 : Cond.methodLink "CircuitNetLaw" 30 (⟨"CircuitNetModel", "reset", "(II)Z"⟩ : MethodName) ∈ zWS := List.mem_filter.mpr ⟨List.mem_of_getElem? (i := 711) (by decide +kernel), rfl⟩
theorem zq_390 : Cond.instanceMethod (⟨"CircuitNetModel", "reset", "(II)Z"⟩ : MethodName) ∈ zWS := List.mem_filter.mpr ⟨List.mem_of_getElem? (i := 712) (by decide +kernel), rfl⟩
theorem zq_391 : Cond.selects "CircuitNetModel" (⟨"CircuitNetModel", "reset", "(II)Z"⟩ : MethodName) (⟨"CircuitNetModel", "reset", "(II)Z"⟩ : MethodName) ∈ zWS := List.mem_filter.mpr ⟨List.mem_of_getElem? (i := 713) (by decide +kernel), rfl⟩
theorem zq_392 : Cond.methodLink "CircuitNetLaw" 31 (⟨"CircuitNet", "send", "(III)I"⟩ : MethodName) ∈ zWS := List.mem_filter.mpr ⟨List.mem_of_getElem? (i := 314) (by decide +kernel), rfl⟩
theorem zq_393 : Cond.instanceMethod (⟨"CircuitNet", "send", "(III)I"⟩ : MethodName) ∈ zWS := List.mem_filter.mpr ⟨List.mem_of_getElem? (i := 315) (by decide +kernel), rfl⟩
theorem zq_394 : Cond.selects "CircuitNet" (⟨"CircuitNet", "send", "(III)I"⟩ : MethodName) (⟨"CircuitNet", "send", "(III)I"⟩ : MethodName) ∈ zWS := List.mem_filter.mpr ⟨List.mem_of_getElem? (i := 316) (by decide +kernel), rfl⟩
theorem zq_395 : Cond.methodLink "CircuitNetLaw" 35 (⟨"CircuitNetModel", "send", "(III)I"⟩ : MethodName) ∈ zWS := List.mem_filter.mpr ⟨List.mem_of_getElem? (i := 715) (by decide +kernel), rfl⟩
theorem zq_396 : Cond.instanceMethod (⟨"CircuitNetModel", "send", "(III)I"⟩ : MethodName) ∈ zWS := List.mem_filter.mpr ⟨List.mem_of_getElem? (i := 716) (by decide +kernel), rfl⟩
theorem zq_397 : Cond.selects "CircuitNetModel" (⟨"CircuitNetModel", "send", "(III)I"⟩ : MethodName) (⟨"CircuitNetModel", "send", "(III)I"⟩ : MethodName) ∈ zWS := List.mem_filter.mpr ⟨List.mem_of_getElem? (i := 717) (by decide +kernel), rfl⟩
theorem zq_398 : Cond.methodLink "CircuitNetLaw" 36 (⟨"CircuitNet", "read", "(II)I"⟩ : MethodName) ∈ zWS := List.mem_filter.mpr ⟨List.mem_of_getElem? (i := 327) (by decide +kernel), rfl⟩
theorem zq_399 : Cond.instanceMethod (⟨"CircuitNet", "read", "(II)I"⟩ : MethodName) ∈ zWS := List.mem_filter.mpr ⟨List.mem_of_getElem? (i := 328) (by decide +kernel), rfl⟩
theorem zq_400 : Cond.selects "CircuitNet" (⟨"CircuitNet", "read", "(II)I"⟩ : MethodName) (⟨"CircuitNet", "read", "(II)I"⟩ : MethodName) ∈ zWS := List.mem_filter.mpr ⟨List.mem_of_getElem? (i := 329) (by decide +kernel), rfl⟩
theorem zq_401 : Cond.methodLink "CircuitNetLaw" 39 (⟨"CircuitNetModel", "read", "(II)I"⟩ : MethodName) ∈ zWS := List.mem_filter.mpr ⟨List.mem_of_getElem? (i := 719) (by decide +kernel), rfl⟩
theorem zq_402 : Cond.instanceMethod (⟨"CircuitNetModel", "read", "(II)I"⟩ : MethodName) ∈ zWS := List.mem_filter.mpr ⟨List.mem_of_getElem? (i := 720) (by decide +kernel), rfl⟩
theorem zq_403 : Cond.selects "CircuitNetModel" (⟨"CircuitNetModel", "read", "(II)I"⟩ : MethodName) (⟨"CircuitNetModel", "read", "(II)I"⟩ : MethodName) ∈ zWS := List.mem_filter.mpr ⟨List.mem_of_getElem? (i := 721) (by decide +kernel), rfl⟩
theorem zq_404 : Cond.methodLink "CircuitNetLaw" 40 (⟨"CircuitNet", "deliver", "(II)Z"⟩ : MethodName) ∈ zWS := List.mem_filter.mpr ⟨List.mem_of_getElem? (i := 337) (by decide +kernel), rfl⟩
theorem zq_405 : Cond.instanceMethod (⟨"CircuitNet", "deliver", "(II)Z"⟩ : MethodName) ∈ zWS := List.mem_filter.mpr ⟨List.mem_of_getElem? (i := 338) (by decide +kernel), rfl⟩
theorem zq_406 : Cond.selects "CircuitNet" (⟨"CircuitNet", "deliver", "(II)Z"⟩ : MethodName) (⟨"CircuitNet", "deliver", "(II)Z"⟩ : MethodName) ∈ zWS := List.mem_filter.mpr ⟨List.mem_of_getElem? (i := 339) (by decide +kernel), rfl⟩
theorem zq_407 : Cond.methodLink "CircuitNetLaw" 43 (⟨"CircuitNetModel", "deliver", "(II)Z"⟩ : MethodName) ∈ zWS := List.mem_filter.mpr ⟨List.mem_of_getElem? (i := 641) (by decide +kernel), rfl⟩
theorem zq_408 : Cond.instanceMethod (⟨"CircuitNetModel", "deliver", "(II)Z"⟩ : MethodName) ∈ zWS := List.mem_filter.mpr ⟨List.mem_of_getElem? (i := 642) (by decide +kernel), rfl⟩
theorem zq_409 : Cond.selects "CircuitNetModel" (⟨"CircuitNetModel", "deliver", "(II)Z"⟩ : MethodName) (⟨"CircuitNetModel", "deliver", "(II)Z"⟩ : MethodName) ∈ zWS := List.mem_filter.mpr ⟨List.mem_of_getElem? (i := 643) (by decide +kernel), rfl⟩
theorem zq_410 : Cond.methodLink "CircuitNetLaw" 44 (⟨"CircuitNet", "lose", "(II)Z"⟩ : MethodName) ∈ zWS := List.mem_filter.mpr ⟨List.mem_of_getElem? (i := 450) (by decide +kernel), rfl⟩
theorem zq_411 : Cond.instanceMethod (⟨"CircuitNet", "lose", "(II)Z"⟩ : MethodName) ∈ zWS := List.mem_filter.mpr ⟨List.mem_of_getElem? (i := 451) (by decide +kernel), rfl⟩
theorem zq_412 : Cond.selects "CircuitNet" (⟨"CircuitNet", "lose", "(II)Z"⟩ : MethodName) (⟨"CircuitNet", "lose", "(II)Z"⟩ : MethodName) ∈ zWS := List.mem_filter.mpr ⟨List.mem_of_getElem? (i := 452) (by decide +kernel), rfl⟩
theorem zq_413 : Cond.methodLink "CircuitNetLaw" 47 (⟨"CircuitNetModel", "lose", "(II)Z"⟩ : MethodName) ∈ zWS := List.mem_filter.mpr ⟨List.mem_of_getElem? (i := 689) (by decide +kernel), rfl⟩
theorem zq_414 : Cond.instanceMethod (⟨"CircuitNetModel", "lose", "(II)Z"⟩ : MethodName) ∈ zWS := List.mem_filter.mpr ⟨List.mem_of_getElem? (i := 690) (by decide +kernel), rfl⟩
theorem zq_415 : Cond.selects "CircuitNetModel" (⟨"CircuitNetModel", "lose", "(II)Z"⟩ : MethodName) (⟨"CircuitNetModel", "lose", "(II)Z"⟩ : MethodName) ∈ zWS := List.mem_filter.mpr ⟨List.mem_of_getElem? (i := 691) (by decide +kernel), rfl⟩
theorem zq_416 : Cond.methodLink "CircuitNetLaw" 48 (⟨"CircuitNet", "tick", "(I)Z"⟩ : MethodName) ∈ zWS := List.mem_filter.mpr ⟨List.mem_of_getElem? (i := 454) (by decide +kernel), rfl⟩
theorem zq_417 : Cond.instanceMethod (⟨"CircuitNet", "tick", "(I)Z"⟩ : MethodName) ∈ zWS := List.mem_filter.mpr ⟨List.mem_of_getElem? (i := 455) (by decide +kernel), rfl⟩
theorem zq_418 : Cond.selects "CircuitNet" (⟨"CircuitNet", "tick", "(I)Z"⟩ : MethodName) (⟨"CircuitNet", "tick", "(I)Z"⟩ : MethodName) ∈ zWS := List.mem_filter.mpr ⟨List.mem_of_getElem? (i := 456) (by decide +kernel), rfl⟩
theorem zq_419 : Cond.methodLink "CircuitNetLaw" 52 (⟨"CircuitNetModel", "tick", "(I)Z"⟩ : MethodName) ∈ zWS := List.mem_filter.mpr ⟨List.mem_of_getElem? (i := 582) (by decide +kernel), rfl⟩
theorem zq_420 : Cond.instanceMethod (⟨"CircuitNetModel", "tick", "(I)Z"⟩ : MethodName) ∈ zWS := List.mem_filter.mpr ⟨List.mem_of_getElem? (i := 583) (by decide +kernel), rfl⟩
theorem zq_421 : Cond.selects "CircuitNetModel" (⟨"CircuitNetModel", "tick", "(I)Z"⟩ : MethodName) (⟨"CircuitNetModel", "tick", "(I)Z"⟩ : MethodName) ∈ zWS := List.mem_filter.mpr ⟨List.mem_of_getElem? (i := 584) (by decide +kernel), rfl⟩
theorem zq_422 : Cond.methodLink "CircuitNetLaw" 53 (⟨"CircuitNet", "state", "(II)I"⟩ : MethodName) ∈ zWS := List.mem_filter.mpr ⟨List.mem_of_getElem? (i := 466) (by decide +kernel), rfl⟩
theorem zq_423 : Cond.instanceMethod (⟨"CircuitNet", "state", "(II)I"⟩ : MethodName) ∈ zWS := List.mem_filter.mpr ⟨List.mem_of_getElem? (i := 467) (by decide +kernel), rfl⟩
theorem zq_424 : Cond.selects "CircuitNet" (⟨"CircuitNet", "state", "(II)I"⟩ : MethodName) (⟨"CircuitNet", "state", "(II)I"⟩ : MethodName) ∈ zWS := List.mem_filter.mpr ⟨List.mem_of_getElem? (i := 468) (by decide +kernel), rfl⟩
theorem zq_425 : Cond.methodLink "CircuitNetLaw" 56 (⟨"CircuitNetModel", "state", "(II)I"⟩ : MethodName) ∈ zWS := List.mem_filter.mpr ⟨List.mem_of_getElem? (i := 723) (by decide +kernel), rfl⟩
theorem zq_426 : Cond.instanceMethod (⟨"CircuitNetModel", "state", "(II)I"⟩ : MethodName) ∈ zWS := List.mem_filter.mpr ⟨List.mem_of_getElem? (i := 724) (by decide +kernel), rfl⟩
theorem zq_427 : Cond.selects "CircuitNetModel" (⟨"CircuitNetModel", "state", "(II)I"⟩ : MethodName) (⟨"CircuitNetModel", "state", "(II)I"⟩ : MethodName) ∈ zWS := List.mem_filter.mpr ⟨List.mem_of_getElem? (i := 725) (by decide +kernel), rfl⟩
theorem zq_428 : Cond.methodLink "CircuitNetLaw" 57 (⟨"CircuitNet", "peer", "(II)I"⟩ : MethodName) ∈ zWS := List.mem_filter.mpr ⟨List.mem_of_getElem? (i := 470) (by decide +kernel), rfl⟩
theorem zq_429 : Cond.instanceMethod (⟨"CircuitNet", "peer", "(II)I"⟩ : MethodName) ∈ zWS := List.mem_filter.mpr ⟨List.mem_of_getElem? (i := 471) (by decide +kernel), rfl⟩
theorem zq_430 : Cond.selects "CircuitNet" (⟨"CircuitNet", "peer", "(II)I"⟩ : MethodName) (⟨"CircuitNet", "peer", "(II)I"⟩ : MethodName) ∈ zWS := List.mem_filter.mpr ⟨List.mem_of_getElem? (i := 472) (by decide +kernel), rfl⟩
theorem zq_431 : Cond.methodLink "CircuitNetLaw" 60 (⟨"CircuitNetModel", "peer", "(II)I"⟩ : MethodName) ∈ zWS := List.mem_filter.mpr ⟨List.mem_of_getElem? (i := 727) (by decide +kernel), rfl⟩
theorem zq_432 : Cond.instanceMethod (⟨"CircuitNetModel", "peer", "(II)I"⟩ : MethodName) ∈ zWS := List.mem_filter.mpr ⟨List.mem_of_getElem? (i := 728) (by decide +kernel), rfl⟩
theorem zq_433 : Cond.selects "CircuitNetModel" (⟨"CircuitNetModel", "peer", "(II)I"⟩ : MethodName) (⟨"CircuitNetModel", "peer", "(II)I"⟩ : MethodName) ∈ zWS := List.mem_filter.mpr ⟨List.mem_of_getElem? (i := 729) (by decide +kernel), rfl⟩
theorem zq_434 : Cond.methodLink "CircuitNetLaw" 61 (⟨"CircuitNet", "unread", "(II)I"⟩ : MethodName) ∈ zWS := List.mem_filter.mpr ⟨List.mem_of_getElem? (i := 474) (by decide +kernel), rfl⟩
theorem zq_435 : Cond.instanceMethod (⟨"CircuitNet", "unread", "(II)I"⟩ : MethodName) ∈ zWS := List.mem_filter.mpr ⟨List.mem_of_getElem? (i := 475) (by decide +kernel), rfl⟩
theorem zq_436 : Cond.selects "CircuitNet" (⟨"CircuitNet", "unread", "(II)I"⟩ : MethodName) (⟨"CircuitNet", "unread", "(II)I"⟩ : MethodName) ∈ zWS := List.mem_filter.mpr ⟨List.mem_of_getElem? (i := 476) (by decide +kernel), rfl⟩
theorem zq_437 : Cond.methodLink "CircuitNetLaw" 64 (⟨"CircuitNetModel", "unread", "(II)I"⟩ : MethodName) ∈ zWS := List.mem_filter.mpr ⟨List.mem_of_getElem? (i := 731) (by decide +kernel), rfl⟩
theorem zq_438 : Cond.instanceMethod (⟨"CircuitNetModel", "unread", "(II)I"⟩ : MethodName) ∈ zWS := List.mem_filter.mpr ⟨List.mem_of_getElem? (i := 732) (by decide +kernel), rfl⟩
theorem zq_439 : Cond.selects "CircuitNetModel" (⟨"CircuitNetModel", "unread", "(II)I"⟩ : MethodName) (⟨"CircuitNetModel", "unread", "(II)I"⟩ : MethodName) ∈ zWS := List.mem_filter.mpr ⟨List.mem_of_getElem? (i := 733) (by decide +kernel), rfl⟩
theorem zq_440 : Cond.methodLink "CircuitNetLaw" 65 (⟨"CircuitNet", "frames", "(II)I"⟩ : MethodName) ∈ zWS := List.mem_filter.mpr ⟨List.mem_of_getElem? (i := 478) (by decide +kernel), rfl⟩
theorem zq_441 : Cond.instanceMethod (⟨"CircuitNet", "frames", "(II)I"⟩ : MethodName) ∈ zWS := List.mem_filter.mpr ⟨List.mem_of_getElem? (i := 479) (by decide +kernel), rfl⟩
theorem zq_442 : Cond.selects "CircuitNet" (⟨"CircuitNet", "frames", "(II)I"⟩ : MethodName) (⟨"CircuitNet", "frames", "(II)I"⟩ : MethodName) ∈ zWS := List.mem_filter.mpr ⟨List.mem_of_getElem? (i := 480) (by decide +kernel), rfl⟩
theorem zq_443 : Cond.methodLink "CircuitNetLaw" 68 (⟨"CircuitNetModel", "frames", "(II)I"⟩ : MethodName) ∈ zWS := List.mem_filter.mpr ⟨List.mem_of_getElem? (i := 735) (by decide +kernel), rfl⟩
theorem zq_444 : Cond.instanceMethod (⟨"CircuitNetModel", "frames", "(II)I"⟩ : MethodName) ∈ zWS := List.mem_filter.mpr ⟨List.mem_of_getElem? (i := 736) (by decide +kernel), rfl⟩
theorem zq_445 : Cond.selects "CircuitNetModel" (⟨"CircuitNetModel", "frames", "(II)I"⟩ : MethodName) (⟨"CircuitNetModel", "frames", "(II)I"⟩ : MethodName) ∈ zWS := List.mem_filter.mpr ⟨List.mem_of_getElem? (i := 737) (by decide +kernel), rfl⟩
theorem zq_446 : Cond.methodLink "CircuitNetLaw" 69 (⟨"CircuitNet", "frame", "(IIII)I"⟩ : MethodName) ∈ zWS := List.mem_filter.mpr ⟨List.mem_of_getElem? (i := 482) (by decide +kernel), rfl⟩
theorem zq_447 : Cond.instanceMethod (⟨"CircuitNet", "frame", "(IIII)I"⟩ : MethodName) ∈ zWS := List.mem_filter.mpr ⟨List.mem_of_getElem? (i := 483) (by decide +kernel), rfl⟩
theorem zq_448 : Cond.selects "CircuitNet" (⟨"CircuitNet", "frame", "(IIII)I"⟩ : MethodName) (⟨"CircuitNet", "frame", "(IIII)I"⟩ : MethodName) ∈ zWS := List.mem_filter.mpr ⟨List.mem_of_getElem? (i := 484) (by decide +kernel), rfl⟩
theorem zq_449 : Cond.methodLink "CircuitNetLaw" 73 (⟨"CircuitNetModel", "frame", "(IIII)I"⟩ : MethodName) ∈ zWS := List.mem_filter.mpr ⟨List.mem_of_getElem? (i := 739) (by decide +kernel), rfl⟩
theorem zq_450 : Cond.instanceMethod (⟨"CircuitNetModel", "frame", "(IIII)I"⟩ : MethodName) ∈ zWS := List.mem_filter.mpr ⟨List.mem_of_getElem? (i := 740) (by decide +kernel), rfl⟩
theorem zq_451 : Cond.selects "CircuitNetModel" (⟨"CircuitNetModel", "frame", "(IIII)I"⟩ : MethodName) (⟨"CircuitNetModel", "frame", "(IIII)I"⟩ : MethodName) ∈ zWS := List.mem_filter.mpr ⟨List.mem_of_getElem? (i := 741) (by decide +kernel), rfl⟩
theorem zq_452 : Cond.methodLink "CircuitNetLaw" 74 (⟨"CircuitNet", "row", "(II)I"⟩ : MethodName) ∈ zWS := List.mem_filter.mpr ⟨List.mem_of_getElem? (i := 486) (by decide +kernel), rfl⟩
theorem zq_453 : Cond.instanceMethod (⟨"CircuitNet", "row", "(II)I"⟩ : MethodName) ∈ zWS := List.mem_filter.mpr ⟨List.mem_of_getElem? (i := 487) (by decide +kernel), rfl⟩
theorem zq_454 : Cond.selects "CircuitNet" (⟨"CircuitNet", "row", "(II)I"⟩ : MethodName) (⟨"CircuitNet", "row", "(II)I"⟩ : MethodName) ∈ zWS := List.mem_filter.mpr ⟨List.mem_of_getElem? (i := 488) (by decide +kernel), rfl⟩
theorem zq_455 : Cond.methodLink "CircuitNetLaw" 77 (⟨"CircuitNetModel", "row", "(II)I"⟩ : MethodName) ∈ zWS := List.mem_filter.mpr ⟨List.mem_of_getElem? (i := 743) (by decide +kernel), rfl⟩
theorem zq_456 : Cond.instanceMethod (⟨"CircuitNetModel", "row", "(II)I"⟩ : MethodName) ∈ zWS := List.mem_filter.mpr ⟨List.mem_of_getElem? (i := 744) (by decide +kernel), rfl⟩
theorem zq_457 : Cond.selects "CircuitNetModel" (⟨"CircuitNetModel", "row", "(II)I"⟩ : MethodName) (⟨"CircuitNetModel", "row", "(II)I"⟩ : MethodName) ∈ zWS := List.mem_filter.mpr ⟨List.mem_of_getElem? (i := 745) (by decide +kernel), rfl⟩
theorem zq_458 : Cond.methodLink "CircuitNetLaw" 78 (⟨"CircuitNet", "epoch", "(II)I"⟩ : MethodName) ∈ zWS := List.mem_filter.mpr ⟨List.mem_of_getElem? (i := 490) (by decide +kernel), rfl⟩
theorem zq_459 : Cond.instanceMethod (⟨"CircuitNet", "epoch", "(II)I"⟩ : MethodName) ∈ zWS := List.mem_filter.mpr ⟨List.mem_of_getElem? (i := 491) (by decide +kernel), rfl⟩
theorem zq_460 : Cond.selects "CircuitNet" (⟨"CircuitNet", "epoch", "(II)I"⟩ : MethodName) (⟨"CircuitNet", "epoch", "(II)I"⟩ : MethodName) ∈ zWS := List.mem_filter.mpr ⟨List.mem_of_getElem? (i := 492) (by decide +kernel), rfl⟩
theorem zq_461 : Cond.methodLink "CircuitNetLaw" 81 (⟨"CircuitNetModel", "epoch", "(II)I"⟩ : MethodName) ∈ zWS := List.mem_filter.mpr ⟨List.mem_of_getElem? (i := 747) (by decide +kernel), rfl⟩
theorem zq_462 : Cond.instanceMethod (⟨"CircuitNetModel", "epoch", "(II)I"⟩ : MethodName) ∈ zWS := List.mem_filter.mpr ⟨List.mem_of_getElem? (i := 748) (by decide +kernel), rfl⟩
theorem zq_463 : Cond.selects "CircuitNetModel" (⟨"CircuitNetModel", "epoch", "(II)I"⟩ : MethodName) (⟨"CircuitNetModel", "epoch", "(II)I"⟩ : MethodName) ∈ zWS := List.mem_filter.mpr ⟨List.mem_of_getElem? (i := 749) (by decide +kernel), rfl⟩
theorem zq_464 : Cond.methodLink "CircuitNetLaw" 82 (⟨"CircuitNet", "up", "(II)Z"⟩ : MethodName) ∈ zWS := List.mem_filter.mpr ⟨List.mem_of_getElem? (i := 494) (by decide +kernel), rfl⟩
theorem zq_465 : Cond.instanceMethod (⟨"CircuitNet", "up", "(II)Z"⟩ : MethodName) ∈ zWS := List.mem_filter.mpr ⟨List.mem_of_getElem? (i := 495) (by decide +kernel), rfl⟩
theorem zq_466 : Cond.selects "CircuitNet" (⟨"CircuitNet", "up", "(II)Z"⟩ : MethodName) (⟨"CircuitNet", "up", "(II)Z"⟩ : MethodName) ∈ zWS := List.mem_filter.mpr ⟨List.mem_of_getElem? (i := 496) (by decide +kernel), rfl⟩
theorem zq_467 : Cond.methodLink "CircuitNetLaw" 85 (⟨"CircuitNetModel", "up", "(II)Z"⟩ : MethodName) ∈ zWS := List.mem_filter.mpr ⟨List.mem_of_getElem? (i := 751) (by decide +kernel), rfl⟩
theorem zq_468 : Cond.instanceMethod (⟨"CircuitNetModel", "up", "(II)Z"⟩ : MethodName) ∈ zWS := List.mem_filter.mpr ⟨List.mem_of_getElem? (i := 752) (by decide +kernel), rfl⟩
theorem zq_469 : Cond.selects "CircuitNetModel" (⟨"CircuitNetModel", "up", "(II)Z"⟩ : MethodName) (⟨"CircuitNetModel", "up", "(II)Z"⟩ : MethodName) ∈ zWS := List.mem_filter.mpr ⟨List.mem_of_getElem? (i := 753) (by decide +kernel), rfl⟩
theorem zq_470 : Cond.methodLink "CircuitNetLaw" 86 (⟨"CircuitNet", "busy", "(II)I"⟩ : MethodName) ∈ zWS := List.mem_filter.mpr ⟨List.mem_of_getElem? (i := 498) (by decide +kernel), rfl⟩
theorem zq_471 : Cond.instanceMethod (⟨"CircuitNet", "busy", "(II)I"⟩ : MethodName) ∈ zWS := List.mem_filter.mpr ⟨List.mem_of_getElem? (i := 499) (by decide +kernel), rfl⟩
theorem zq_472 : Cond.selects "CircuitNet" (⟨"CircuitNet", "busy", "(II)I"⟩ : MethodName) (⟨"CircuitNet", "busy", "(II)I"⟩ : MethodName) ∈ zWS := List.mem_filter.mpr ⟨List.mem_of_getElem? (i := 500) (by decide +kernel), rfl⟩
theorem zq_473 : Cond.methodLink "CircuitNetLaw" 89 (⟨"CircuitNetModel", "busy", "(II)I"⟩ : MethodName) ∈ zWS := List.mem_filter.mpr ⟨List.mem_of_getElem? (i := 755) (by decide +kernel), rfl⟩
theorem zq_474 : Cond.instanceMethod (⟨"CircuitNetModel", "busy", "(II)I"⟩ : MethodName) ∈ zWS := List.mem_filter.mpr ⟨List.mem_of_getElem? (i := 756) (by decide +kernel), rfl⟩
theorem zq_475 : Cond.selects "CircuitNetModel" (⟨"CircuitNetModel", "busy", "(II)I"⟩ : MethodName) (⟨"CircuitNetModel", "busy", "(II)I"⟩ : MethodName) ∈ zWS := List.mem_filter.mpr ⟨List.mem_of_getElem? (i := 757) (by decide +kernel), rfl⟩
theorem zq_476 : Cond.code (⟨"CircuitNet", "<init>", "()V"⟩ : MethodName) prog_1_method_1_code 3 (Option.none : Option Jvm.ClassFile.FieldType) ∈ zWS := List.mem_filter.mpr ⟨List.mem_of_getElem? (i := 50) (by decide +kernel), rfl⟩
theorem zq_477 : Cond.code (⟨"CircuitNet", "makeEnds", "()[LCircuitNet$End;"⟩ : MethodName) prog_1_method_23_code 4 (Option.some (Jvm.ClassFile.FieldType.array (Jvm.ClassFile.FieldType.object "CircuitNet$End"))) ∈ zWS := List.mem_filter.mpr ⟨List.mem_of_getElem? (i := 56) (by decide +kernel), rfl⟩
theorem zq_478 : Cond.code (⟨"CircuitNet$Wire", "<init>", "()V"⟩ : MethodName) prog_8_method_1_code 1 (Option.none : Option Jvm.ClassFile.FieldType) ∈ zWS := List.mem_filter.mpr ⟨List.mem_of_getElem? (i := 63) (by decide +kernel), rfl⟩
theorem zq_479 : Cond.code (⟨"CircuitNet$End", "<init>", "(LCircuitNet$Wire;LCircuitNet$Wire;Z)V"⟩ : MethodName) prog_4_method_1_code 4 (Option.none : Option Jvm.ClassFile.FieldType) ∈ zWS := List.mem_filter.mpr ⟨List.mem_of_getElem? (i := 79) (by decide +kernel), rfl⟩
theorem zq_480 : Cond.code (⟨"CircuitNet$Line", "<init>", "()V"⟩ : MethodName) prog_6_method_1_code 1 (Option.none : Option Jvm.ClassFile.FieldType) ∈ zWS := List.mem_filter.mpr ⟨List.mem_of_getElem? (i := 85) (by decide +kernel), rfl⟩
theorem zq_481 : Cond.code (⟨"CircuitNet", "addSwitch", "([LCircuitNet$End;I)V"⟩ : MethodName) prog_1_method_24_code 6 (Option.none : Option Jvm.ClassFile.FieldType) ∈ zWS := List.mem_filter.mpr ⟨List.mem_of_getElem? (i := 147) (by decide +kernel), rfl⟩
theorem zq_482 : Cond.code (⟨"CircuitNet", "addJoints", "(LCircuitNet$End;[LCircuitNet$End;)V"⟩ : MethodName) prog_1_method_25_code 3 (Option.none : Option Jvm.ClassFile.FieldType) ∈ zWS := List.mem_filter.mpr ⟨List.mem_of_getElem? (i := 150) (by decide +kernel), rfl⟩
theorem zq_483 : Cond.code (⟨"CircuitNet$Joint", "<init>", "(LCircuitNet$End;I[LCircuitNet$End;)V"⟩ : MethodName) prog_5_method_1_code 4 (Option.none : Option Jvm.ClassFile.FieldType) ∈ zWS := List.mem_filter.mpr ⟨List.mem_of_getElem? (i := 155) (by decide +kernel), rfl⟩
theorem zq_484 : Cond.code (⟨"CircuitNet$Channel", "<init>", "(LCircuitNet$End;I)V"⟩ : MethodName) prog_2_method_1_code 3 (Option.none : Option Jvm.ClassFile.FieldType) ∈ zWS := List.mem_filter.mpr ⟨List.mem_of_getElem? (i := 158) (by decide +kernel), rfl⟩
theorem zq_485 : Cond.code (⟨"CircuitNet", "addCircuits", "([LCircuitNet$End;)[LCircuitNet$Circuit;"⟩ : MethodName) prog_1_method_26_code 5 (Option.some (Jvm.ClassFile.FieldType.array (Jvm.ClassFile.FieldType.object "CircuitNet$Circuit"))) ∈ zWS := List.mem_filter.mpr ⟨List.mem_of_getElem? (i := 189) (by decide +kernel), rfl⟩
theorem zq_486 : Cond.code (⟨"CircuitNet$Circuit", "<init>", "(LCircuitNet$End;I)V"⟩ : MethodName) prog_3_method_1_code 3 (Option.none : Option Jvm.ClassFile.FieldType) ∈ zWS := List.mem_filter.mpr ⟨List.mem_of_getElem? (i := 195) (by decide +kernel), rfl⟩
theorem zq_487 : Cond.code (⟨"CircuitNet", "call", "(II)I"⟩ : MethodName) prog_1_method_2_code 5 (Option.some Jvm.ClassFile.FieldType.int) ∈ zWS := List.mem_filter.mpr ⟨List.mem_of_getElem? (i := 230) (by decide +kernel), rfl⟩
theorem zq_488 : Cond.code (⟨"CircuitNet", "isTerminal", "(I)Z"⟩ : MethodName) prog_1_method_20_code 1 (Option.some Jvm.ClassFile.FieldType.boolean) ∈ zWS := List.mem_filter.mpr ⟨List.mem_of_getElem? (i := 233) (by decide +kernel), rfl⟩
theorem zq_489 : Cond.code (⟨"CircuitNet", "circuitAt", "(II)LCircuitNet$Circuit;"⟩ : MethodName) prog_1_method_21_code 3 (Option.some (Jvm.ClassFile.FieldType.object "CircuitNet$Circuit")) ∈ zWS := List.mem_filter.mpr ⟨List.mem_of_getElem? (i := 237) (by decide +kernel), rfl⟩
theorem zq_490 : Cond.code (⟨"CircuitNet$Circuit", "begin", "(II)V"⟩ : MethodName) prog_3_method_3_code 3 (Option.none : Option Jvm.ClassFile.FieldType) ∈ zWS := List.mem_filter.mpr ⟨List.mem_of_getElem? (i := 241) (by decide +kernel), rfl⟩
theorem zq_491 : Cond.code (⟨"CircuitNet$Circuit", "renew", "()V"⟩ : MethodName) prog_3_method_4_code 1 (Option.none : Option Jvm.ClassFile.FieldType) ∈ zWS := List.mem_filter.mpr ⟨List.mem_of_getElem? (i := 245) (by decide +kernel), rfl⟩
theorem zq_492 : Cond.code (⟨"CircuitNet$Line", "size", "()I"⟩ : MethodName) prog_6_method_2_code 1 (Option.some Jvm.ClassFile.FieldType.int) ∈ zWS := List.mem_filter.mpr ⟨List.mem_of_getElem? (i := 249) (by decide +kernel), rfl⟩
theorem zq_493 : Cond.code (⟨"CircuitNet$Line", "drop", "(I)V"⟩ : MethodName) prog_6_method_5_code 3 (Option.none : Option Jvm.ClassFile.FieldType) ∈ zWS := List.mem_filter.mpr ⟨List.mem_of_getElem? (i := 253) (by decide +kernel), rfl⟩
theorem zq_494 : Cond.code (⟨"CircuitNet$Channel", "put", "(III)V"⟩ : MethodName) prog_2_method_4_code 4 (Option.none : Option Jvm.ClassFile.FieldType) ∈ zWS := List.mem_filter.mpr ⟨List.mem_of_getElem? (i := 265) (by decide +kernel), rfl⟩
theorem zq_495 : Cond.code (⟨"CircuitNet$Packet", "of", "(IIII)I"⟩ : MethodName) prog_7_method_2_code 4 (Option.some Jvm.ClassFile.FieldType.int) ∈ zWS := List.mem_filter.mpr ⟨List.mem_of_getElem? (i := 268) (by decide +kernel), rfl⟩
theorem zq_496 : Cond.code (⟨"CircuitNet$Line", "add", "(I)V"⟩ : MethodName) prog_6_method_4_code 2 (Option.none : Option Jvm.ClassFile.FieldType) ∈ zWS := List.mem_filter.mpr ⟨List.mem_of_getElem? (i := 272) (by decide +kernel), rfl⟩
theorem zq_497 : Cond.code (⟨"CircuitNet$Line", "grow", "()V"⟩ : MethodName) prog_6_method_6_code 3 (Option.none : Option Jvm.ClassFile.FieldType) ∈ zWS := List.mem_filter.mpr ⟨List.mem_of_getElem? (i := 276) (by decide +kernel), rfl⟩
theorem zq_498 : Cond.code (⟨"CircuitNet$End", "sendOn", "()V"⟩ : MethodName) prog_4_method_8_code 2 (Option.none : Option Jvm.ClassFile.FieldType) ∈ zWS := List.mem_filter.mpr ⟨List.mem_of_getElem? (i := 280) (by decide +kernel), rfl⟩
theorem zq_499 : Cond.code (⟨"CircuitNet$Line", "at", "(I)I"⟩ : MethodName) prog_6_method_3_code 2 (Option.some Jvm.ClassFile.FieldType.int) ∈ zWS := List.mem_filter.mpr ⟨List.mem_of_getElem? (i := 285) (by decide +kernel), rfl⟩
theorem zq_500 : Cond.code (⟨"CircuitNet$Wire", "add", "(IIIII)V"⟩ : MethodName) prog_8_method_4_code 7 (Option.none : Option Jvm.ClassFile.FieldType) ∈ zWS := List.mem_filter.mpr ⟨List.mem_of_getElem? (i := 289) (by decide +kernel), rfl⟩
theorem zq_501 : Cond.code (⟨"CircuitNet", "answer", "(II)Z"⟩ : MethodName) prog_1_method_3_code 4 (Option.some Jvm.ClassFile.FieldType.boolean) ∈ zWS := List.mem_filter.mpr ⟨List.mem_of_getElem? (i := 293) (by decide +kernel), rfl⟩
theorem zq_502 : Cond.code (⟨"CircuitNet", "clear", "(II)Z"⟩ : MethodName) prog_1_method_4_code 4 (Option.some Jvm.ClassFile.FieldType.boolean) ∈ zWS := List.mem_filter.mpr ⟨List.mem_of_getElem? (i := 297) (by decide +kernel), rfl⟩
theorem zq_503 : Cond.code (⟨"CircuitNet$Circuit", "hasPeer", "()Z"⟩ : MethodName) prog_3_method_2_code 1 (Option.some Jvm.ClassFile.FieldType.boolean) ∈ zWS := List.mem_filter.mpr ⟨List.mem_of_getElem? (i := 301) (by decide +kernel), rfl⟩
theorem zq_504 : Cond.code (⟨"CircuitNet$Channel", "startClearing", "()V"⟩ : MethodName) prog_2_method_5_code 1 (Option.none : Option Jvm.ClassFile.FieldType) ∈ zWS := List.mem_filter.mpr ⟨List.mem_of_getElem? (i := 307) (by decide +kernel), rfl⟩
theorem zq_505 : Cond.code (⟨"CircuitNet", "reset", "(II)Z"⟩ : MethodName) prog_1_method_5_code 4 (Option.some Jvm.ClassFile.FieldType.boolean) ∈ zWS := List.mem_filter.mpr ⟨List.mem_of_getElem? (i := 312) (by decide +kernel), rfl⟩
theorem zq_506 : Cond.code (⟨"CircuitNet", "send", "(III)I"⟩ : MethodName) prog_1_method_6_code 5 (Option.some Jvm.ClassFile.FieldType.int) ∈ zWS := List.mem_filter.mpr ⟨List.mem_of_getElem? (i := 317) (by decide +kernel), rfl⟩
theorem zq_507 : Cond.code (⟨"CircuitNet$Circuit", "windowIsFull", "()Z"⟩ : MethodName) prog_3_method_5_code 1 (Option.some Jvm.ClassFile.FieldType.boolean) ∈ zWS := List.mem_filter.mpr ⟨List.mem_of_getElem? (i := 321) (by decide +kernel), rfl⟩
theorem zq_508 : Cond.code (⟨"CircuitNet$Circuit", "putValue", "(I)I"⟩ : MethodName) prog_3_method_6_code 3 (Option.some Jvm.ClassFile.FieldType.int) ∈ zWS := List.mem_filter.mpr ⟨List.mem_of_getElem? (i := 325) (by decide +kernel), rfl⟩
theorem zq_509 : Cond.code (⟨"CircuitNet", "read", "(II)I"⟩ : MethodName) prog_1_method_7_code 4 (Option.some Jvm.ClassFile.FieldType.int) ∈ zWS := List.mem_filter.mpr ⟨List.mem_of_getElem? (i := 330) (by decide +kernel), rfl⟩
theorem zq_510 : Cond.code (⟨"CircuitNet$Circuit", "takeValue", "()I"⟩ : MethodName) prog_3_method_7_code 2 (Option.some Jvm.ClassFile.FieldType.int) ∈ zWS := List.mem_filter.mpr ⟨List.mem_of_getElem? (i := 335) (by decide +kernel), rfl⟩
theorem zq_511 : Cond.code (⟨"CircuitNet", "deliver", "(II)Z"⟩ : MethodName) prog_1_method_8_code 10 (Option.some Jvm.ClassFile.FieldType.boolean) ∈ zWS := List.mem_filter.mpr ⟨List.mem_of_getElem? (i := 340) (by decide +kernel), rfl⟩
theorem zq_512 : Cond.code (⟨"CircuitNet", "endAt", "(II)LCircuitNet$End;"⟩ : MethodName) prog_1_method_22_code 3 (Option.some (Jvm.ClassFile.FieldType.object "CircuitNet$End")) ∈ zWS := List.mem_filter.mpr ⟨List.mem_of_getElem? (i := 344) (by decide +kernel), rfl⟩
theorem zq_513 : Cond.code (⟨"CircuitNet$Wire", "size", "()I"⟩ : MethodName) prog_8_method_2_code 1 (Option.some Jvm.ClassFile.FieldType.int) ∈ zWS := List.mem_filter.mpr ⟨List.mem_of_getElem? (i := 348) (by decide +kernel), rfl⟩
theorem zq_514 : Cond.code (⟨"CircuitNet$Wire", "word", "(II)I"⟩ : MethodName) prog_8_method_3_code 3 (Option.some Jvm.ClassFile.FieldType.int) ∈ zWS := List.mem_filter.mpr ⟨List.mem_of_getElem? (i := 352) (by decide +kernel), rfl⟩
theorem zq_515 : Cond.code (⟨"CircuitNet$Wire", "dropFirst", "()V"⟩ : MethodName) prog_8_method_5_code 1 (Option.none : Option Jvm.ClassFile.FieldType) ∈ zWS := List.mem_filter.mpr ⟨List.mem_of_getElem? (i := 356) (by decide +kernel), rfl⟩
theorem zq_516 : Cond.code (⟨"CircuitNet$End", "meetSet", "(I)V"⟩ : MethodName) prog_4_method_3_code 2 (Option.none : Option Jvm.ClassFile.FieldType) ∈ zWS := List.mem_filter.mpr ⟨List.mem_of_getElem? (i := 360) (by decide +kernel), rfl⟩
theorem zq_517 : Cond.code (⟨"CircuitNet$End", "breakDown", "()V"⟩ : MethodName) prog_4_method_10_code 2 (Option.none : Option Jvm.ClassFile.FieldType) ∈ zWS := List.mem_filter.mpr ⟨List.mem_of_getElem? (i := 364) (by decide +kernel), rfl⟩
theorem zq_518 : Cond.code (⟨"CircuitNet$Circuit", "beLost", "()V"⟩ : MethodName) prog_3_method_9_code 1 (Option.none : Option Jvm.ClassFile.FieldType) ∈ zWS := List.mem_filter.mpr ⟨List.mem_of_getElem? (i := 371) (by decide +kernel), rfl⟩
theorem zq_519 : Cond.code (⟨"CircuitNet$Joint", "beLost", "()V"⟩ : MethodName) prog_5_method_3_code 2 (Option.none : Option Jvm.ClassFile.FieldType) ∈ zWS := List.mem_filter.mpr ⟨List.mem_of_getElem? (i := 374) (by decide +kernel), rfl⟩
theorem zq_520 : Cond.code (⟨"CircuitNet$Joint", "leave", "()LCircuitNet$Joint;"⟩ : MethodName) prog_5_method_8_code 2 (Option.some (Jvm.ClassFile.FieldType.object "CircuitNet$Joint")) ∈ zWS := List.mem_filter.mpr ⟨List.mem_of_getElem? (i := 378) (by decide +kernel), rfl⟩
theorem zq_521 : Cond.code (⟨"CircuitNet$End", "meetSettled", "(I)V"⟩ : MethodName) prog_4_method_4_code 2 (Option.none : Option Jvm.ClassFile.FieldType) ∈ zWS := List.mem_filter.mpr ⟨List.mem_of_getElem? (i := 385) (by decide +kernel), rfl⟩
theorem zq_522 : Cond.code (⟨"CircuitNet$End", "confirm", "(I)V"⟩ : MethodName) prog_4_method_5_code 3 (Option.none : Option Jvm.ClassFile.FieldType) ∈ zWS := List.mem_filter.mpr ⟨List.mem_of_getElem? (i := 390) (by decide +kernel), rfl⟩
theorem zq_523 : Cond.code (⟨"CircuitNet$End", "expects", "(I)Z"⟩ : MethodName) prog_4_method_6_code 3 (Option.some Jvm.ClassFile.FieldType.boolean) ∈ zWS := List.mem_filter.mpr ⟨List.mem_of_getElem? (i := 394) (by decide +kernel), rfl⟩
theorem zq_524 : Cond.code (⟨"CircuitNet$End", "channelOf", "(I)LCircuitNet$Channel;"⟩ : MethodName) prog_4_method_2_code 3 (Option.some (Jvm.ClassFile.FieldType.object "CircuitNet$Channel")) ∈ zWS := List.mem_filter.mpr ⟨List.mem_of_getElem? (i := 398) (by decide +kernel), rfl⟩
theorem zq_525 : Cond.code (⟨"CircuitNet$Packet", "part", "(II)I"⟩ : MethodName) prog_7_method_3_code 2 (Option.some Jvm.ClassFile.FieldType.int) ∈ zWS := List.mem_filter.mpr ⟨List.mem_of_getElem? (i := 401) (by decide +kernel), rfl⟩
theorem zq_526 : Cond.code (⟨"CircuitNet$Circuit", "arrive", "(III)V"⟩ : MethodName) prog_3_method_8_code 4 (Option.none : Option Jvm.ClassFile.FieldType) ∈ zWS := List.mem_filter.mpr ⟨List.mem_of_getElem? (i := 408) (by decide +kernel), rfl⟩
theorem zq_527 : Cond.code (⟨"CircuitNet$Circuit", "change", "(II)V"⟩ : MethodName) prog_3_method_10_code 3 (Option.none : Option Jvm.ClassFile.FieldType) ∈ zWS := List.mem_filter.mpr ⟨List.mem_of_getElem? (i := 413) (by decide +kernel), rfl⟩
theorem zq_528 : Cond.code (⟨"CircuitNet$Circuit", "meetClear", "()V"⟩ : MethodName) prog_3_method_11_code 2 (Option.none : Option Jvm.ClassFile.FieldType) ∈ zWS := List.mem_filter.mpr ⟨List.mem_of_getElem? (i := 417) (by decide +kernel), rfl⟩
theorem zq_529 : Cond.code (⟨"CircuitNet$Circuit", "meetReset", "()V"⟩ : MethodName) prog_3_method_12_code 1 (Option.none : Option Jvm.ClassFile.FieldType) ∈ zWS := List.mem_filter.mpr ⟨List.mem_of_getElem? (i := 422) (by decide +kernel), rfl⟩
theorem zq_530 : Cond.code (⟨"CircuitNet$Joint", "arrive", "(III)V"⟩ : MethodName) prog_5_method_2_code 5 (Option.none : Option Jvm.ClassFile.FieldType) ∈ zWS := List.mem_filter.mpr ⟨List.mem_of_getElem? (i := 425) (by decide +kernel), rfl⟩
theorem zq_531 : Cond.code (⟨"CircuitNet$Joint", "meetCall", "(ZII)V"⟩ : MethodName) prog_5_method_4_code 5 (Option.none : Option Jvm.ClassFile.FieldType) ∈ zWS := List.mem_filter.mpr ⟨List.mem_of_getElem? (i := 429) (by decide +kernel), rfl⟩
theorem zq_532 : Cond.code (⟨"CircuitNet$Joint", "connect", "(II)V"⟩ : MethodName) prog_5_method_6_code 4 (Option.none : Option Jvm.ClassFile.FieldType) ∈ zWS := List.mem_filter.mpr ⟨List.mem_of_getElem? (i := 433) (by decide +kernel), rfl⟩
theorem zq_533 : Cond.code (⟨"CircuitNet$Joint", "freeJointTo", "(I)LCircuitNet$Joint;"⟩ : MethodName) prog_5_method_9_code 6 (Option.some (Jvm.ClassFile.FieldType.object "CircuitNet$Joint")) ∈ zWS := List.mem_filter.mpr ⟨List.mem_of_getElem? (i := 437) (by decide +kernel), rfl⟩
theorem zq_534 : Cond.code (⟨"CircuitNet$Joint", "join", "(LCircuitNet$Joint;)V"⟩ : MethodName) prog_5_method_7_code 2 (Option.none : Option Jvm.ClassFile.FieldType) ∈ zWS := List.mem_filter.mpr ⟨List.mem_of_getElem? (i := 442) (by decide +kernel), rfl⟩
theorem zq_535 : Cond.code (⟨"CircuitNet$Joint", "meetClear", "()V"⟩ : MethodName) prog_5_method_5_code 3 (Option.none : Option Jvm.ClassFile.FieldType) ∈ zWS := List.mem_filter.mpr ⟨List.mem_of_getElem? (i := 449) (by decide +kernel), rfl⟩
theorem zq_536 : Cond.code (⟨"CircuitNet", "lose", "(II)Z"⟩ : MethodName) prog_1_method_9_code 4 (Option.some Jvm.ClassFile.FieldType.boolean) ∈ zWS := List.mem_filter.mpr ⟨List.mem_of_getElem? (i := 453) (by decide +kernel), rfl⟩
theorem zq_537 : Cond.code (⟨"CircuitNet", "tick", "(I)Z"⟩ : MethodName) prog_1_method_10_code 4 (Option.some Jvm.ClassFile.FieldType.boolean) ∈ zWS := List.mem_filter.mpr ⟨List.mem_of_getElem? (i := 457) (by decide +kernel), rfl⟩
theorem zq_538 : Cond.code (⟨"CircuitNet$End", "passTime", "()V"⟩ : MethodName) prog_4_method_7_code 1 (Option.none : Option Jvm.ClassFile.FieldType) ∈ zWS := List.mem_filter.mpr ⟨List.mem_of_getElem? (i := 461) (by decide +kernel), rfl⟩
theorem zq_539 : Cond.code (⟨"CircuitNet$End", "sendAgain", "()V"⟩ : MethodName) prog_4_method_9_code 2 (Option.none : Option Jvm.ClassFile.FieldType) ∈ zWS := List.mem_filter.mpr ⟨List.mem_of_getElem? (i := 465) (by decide +kernel), rfl⟩
theorem zq_540 : Cond.code (⟨"CircuitNet", "state", "(II)I"⟩ : MethodName) prog_1_method_11_code 4 (Option.some Jvm.ClassFile.FieldType.int) ∈ zWS := List.mem_filter.mpr ⟨List.mem_of_getElem? (i := 469) (by decide +kernel), rfl⟩
theorem zq_541 : Cond.code (⟨"CircuitNet", "peer", "(II)I"⟩ : MethodName) prog_1_method_12_code 4 (Option.some Jvm.ClassFile.FieldType.int) ∈ zWS := List.mem_filter.mpr ⟨List.mem_of_getElem? (i := 473) (by decide +kernel), rfl⟩
theorem zq_542 : Cond.code (⟨"CircuitNet", "unread", "(II)I"⟩ : MethodName) prog_1_method_13_code 4 (Option.some Jvm.ClassFile.FieldType.int) ∈ zWS := List.mem_filter.mpr ⟨List.mem_of_getElem? (i := 477) (by decide +kernel), rfl⟩
theorem zq_543 : Cond.code (⟨"CircuitNet", "frames", "(II)I"⟩ : MethodName) prog_1_method_14_code 4 (Option.some Jvm.ClassFile.FieldType.int) ∈ zWS := List.mem_filter.mpr ⟨List.mem_of_getElem? (i := 481) (by decide +kernel), rfl⟩
theorem zq_544 : Cond.code (⟨"CircuitNet", "frame", "(IIII)I"⟩ : MethodName) prog_1_method_15_code 7 (Option.some Jvm.ClassFile.FieldType.int) ∈ zWS := List.mem_filter.mpr ⟨List.mem_of_getElem? (i := 485) (by decide +kernel), rfl⟩
theorem zq_545 : Cond.code (⟨"CircuitNet", "row", "(II)I"⟩ : MethodName) prog_1_method_16_code 4 (Option.some Jvm.ClassFile.FieldType.int) ∈ zWS := List.mem_filter.mpr ⟨List.mem_of_getElem? (i := 489) (by decide +kernel), rfl⟩
theorem zq_546 : Cond.code (⟨"CircuitNet", "epoch", "(II)I"⟩ : MethodName) prog_1_method_17_code 4 (Option.some Jvm.ClassFile.FieldType.int) ∈ zWS := List.mem_filter.mpr ⟨List.mem_of_getElem? (i := 493) (by decide +kernel), rfl⟩
theorem zq_547 : Cond.code (⟨"CircuitNet", "up", "(II)Z"⟩ : MethodName) prog_1_method_18_code 4 (Option.some Jvm.ClassFile.FieldType.boolean) ∈ zWS := List.mem_filter.mpr ⟨List.mem_of_getElem? (i := 497) (by decide +kernel), rfl⟩
theorem zq_548 : Cond.code (⟨"CircuitNet", "busy", "(II)I"⟩ : MethodName) prog_1_method_19_code 6 (Option.some Jvm.ClassFile.FieldType.int) ∈ zWS := List.mem_filter.mpr ⟨List.mem_of_getElem? (i := 501) (by decide +kernel), rfl⟩
theorem zq_549 : Cond.code (⟨"CircuitNetModel", "<init>", "()V"⟩ : MethodName) prog_10_method_1_code 1 (Option.none : Option Jvm.ClassFile.FieldType) ∈ zWS := List.mem_filter.mpr ⟨List.mem_of_getElem? (i := 506) (by decide +kernel), rfl⟩
theorem zq_550 : Cond.code (⟨"CircuitNetModel", "tick", "(I)Z"⟩ : MethodName) prog_10_method_19_code 4 (Option.some Jvm.ClassFile.FieldType.boolean) ∈ zWS := List.mem_filter.mpr ⟨List.mem_of_getElem? (i := 585) (by decide +kernel), rfl⟩
theorem zq_551 : Cond.code (⟨"CircuitNetModel", "tickOf", "(I)V"⟩ : MethodName) prog_10_method_18_code 4 (Option.none : Option Jvm.ClassFile.FieldType) ∈ zWS := List.mem_filter.mpr ⟨List.mem_of_getElem? (i := 589) (by decide +kernel), rfl⟩
theorem zq_552 : Cond.code (⟨"CircuitNetModel", "post", "(II)I"⟩ : MethodName) prog_10_method_10_code 5 (Option.some Jvm.ClassFile.FieldType.int) ∈ zWS := List.mem_filter.mpr ⟨List.mem_of_getElem? (i := 593) (by decide +kernel), rfl⟩
theorem zq_553 : Cond.code (⟨"CircuitNetModel", "fail", "(I)V"⟩ : MethodName) prog_10_method_17_code 2 (Option.none : Option Jvm.ClassFile.FieldType) ∈ zWS := List.mem_filter.mpr ⟨List.mem_of_getElem? (i := 597) (by decide +kernel), rfl⟩
theorem zq_554 : Cond.code (⟨"CircuitNetModel", "breakUp", "(I)V"⟩ : MethodName) prog_10_method_14_code 3 (Option.none : Option Jvm.ClassFile.FieldType) ∈ zWS := List.mem_filter.mpr ⟨List.mem_of_getElem? (i := 601) (by decide +kernel), rfl⟩
theorem zq_555 : Cond.code (⟨"CircuitNetModel", "remove", "(II)V"⟩ : MethodName) prog_10_method_7_code 6 (Option.none : Option Jvm.ClassFile.FieldType) ∈ zWS := List.mem_filter.mpr ⟨List.mem_of_getElem? (i := 605) (by decide +kernel), rfl⟩
theorem zq_556 : Cond.code (⟨"CircuitNetModel", "lost", "(II)V"⟩ : MethodName) prog_10_method_15_code 4 (Option.none : Option Jvm.ClassFile.FieldType) ∈ zWS := List.mem_filter.mpr ⟨List.mem_of_getElem? (i := 609) (by decide +kernel), rfl⟩
theorem zq_557 : Cond.code (⟨"CircuitNetModel", "atSwitch", "(I)Z"⟩ : MethodName) prog_10_method_24_code 1 (Option.some Jvm.ClassFile.FieldType.boolean) ∈ zWS := List.mem_filter.mpr ⟨List.mem_of_getElem? (i := 612) (by decide +kernel), rfl⟩
theorem zq_558 : Cond.code (⟨"CircuitNetModel", "cut", "(I)V"⟩ : MethodName) prog_10_method_16_code 2 (Option.none : Option Jvm.ClassFile.FieldType) ∈ zWS := List.mem_filter.mpr ⟨List.mem_of_getElem? (i := 616) (by decide +kernel), rfl⟩
theorem zq_559 : Cond.code (⟨"CircuitNetModel", "putOn", "(II)V"⟩ : MethodName) prog_10_method_9_code 3 (Option.none : Option Jvm.ClassFile.FieldType) ∈ zWS := List.mem_filter.mpr ⟨List.mem_of_getElem? (i := 620) (by decide +kernel), rfl⟩
theorem zq_560 : Cond.code (⟨"CircuitNetModel", "put", "(IIIII)V"⟩ : MethodName) prog_10_method_8_code 6 (Option.none : Option Jvm.ClassFile.FieldType) ∈ zWS := List.mem_filter.mpr ⟨List.mem_of_getElem? (i := 624) (by decide +kernel), rfl⟩
theorem zq_561 : Cond.code (⟨"CircuitNetModel", "sendOn", "(I)V"⟩ : MethodName) prog_10_method_12_code 3 (Option.none : Option Jvm.ClassFile.FieldType) ∈ zWS := List.mem_filter.mpr ⟨List.mem_of_getElem? (i := 628) (by decide +kernel), rfl⟩
theorem zq_562 : Cond.code (⟨"CircuitNetModel", "length", "(I)I"⟩ : MethodName) prog_10_method_5_code 4 (Option.some Jvm.ClassFile.FieldType.int) ∈ zWS := List.mem_filter.mpr ⟨List.mem_of_getElem? (i := 632) (by decide +kernel), rfl⟩
theorem zq_563 : Cond.code (⟨"CircuitNetModel", "info", "(II)V"⟩ : MethodName) prog_10_method_11_code 5 (Option.none : Option Jvm.ClassFile.FieldType) ∈ zWS := List.mem_filter.mpr ⟨List.mem_of_getElem? (i := 636) (by decide +kernel), rfl⟩
theorem zq_564 : Cond.code (⟨"CircuitNetModel", "packet", "(II)I"⟩ : MethodName) prog_10_method_6_code 5 (Option.some Jvm.ClassFile.FieldType.int) ∈ zWS := List.mem_filter.mpr ⟨List.mem_of_getElem? (i := 640) (by decide +kernel), rfl⟩
theorem zq_565 : Cond.code (⟨"CircuitNetModel", "deliver", "(II)Z"⟩ : MethodName) prog_10_method_21_code 14 (Option.some Jvm.ClassFile.FieldType.boolean) ∈ zWS := List.mem_filter.mpr ⟨List.mem_of_getElem? (i := 644) (by decide +kernel), rfl⟩
theorem zq_566 : Cond.code (⟨"CircuitNetModel", "noEnd", "(II)Z"⟩ : MethodName) prog_10_method_3_code 2 (Option.some Jvm.ClassFile.FieldType.boolean) ∈ zWS := List.mem_filter.mpr ⟨List.mem_of_getElem? (i := 647) (by decide +kernel), rfl⟩
theorem zq_567 : Cond.code (⟨"CircuitNetModel", "below", "(II)Z"⟩ : MethodName) prog_10_method_2_code 2 (Option.some Jvm.ClassFile.FieldType.boolean) ∈ zWS := List.mem_filter.mpr ⟨List.mem_of_getElem? (i := 650) (by decide +kernel), rfl⟩
theorem zq_568 : Cond.code (⟨"CircuitNetModel", "shift", "(I)V"⟩ : MethodName) prog_10_method_13_code 4 (Option.none : Option Jvm.ClassFile.FieldType) ∈ zWS := List.mem_filter.mpr ⟨List.mem_of_getElem? (i := 654) (by decide +kernel), rfl⟩
theorem zq_569 : Cond.code (⟨"CircuitNetModel", "set", "(II)V"⟩ : MethodName) prog_10_method_22_code 3 (Option.none : Option Jvm.ClassFile.FieldType) ∈ zWS := List.mem_filter.mpr ⟨List.mem_of_getElem? (i := 658) (by decide +kernel), rfl⟩
theorem zq_570 : Cond.code (⟨"CircuitNetModel", "confirm", "(II)V"⟩ : MethodName) prog_10_method_20_code 4 (Option.none : Option Jvm.ClassFile.FieldType) ∈ zWS := List.mem_filter.mpr ⟨List.mem_of_getElem? (i := 662) (by decide +kernel), rfl⟩
theorem zq_571 : Cond.code (⟨"CircuitNetModel", "arrive", "(IIIII)V"⟩ : MethodName) prog_10_method_25_code 9 (Option.none : Option Jvm.ClassFile.FieldType) ∈ zWS := List.mem_filter.mpr ⟨List.mem_of_getElem? (i := 666) (by decide +kernel), rfl⟩
theorem zq_572 : Cond.code (⟨"CircuitNetModel", "atTerminal", "(IIII)V"⟩ : MethodName) prog_10_method_31_code 6 (Option.none : Option Jvm.ClassFile.FieldType) ∈ zWS := List.mem_filter.mpr ⟨List.mem_of_getElem? (i := 670) (by decide +kernel), rfl⟩
theorem zq_573 : Cond.code (⟨"CircuitNetModel", "renew", "(I)V"⟩ : MethodName) prog_10_method_30_code 2 (Option.none : Option Jvm.ClassFile.FieldType) ∈ zWS := List.mem_filter.mpr ⟨List.mem_of_getElem? (i := 674) (by decide +kernel), rfl⟩
theorem zq_574 : Cond.code (⟨"CircuitNetModel", "slot", "(I)I"⟩ : MethodName) prog_10_method_29_code 1 (Option.some Jvm.ClassFile.FieldType.int) ∈ zWS := List.mem_filter.mpr ⟨List.mem_of_getElem? (i := 677) (by decide +kernel), rfl⟩
theorem zq_575 : Cond.code (⟨"CircuitNetModel", "connect", "(IIII)V"⟩ : MethodName) prog_10_method_28_code 7 (Option.none : Option Jvm.ClassFile.FieldType) ∈ zWS := List.mem_filter.mpr ⟨List.mem_of_getElem? (i := 681) (by decide +kernel), rfl⟩
theorem zq_576 : Cond.code (⟨"CircuitNetModel", "route", "(II)I"⟩ : MethodName) prog_10_method_26_code 3 (Option.some Jvm.ClassFile.FieldType.int) ∈ zWS := List.mem_filter.mpr ⟨List.mem_of_getElem? (i := 684) (by decide +kernel), rfl⟩
theorem zq_577 : Cond.code (⟨"CircuitNetModel", "free", "(I)I"⟩ : MethodName) prog_10_method_27_code 4 (Option.some Jvm.ClassFile.FieldType.int) ∈ zWS := List.mem_filter.mpr ⟨List.mem_of_getElem? (i := 688) (by decide +kernel), rfl⟩
theorem zq_578 : Cond.code (⟨"CircuitNetModel", "lose", "(II)Z"⟩ : MethodName) prog_10_method_23_code 3 (Option.some Jvm.ClassFile.FieldType.boolean) ∈ zWS := List.mem_filter.mpr ⟨List.mem_of_getElem? (i := 692) (by decide +kernel), rfl⟩
theorem zq_579 : Cond.code (⟨"CircuitNetModel", "call", "(II)I"⟩ : MethodName) prog_10_method_32_code 4 (Option.some Jvm.ClassFile.FieldType.int) ∈ zWS := List.mem_filter.mpr ⟨List.mem_of_getElem? (i := 696) (by decide +kernel), rfl⟩
theorem zq_580 : Cond.code (⟨"CircuitNetModel", "answer", "(II)Z"⟩ : MethodName) prog_10_method_34_code 3 (Option.some Jvm.ClassFile.FieldType.boolean) ∈ zWS := List.mem_filter.mpr ⟨List.mem_of_getElem? (i := 700) (by decide +kernel), rfl⟩
theorem zq_581 : Cond.code (⟨"CircuitNetModel", "noChannel", "(II)Z"⟩ : MethodName) prog_10_method_4_code 2 (Option.some Jvm.ClassFile.FieldType.boolean) ∈ zWS := List.mem_filter.mpr ⟨List.mem_of_getElem? (i := 703) (by decide +kernel), rfl⟩
theorem zq_582 : Cond.code (⟨"CircuitNetModel", "place", "(II)I"⟩ : MethodName) prog_10_method_33_code 2 (Option.some Jvm.ClassFile.FieldType.int) ∈ zWS := List.mem_filter.mpr ⟨List.mem_of_getElem? (i := 706) (by decide +kernel), rfl⟩
theorem zq_583 : Cond.code (⟨"CircuitNetModel", "clear", "(II)Z"⟩ : MethodName) prog_10_method_35_code 3 (Option.some Jvm.ClassFile.FieldType.boolean) ∈ zWS := List.mem_filter.mpr ⟨List.mem_of_getElem? (i := 710) (by decide +kernel), rfl⟩
theorem zq_584 : Cond.code (⟨"CircuitNetModel", "reset", "(II)Z"⟩ : MethodName) prog_10_method_36_code 4 (Option.some Jvm.ClassFile.FieldType.boolean) ∈ zWS := List.mem_filter.mpr ⟨List.mem_of_getElem? (i := 714) (by decide +kernel), rfl⟩
theorem zq_585 : Cond.code (⟨"CircuitNetModel", "send", "(III)I"⟩ : MethodName) prog_10_method_37_code 6 (Option.some Jvm.ClassFile.FieldType.int) ∈ zWS := List.mem_filter.mpr ⟨List.mem_of_getElem? (i := 718) (by decide +kernel), rfl⟩
theorem zq_586 : Cond.code (⟨"CircuitNetModel", "read", "(II)I"⟩ : MethodName) prog_10_method_38_code 7 (Option.some Jvm.ClassFile.FieldType.int) ∈ zWS := List.mem_filter.mpr ⟨List.mem_of_getElem? (i := 722) (by decide +kernel), rfl⟩
theorem zq_587 : Cond.code (⟨"CircuitNetModel", "state", "(II)I"⟩ : MethodName) prog_10_method_39_code 3 (Option.some Jvm.ClassFile.FieldType.int) ∈ zWS := List.mem_filter.mpr ⟨List.mem_of_getElem? (i := 726) (by decide +kernel), rfl⟩
theorem zq_588 : Cond.code (⟨"CircuitNetModel", "peer", "(II)I"⟩ : MethodName) prog_10_method_40_code 3 (Option.some Jvm.ClassFile.FieldType.int) ∈ zWS := List.mem_filter.mpr ⟨List.mem_of_getElem? (i := 730) (by decide +kernel), rfl⟩
theorem zq_589 : Cond.code (⟨"CircuitNetModel", "unread", "(II)I"⟩ : MethodName) prog_10_method_41_code 4 (Option.some Jvm.ClassFile.FieldType.int) ∈ zWS := List.mem_filter.mpr ⟨List.mem_of_getElem? (i := 734) (by decide +kernel), rfl⟩
theorem zq_590 : Cond.code (⟨"CircuitNetModel", "frames", "(II)I"⟩ : MethodName) prog_10_method_42_code 3 (Option.some Jvm.ClassFile.FieldType.int) ∈ zWS := List.mem_filter.mpr ⟨List.mem_of_getElem? (i := 738) (by decide +kernel), rfl⟩
theorem zq_591 : Cond.code (⟨"CircuitNetModel", "frame", "(IIII)I"⟩ : MethodName) prog_10_method_43_code 8 (Option.some Jvm.ClassFile.FieldType.int) ∈ zWS := List.mem_filter.mpr ⟨List.mem_of_getElem? (i := 742) (by decide +kernel), rfl⟩
theorem zq_592 : Cond.code (⟨"CircuitNetModel", "row", "(II)I"⟩ : MethodName) prog_10_method_44_code 3 (Option.some Jvm.ClassFile.FieldType.int) ∈ zWS := List.mem_filter.mpr ⟨List.mem_of_getElem? (i := 746) (by decide +kernel), rfl⟩
theorem zq_593 : Cond.code (⟨"CircuitNetModel", "epoch", "(II)I"⟩ : MethodName) prog_10_method_45_code 3 (Option.some Jvm.ClassFile.FieldType.int) ∈ zWS := List.mem_filter.mpr ⟨List.mem_of_getElem? (i := 750) (by decide +kernel), rfl⟩
theorem zq_594 : Cond.code (⟨"CircuitNetModel", "up", "(II)Z"⟩ : MethodName) prog_10_method_46_code 3 (Option.some Jvm.ClassFile.FieldType.boolean) ∈ zWS := List.mem_filter.mpr ⟨List.mem_of_getElem? (i := 754) (by decide +kernel), rfl⟩
theorem zq_595 : Cond.code (⟨"CircuitNetModel", "busy", "(II)I"⟩ : MethodName) prog_10_method_47_code 6 (Option.some Jvm.ClassFile.FieldType.int) ∈ zWS := List.mem_filter.mpr ⟨List.mem_of_getElem? (i := 758) (by decide +kernel), rfl⟩
end
section
theorem zx_0 : Cond.arrayOver (Jvm.ClassFile.FieldType.object "CircuitNet$End") ∈ zXS := List.mem_of_getElem? (i := 0) rfl
theorem zx_1 : Cond.methodLinkNest "CircuitNet" 149 (⟨"CircuitNet$Wire", "<init>", "()V"⟩ : MethodName) "CircuitNet" ∈ zXS := List.mem_of_getElem? (i := 1) rfl
theorem zx_2 : Cond.methodLinkNest "CircuitNet$End" 11 (⟨"CircuitNet$Line", "<init>", "()V"⟩ : MethodName) "CircuitNet" ∈ zXS := List.mem_of_getElem? (i := 2) rfl
theorem zx_3 : Cond.arrayOver (Jvm.ClassFile.FieldType.object "CircuitNet$Channel") ∈ zXS := List.mem_of_getElem? (i := 3) rfl
theorem zx_4 : Cond.arrayOver (Jvm.ClassFile.FieldType.object "CircuitNet$Circuit") ∈ zXS := List.mem_of_getElem? (i := 4) rfl
theorem zx_5 : Cond.methodLinkNest "CircuitNet$Circuit" 11 (⟨"CircuitNet$Line", "<init>", "()V"⟩ : MethodName) "CircuitNet" ∈ zXS := List.mem_of_getElem? (i := 5) rfl
theorem zx_6 : Cond.declares (⟨"CircuitNet$Channel", "arrive", "(III)V"⟩ : MethodName) ∈ zXS := List.mem_of_getElem? (i := 6) rfl
theorem zx_7 : Cond.declares (⟨"CircuitNet$Channel", "beLost", "()V"⟩ : MethodName) ∈ zXS := List.mem_of_getElem? (i := 7) rfl
theorem zx_8 : Cond.castable "CircuitNet$Circuit" "CircuitNet$Channel" ∈ zXS := List.mem_of_getElem? (i := 8) rfl
theorem zx_9 : Cond.castable "CircuitNet$Joint" "CircuitNet$Channel" ∈ zXS := List.mem_of_getElem? (i := 9) rfl
theorem zXS_in : ∀ w ∈ zXS, w ∈ lw_tbl := by decide +kernel
theorem zXS_same {u U : State} (e : u.vm = U.vm) (h : ∀ w ∈ zXS, va_Nw w u) : ∀ w ∈ zXS, va_Nw w U := List.forall_mem_cons.mpr ⟨va_AO.moved (by rw [e]; exact Vm.Alike.refl _) (h _ zx_0), List.forall_mem_cons.mpr ⟨va_Nw.same rfl e (h _ zx_1), List.forall_mem_cons.mpr ⟨va_Nw.same rfl e (h _ zx_2), List.forall_mem_cons.mpr ⟨va_AO.moved (by rw [e]; exact Vm.Alike.refl _) (h _ zx_3), List.forall_mem_cons.mpr ⟨va_AO.moved (by rw [e]; exact Vm.Alike.refl _) (h _ zx_4), List.forall_mem_cons.mpr ⟨va_Nw.same rfl e (h _ zx_5), List.forall_mem_cons.mpr ⟨va_Nw.same rfl e (h _ zx_6), List.forall_mem_cons.mpr ⟨va_Nw.same rfl e (h _ zx_7), List.forall_mem_cons.mpr ⟨va_Nw.same rfl e (h _ zx_8), List.forall_mem_cons.mpr ⟨va_Nw.same rfl e (h _ zx_9), fun w hw => absurd hw List.not_mem_nil⟩⟩⟩⟩⟩⟩⟩⟩⟩⟩
theorem zXS_warm {s U : State} (hW : s.WarmedH U.vm) (h : ∀ w ∈ zXS, va_Nw w s) : ∀ w ∈ zXS, va_Nw w U := List.forall_mem_cons.mpr ⟨va_AO.moved hW.alike (h _ zx_0), List.forall_mem_cons.mpr ⟨va_Nw.warmM hW (h _ zx_1), List.forall_mem_cons.mpr ⟨va_Nw.warmM hW (h _ zx_2), List.forall_mem_cons.mpr ⟨va_AO.moved hW.alike (h _ zx_3), List.forall_mem_cons.mpr ⟨va_AO.moved hW.alike (h _ zx_4), List.forall_mem_cons.mpr ⟨va_Nw.warmM hW (h _ zx_5), List.forall_mem_cons.mpr ⟨va_Nw.warmD hW (h _ zx_6), List.forall_mem_cons.mpr ⟨va_Nw.warmD hW (h _ zx_7), List.forall_mem_cons.mpr ⟨va_Nw.warmC hW (h _ zx_8), List.forall_mem_cons.mpr ⟨va_Nw.warmC hW (h _ zx_9), fun w hw => absurd hw List.not_mem_nil⟩⟩⟩⟩⟩⟩⟩⟩⟩⟩
end
section
/-- how long an instruction is (a switch apart) -/
def zlen (ins : Jvm.ClassFile.Instr) : Nat := match ins with
  | .bipush _ | .iload _ | .aload _ | .istore _ | .astore _ | .newarray _ => 2
  | .sipush _ | .iinc _ _ | .goto _ | .ifCond _ _ | .if_icmp _ _ | .ifnull _ | .ifnonnull _ | .if_acmp _ _ | .getfield _ | .putfield _ | .anewarray _ | .new _ | .instanceof _ | .checkcast _ | .invokestatic _ | .invokespecial _ | .invokevirtual _ => 3
  | _ => 1
def zdc (cc : ByteArray) (pc : Nat) (ins : Jvm.ClassFile.Instr) : Prop := match ins with
  | .tableswitch _ _ _ _ => ∃ n, decode cc pc = .ok (ins, n)
  | _ => decode cc pc = .ok (ins, zlen ins)
/-! jumps -/
def zjT (pc : Nat) : List Int → zI → Nat → Bool
  | off :: os, x :: t, k => decide (x.1 = k) && decide ((pc : Int) + off = (x.2.1 : Int)) && zjT pc os t (k + 1)
  | _, [], _ => true
  | [], _ :: _, _ => false
def zjB (pc : Nat) (ins : Jvm.ClassFile.Instr) (inf : zI) : Bool := match inf with
  | [] => true
  | q :: t => (match ins with
    | .goto off => decide ((pc : Int) + off = (q.1 : Int))
    | .ifCond _ off => decide ((pc : Int) + off = (q.1 : Int))
    | .if_icmp _ off => decide ((pc : Int) + off = (q.1 : Int))
    | .ifnull off => decide ((pc : Int) + off = (q.1 : Int))
    | .ifnonnull off => decide ((pc : Int) + off = (q.1 : Int))
    | .if_acmp _ off => decide ((pc : Int) + off = (q.1 : Int))
    | .tableswitch d lo hi offs => decide ((pc : Int) + d = (q.1 : Int)) && decide (lo = 0) && decide (hi + 1 = (t.length : Int)) && decide (t.length < 1000) && zjT pc offs.toList t 0
    | _ => true)
/-- a field's link, from a method: class, place, kind (0 int, 1 boolean, 2 reference) -/
def zfk (y : MethodName) (pf : Bool) (idx : Nat) (q : Nat × Nat × Nat) : Prop := ∃ (C : String) (T : u_T) (N : Nat) (ty0 : Nat → FieldType) (ref : String),
  (vwCl[q.1]? = some (C, T, N) ∧ q.1 < 20 ∧ N = zN q.1 ∧ (∀ w ∈ u_ws C T N, w ∈ zWS) ∧ (∀ k, k < N → parseFieldDescriptor (T k).2.2.1 = some (ty0 k)) ∧ (∀ a, a < N → ∀ b, b < N → a ≠ b → (T a).2.1 ≠ (T b).2.1)) ∧
  q.2.1 < N ∧ (Cond.fieldLink y.cls idx ref (T q.2.1).2.1 (T q.2.1).2.2.1 ∈ zWS ∨ ((pf = true → (T q.2.1).2.2.2 = false) ∧ ∃ host, Cond.fieldLinkNest y.cls idx ref (T q.2.1).2.1 (T q.2.1).2.2.1 host ∈ zXS)) ∧
  (ref = (T q.2.1).1 ∨ Cond.sameField ref (T q.2.1).1 (T q.2.1).2.1 (T q.2.1).2.2.1 ∈ zWS) ∧
  ((q.2.2 = 0 ∧ zRf q.1 q.2.1 = false ∧ ty0 q.2.1 = .int) ∨ (q.2.2 = 1 ∧ zRf q.1 q.2.1 = false ∧ ty0 q.2.1 = .boolean) ∨ (q.2.2 = 2 ∧ zRf q.1 q.2.1 = true ∧ ((∃ n, ty0 q.2.1 = .object n) ∨ ∃ t, ty0 q.2.1 = .array t))) ∧
  (pf = true → (T q.2.1).2.2.2 = false ∨ ((T q.2.1).2.2.2 = true ∧ y.name = "<init>" ∧ (T q.2.1).1 = y.cls))
/-- an array's kind and its element's class -/
def zel (t : Nat) : String := if t = 22 then zel22 else if t = 23 then zel23 else zel24
/-- what an allocation's words are -/
def znk (y : MethodName) (idx : Nat) (q : Nat × Nat × Nat) : Prop := ∃ (C : String) (T : u_T) (N : Nat) (ty0 : Nat → FieldType),
  (vwCl[q.1]? = some (C, T, N) ∧ q.1 < 20 ∧ N = zN q.1 ∧ (∀ w ∈ u_ws C T N, w ∈ zWS) ∧ (∀ k, k < N → parseFieldDescriptor (T k).2.2.1 = some (ty0 k))) ∧ q.2.1 = N ∧
  Cond.classLink y.cls idx C ∈ zWS ∧ Cond.instantiable C N ∈ zWS ∧ Cond.initialized C ∈ zWS ∧ ∀ j, j < N → defaultValue (ty0 j) = if zRf q.1 j = true then .null else .int 0
def zo3 (y : MethodName) (ins : Jvm.ClassFile.Instr) (inf : zI) : Prop := match ins with
  | .getfield idx => ∀ q ∈ inf, zfk y false idx q
  | .putfield idx => ∀ q ∈ inf, zfk y true idx q
  | .aastore => ∀ q ∈ inf, (22 ≤ q.1 ∧ q.1 < 25) ∧ ∀ x, (x = q.2.1 ∨ x = q.2.2) → x < 20 ∧ ∃ r : vw_C, vwCl[x]? = some r ∧ (r.1 = zel q.1 ∨ Cond.castable r.1 (zel q.1) ∈ zXS)
  | .newarray at_ => ∀ q ∈ inf, (q.1 = 20 ∧ newarray.typeOf at_ = .int ∧ Cond.arrayClass .int ∈ zWS) ∨ (q.1 = 21 ∧ newarray.typeOf at_ = .boolean ∧ Cond.arrayClass .boolean ∈ zWS)
  | .anewarray idx => ∀ q ∈ inf, (22 ≤ q.1 ∧ q.1 < 25) ∧ Cond.classLink y.cls idx (zel q.1) ∈ zWS ∧ Cond.arrayOver (.object (zel q.1)) ∈ zXS
  | .new idx => ∀ q ∈ inf, znk y idx q
  | .instanceof idx => ∀ q ∈ inf, q.2.1 = 1 ∧ q.1 < 20 ∧ ∃ r : vw_C, vwCl[q.1]? = some r ∧ Cond.classLink y.cls idx r.1 ∈ zWS
  | .checkcast idx => ∀ q ∈ inf, q.2.1 = 1 ∧ q.1 < 20 ∧ ∃ r : vw_C, vwCl[q.1]? = some r ∧ Cond.classLink y.cls idx r.1 ∈ zWS
  | _ => True
def zvk (y : MethodName) (idx : Nat) (C : String) (j : Nat) : Prop :=
  (Cond.methodLink y.cls idx (zy j) ∈ zWS ∧ Cond.instanceMethod (zy j) ∈ zWS ∧ Cond.selects C (zy j) (zy j) ∈ zWS ∧ Cond.initialized (zy j).cls ∈ zWS) ∨
  (∃ host, Cond.methodLinkNest y.cls idx (zy j) host ∈ zXS ∧ Cond.instanceMethod (zy j) ∈ zWS ∧ Cond.selects C (zy j) (zy j) ∈ zWS ∧ Cond.initialized (zy j).cls ∈ zWS) ∨
  (∃ (owner : String) (x : MethodName), (∀ w ∈ ([.methodLink y.cls idx x, .sameMethod x.cls owner x.name x.desc, .selects C x (zy j), .instanceMethod (zy j), .initialized (zy j).cls] : List Cond), w ∈ zWS) ∧ (zy j = ⟨owner, x.name, x.desc⟩ ∨ Cond.declares ⟨owner, x.name, x.desc⟩ ∈ zXS) ∧ (owner ≠ "java/lang/invoke/MethodHandle" ∧ owner ≠ "java/lang/invoke/VarHandle") ∧ x.desc = (zy j).desc)
def zo4 (i : Nat) (ins : Jvm.ClassFile.Instr) (inf : zI) : Prop := match ins with
  | .ireturn => ∀ q ∈ inf, (q.1 = 0 ∧ zty i = some .int) ∨ (q.1 = 1 ∧ zty i = some .boolean)
  | .areturn => (∃ n, zty i = some (.object n)) ∨ ∃ t, zty i = some (.array t)
  | .return_ => zty i = none
  | .invokestatic idx => ∀ q ∈ inf,
      (q.2.1 = 1001 ∧ ∀ w ∈ ([.methodLink (zy i).cls idx Lib.Math.max.name, .static Lib.Math.max.name, .initialized "java/lang/Math", .code Lib.Math.max.name Lib.Math.max.code 2 (some .int)] : List Cond), w ∈ zWS) ∨
      (q.2.1 = 1002 ∧ ∀ w ∈ ([.methodLink (zy i).cls idx Lib.Math.min.name, .static Lib.Math.min.name, .initialized "java/lang/Math", .code Lib.Math.min.name Lib.Math.min.code 2 (some .int)] : List Cond), w ∈ zWS) ∨
      (¬ q.2.1 = 1001 ∧ ¬ q.2.1 = 1002 ∧ q.2.2 = zna q.2.1 ∧ q.2.1 < znm ∧ Cond.static (zy q.2.1) ∈ zWS ∧ Cond.initialized (zy q.2.1).cls ∈ zWS ∧ (Cond.methodLink (zy i).cls idx (zy q.2.1) ∈ zWS ∨ ∃ host, Cond.methodLinkNest (zy i).cls idx (zy q.2.1) host ∈ zXS))
  | .invokespecial idx => ∀ q ∈ inf,
      (q.2.1 = 1000 ∧ ∀ w ∈ ([.methodLink (zy i).cls idx Lib.objectInit, .instanceMethod Lib.objectInit, .code Lib.objectInit ⟨#[0xb1]⟩ 1 none] : List Cond), w ∈ zWS) ∨
      (¬ q.2.1 = 1000 ∧ q.2.2 = zna q.2.1 ∧ q.2.1 < znm ∧ zty q.2.1 = none ∧ (zy q.2.1).name = "<init>" ∧ Cond.instanceMethod (zy q.2.1) ∈ zWS ∧ Cond.initialized (zy q.2.1).cls ∈ zWS ∧ (Cond.methodLink (zy i).cls idx (zy q.2.1) ∈ zWS ∨ ∃ host, Cond.methodLinkNest (zy i).cls idx (zy q.2.1) host ∈ zXS))
  | .invokevirtual idx => ∀ q ∈ inf, (∀ q' ∈ inf, q'.2.2 = q.2.2) ∧ q.2.2 = zna q.2.1 ∧ q.2.1 < znm ∧ q.1 < 20 ∧ ∃ r : vw_C, vwCl[q.1]? = some r ∧ zvk (zy i) idx r.1 q.2.1
  | _ => True
def zFa (i : Nat) : List zK → Prop
  | [] => True
  | q :: t => (zo3 (zy i) q.2.1 q.2.2 ∧ zo4 i q.2.1 q.2.2) ∧ zFa i t
theorem zFc {i pc : Nat} {ins : Jvm.ClassFile.Instr} {inf : zI} {t : List zK} (h3 : zo3 (zy i) ins inf) (h4 : zo4 i ins inf) (ht : zFa i t) : zFa i ((pc, ins, inf) :: t) := ⟨⟨h3, h4⟩, ht⟩
theorem zFn {i : Nat} : zFa i [] := trivial
theorem zFa_app {i : Nat} : ∀ {a b : List zK}, zFa i a → zFa i b → zFa i (a ++ b)
  | [], _, _, h => h
  | _ :: _, _, h1, h2 => ⟨h1.1, zFa_app h1.2 h2⟩
theorem zFa_mem {i : Nat} : ∀ {l : List zK} {q : zK}, zFa i l → q ∈ l → zo3 (zy i) q.2.1 q.2.2 ∧ zo4 i q.2.1 q.2.2
  | [], _, _, h => absurd h List.not_mem_nil
  | a :: t, q, h, hq => by
    rcases List.mem_cons.mp hq with e | e
    · subst e; exact h.1
    · exact zFa_mem h.2 e
theorem zf0 {α : Type} {P : α → Prop} : ∀ q ∈ ([] : List α), P q := fun _ h => absurd h List.not_mem_nil
theorem zfc {α : Type} {P : α → Prop} {a : α} {t : List α} (h : P a) (ht : ∀ q ∈ t, P q) : ∀ q ∈ a :: t, P q := fun q hq => by
  rcases List.mem_cons.mp hq with e | e
  · subst e; exact h
  · exact ht q e
def zdB (cc : ByteArray) (q : zK) : Bool := (match decode cc q.1 with
  | .ok r => decide (r.1 = q.2.1) && (match q.2.1 with
    | .tableswitch _ _ _ _ => true
    | _ => decide (r.2 = zlen q.2.1))
  | _ => false) && zjB q.1 q.2.1 q.2.2
theorem zdB_ok {cc : ByteArray} {q : zK} (h : zdB cc q = true) : zdc cc q.1 q.2.1 ∧ zjB q.1 q.2.1 q.2.2 = true := by
  unfold zdB at h
  rw [Bool.and_eq_true] at h
  refine ⟨?_, h.2⟩
  have h := h.1
  split at h
  · rename_i r hr
    rw [Bool.and_eq_true] at h
    obtain ⟨h1, h2⟩ := h
    have h1 := of_decide_eq_true h1
    obtain ⟨ri, rn⟩ := r
    dsimp only at h1
    subst h1
    unfold zdc
    split
    · rename_i e1
      rw [e1] at hr
      exact ⟨rn, by rw [e1]; exact hr⟩
    · rename_i hne
      split at h2
      · rename_i e1
        exact absurd e1 (hne _ _ _ _)
      · have h2 : rn = zlen q.2.1 := of_decide_eq_true h2
        rw [hr, h2]
  · cases h
theorem zlk_mem : ∀ {l : List zK} {pc : Nat} {x : Jvm.ClassFile.Instr × zI}, zlk l pc = some x → (pc, x) ∈ l
  | [], _, _, h => by cases h
  | q :: t, pc, x, h => by
    rw [zlk] at h
    split at h
    · rename_i e
      cases h
      rw [← e]
      exact List.mem_cons_self
    · exact List.mem_cons_of_mem _ (zlk_mem h)
end
section
theorem zc_0 : (vwCl[0]? = some (zR_0, zF_0, 8) ∧ 0 < 20 ∧ 8 = zN 0 ∧ (∀ w ∈ u_ws zR_0 zF_0 8, w ∈ zWS) ∧ (∀ k, k < 8 → parseFieldDescriptor (zF_0 k).2.2.1 = some (zty_0 k)) ∧ (∀ a, a < 8 → ∀ b, b < 8 → a ≠ b → (zF_0 a).2.1 ≠ (zF_0 b).2.1)) := ⟨rfl, by decide, rfl, fun w h => List.mem_filter.mpr ⟨(by decide +kernel : ∀ w ∈ u_ws zR_0 zF_0 8, w ∈ lw_tbl) w h, (by decide +kernel : ∀ w ∈ u_ws zR_0 zF_0 8, goodWord w = true) w h⟩, by decide +kernel, by decide +kernel⟩
theorem zd_0 : (vwCl[0]? = some (zR_0, zF_0, 8) ∧ 0 < 20 ∧ 8 = zN 0 ∧ (∀ w ∈ u_ws zR_0 zF_0 8, w ∈ zWS) ∧ (∀ k, k < 8 → parseFieldDescriptor (zF_0 k).2.2.1 = some (zty_0 k))) := ⟨zc_0.1, zc_0.2.1, zc_0.2.2.1, zc_0.2.2.2.1, zc_0.2.2.2.2.1⟩
theorem zdf_0 : ∀ j, j < 8 → defaultValue (zty_0 j) = if zRf 0 j = true then .null else .int 0 := by decide +kernel
theorem zc_1 : (vwCl[1]? = some (zR_1, zF_1, 12) ∧ 1 < 20 ∧ 12 = zN 1 ∧ (∀ w ∈ u_ws zR_1 zF_1 12, w ∈ zWS) ∧ (∀ k, k < 12 → parseFieldDescriptor (zF_1 k).2.2.1 = some (zty_1 k)) ∧ (∀ a, a < 12 → ∀ b, b < 12 → a ≠ b → (zF_1 a).2.1 ≠ (zF_1 b).2.1)) := ⟨rfl, by decide, rfl, fun w h => List.mem_filter.mpr ⟨(by decide +kernel : ∀ w ∈ u_ws zR_1 zF_1 12, w ∈ lw_tbl) w h, (by decide +kernel : ∀ w ∈ u_ws zR_1 zF_1 12, goodWord w = true) w h⟩, by decide +kernel, by decide +kernel⟩
theorem zd_1 : (vwCl[1]? = some (zR_1, zF_1, 12) ∧ 1 < 20 ∧ 12 = zN 1 ∧ (∀ w ∈ u_ws zR_1 zF_1 12, w ∈ zWS) ∧ (∀ k, k < 12 → parseFieldDescriptor (zF_1 k).2.2.1 = some (zty_1 k))) := ⟨zc_1.1, zc_1.2.1, zc_1.2.2.1, zc_1.2.2.2.1, zc_1.2.2.2.2.1⟩
theorem zdf_1 : ∀ j, j < 12 → defaultValue (zty_1 j) = if zRf 1 j = true then .null else .int 0 := by decide +kernel
theorem zc_2 : (vwCl[2]? = some (zR_2, zF_2, 6) ∧ 2 < 20 ∧ 6 = zN 2 ∧ (∀ w ∈ u_ws zR_2 zF_2 6, w ∈ zWS) ∧ (∀ k, k < 6 → parseFieldDescriptor (zF_2 k).2.2.1 = some (zty_2 k)) ∧ (∀ a, a < 6 → ∀ b, b < 6 → a ≠ b → (zF_2 a).2.1 ≠ (zF_2 b).2.1)) := ⟨rfl, by decide, rfl, fun w h => List.mem_filter.mpr ⟨(by decide +kernel : ∀ w ∈ u_ws zR_2 zF_2 6, w ∈ lw_tbl) w h, (by decide +kernel : ∀ w ∈ u_ws zR_2 zF_2 6, goodWord w = true) w h⟩, by decide +kernel, by decide +kernel⟩
theorem zd_2 : (vwCl[2]? = some (zR_2, zF_2, 6) ∧ 2 < 20 ∧ 6 = zN 2 ∧ (∀ w ∈ u_ws zR_2 zF_2 6, w ∈ zWS) ∧ (∀ k, k < 6 → parseFieldDescriptor (zF_2 k).2.2.1 = some (zty_2 k))) := ⟨zc_2.1, zc_2.2.1, zc_2.2.2.1, zc_2.2.2.2.1, zc_2.2.2.2.2.1⟩
theorem zdf_2 : ∀ j, j < 6 → defaultValue (zty_2 j) = if zRf 2 j = true then .null else .int 0 := by decide +kernel
theorem zc_3 : (vwCl[3]? = some (zR_3, zF_3, 3) ∧ 3 < 20 ∧ 3 = zN 3 ∧ (∀ w ∈ u_ws zR_3 zF_3 3, w ∈ zWS) ∧ (∀ k, k < 3 → parseFieldDescriptor (zF_3 k).2.2.1 = some (zty_3 k)) ∧ (∀ a, a < 3 → ∀ b, b < 3 → a ≠ b → (zF_3 a).2.1 ≠ (zF_3 b).2.1)) := ⟨rfl, by decide, rfl, fun w h => List.mem_filter.mpr ⟨(by decide +kernel : ∀ w ∈ u_ws zR_3 zF_3 3, w ∈ lw_tbl) w h, (by decide +kernel : ∀ w ∈ u_ws zR_3 zF_3 3, goodWord w = true) w h⟩, by decide +kernel, by decide +kernel⟩
theorem zd_3 : (vwCl[3]? = some (zR_3, zF_3, 3) ∧ 3 < 20 ∧ 3 = zN 3 ∧ (∀ w ∈ u_ws zR_3 zF_3 3, w ∈ zWS) ∧ (∀ k, k < 3 → parseFieldDescriptor (zF_3 k).2.2.1 = some (zty_3 k))) := ⟨zc_3.1, zc_3.2.1, zc_3.2.2.1, zc_3.2.2.2.1, zc_3.2.2.2.2.1⟩
theorem zdf_3 : ∀ j, j < 3 → defaultValue (zty_3 j) = if zRf 3 j = true then .null else .int 0 := by decide +kernel
theorem zc_4 : (vwCl[4]? = some (zR_4, zF_4, 3) ∧ 4 < 20 ∧ 3 = zN 4 ∧ (∀ w ∈ u_ws zR_4 zF_4 3, w ∈ zWS) ∧ (∀ k, k < 3 → parseFieldDescriptor (zF_4 k).2.2.1 = some (zty_4 k)) ∧ (∀ a, a < 3 → ∀ b, b < 3 → a ≠ b → (zF_4 a).2.1 ≠ (zF_4 b).2.1)) := ⟨rfl, by decide, rfl, fun w h => List.mem_filter.mpr ⟨(by decide +kernel : ∀ w ∈ u_ws zR_4 zF_4 3, w ∈ lw_tbl) w h, (by decide +kernel : ∀ w ∈ u_ws zR_4 zF_4 3, goodWord w = true) w h⟩, by decide +kernel, by decide +kernel⟩
theorem zd_4 : (vwCl[4]? = some (zR_4, zF_4, 3) ∧ 4 < 20 ∧ 3 = zN 4 ∧ (∀ w ∈ u_ws zR_4 zF_4 3, w ∈ zWS) ∧ (∀ k, k < 3 → parseFieldDescriptor (zF_4 k).2.2.1 = some (zty_4 k))) := ⟨zc_4.1, zc_4.2.1, zc_4.2.2.1, zc_4.2.2.2.1, zc_4.2.2.2.2.1⟩
theorem zdf_4 : ∀ j, j < 3 → defaultValue (zty_4 j) = if zRf 4 j = true then .null else .int 0 := by decide +kernel
theorem zc_5 : (vwCl[5]? = some (zR_5, zF_5, 2) ∧ 5 < 20 ∧ 2 = zN 5 ∧ (∀ w ∈ u_ws zR_5 zF_5 2, w ∈ zWS) ∧ (∀ k, k < 2 → parseFieldDescriptor (zF_5 k).2.2.1 = some (zty_5 k)) ∧ (∀ a, a < 2 → ∀ b, b < 2 → a ≠ b → (zF_5 a).2.1 ≠ (zF_5 b).2.1)) := ⟨rfl, by decide, rfl, fun w h => List.mem_filter.mpr ⟨(by decide +kernel : ∀ w ∈ u_ws zR_5 zF_5 2, w ∈ lw_tbl) w h, (by decide +kernel : ∀ w ∈ u_ws zR_5 zF_5 2, goodWord w = true) w h⟩, by decide +kernel, by decide +kernel⟩
theorem zd_5 : (vwCl[5]? = some (zR_5, zF_5, 2) ∧ 5 < 20 ∧ 2 = zN 5 ∧ (∀ w ∈ u_ws zR_5 zF_5 2, w ∈ zWS) ∧ (∀ k, k < 2 → parseFieldDescriptor (zF_5 k).2.2.1 = some (zty_5 k))) := ⟨zc_5.1, zc_5.2.1, zc_5.2.2.1, zc_5.2.2.2.1, zc_5.2.2.2.2.1⟩
theorem zdf_5 : ∀ j, j < 2 → defaultValue (zty_5 j) = if zRf 5 j = true then .null else .int 0 := by decide +kernel
theorem zc_6 : (vwCl[6]? = some (zR_6, zF_6, 24) ∧ 6 < 20 ∧ 24 = zN 6 ∧ (∀ w ∈ u_ws zR_6 zF_6 24, w ∈ zWS) ∧ (∀ k, k < 24 → parseFieldDescriptor (zF_6 k).2.2.1 = some (zty_6 k)) ∧ (∀ a, a < 24 → ∀ b, b < 24 → a ≠ b → (zF_6 a).2.1 ≠ (zF_6 b).2.1)) := ⟨rfl, by decide, rfl, fun w h => List.mem_filter.mpr ⟨(by decide +kernel : ∀ w ∈ u_ws zR_6 zF_6 24, w ∈ lw_tbl) w h, (by decide +kernel : ∀ w ∈ u_ws zR_6 zF_6 24, goodWord w = true) w h⟩, by decide +kernel, by decide +kernel⟩
theorem zd_6 : (vwCl[6]? = some (zR_6, zF_6, 24) ∧ 6 < 20 ∧ 24 = zN 6 ∧ (∀ w ∈ u_ws zR_6 zF_6 24, w ∈ zWS) ∧ (∀ k, k < 24 → parseFieldDescriptor (zF_6 k).2.2.1 = some (zty_6 k))) := ⟨zc_6.1, zc_6.2.1, zc_6.2.2.1, zc_6.2.2.2.1, zc_6.2.2.2.2.1⟩
theorem zdf_6 : ∀ j, j < 24 → defaultValue (zty_6 j) = if zRf 6 j = true then .null else .int 0 := by decide +kernel
theorem zas_ok : ∀ q ∈ ([(22, 1, 1), (23, 0, 2), (24, 0, 0)] : zI), (22 ≤ q.1 ∧ q.1 < 25) ∧ ∀ x, (x = q.2.1 ∨ x = q.2.2) → x < 20 ∧ ∃ r : vw_C, vwCl[x]? = some r ∧ (r.1 = zel q.1 ∨ Cond.castable r.1 (zel q.1) ∈ zXS) := zfc ⟨by decide, fun x h => by rcases h with h | h <;> subst h <;> exact ⟨by decide, _, rfl, Or.inl rfl⟩⟩ (zfc ⟨by decide, fun x h => by rcases h with h | h <;> subst h; exact ⟨by decide, _, rfl, Or.inr zx_8⟩; exact ⟨by decide, _, rfl, Or.inr zx_9⟩⟩ (zfc ⟨by decide, fun x h => by rcases h with h | h <;> subst h <;> exact ⟨by decide, _, rfl, Or.inl rfl⟩⟩ zf0))
theorem zf_0 (y : MethodName) (h : y.cls = "CircuitNet") (hn : y.name = "<init>") : zfk y true 21 (5, 1, 2) := ⟨_, _, _, zty_5, "CircuitNet", zc_5, by decide, Or.inl (by rw [h]; exact zq_10), Or.inl rfl, Or.inr (Or.inr ⟨rfl, rfl, Or.inr ⟨_, rfl⟩⟩), fun _ => Or.inr ⟨rfl, hn, by rw [h]; rfl⟩⟩
theorem zf_1 (y : MethodName) (h : y.cls = "CircuitNet") (hn : y.name = "<init>") : zfk y true 25 (5, 0, 2) := ⟨_, _, _, zty_5, "CircuitNet", zc_5, by decide, Or.inl (by rw [h]; exact zq_11), Or.inl rfl, Or.inr (Or.inr ⟨rfl, rfl, Or.inr ⟨_, rfl⟩⟩), fun _ => Or.inr ⟨rfl, hn, by rw [h]; rfl⟩⟩
theorem zf_2 (y : MethodName) (h : y.cls = "CircuitNet$Wire") (hn : y.name = "<init>") : zfk y true 11 (4, 0, 2) := ⟨_, _, _, zty_4, "CircuitNet$Wire", zc_4, by decide, Or.inl (by rw [h]; exact zq_23), Or.inl rfl, Or.inr (Or.inr ⟨rfl, rfl, Or.inr ⟨_, rfl⟩⟩), fun _ => Or.inr ⟨rfl, hn, by rw [h]; rfl⟩⟩
theorem zf_3 (y : MethodName) (h : y.cls = "CircuitNet$End") (hn : y.name = "<init>") : zfk y true 12 (1, 3, 2) := ⟨_, _, _, zty_1, "CircuitNet$End", zc_1, by decide, Or.inl (by rw [h]; exact zq_29), Or.inl rfl, Or.inr (Or.inr ⟨rfl, rfl, Or.inl ⟨_, rfl⟩⟩), fun _ => Or.inr ⟨rfl, hn, by rw [h]; rfl⟩⟩
theorem zf_4 (y : MethodName) (h : y.cls = "CircuitNet$End") (hn : y.name = "<init>") : zfk y true 20 (1, 4, 2) := ⟨_, _, _, zty_1, "CircuitNet$End", zc_1, by decide, Or.inl (by rw [h]; exact zq_31), Or.inl rfl, Or.inr (Or.inr ⟨rfl, rfl, Or.inr ⟨_, rfl⟩⟩), fun _ => Or.inr ⟨rfl, hn, by rw [h]; rfl⟩⟩
theorem zf_5 (y : MethodName) (h : y.cls = "CircuitNet$End") : zfk y true 24 (1, 6, 1) := ⟨_, _, _, zty_1, "CircuitNet$End", zc_1, by decide, Or.inl (by rw [h]; exact zq_32), Or.inl rfl, Or.inr (Or.inl ⟨rfl, rfl, rfl⟩), fun _ => Or.inl rfl⟩
theorem zf_6 (y : MethodName) (h : y.cls = "CircuitNet$End") (hn : y.name = "<init>") : zfk y true 28 (1, 0, 2) := ⟨_, _, _, zty_1, "CircuitNet$End", zc_1, by decide, Or.inl (by rw [h]; exact zq_33), Or.inl rfl, Or.inr (Or.inr ⟨rfl, rfl, Or.inl ⟨_, rfl⟩⟩), fun _ => Or.inr ⟨rfl, hn, by rw [h]; rfl⟩⟩
theorem zf_7 (y : MethodName) (h : y.cls = "CircuitNet$End") (hn : y.name = "<init>") : zfk y true 32 (1, 1, 2) := ⟨_, _, _, zty_1, "CircuitNet$End", zc_1, by decide, Or.inl (by rw [h]; exact zq_34), Or.inl rfl, Or.inr (Or.inr ⟨rfl, rfl, Or.inl ⟨_, rfl⟩⟩), fun _ => Or.inr ⟨rfl, hn, by rw [h]; rfl⟩⟩
theorem zf_8 (y : MethodName) (h : y.cls = "CircuitNet$End") (hn : y.name = "<init>") : zfk y true 35 (1, 2, 1) := ⟨_, _, _, zty_1, "CircuitNet$End", zc_1, by decide, Or.inl (by rw [h]; exact zq_35), Or.inl rfl, Or.inr (Or.inl ⟨rfl, rfl, rfl⟩), fun _ => Or.inr ⟨rfl, hn, by rw [h]; rfl⟩⟩
theorem zf_9 (y : MethodName) (h : y.cls = "CircuitNet$Line") : zfk y true 9 (3, 0, 2) := ⟨_, _, _, zty_3, "CircuitNet$Line", zc_3, by decide, Or.inl (by rw [h]; exact zq_37), Or.inl rfl, Or.inr (Or.inr ⟨rfl, rfl, Or.inr ⟨_, rfl⟩⟩), fun _ => Or.inl rfl⟩
theorem zf_10 (y : MethodName) (h : y.cls = "CircuitNet") : zfk y false 144 (1, 4, 2) := ⟨_, _, _, zty_1, "CircuitNet$End", zc_1, by decide, Or.inl (by rw [h]; exact zq_40), Or.inl rfl, Or.inr (Or.inr ⟨rfl, rfl, Or.inr ⟨_, rfl⟩⟩), fun h => by cases h⟩
theorem zf_11 (y : MethodName) (h : y.cls = "CircuitNet$Joint") (hn : y.name = "<init>") : zfk y true 9 (2, 0, 2) := ⟨_, _, _, zty_2, "CircuitNet$Joint", zc_2, by decide, Or.inl (by rw [h]; exact zq_49), Or.inl rfl, Or.inr (Or.inr ⟨rfl, rfl, Or.inr ⟨_, rfl⟩⟩), fun _ => Or.inr ⟨rfl, hn, by rw [h]; rfl⟩⟩
theorem zf_12 (y : MethodName) (h : y.cls = "CircuitNet$Channel") : zfk y true 9 (0, 7, 0) := ⟨_, _, _, zty_0, "CircuitNet$Channel", zc_0, by decide, Or.inl (by rw [h]; exact zq_51), Or.inl rfl, Or.inl ⟨rfl, rfl, rfl⟩, fun _ => Or.inl rfl⟩
theorem zf_13 (y : MethodName) (h : y.cls = "CircuitNet$Channel") : zfk y true 9 (2, 5, 0) := ⟨_, _, _, zty_2, "CircuitNet$Channel", zc_2, by decide, Or.inl (by rw [h]; exact zq_51), Or.inl rfl, Or.inl ⟨rfl, rfl, rfl⟩, fun _ => Or.inl rfl⟩
theorem zf_14 (y : MethodName) (h : y.cls = "CircuitNet$Channel") (hn : y.name = "<init>") : zfk y true 15 (0, 5, 2) := ⟨_, _, _, zty_0, "CircuitNet$Channel", zc_0, by decide, Or.inl (by rw [h]; exact zq_52), Or.inl rfl, Or.inr (Or.inr ⟨rfl, rfl, Or.inl ⟨_, rfl⟩⟩), fun _ => Or.inr ⟨rfl, hn, by rw [h]; rfl⟩⟩
theorem zf_15 (y : MethodName) (h : y.cls = "CircuitNet$Channel") (hn : y.name = "<init>") : zfk y true 15 (2, 3, 2) := ⟨_, _, _, zty_2, "CircuitNet$Channel", zc_2, by decide, Or.inl (by rw [h]; exact zq_52), Or.inl rfl, Or.inr (Or.inr ⟨rfl, rfl, Or.inl ⟨_, rfl⟩⟩), fun _ => Or.inr ⟨rfl, hn, by rw [h]; rfl⟩⟩
theorem zf_16 (y : MethodName) (h : y.cls = "CircuitNet$Channel") (hn : y.name = "<init>") : zfk y true 19 (0, 6, 0) := ⟨_, _, _, zty_0, "CircuitNet$Channel", zc_0, by decide, Or.inl (by rw [h]; exact zq_53), Or.inl rfl, Or.inl ⟨rfl, rfl, rfl⟩, fun _ => Or.inr ⟨rfl, hn, by rw [h]; rfl⟩⟩
theorem zf_17 (y : MethodName) (h : y.cls = "CircuitNet$Channel") (hn : y.name = "<init>") : zfk y true 19 (2, 4, 0) := ⟨_, _, _, zty_2, "CircuitNet$Channel", zc_2, by decide, Or.inl (by rw [h]; exact zq_53), Or.inl rfl, Or.inl ⟨rfl, rfl, rfl⟩, fun _ => Or.inr ⟨rfl, hn, by rw [h]; rfl⟩⟩
theorem zf_18 (y : MethodName) (h : y.cls = "CircuitNet$Circuit") (hn : y.name = "<init>") : zfk y true 14 (0, 1, 2) := ⟨_, _, _, zty_0, "CircuitNet$Circuit", zc_0, by decide, Or.inl (by rw [h]; exact zq_61), Or.inl rfl, Or.inr (Or.inr ⟨rfl, rfl, Or.inl ⟨_, rfl⟩⟩), fun _ => Or.inr ⟨rfl, hn, by rw [h]; rfl⟩⟩
theorem zf_19 (y : MethodName) (h : y.cls = "CircuitNet") : zfk y false 25 (5, 0, 2) := ⟨_, _, _, zty_5, "CircuitNet", zc_5, by decide, Or.inl (by rw [h]; exact zq_11), Or.inl rfl, Or.inr (Or.inr ⟨rfl, rfl, Or.inr ⟨_, rfl⟩⟩), fun h => by cases h⟩
theorem zf_20 (y : MethodName) (h : y.cls = "CircuitNet") : zfk y false 33 (1, 6, 1) := ⟨_, _, _, zty_1, "CircuitNet$End", zc_1, by decide, Or.inl (by rw [h]; exact zq_64), Or.inl rfl, Or.inr (Or.inl ⟨rfl, rfl, rfl⟩), fun h => by cases h⟩
theorem zf_21 (y : MethodName) (h : y.cls = "CircuitNet") : zfk y false 43 (0, 7, 0) := ⟨_, _, _, zty_0, "CircuitNet$Circuit", zc_0, by decide, Or.inl (by rw [h]; exact zq_68), Or.inr zq_69, Or.inl ⟨rfl, rfl, rfl⟩, fun h => by cases h⟩
theorem zf_22 (y : MethodName) (h : y.cls = "CircuitNet") : zfk y false 21 (5, 1, 2) := ⟨_, _, _, zty_5, "CircuitNet", zc_5, by decide, Or.inl (by rw [h]; exact zq_10), Or.inl rfl, Or.inr (Or.inr ⟨rfl, rfl, Or.inr ⟨_, rfl⟩⟩), fun h => by cases h⟩
theorem zf_23 (y : MethodName) (h : y.cls = "CircuitNet$Circuit") : zfk y true 20 (0, 7, 0) := ⟨_, _, _, zty_0, "CircuitNet$Circuit", zc_0, by decide, Or.inl (by rw [h]; exact zq_77), Or.inr zq_69, Or.inl ⟨rfl, rfl, rfl⟩, fun _ => Or.inl rfl⟩
theorem zf_24 (y : MethodName) (h : y.cls = "CircuitNet$Circuit") : zfk y true 24 (0, 0, 0) := ⟨_, _, _, zty_0, "CircuitNet$Circuit", zc_0, by decide, Or.inl (by rw [h]; exact zq_78), Or.inl rfl, Or.inl ⟨rfl, rfl, rfl⟩, fun _ => Or.inl rfl⟩
theorem zf_25 (y : MethodName) (h : y.cls = "CircuitNet$Circuit") : zfk y true 30 (0, 2, 0) := ⟨_, _, _, zty_0, "CircuitNet$Circuit", zc_0, by decide, Or.inl (by rw [h]; exact zq_82), Or.inl rfl, Or.inl ⟨rfl, rfl, rfl⟩, fun _ => Or.inl rfl⟩
theorem zf_26 (y : MethodName) (h : y.cls = "CircuitNet$Circuit") : zfk y true 33 (0, 3, 0) := ⟨_, _, _, zty_0, "CircuitNet$Circuit", zc_0, by decide, Or.inl (by rw [h]; exact zq_83), Or.inl rfl, Or.inl ⟨rfl, rfl, rfl⟩, fun _ => Or.inl rfl⟩
theorem zf_27 (y : MethodName) (h : y.cls = "CircuitNet$Circuit") : zfk y true 36 (0, 4, 0) := ⟨_, _, _, zty_0, "CircuitNet$Circuit", zc_0, by decide, Or.inl (by rw [h]; exact zq_84), Or.inl rfl, Or.inl ⟨rfl, rfl, rfl⟩, fun _ => Or.inl rfl⟩
theorem zf_28 (y : MethodName) (h : y.cls = "CircuitNet$Circuit") : zfk y false 14 (0, 1, 2) := ⟨_, _, _, zty_0, "CircuitNet$Circuit", zc_0, by decide, Or.inl (by rw [h]; exact zq_61), Or.inl rfl, Or.inr (Or.inr ⟨rfl, rfl, Or.inl ⟨_, rfl⟩⟩), fun h => by cases h⟩
theorem zf_29 (y : MethodName) (h : y.cls = "CircuitNet$Line") : zfk y false 15 (3, 2, 0) := ⟨_, _, _, zty_3, "CircuitNet$Line", zc_3, by decide, Or.inl (by rw [h]; exact zq_91), Or.inl rfl, Or.inl ⟨rfl, rfl, rfl⟩, fun h => by cases h⟩
theorem zf_30 (y : MethodName) (h : y.cls = "CircuitNet$Line") : zfk y false 19 (3, 1, 0) := ⟨_, _, _, zty_3, "CircuitNet$Line", zc_3, by decide, Or.inl (by rw [h]; exact zq_99), Or.inl rfl, Or.inl ⟨rfl, rfl, rfl⟩, fun h => by cases h⟩
theorem zf_31 (y : MethodName) (h : y.cls = "CircuitNet$Line") : zfk y false 9 (3, 0, 2) := ⟨_, _, _, zty_3, "CircuitNet$Line", zc_3, by decide, Or.inl (by rw [h]; exact zq_37), Or.inl rfl, Or.inr (Or.inr ⟨rfl, rfl, Or.inr ⟨_, rfl⟩⟩), fun h => by cases h⟩
theorem zf_32 (y : MethodName) (h : y.cls = "CircuitNet$Line") : zfk y true 19 (3, 1, 0) := ⟨_, _, _, zty_3, "CircuitNet$Line", zc_3, by decide, Or.inl (by rw [h]; exact zq_99), Or.inl rfl, Or.inl ⟨rfl, rfl, rfl⟩, fun _ => Or.inl rfl⟩
theorem zf_33 (y : MethodName) (h : y.cls = "CircuitNet$Line") : zfk y true 15 (3, 2, 0) := ⟨_, _, _, zty_3, "CircuitNet$Line", zc_3, by decide, Or.inl (by rw [h]; exact zq_91), Or.inl rfl, Or.inl ⟨rfl, rfl, rfl⟩, fun _ => Or.inl rfl⟩
theorem zf_34 (y : MethodName) (h : y.cls = "CircuitNet$Channel") : zfk y false 15 (0, 5, 2) := ⟨_, _, _, zty_0, "CircuitNet$Channel", zc_0, by decide, Or.inl (by rw [h]; exact zq_52), Or.inl rfl, Or.inr (Or.inr ⟨rfl, rfl, Or.inl ⟨_, rfl⟩⟩), fun h => by cases h⟩
theorem zf_35 (y : MethodName) (h : y.cls = "CircuitNet$Channel") : zfk y false 15 (2, 3, 2) := ⟨_, _, _, zty_2, "CircuitNet$Channel", zc_2, by decide, Or.inl (by rw [h]; exact zq_52), Or.inl rfl, Or.inr (Or.inr ⟨rfl, rfl, Or.inl ⟨_, rfl⟩⟩), fun h => by cases h⟩
theorem zf_36 (y : MethodName) (h : y.cls = "CircuitNet$Channel") : zfk y false 22 (1, 3, 2) := ⟨_, _, _, zty_1, "CircuitNet$End", zc_1, by decide, Or.inl (by rw [h]; exact zq_100), Or.inl rfl, Or.inr (Or.inr ⟨rfl, rfl, Or.inl ⟨_, rfl⟩⟩), fun h => by cases h⟩
theorem zf_37 (y : MethodName) (h : y.cls = "CircuitNet$Channel") : zfk y false 19 (0, 6, 0) := ⟨_, _, _, zty_0, "CircuitNet$Channel", zc_0, by decide, Or.inl (by rw [h]; exact zq_53), Or.inl rfl, Or.inl ⟨rfl, rfl, rfl⟩, fun h => by cases h⟩
theorem zf_38 (y : MethodName) (h : y.cls = "CircuitNet$Channel") : zfk y false 19 (2, 4, 0) := ⟨_, _, _, zty_2, "CircuitNet$Channel", zc_2, by decide, Or.inl (by rw [h]; exact zq_53), Or.inl rfl, Or.inl ⟨rfl, rfl, rfl⟩, fun h => by cases h⟩
theorem zf_39 (y : MethodName) (h : y.cls = "CircuitNet$End") : zfk y false 69 (1, 7, 0) := ⟨_, _, _, zty_1, "CircuitNet$End", zc_1, by decide, Or.inl (by rw [h]; exact zq_113), Or.inl rfl, Or.inl ⟨rfl, rfl, rfl⟩, fun h => by cases h⟩
theorem zf_40 (y : MethodName) (h : y.cls = "CircuitNet$End") : zfk y false 24 (1, 6, 1) := ⟨_, _, _, zty_1, "CircuitNet$End", zc_1, by decide, Or.inl (by rw [h]; exact zq_32), Or.inl rfl, Or.inr (Or.inl ⟨rfl, rfl, rfl⟩), fun h => by cases h⟩
theorem zf_41 (y : MethodName) (h : y.cls = "CircuitNet$End") : zfk y false 12 (1, 3, 2) := ⟨_, _, _, zty_1, "CircuitNet$End", zc_1, by decide, Or.inl (by rw [h]; exact zq_29), Or.inl rfl, Or.inr (Or.inr ⟨rfl, rfl, Or.inl ⟨_, rfl⟩⟩), fun h => by cases h⟩
theorem zf_42 (y : MethodName) (h : y.cls = "CircuitNet$End") : zfk y false 32 (1, 1, 2) := ⟨_, _, _, zty_1, "CircuitNet$End", zc_1, by decide, Or.inl (by rw [h]; exact zq_34), Or.inl rfl, Or.inr (Or.inr ⟨rfl, rfl, Or.inl ⟨_, rfl⟩⟩), fun h => by cases h⟩
theorem zf_43 (y : MethodName) (h : y.cls = "CircuitNet$End") : zfk y false 44 (1, 5, 0) := ⟨_, _, _, zty_1, "CircuitNet$End", zc_1, by decide, Or.inl (by rw [h]; exact zq_115), Or.inl rfl, Or.inl ⟨rfl, rfl, rfl⟩, fun h => by cases h⟩
theorem zf_44 (y : MethodName) (h : y.cls = "CircuitNet$End") : zfk y false 66 (1, 8, 0) := ⟨_, _, _, zty_1, "CircuitNet$End", zc_1, by decide, Or.inl (by rw [h]; exact zq_116), Or.inl rfl, Or.inl ⟨rfl, rfl, rfl⟩, fun h => by cases h⟩
theorem zf_45 (y : MethodName) (h : y.cls = "CircuitNet$End") : zfk y false 76 (1, 9, 0) := ⟨_, _, _, zty_1, "CircuitNet$End", zc_1, by decide, Or.inl (by rw [h]; exact zq_117), Or.inl rfl, Or.inl ⟨rfl, rfl, rfl⟩, fun h => by cases h⟩
theorem zf_46 (y : MethodName) (h : y.cls = "CircuitNet$End") : zfk y true 69 (1, 7, 0) := ⟨_, _, _, zty_1, "CircuitNet$End", zc_1, by decide, Or.inl (by rw [h]; exact zq_113), Or.inl rfl, Or.inl ⟨rfl, rfl, rfl⟩, fun _ => Or.inl rfl⟩
theorem zf_47 (y : MethodName) (h : y.cls = "CircuitNet$Wire") : zfk y false 15 (4, 2, 0) := ⟨_, _, _, zty_4, "CircuitNet$Wire", zc_4, by decide, Or.inl (by rw [h]; exact zq_124), Or.inl rfl, Or.inl ⟨rfl, rfl, rfl⟩, fun h => by cases h⟩
theorem zf_48 (y : MethodName) (h : y.cls = "CircuitNet$Wire") : zfk y false 19 (4, 1, 0) := ⟨_, _, _, zty_4, "CircuitNet$Wire", zc_4, by decide, Or.inl (by rw [h]; exact zq_125), Or.inl rfl, Or.inl ⟨rfl, rfl, rfl⟩, fun h => by cases h⟩
theorem zf_49 (y : MethodName) (h : y.cls = "CircuitNet$Wire") : zfk y false 11 (4, 0, 2) := ⟨_, _, _, zty_4, "CircuitNet$Wire", zc_4, by decide, Or.inl (by rw [h]; exact zq_23), Or.inl rfl, Or.inr (Or.inr ⟨rfl, rfl, Or.inr ⟨_, rfl⟩⟩), fun h => by cases h⟩
theorem zf_50 (y : MethodName) (h : y.cls = "CircuitNet$Wire") : zfk y true 15 (4, 2, 0) := ⟨_, _, _, zty_4, "CircuitNet$Wire", zc_4, by decide, Or.inl (by rw [h]; exact zq_124), Or.inl rfl, Or.inl ⟨rfl, rfl, rfl⟩, fun _ => Or.inl rfl⟩
theorem zf_51 (y : MethodName) (h : y.cls = "CircuitNet") : zfk y true 43 (0, 7, 0) := ⟨_, _, _, zty_0, "CircuitNet$Circuit", zc_0, by decide, Or.inl (by rw [h]; exact zq_68), Or.inr zq_69, Or.inl ⟨rfl, rfl, rfl⟩, fun _ => Or.inl rfl⟩
theorem zf_52 (y : MethodName) (h : y.cls = "CircuitNet$Circuit") : zfk y false 20 (0, 7, 0) := ⟨_, _, _, zty_0, "CircuitNet$Circuit", zc_0, by decide, Or.inl (by rw [h]; exact zq_77), Or.inr zq_69, Or.inl ⟨rfl, rfl, rfl⟩, fun h => by cases h⟩
theorem zf_53 (y : MethodName) (h : y.cls = "CircuitNet$Circuit") : zfk y false 30 (0, 2, 0) := ⟨_, _, _, zty_0, "CircuitNet$Circuit", zc_0, by decide, Or.inl (by rw [h]; exact zq_82), Or.inl rfl, Or.inl ⟨rfl, rfl, rfl⟩, fun h => by cases h⟩
theorem zf_54 (y : MethodName) (h : y.cls = "CircuitNet$Circuit") : zfk y false 33 (0, 3, 0) := ⟨_, _, _, zty_0, "CircuitNet$Circuit", zc_0, by decide, Or.inl (by rw [h]; exact zq_83), Or.inl rfl, Or.inl ⟨rfl, rfl, rfl⟩, fun h => by cases h⟩
theorem zf_55 (y : MethodName) (h : y.cls = "CircuitNet") : zfk y false 74 (0, 1, 2) := ⟨_, _, _, zty_0, "CircuitNet$Circuit", zc_0, by decide, Or.inl (by rw [h]; exact zq_145), Or.inl rfl, Or.inr (Or.inr ⟨rfl, rfl, Or.inl ⟨_, rfl⟩⟩), fun h => by cases h⟩
theorem zf_56 (y : MethodName) (h : y.cls = "CircuitNet$Circuit") : zfk y false 36 (0, 4, 0) := ⟨_, _, _, zty_0, "CircuitNet$Circuit", zc_0, by decide, Or.inl (by rw [h]; exact zq_84), Or.inl rfl, Or.inl ⟨rfl, rfl, rfl⟩, fun h => by cases h⟩
theorem zf_57 (y : MethodName) (h : y.cls = "CircuitNet") : zfk y false 91 (1, 0, 2) := ⟨_, _, _, zty_1, "CircuitNet$End", zc_1, by decide, Or.inl (by rw [h]; exact zq_154), Or.inl rfl, Or.inr (Or.inr ⟨rfl, rfl, Or.inl ⟨_, rfl⟩⟩), fun h => by cases h⟩
theorem zf_58 (y : MethodName) (h : y.cls = "CircuitNet") : zfk y false 112 (1, 5, 0) := ⟨_, _, _, zty_1, "CircuitNet$End", zc_1, by decide, Or.inl (by rw [h]; exact zq_170), Or.inl rfl, Or.inl ⟨rfl, rfl, rfl⟩, fun h => by cases h⟩
theorem zf_59 (y : MethodName) (h : y.cls = "CircuitNet$Wire") : zfk y true 19 (4, 1, 0) := ⟨_, _, _, zty_4, "CircuitNet$Wire", zc_4, by decide, Or.inl (by rw [h]; exact zq_125), Or.inl rfl, Or.inl ⟨rfl, rfl, rfl⟩, fun _ => Or.inl rfl⟩
theorem zf_60 (y : MethodName) (h : y.cls = "CircuitNet$End") : zfk y true 44 (1, 5, 0) := ⟨_, _, _, zty_1, "CircuitNet$End", zc_1, by decide, Or.inl (by rw [h]; exact zq_115), Or.inl rfl, Or.inl ⟨rfl, rfl, rfl⟩, fun _ => Or.inl rfl⟩
theorem zf_61 (y : MethodName) (h : y.cls = "CircuitNet$End") : zfk y true 66 (1, 8, 0) := ⟨_, _, _, zty_1, "CircuitNet$End", zc_1, by decide, Or.inl (by rw [h]; exact zq_116), Or.inl rfl, Or.inl ⟨rfl, rfl, rfl⟩, fun _ => Or.inl rfl⟩
theorem zf_62 (y : MethodName) (h : y.cls = "CircuitNet$End") : zfk y true 76 (1, 9, 0) := ⟨_, _, _, zty_1, "CircuitNet$End", zc_1, by decide, Or.inl (by rw [h]; exact zq_117), Or.inl rfl, Or.inl ⟨rfl, rfl, rfl⟩, fun _ => Or.inl rfl⟩
theorem zf_63 (y : MethodName) (h : y.cls = "CircuitNet$End") : zfk y true 57 (1, 10, 0) := ⟨_, _, _, zty_1, "CircuitNet$End", zc_1, by decide, Or.inl (by rw [h]; exact zq_192), Or.inl rfl, Or.inl ⟨rfl, rfl, rfl⟩, fun _ => Or.inl rfl⟩
theorem zf_64 (y : MethodName) (h : y.cls = "CircuitNet$End") : zfk y true 60 (1, 11, 0) := ⟨_, _, _, zty_1, "CircuitNet$End", zc_1, by decide, Or.inl (by rw [h]; exact zq_193), Or.inl rfl, Or.inl ⟨rfl, rfl, rfl⟩, fun _ => Or.inl rfl⟩
theorem zf_65 (y : MethodName) (h : y.cls = "CircuitNet$End") : zfk y false 20 (1, 4, 2) := ⟨_, _, _, zty_1, "CircuitNet$End", zc_1, by decide, Or.inl (by rw [h]; exact zq_31), Or.inl rfl, Or.inr (Or.inr ⟨rfl, rfl, Or.inr ⟨_, rfl⟩⟩), fun h => by cases h⟩
theorem zf_66 (y : MethodName) (h : y.cls = "CircuitNet$Joint") : zfk y false 36 (2, 5, 0) := ⟨_, _, _, zty_2, "CircuitNet$Joint", zc_2, by decide, Or.inl (by rw [h]; exact zq_206), Or.inr zq_207, Or.inl ⟨rfl, rfl, rfl⟩, fun h => by cases h⟩
theorem zf_67 (y : MethodName) (h : y.cls = "CircuitNet$Joint") : zfk y false 40 (2, 1, 2) := ⟨_, _, _, zty_2, "CircuitNet$Joint", zc_2, by decide, Or.inl (by rw [h]; exact zq_208), Or.inl rfl, Or.inr (Or.inr ⟨rfl, rfl, Or.inl ⟨_, rfl⟩⟩), fun h => by cases h⟩
theorem zf_68 (y : MethodName) (h : y.cls = "CircuitNet$Joint") : zfk y true 36 (2, 5, 0) := ⟨_, _, _, zty_2, "CircuitNet$Joint", zc_2, by decide, Or.inl (by rw [h]; exact zq_206), Or.inr zq_207, Or.inl ⟨rfl, rfl, rfl⟩, fun _ => Or.inl rfl⟩
theorem zf_69 (y : MethodName) (h : y.cls = "CircuitNet$Joint") : zfk y true 40 (2, 1, 2) := ⟨_, _, _, zty_2, "CircuitNet$Joint", zc_2, by decide, Or.inl (by rw [h]; exact zq_208), Or.inl rfl, Or.inr (Or.inr ⟨rfl, rfl, Or.inl ⟨_, rfl⟩⟩), fun _ => Or.inl rfl⟩
theorem zf_70 (y : MethodName) (h : y.cls = "CircuitNet$Joint") : zfk y false 15 (2, 2, 1) := ⟨_, _, _, zty_2, "CircuitNet$Joint", zc_2, by decide, Or.inl (by rw [h]; exact zq_222), Or.inl rfl, Or.inr (Or.inl ⟨rfl, rfl, rfl⟩), fun h => by cases h⟩
theorem zf_71 (y : MethodName) (h : y.cls = "CircuitNet$Joint") : zfk y false 19 (2, 3, 2) := ⟨_, _, _, zty_2, "CircuitNet$Joint", zc_2, by decide, Or.inl (by rw [h]; exact zq_223), Or.inr zq_224, Or.inr (Or.inr ⟨rfl, rfl, Or.inl ⟨_, rfl⟩⟩), fun h => by cases h⟩
theorem zf_72 (y : MethodName) (h : y.cls = "CircuitNet$Joint") : zfk y false 23 (1, 2, 1) := ⟨_, _, _, zty_1, "CircuitNet$End", zc_1, by decide, Or.inl (by rw [h]; exact zq_225), Or.inl rfl, Or.inr (Or.inl ⟨rfl, rfl, rfl⟩), fun h => by cases h⟩
theorem zf_73 (y : MethodName) (h : y.cls = "CircuitNet$Joint") : zfk y true 15 (2, 2, 1) := ⟨_, _, _, zty_2, "CircuitNet$Joint", zc_2, by decide, Or.inl (by rw [h]; exact zq_222), Or.inl rfl, Or.inr (Or.inl ⟨rfl, rfl, rfl⟩), fun _ => Or.inl rfl⟩
theorem zf_74 (y : MethodName) (h : y.cls = "CircuitNet$Joint") : zfk y false 9 (2, 0, 2) := ⟨_, _, _, zty_2, "CircuitNet$Joint", zc_2, by decide, Or.inl (by rw [h]; exact zq_49), Or.inl rfl, Or.inr (Or.inr ⟨rfl, rfl, Or.inr ⟨_, rfl⟩⟩), fun h => by cases h⟩
theorem zf_75 (y : MethodName) (h : y.cls = "CircuitNet$Joint") : zfk y false 67 (1, 6, 1) := ⟨_, _, _, zty_1, "CircuitNet$End", zc_1, by decide, Or.inl (by rw [h]; exact zq_244), Or.inl rfl, Or.inr (Or.inl ⟨rfl, rfl, rfl⟩), fun h => by cases h⟩
theorem zf_76 (y : MethodName) (h : y.cls = "CircuitNet$Joint") : zfk y false 70 (1, 4, 2) := ⟨_, _, _, zty_1, "CircuitNet$End", zc_1, by decide, Or.inl (by rw [h]; exact zq_245), Or.inl rfl, Or.inr (Or.inr ⟨rfl, rfl, Or.inr ⟨_, rfl⟩⟩), fun h => by cases h⟩
theorem zf_77 (y : MethodName) (h : y.cls = "CircuitNet$End") : zfk y false 60 (1, 11, 0) := ⟨_, _, _, zty_1, "CircuitNet$End", zc_1, by decide, Or.inl (by rw [h]; exact zq_193), Or.inl rfl, Or.inl ⟨rfl, rfl, rfl⟩, fun h => by cases h⟩
theorem zf_78 (y : MethodName) (h : y.cls = "CircuitNet$End") : zfk y false 57 (1, 10, 0) := ⟨_, _, _, zty_1, "CircuitNet$End", zc_1, by decide, Or.inl (by rw [h]; exact zq_192), Or.inl rfl, Or.inl ⟨rfl, rfl, rfl⟩, fun h => by cases h⟩
theorem zf_79 (y : MethodName) (h : y.cls = "CircuitNet") : zfk y false 138 (0, 0, 0) := ⟨_, _, _, zty_0, "CircuitNet$Circuit", zc_0, by decide, Or.inl (by rw [h]; exact zq_253), Or.inl rfl, Or.inl ⟨rfl, rfl, rfl⟩, fun h => by cases h⟩
theorem zf_80 (y : MethodName) (h : y.cls = "CircuitNet") : zfk y false 141 (1, 3, 2) := ⟨_, _, _, zty_1, "CircuitNet$End", zc_1, by decide, Or.inl (by rw [h]; exact zq_254), Or.inl rfl, Or.inr (Or.inr ⟨rfl, rfl, Or.inl ⟨_, rfl⟩⟩), fun h => by cases h⟩
theorem zf_81 (y : MethodName) (h : y.cls = "CircuitNet") : zfk y false 148 (0, 7, 0) := ⟨_, _, _, zty_0, "CircuitNet$Channel", zc_0, by decide, Or.inl (by rw [h]; exact zq_255), Or.inl rfl, Or.inl ⟨rfl, rfl, rfl⟩, fun h => by cases h⟩
theorem zf_82 (y : MethodName) (h : y.cls = "CircuitNet") : zfk y false 148 (2, 5, 0) := ⟨_, _, _, zty_2, "CircuitNet$Channel", zc_2, by decide, Or.inl (by rw [h]; exact zq_255), Or.inl rfl, Or.inl ⟨rfl, rfl, rfl⟩, fun h => by cases h⟩
theorem zf_83 (y : MethodName) (h : y.cls = "CircuitNetModel") (hn : y.name = "<init>") : zfk y true 7 (6, 1, 2) := ⟨_, _, _, zty_6, "CircuitNetModel", zc_6, by decide, Or.inl (by rw [h]; exact zq_257), Or.inl rfl, Or.inr (Or.inr ⟨rfl, rfl, Or.inr ⟨_, rfl⟩⟩), fun _ => Or.inr ⟨rfl, hn, by rw [h]; rfl⟩⟩
theorem zf_84 (y : MethodName) (h : y.cls = "CircuitNetModel") (hn : y.name = "<init>") : zfk y true 13 (6, 2, 2) := ⟨_, _, _, zty_6, "CircuitNetModel", zc_6, by decide, Or.inl (by rw [h]; exact zq_258), Or.inl rfl, Or.inr (Or.inr ⟨rfl, rfl, Or.inr ⟨_, rfl⟩⟩), fun _ => Or.inr ⟨rfl, hn, by rw [h]; rfl⟩⟩
theorem zf_85 (y : MethodName) (h : y.cls = "CircuitNetModel") (hn : y.name = "<init>") : zfk y true 16 (6, 3, 2) := ⟨_, _, _, zty_6, "CircuitNetModel", zc_6, by decide, Or.inl (by rw [h]; exact zq_259), Or.inl rfl, Or.inr (Or.inr ⟨rfl, rfl, Or.inr ⟨_, rfl⟩⟩), fun _ => Or.inr ⟨rfl, hn, by rw [h]; rfl⟩⟩
theorem zf_86 (y : MethodName) (h : y.cls = "CircuitNetModel") (hn : y.name = "<init>") : zfk y true 19 (6, 4, 2) := ⟨_, _, _, zty_6, "CircuitNetModel", zc_6, by decide, Or.inl (by rw [h]; exact zq_260), Or.inl rfl, Or.inr (Or.inr ⟨rfl, rfl, Or.inr ⟨_, rfl⟩⟩), fun _ => Or.inr ⟨rfl, hn, by rw [h]; rfl⟩⟩
theorem zf_87 (y : MethodName) (h : y.cls = "CircuitNetModel") (hn : y.name = "<init>") : zfk y true 22 (6, 5, 2) := ⟨_, _, _, zty_6, "CircuitNetModel", zc_6, by decide, Or.inl (by rw [h]; exact zq_261), Or.inl rfl, Or.inr (Or.inr ⟨rfl, rfl, Or.inr ⟨_, rfl⟩⟩), fun _ => Or.inr ⟨rfl, hn, by rw [h]; rfl⟩⟩
theorem zf_88 (y : MethodName) (h : y.cls = "CircuitNetModel") (hn : y.name = "<init>") : zfk y true 25 (6, 6, 2) := ⟨_, _, _, zty_6, "CircuitNetModel", zc_6, by decide, Or.inl (by rw [h]; exact zq_262), Or.inl rfl, Or.inr (Or.inr ⟨rfl, rfl, Or.inr ⟨_, rfl⟩⟩), fun _ => Or.inr ⟨rfl, hn, by rw [h]; rfl⟩⟩
theorem zf_89 (y : MethodName) (h : y.cls = "CircuitNetModel") (hn : y.name = "<init>") : zfk y true 28 (6, 7, 2) := ⟨_, _, _, zty_6, "CircuitNetModel", zc_6, by decide, Or.inl (by rw [h]; exact zq_263), Or.inl rfl, Or.inr (Or.inr ⟨rfl, rfl, Or.inr ⟨_, rfl⟩⟩), fun _ => Or.inr ⟨rfl, hn, by rw [h]; rfl⟩⟩
theorem zf_90 (y : MethodName) (h : y.cls = "CircuitNetModel") (hn : y.name = "<init>") : zfk y true 31 (6, 8, 2) := ⟨_, _, _, zty_6, "CircuitNetModel", zc_6, by decide, Or.inl (by rw [h]; exact zq_264), Or.inl rfl, Or.inr (Or.inr ⟨rfl, rfl, Or.inr ⟨_, rfl⟩⟩), fun _ => Or.inr ⟨rfl, hn, by rw [h]; rfl⟩⟩
theorem zf_91 (y : MethodName) (h : y.cls = "CircuitNetModel") (hn : y.name = "<init>") : zfk y true 34 (6, 9, 2) := ⟨_, _, _, zty_6, "CircuitNetModel", zc_6, by decide, Or.inl (by rw [h]; exact zq_266), Or.inl rfl, Or.inr (Or.inr ⟨rfl, rfl, Or.inr ⟨_, rfl⟩⟩), fun _ => Or.inr ⟨rfl, hn, by rw [h]; rfl⟩⟩
theorem zf_92 (y : MethodName) (h : y.cls = "CircuitNetModel") (hn : y.name = "<init>") : zfk y true 38 (6, 10, 2) := ⟨_, _, _, zty_6, "CircuitNetModel", zc_6, by decide, Or.inl (by rw [h]; exact zq_267), Or.inl rfl, Or.inr (Or.inr ⟨rfl, rfl, Or.inr ⟨_, rfl⟩⟩), fun _ => Or.inr ⟨rfl, hn, by rw [h]; rfl⟩⟩
theorem zf_93 (y : MethodName) (h : y.cls = "CircuitNetModel") (hn : y.name = "<init>") : zfk y true 41 (6, 11, 2) := ⟨_, _, _, zty_6, "CircuitNetModel", zc_6, by decide, Or.inl (by rw [h]; exact zq_268), Or.inl rfl, Or.inr (Or.inr ⟨rfl, rfl, Or.inr ⟨_, rfl⟩⟩), fun _ => Or.inr ⟨rfl, hn, by rw [h]; rfl⟩⟩
theorem zf_94 (y : MethodName) (h : y.cls = "CircuitNetModel") (hn : y.name = "<init>") : zfk y true 44 (6, 12, 2) := ⟨_, _, _, zty_6, "CircuitNetModel", zc_6, by decide, Or.inl (by rw [h]; exact zq_269), Or.inl rfl, Or.inr (Or.inr ⟨rfl, rfl, Or.inr ⟨_, rfl⟩⟩), fun _ => Or.inr ⟨rfl, hn, by rw [h]; rfl⟩⟩
theorem zf_95 (y : MethodName) (h : y.cls = "CircuitNetModel") (hn : y.name = "<init>") : zfk y true 47 (6, 13, 2) := ⟨_, _, _, zty_6, "CircuitNetModel", zc_6, by decide, Or.inl (by rw [h]; exact zq_270), Or.inl rfl, Or.inr (Or.inr ⟨rfl, rfl, Or.inr ⟨_, rfl⟩⟩), fun _ => Or.inr ⟨rfl, hn, by rw [h]; rfl⟩⟩
theorem zf_96 (y : MethodName) (h : y.cls = "CircuitNetModel") (hn : y.name = "<init>") : zfk y true 50 (6, 14, 2) := ⟨_, _, _, zty_6, "CircuitNetModel", zc_6, by decide, Or.inl (by rw [h]; exact zq_271), Or.inl rfl, Or.inr (Or.inr ⟨rfl, rfl, Or.inr ⟨_, rfl⟩⟩), fun _ => Or.inr ⟨rfl, hn, by rw [h]; rfl⟩⟩
theorem zf_97 (y : MethodName) (h : y.cls = "CircuitNetModel") (hn : y.name = "<init>") : zfk y true 53 (6, 15, 2) := ⟨_, _, _, zty_6, "CircuitNetModel", zc_6, by decide, Or.inl (by rw [h]; exact zq_272), Or.inl rfl, Or.inr (Or.inr ⟨rfl, rfl, Or.inr ⟨_, rfl⟩⟩), fun _ => Or.inr ⟨rfl, hn, by rw [h]; rfl⟩⟩
theorem zf_98 (y : MethodName) (h : y.cls = "CircuitNetModel") (hn : y.name = "<init>") : zfk y true 56 (6, 16, 2) := ⟨_, _, _, zty_6, "CircuitNetModel", zc_6, by decide, Or.inl (by rw [h]; exact zq_273), Or.inl rfl, Or.inr (Or.inr ⟨rfl, rfl, Or.inr ⟨_, rfl⟩⟩), fun _ => Or.inr ⟨rfl, hn, by rw [h]; rfl⟩⟩
theorem zf_99 (y : MethodName) (h : y.cls = "CircuitNetModel") (hn : y.name = "<init>") : zfk y true 59 (6, 17, 2) := ⟨_, _, _, zty_6, "CircuitNetModel", zc_6, by decide, Or.inl (by rw [h]; exact zq_274), Or.inl rfl, Or.inr (Or.inr ⟨rfl, rfl, Or.inr ⟨_, rfl⟩⟩), fun _ => Or.inr ⟨rfl, hn, by rw [h]; rfl⟩⟩
theorem zf_100 (y : MethodName) (h : y.cls = "CircuitNetModel") (hn : y.name = "<init>") : zfk y true 62 (6, 18, 2) := ⟨_, _, _, zty_6, "CircuitNetModel", zc_6, by decide, Or.inl (by rw [h]; exact zq_275), Or.inl rfl, Or.inr (Or.inr ⟨rfl, rfl, Or.inr ⟨_, rfl⟩⟩), fun _ => Or.inr ⟨rfl, hn, by rw [h]; rfl⟩⟩
theorem zf_101 (y : MethodName) (h : y.cls = "CircuitNetModel") (hn : y.name = "<init>") : zfk y true 65 (6, 19, 2) := ⟨_, _, _, zty_6, "CircuitNetModel", zc_6, by decide, Or.inl (by rw [h]; exact zq_276), Or.inl rfl, Or.inr (Or.inr ⟨rfl, rfl, Or.inr ⟨_, rfl⟩⟩), fun _ => Or.inr ⟨rfl, hn, by rw [h]; rfl⟩⟩
theorem zf_102 (y : MethodName) (h : y.cls = "CircuitNetModel") (hn : y.name = "<init>") : zfk y true 68 (6, 20, 2) := ⟨_, _, _, zty_6, "CircuitNetModel", zc_6, by decide, Or.inl (by rw [h]; exact zq_277), Or.inl rfl, Or.inr (Or.inr ⟨rfl, rfl, Or.inr ⟨_, rfl⟩⟩), fun _ => Or.inr ⟨rfl, hn, by rw [h]; rfl⟩⟩
theorem zf_103 (y : MethodName) (h : y.cls = "CircuitNetModel") (hn : y.name = "<init>") : zfk y true 71 (6, 21, 2) := ⟨_, _, _, zty_6, "CircuitNetModel", zc_6, by decide, Or.inl (by rw [h]; exact zq_278), Or.inl rfl, Or.inr (Or.inr ⟨rfl, rfl, Or.inr ⟨_, rfl⟩⟩), fun _ => Or.inr ⟨rfl, hn, by rw [h]; rfl⟩⟩
theorem zf_104 (y : MethodName) (h : y.cls = "CircuitNetModel") (hn : y.name = "<init>") : zfk y true 74 (6, 22, 2) := ⟨_, _, _, zty_6, "CircuitNetModel", zc_6, by decide, Or.inl (by rw [h]; exact zq_279), Or.inl rfl, Or.inr (Or.inr ⟨rfl, rfl, Or.inr ⟨_, rfl⟩⟩), fun _ => Or.inr ⟨rfl, hn, by rw [h]; rfl⟩⟩
theorem zf_105 (y : MethodName) (h : y.cls = "CircuitNetModel") (hn : y.name = "<init>") : zfk y true 77 (6, 23, 2) := ⟨_, _, _, zty_6, "CircuitNetModel", zc_6, by decide, Or.inl (by rw [h]; exact zq_280), Or.inl rfl, Or.inr (Or.inr ⟨rfl, rfl, Or.inr ⟨_, rfl⟩⟩), fun _ => Or.inr ⟨rfl, hn, by rw [h]; rfl⟩⟩
theorem zf_106 (y : MethodName) (h : y.cls = "CircuitNetModel") : zfk y false 34 (6, 9, 2) := ⟨_, _, _, zty_6, "CircuitNetModel", zc_6, by decide, Or.inl (by rw [h]; exact zq_266), Or.inl rfl, Or.inr (Or.inr ⟨rfl, rfl, Or.inr ⟨_, rfl⟩⟩), fun h => by cases h⟩
theorem zf_107 (y : MethodName) (h : y.cls = "CircuitNetModel") : zfk y false 38 (6, 10, 2) := ⟨_, _, _, zty_6, "CircuitNetModel", zc_6, by decide, Or.inl (by rw [h]; exact zq_267), Or.inl rfl, Or.inr (Or.inr ⟨rfl, rfl, Or.inr ⟨_, rfl⟩⟩), fun h => by cases h⟩
theorem zf_108 (y : MethodName) (h : y.cls = "CircuitNetModel") : zfk y false 50 (6, 14, 2) := ⟨_, _, _, zty_6, "CircuitNetModel", zc_6, by decide, Or.inl (by rw [h]; exact zq_271), Or.inl rfl, Or.inr (Or.inr ⟨rfl, rfl, Or.inr ⟨_, rfl⟩⟩), fun h => by cases h⟩
theorem zf_109 (y : MethodName) (h : y.cls = "CircuitNetModel") : zfk y false 47 (6, 13, 2) := ⟨_, _, _, zty_6, "CircuitNetModel", zc_6, by decide, Or.inl (by rw [h]; exact zq_270), Or.inl rfl, Or.inr (Or.inr ⟨rfl, rfl, Or.inr ⟨_, rfl⟩⟩), fun h => by cases h⟩
theorem zf_110 (y : MethodName) (h : y.cls = "CircuitNetModel") : zfk y false 25 (6, 6, 2) := ⟨_, _, _, zty_6, "CircuitNetModel", zc_6, by decide, Or.inl (by rw [h]; exact zq_262), Or.inl rfl, Or.inr (Or.inr ⟨rfl, rfl, Or.inr ⟨_, rfl⟩⟩), fun h => by cases h⟩
theorem zf_111 (y : MethodName) (h : y.cls = "CircuitNetModel") : zfk y false 28 (6, 7, 2) := ⟨_, _, _, zty_6, "CircuitNetModel", zc_6, by decide, Or.inl (by rw [h]; exact zq_263), Or.inl rfl, Or.inr (Or.inr ⟨rfl, rfl, Or.inr ⟨_, rfl⟩⟩), fun h => by cases h⟩
theorem zf_112 (y : MethodName) (h : y.cls = "CircuitNetModel") : zfk y false 31 (6, 8, 2) := ⟨_, _, _, zty_6, "CircuitNetModel", zc_6, by decide, Or.inl (by rw [h]; exact zq_264), Or.inl rfl, Or.inr (Or.inr ⟨rfl, rfl, Or.inr ⟨_, rfl⟩⟩), fun h => by cases h⟩
theorem zf_113 (y : MethodName) (h : y.cls = "CircuitNetModel") : zfk y false 44 (6, 12, 2) := ⟨_, _, _, zty_6, "CircuitNetModel", zc_6, by decide, Or.inl (by rw [h]; exact zq_269), Or.inl rfl, Or.inr (Or.inr ⟨rfl, rfl, Or.inr ⟨_, rfl⟩⟩), fun h => by cases h⟩
theorem zf_114 (y : MethodName) (h : y.cls = "CircuitNetModel") : zfk y false 84 (6, 0, 0) := ⟨_, _, _, zty_6, "CircuitNetModel", zc_6, by decide, Or.inl (by rw [h]; exact zq_297), Or.inl rfl, Or.inl ⟨rfl, rfl, rfl⟩, fun h => by cases h⟩
theorem zf_115 (y : MethodName) (h : y.cls = "CircuitNetModel") : zfk y false 41 (6, 11, 2) := ⟨_, _, _, zty_6, "CircuitNetModel", zc_6, by decide, Or.inl (by rw [h]; exact zq_268), Or.inl rfl, Or.inr (Or.inr ⟨rfl, rfl, Or.inr ⟨_, rfl⟩⟩), fun h => by cases h⟩
theorem zf_116 (y : MethodName) (h : y.cls = "CircuitNetModel") : zfk y false 7 (6, 1, 2) := ⟨_, _, _, zty_6, "CircuitNetModel", zc_6, by decide, Or.inl (by rw [h]; exact zq_257), Or.inl rfl, Or.inr (Or.inr ⟨rfl, rfl, Or.inr ⟨_, rfl⟩⟩), fun h => by cases h⟩
theorem zf_117 (y : MethodName) (h : y.cls = "CircuitNetModel") : zfk y false 13 (6, 2, 2) := ⟨_, _, _, zty_6, "CircuitNetModel", zc_6, by decide, Or.inl (by rw [h]; exact zq_258), Or.inl rfl, Or.inr (Or.inr ⟨rfl, rfl, Or.inr ⟨_, rfl⟩⟩), fun h => by cases h⟩
theorem zf_118 (y : MethodName) (h : y.cls = "CircuitNetModel") : zfk y false 16 (6, 3, 2) := ⟨_, _, _, zty_6, "CircuitNetModel", zc_6, by decide, Or.inl (by rw [h]; exact zq_259), Or.inl rfl, Or.inr (Or.inr ⟨rfl, rfl, Or.inr ⟨_, rfl⟩⟩), fun h => by cases h⟩
theorem zf_119 (y : MethodName) (h : y.cls = "CircuitNetModel") : zfk y false 19 (6, 4, 2) := ⟨_, _, _, zty_6, "CircuitNetModel", zc_6, by decide, Or.inl (by rw [h]; exact zq_260), Or.inl rfl, Or.inr (Or.inr ⟨rfl, rfl, Or.inr ⟨_, rfl⟩⟩), fun h => by cases h⟩
theorem zf_120 (y : MethodName) (h : y.cls = "CircuitNetModel") : zfk y false 22 (6, 5, 2) := ⟨_, _, _, zty_6, "CircuitNetModel", zc_6, by decide, Or.inl (by rw [h]; exact zq_261), Or.inl rfl, Or.inr (Or.inr ⟨rfl, rfl, Or.inr ⟨_, rfl⟩⟩), fun h => by cases h⟩
theorem zf_121 (y : MethodName) (h : y.cls = "CircuitNetModel") : zfk y true 84 (6, 0, 0) := ⟨_, _, _, zty_6, "CircuitNetModel", zc_6, by decide, Or.inl (by rw [h]; exact zq_297), Or.inl rfl, Or.inl ⟨rfl, rfl, rfl⟩, fun _ => Or.inl rfl⟩
theorem zf_122 (y : MethodName) (h : y.cls = "CircuitNetModel") : zfk y false 53 (6, 15, 2) := ⟨_, _, _, zty_6, "CircuitNetModel", zc_6, by decide, Or.inl (by rw [h]; exact zq_272), Or.inl rfl, Or.inr (Or.inr ⟨rfl, rfl, Or.inr ⟨_, rfl⟩⟩), fun h => by cases h⟩
theorem zf_123 (y : MethodName) (h : y.cls = "CircuitNetModel") : zfk y false 56 (6, 16, 2) := ⟨_, _, _, zty_6, "CircuitNetModel", zc_6, by decide, Or.inl (by rw [h]; exact zq_273), Or.inl rfl, Or.inr (Or.inr ⟨rfl, rfl, Or.inr ⟨_, rfl⟩⟩), fun h => by cases h⟩
theorem zf_124 (y : MethodName) (h : y.cls = "CircuitNetModel") : zfk y false 59 (6, 17, 2) := ⟨_, _, _, zty_6, "CircuitNetModel", zc_6, by decide, Or.inl (by rw [h]; exact zq_274), Or.inl rfl, Or.inr (Or.inr ⟨rfl, rfl, Or.inr ⟨_, rfl⟩⟩), fun h => by cases h⟩
theorem zf_125 (y : MethodName) (h : y.cls = "CircuitNetModel") : zfk y false 62 (6, 18, 2) := ⟨_, _, _, zty_6, "CircuitNetModel", zc_6, by decide, Or.inl (by rw [h]; exact zq_275), Or.inl rfl, Or.inr (Or.inr ⟨rfl, rfl, Or.inr ⟨_, rfl⟩⟩), fun h => by cases h⟩
theorem zf_126 (y : MethodName) (h : y.cls = "CircuitNetModel") : zfk y false 77 (6, 23, 2) := ⟨_, _, _, zty_6, "CircuitNetModel", zc_6, by decide, Or.inl (by rw [h]; exact zq_280), Or.inl rfl, Or.inr (Or.inr ⟨rfl, rfl, Or.inr ⟨_, rfl⟩⟩), fun h => by cases h⟩
theorem zf_127 (y : MethodName) (h : y.cls = "CircuitNetModel") : zfk y false 74 (6, 22, 2) := ⟨_, _, _, zty_6, "CircuitNetModel", zc_6, by decide, Or.inl (by rw [h]; exact zq_279), Or.inl rfl, Or.inr (Or.inr ⟨rfl, rfl, Or.inr ⟨_, rfl⟩⟩), fun h => by cases h⟩
theorem zf_128 (y : MethodName) (h : y.cls = "CircuitNetModel") : zfk y false 68 (6, 20, 2) := ⟨_, _, _, zty_6, "CircuitNetModel", zc_6, by decide, Or.inl (by rw [h]; exact zq_277), Or.inl rfl, Or.inr (Or.inr ⟨rfl, rfl, Or.inr ⟨_, rfl⟩⟩), fun h => by cases h⟩
theorem zf_129 (y : MethodName) (h : y.cls = "CircuitNetModel") : zfk y false 65 (6, 19, 2) := ⟨_, _, _, zty_6, "CircuitNetModel", zc_6, by decide, Or.inl (by rw [h]; exact zq_276), Or.inl rfl, Or.inr (Or.inr ⟨rfl, rfl, Or.inr ⟨_, rfl⟩⟩), fun h => by cases h⟩
theorem zf_130 (y : MethodName) (h : y.cls = "CircuitNetModel") : zfk y false 71 (6, 21, 2) := ⟨_, _, _, zty_6, "CircuitNetModel", zc_6, by decide, Or.inl (by rw [h]; exact zq_278), Or.inl rfl, Or.inr (Or.inr ⟨rfl, rfl, Or.inr ⟨_, rfl⟩⟩), fun h => by cases h⟩
end
section
set_option maxRecDepth 100000 in
theorem zt_0_0 : zFa 0 zk_0_0 := (zFc trivial trivial (zFc trivial (zfc (Or.inl ⟨rfl, (zfc zq_0 (zfc zq_1 (zfc zq_2 zf0)))⟩) zf0) (zFc trivial (zfc (Or.inr (Or.inr ⟨by decide, by decide, rfl, by decide, zq_4, zq_5, Or.inl zq_3⟩)) zf0) (zFc trivial trivial (zFc trivial trivial (zFc trivial trivial (zFc trivial trivial (zFc trivial trivial (zFc trivial trivial (zFc trivial trivial (zFc trivial trivial (zFc trivial (zfc (Or.inr (Or.inr ⟨by decide, by decide, rfl, by decide, zq_7, zq_5, Or.inl zq_6⟩)) zf0) (zFc trivial trivial (zFc trivial trivial (zFc trivial trivial (zFc trivial trivial (zFc trivial (zfc (Or.inr (Or.inr ⟨by decide, by decide, rfl, by decide, zq_9, zq_5, Or.inl zq_8⟩)) zf0) (zFc (zfc (zf_0 (zy 0) rfl rfl) zf0) trivial (zFc trivial trivial (zFc trivial trivial (zFc (zfc (zf_1 (zy 0) rfl rfl) zf0) trivial (zFc trivial rfl zFn))))))))))))))))))))))
set_option maxRecDepth 100000 in
theorem zt_1_0 : zFa 1 zk_1_0 := (zFc trivial trivial (zFc (zfc ⟨by decide, zq_12, zx_0⟩ zf0) trivial (zFc trivial trivial (zFc trivial trivial (zFc trivial trivial (zFc trivial trivial (zFc trivial trivial (zFc trivial trivial (zFc (zfc ⟨_, _, _, zty_4, zd_4, rfl, zq_13, zq_14, zq_15, zdf_4⟩ zf0) trivial (zFc trivial trivial (zFc trivial (zfc (Or.inr ⟨by decide, rfl, by decide, rfl, rfl, zq_16, zq_15, Or.inr ⟨"CircuitNet", zx_1⟩⟩) zf0) (zFc trivial trivial (zFc (zfc ⟨_, _, _, zty_4, zd_4, rfl, zq_13, zq_14, zq_15, zdf_4⟩ zf0) trivial (zFc trivial trivial (zFc trivial (zfc (Or.inr ⟨by decide, rfl, by decide, rfl, rfl, zq_16, zq_15, Or.inr ⟨"CircuitNet", zx_1⟩⟩) zf0) (zFc trivial trivial (zFc trivial trivial (zFc trivial trivial (zFc trivial trivial (zFc trivial trivial (zFc (zfc ⟨_, _, _, zty_1, zd_1, rfl, zq_12, zq_17, zq_18, zdf_1⟩ zf0) trivial (zFc trivial trivial (zFc trivial trivial (zFc trivial trivial (zFc trivial trivial (zFc trivial (zfc (Or.inr ⟨by decide, rfl, by decide, rfl, rfl, zq_20, zq_18, Or.inl zq_19⟩) zf0) (zFc zas_ok trivial (zFc trivial trivial (zFc trivial trivial (zFc trivial trivial (zFc trivial trivial (zFc trivial trivial (zFc trivial trivial (zFc (zfc ⟨_, _, _, zty_1, zd_1, rfl, zq_12, zq_17, zq_18, zdf_1⟩ zf0) trivial (zFc trivial trivial (zFc trivial trivial (zFc trivial trivial (zFc trivial trivial (zFc trivial (zfc (Or.inr ⟨by decide, rfl, by decide, rfl, rfl, zq_20, zq_18, Or.inl zq_19⟩) zf0) (zFc zas_ok trivial (zFc trivial trivial (zFc trivial trivial (zFc trivial trivial (zFc trivial (Or.inr ⟨_, rfl⟩) zFn))))))))))))))))))))))))))))))))))))))))))))
set_option maxRecDepth 100000 in
theorem zt_2_0 : zFa 2 zk_2_0 := (zFc trivial trivial (zFc trivial (zfc (Or.inl ⟨rfl, (zfc zq_21 (zfc zq_1 (zfc zq_2 zf0)))⟩) zf0) (zFc trivial trivial (zFc trivial trivial (zFc (zfc (Or.inl ⟨rfl, rfl, zq_22⟩) zf0) trivial (zFc (zfc (zf_2 (zy 2) rfl rfl) zf0) trivial (zFc trivial rfl zFn)))))))
set_option maxRecDepth 100000 in
theorem zt_3_0 : zFa 3 zk_3_0 := (zFc trivial trivial (zFc trivial (zfc (Or.inl ⟨rfl, (zfc zq_24 (zfc zq_1 (zfc zq_2 zf0)))⟩) zf0) (zFc trivial trivial (zFc (zfc ⟨_, _, _, zty_3, zd_3, rfl, zq_25, zq_26, zq_27, zdf_3⟩ zf0) trivial (zFc trivial trivial (zFc trivial (zfc (Or.inr ⟨by decide, rfl, by decide, rfl, rfl, zq_28, zq_27, Or.inr ⟨"CircuitNet", zx_2⟩⟩) zf0) (zFc (zfc (zf_3 (zy 3) rfl rfl) zf0) trivial (zFc trivial trivial (zFc trivial trivial (zFc (zfc ⟨by decide, zq_30, zx_3⟩ zf0) trivial (zFc (zfc (zf_4 (zy 3) rfl rfl) zf0) trivial (zFc trivial trivial (zFc trivial trivial (zFc (zfc (zf_5 (zy 3) rfl) zf0) trivial (zFc trivial trivial (zFc trivial trivial (zFc (zfc (zf_6 (zy 3) rfl rfl) zf0) trivial (zFc trivial trivial (zFc trivial trivial (zFc (zfc (zf_7 (zy 3) rfl rfl) zf0) trivial (zFc trivial trivial (zFc trivial trivial (zFc (zfc (zf_8 (zy 3) rfl rfl) zf0) trivial (zFc trivial rfl zFn))))))))))))))))))))))))
set_option maxRecDepth 100000 in
theorem zt_4_0 : zFa 4 zk_4_0 := (zFc trivial trivial (zFc trivial (zfc (Or.inl ⟨rfl, (zfc zq_36 (zfc zq_1 (zfc zq_2 zf0)))⟩) zf0) (zFc trivial trivial (zFc trivial trivial (zFc (zfc (Or.inl ⟨rfl, rfl, zq_22⟩) zf0) trivial (zFc (zfc (zf_9 (zy 4) rfl) zf0) trivial (zFc trivial rfl zFn)))))))
set_option maxRecDepth 100000 in
theorem zt_5_0 : zFa 5 zk_5_0 := (zFc trivial trivial (zFc (zfc ⟨by decide, zq_12, zx_0⟩ zf0) trivial (zFc trivial trivial (zFc trivial trivial (zFc trivial trivial (zFc trivial trivial (zFc trivial trivial (zFc trivial trivial (zFc trivial trivial (zFc trivial trivial (zFc trivial trivial (zFc trivial trivial (zFc trivial trivial (zFc trivial trivial (zFc trivial trivial (zFc trivial trivial (zFc trivial trivial (zFc trivial trivial (zFc trivial trivial (zFc trivial trivial (zFc trivial trivial (zFc trivial trivial (zFc trivial trivial (zFc trivial trivial (zFc trivial trivial (zFc trivial trivial (zFc trivial trivial (zFc trivial trivial (zFc trivial trivial (zFc trivial trivial (zFc trivial trivial (zFc trivial trivial (zFc trivial trivial (zFc trivial trivial (zFc trivial trivial (zFc trivial trivial (zFc zas_ok trivial (zFc trivial trivial (zFc trivial trivial (zFc trivial trivial (zFc trivial trivial (zFc trivial trivial (zFc trivial trivial (zFc trivial (zfc (Or.inr (Or.inr ⟨by decide, by decide, rfl, by decide, zq_39, zq_5, Or.inl zq_38⟩)) zf0) (zFc trivial trivial (zFc trivial trivial (zFc trivial trivial (zFc trivial trivial (zFc trivial (zfc (Or.inr (Or.inr ⟨by decide, by decide, rfl, by decide, zq_39, zq_5, Or.inl zq_38⟩)) zf0) (zFc trivial rfl zFn))))))))))))))))))))))))))))))))))))))))))))))))))
set_option maxRecDepth 100000 in
theorem zt_6_0 : zFa 6 zk_6_0 := (zFc trivial trivial (zFc trivial trivial (zFc trivial trivial (zFc trivial trivial (zFc trivial trivial (zFc trivial trivial (zFc (zfc (zf_10 (zy 6) rfl) zf0) trivial (zFc trivial trivial (zFc trivial trivial (zFc trivial trivial (zFc (zfc ⟨_, _, _, zty_2, zd_2, rfl, zq_41, zq_42, zq_43, zdf_2⟩ zf0) trivial (zFc trivial trivial (zFc trivial trivial (zFc trivial trivial (zFc trivial trivial (zFc trivial (zfc (Or.inr ⟨by decide, rfl, by decide, rfl, rfl, zq_45, zq_43, Or.inl zq_44⟩) zf0) (zFc zas_ok trivial (zFc trivial trivial (zFc trivial trivial (zFc trivial rfl zFn))))))))))))))))))))
set_option maxRecDepth 100000 in
theorem zt_7_0 : zFa 7 zk_7_0 := (zFc trivial trivial (zFc trivial trivial (zFc trivial trivial (zFc trivial (zfc (Or.inr ⟨by decide, rfl, by decide, rfl, rfl, zq_47, zq_48, Or.inl zq_46⟩) zf0) (zFc trivial trivial (zFc trivial trivial (zFc (zfc (zf_11 (zy 7) rfl rfl) zf0) trivial (zFc trivial rfl zFn))))))))
set_option maxRecDepth 100000 in
theorem zt_8_0 : zFa 8 zk_8_0 := (zFc trivial trivial (zFc trivial (zfc (Or.inl ⟨rfl, (zfc zq_50 (zfc zq_1 (zfc zq_2 zf0)))⟩) zf0) (zFc trivial trivial (zFc trivial trivial (zFc (zfc (zf_12 (zy 8) rfl) (zfc (zf_13 (zy 8) rfl) zf0)) trivial (zFc trivial trivial (zFc trivial trivial (zFc (zfc (zf_14 (zy 8) rfl rfl) (zfc (zf_15 (zy 8) rfl rfl) zf0)) trivial (zFc trivial trivial (zFc trivial trivial (zFc (zfc (zf_16 (zy 8) rfl rfl) (zfc (zf_17 (zy 8) rfl rfl) zf0)) trivial (zFc trivial rfl zFn))))))))))))
set_option maxRecDepth 100000 in
theorem zt_9_0 : zFa 9 zk_9_0 := (zFc trivial trivial (zFc (zfc ⟨by decide, zq_54, zx_4⟩ zf0) trivial (zFc trivial trivial (zFc trivial trivial (zFc trivial trivial (zFc trivial trivial (zFc trivial trivial (zFc trivial trivial (zFc trivial trivial (zFc trivial trivial (zFc trivial trivial (zFc trivial trivial (zFc trivial trivial (zFc (zfc ⟨_, _, _, zty_0, zd_0, rfl, zq_54, zq_55, zq_56, zdf_0⟩ zf0) trivial (zFc trivial trivial (zFc trivial trivial (zFc trivial trivial (zFc trivial trivial (zFc trivial trivial (zFc trivial trivial (zFc trivial trivial (zFc trivial (zfc (Or.inr ⟨by decide, rfl, by decide, rfl, rfl, zq_58, zq_56, Or.inl zq_57⟩) zf0) (zFc trivial trivial (zFc trivial trivial (zFc trivial trivial (zFc trivial trivial (zFc trivial trivial (zFc trivial trivial (zFc (zfc (zf_10 (zy 9) rfl) zf0) trivial (zFc trivial trivial (zFc trivial trivial (zFc trivial trivial (zFc trivial trivial (zFc zas_ok trivial (zFc trivial trivial (zFc trivial trivial (zFc trivial trivial (zFc trivial trivial (zFc trivial trivial (zFc trivial trivial (zFc trivial trivial (zFc trivial trivial (zFc trivial trivial (zFc zas_ok trivial (zFc trivial trivial (zFc trivial trivial (zFc trivial trivial (zFc trivial trivial (zFc trivial trivial (zFc trivial (Or.inr ⟨_, rfl⟩) zFn))))))))))))))))))))))))))))))))))))))))))))))))))
set_option maxRecDepth 100000 in
theorem zt_10_0 : zFa 10 zk_10_0 := (zFc trivial trivial (zFc trivial trivial (zFc trivial trivial (zFc trivial (zfc (Or.inr ⟨by decide, rfl, by decide, rfl, rfl, zq_47, zq_48, Or.inl zq_59⟩) zf0) (zFc trivial trivial (zFc (zfc ⟨_, _, _, zty_3, zd_3, rfl, zq_60, zq_26, zq_27, zdf_3⟩ zf0) trivial (zFc trivial trivial (zFc trivial (zfc (Or.inr ⟨by decide, rfl, by decide, rfl, rfl, zq_28, zq_27, Or.inr ⟨"CircuitNet", zx_5⟩⟩) zf0) (zFc (zfc (zf_18 (zy 10) rfl rfl) zf0) trivial (zFc trivial rfl zFn))))))))))
set_option maxRecDepth 100000 in
theorem zt_11_0 : zFa 11 zk_11_0 := (zFc trivial trivial (zFc trivial (zfc (Or.inr (Or.inr ⟨by decide, by decide, rfl, by decide, zq_63, zq_5, Or.inl zq_62⟩)) zf0) (zFc trivial trivial (zFc trivial trivial (zFc trivial (zfc (Or.inr (Or.inr ⟨by decide, by decide, rfl, by decide, zq_63, zq_5, Or.inl zq_62⟩)) zf0) (zFc trivial trivial (zFc trivial trivial (zFc trivial trivial (zFc trivial trivial (zFc trivial trivial (zFc (zfc (zf_19 (zy 11) rfl) zf0) trivial (zFc trivial trivial (zFc trivial trivial (zFc trivial trivial (zFc trivial trivial (zFc (zfc (zf_20 (zy 11) rfl) zf0) trivial (zFc trivial trivial (zFc trivial trivial (zFc trivial (zfc (Or.inl ⟨rfl, rfl⟩) zf0) (zFc trivial trivial (zFc trivial trivial (zFc trivial trivial (zFc trivial trivial (zFc trivial trivial (zFc trivial trivial (zFc trivial trivial (zFc trivial trivial (zFc trivial (zfc ⟨(zfc rfl zf0), rfl, by decide, by decide, _, rfl, Or.inl ⟨zq_65, zq_66, zq_67, zq_5⟩⟩ zf0) (zFc trivial trivial (zFc trivial trivial (zFc trivial trivial (zFc trivial trivial (zFc (zfc (zf_21 (zy 11) rfl) zf0) trivial (zFc trivial trivial (zFc trivial trivial (zFc trivial trivial (zFc trivial trivial (zFc trivial (zfc ⟨(zfc rfl zf0), rfl, by decide, by decide, _, rfl, Or.inl ⟨zq_70, zq_71, zq_72, zq_56⟩⟩ zf0) (zFc trivial trivial (zFc trivial trivial (zFc trivial trivial (zFc trivial trivial (zFc trivial (zfc ⟨(zfc rfl zf0), rfl, by decide, by decide, _, rfl, Or.inr (Or.inr ⟨"CircuitNet$Channel", ⟨"CircuitNet$Circuit", "put", "(III)V"⟩, (zfc zq_73 (zfc zq_74 (zfc zq_75 (zfc zq_76 (zfc zq_48 zf0))))), Or.inl rfl, ⟨by decide, by decide⟩, rfl⟩)⟩ zf0) (zFc trivial trivial (zFc trivial (zfc (Or.inl ⟨rfl, rfl⟩) zf0) (zFc trivial trivial (zFc trivial trivial (zFc trivial trivial (zFc trivial (zfc (Or.inl ⟨rfl, rfl⟩) zf0) zFn)))))))))))))))))))))))))))))))))))))))))))))))))
set_option maxRecDepth 100000 in
theorem zt_12_0 : zFa 12 zk_12_0 := (zFc trivial trivial (zFc trivial trivial (zFc trivial trivial (zFc trivial trivial (zFc trivial trivial (zFc trivial trivial (zFc trivial trivial (zFc trivial trivial (zFc trivial (zfc (Or.inr ⟨rfl, rfl⟩) zf0) zFn)))))))))
set_option maxRecDepth 100000 in
theorem zt_13_0 : zFa 13 zk_13_0 := (zFc trivial trivial (zFc trivial (zfc (Or.inr (Or.inr ⟨by decide, by decide, rfl, by decide, zq_63, zq_5, Or.inl zq_62⟩)) zf0) (zFc trivial trivial (zFc trivial trivial (zFc trivial trivial (zFc trivial trivial (zFc trivial trivial (zFc trivial trivial (zFc trivial trivial (zFc trivial trivial (zFc trivial (Or.inl ⟨_, rfl⟩) (zFc trivial trivial (zFc (zfc (zf_22 (zy 13) rfl) zf0) trivial (zFc trivial trivial (zFc trivial trivial (zFc trivial trivial (zFc trivial trivial (zFc trivial trivial (zFc trivial trivial (zFc trivial trivial (zFc trivial trivial (zFc trivial (Or.inl ⟨_, rfl⟩) zFn))))))))))))))))))))))
set_option maxRecDepth 100000 in
theorem zt_14_0 : zFa 14 zk_14_0 := (zFc trivial trivial (zFc trivial trivial (zFc (zfc (zf_23 (zy 14) rfl) zf0) trivial (zFc trivial trivial (zFc trivial trivial (zFc (zfc (zf_24 (zy 14) rfl) zf0) trivial (zFc trivial trivial (zFc trivial (zfc ⟨(zfc rfl zf0), rfl, by decide, by decide, _, rfl, Or.inl ⟨zq_79, zq_80, zq_81, zq_56⟩⟩ zf0) (zFc trivial rfl zFn)))))))))
set_option maxRecDepth 100000 in
theorem zt_15_0 : zFa 15 zk_15_0 := (zFc trivial trivial (zFc trivial trivial (zFc (zfc (zf_25 (zy 15) rfl) zf0) trivial (zFc trivial trivial (zFc trivial trivial (zFc (zfc (zf_26 (zy 15) rfl) zf0) trivial (zFc trivial trivial (zFc trivial trivial (zFc (zfc (zf_27 (zy 15) rfl) zf0) trivial (zFc trivial trivial (zFc (zfc (zf_28 (zy 15) rfl) zf0) trivial (zFc trivial trivial (zFc (zfc (zf_28 (zy 15) rfl) zf0) trivial (zFc trivial (zfc ⟨(zfc rfl zf0), rfl, by decide, by decide, _, rfl, Or.inl ⟨zq_85, zq_86, zq_87, zq_27⟩⟩ zf0) (zFc trivial (zfc ⟨(zfc rfl zf0), rfl, by decide, by decide, _, rfl, Or.inl ⟨zq_88, zq_89, zq_90, zq_27⟩⟩ zf0) (zFc trivial rfl zFn))))))))))))))))
set_option maxRecDepth 100000 in
theorem zt_16_0 : zFa 16 zk_16_0 := (zFc trivial trivial (zFc (zfc (zf_29 (zy 16) rfl) zf0) trivial (zFc trivial (zfc (Or.inl ⟨rfl, rfl⟩) zf0) zFn)))
set_option maxRecDepth 100000 in
theorem zt_17_0 : zFa 17 zk_17_0 := (zFc trivial trivial (zFc trivial trivial (zFc trivial trivial (zFc (zfc (zf_29 (zy 17) rfl) zf0) trivial (zFc trivial (zfc (Or.inr (Or.inl ⟨rfl, (zfc zq_92 (zfc zq_93 (zfc zq_94 (zfc zq_95 zf0))))⟩)) zf0) (zFc trivial (zfc (Or.inl ⟨rfl, (zfc zq_96 (zfc zq_97 (zfc zq_94 (zfc zq_98 zf0))))⟩) zf0) (zFc trivial trivial (zFc trivial trivial (zFc trivial trivial (zFc (zfc (zf_30 (zy 17) rfl) zf0) trivial (zFc trivial trivial (zFc trivial trivial (zFc trivial trivial (zFc (zfc (zf_31 (zy 17) rfl) zf0) trivial (zFc trivial trivial (zFc trivial trivial (zFc trivial trivial (zFc trivial trivial (zFc (zfc (zf_32 (zy 17) rfl) zf0) trivial (zFc trivial trivial (zFc trivial trivial (zFc (zfc (zf_29 (zy 17) rfl) zf0) trivial (zFc trivial trivial (zFc trivial trivial (zFc (zfc (zf_33 (zy 17) rfl) zf0) trivial (zFc trivial rfl zFn))))))))))))))))))))))))))
set_option maxRecDepth 100000 in
theorem zt_18_0 : zFa 18 zk_18_0 := (zFc trivial trivial (zFc (zfc (zf_34 (zy 18) rfl) (zfc (zf_35 (zy 18) rfl) zf0)) trivial (zFc (zfc (zf_36 (zy 18) rfl) zf0) trivial (zFc trivial trivial (zFc trivial trivial (zFc (zfc (zf_37 (zy 18) rfl) (zfc (zf_38 (zy 18) rfl) zf0)) trivial (zFc trivial trivial (zFc trivial trivial (zFc trivial (zfc (Or.inr (Or.inr ⟨by decide, by decide, rfl, by decide, zq_102, zq_103, Or.inl zq_101⟩)) zf0) (zFc trivial (zfc ⟨(zfc rfl zf0), rfl, by decide, by decide, _, rfl, Or.inl ⟨zq_104, zq_105, zq_106, zq_27⟩⟩ zf0) (zFc trivial trivial (zFc (zfc (zf_34 (zy 18) rfl) (zfc (zf_35 (zy 18) rfl) zf0)) trivial (zFc trivial (zfc ⟨(zfc rfl zf0), rfl, by decide, by decide, _, rfl, Or.inl ⟨zq_107, zq_108, zq_109, zq_18⟩⟩ zf0) (zFc trivial rfl zFn))))))))))))))
set_option maxRecDepth 100000 in
theorem zt_19_0 : zFa 19 zk_19_0 := (zFc trivial trivial (zFc trivial trivial (zFc trivial trivial (zFc trivial trivial (zFc trivial trivial (zFc trivial trivial (zFc trivial trivial (zFc trivial trivial (zFc trivial trivial (zFc trivial trivial (zFc trivial trivial (zFc trivial trivial (zFc trivial trivial (zFc trivial (zfc (Or.inl ⟨rfl, rfl⟩) zf0) zFn))))))))))))))
set_option maxRecDepth 100000 in
theorem zt_20_0 : zFa 20 zk_20_0 := (zFc trivial trivial (zFc (zfc (zf_29 (zy 20) rfl) zf0) trivial (zFc trivial trivial (zFc trivial trivial (zFc trivial rfl (zFc trivial trivial (zFc (zfc (zf_29 (zy 20) rfl) zf0) trivial (zFc trivial trivial (zFc (zfc (zf_31 (zy 20) rfl) zf0) trivial (zFc trivial trivial (zFc trivial trivial (zFc trivial trivial (zFc trivial (zfc ⟨(zfc rfl zf0), rfl, by decide, by decide, _, rfl, Or.inl ⟨zq_110, zq_111, zq_112, zq_27⟩⟩ zf0) (zFc trivial trivial (zFc (zfc (zf_31 (zy 20) rfl) zf0) trivial (zFc trivial trivial (zFc (zfc (zf_30 (zy 20) rfl) zf0) trivial (zFc trivial trivial (zFc (zfc (zf_29 (zy 20) rfl) zf0) trivial (zFc trivial trivial (zFc trivial trivial (zFc (zfc (zf_31 (zy 20) rfl) zf0) trivial (zFc trivial trivial (zFc trivial trivial (zFc trivial trivial (zFc trivial trivial (zFc trivial trivial (zFc trivial trivial (zFc trivial trivial (zFc trivial trivial (zFc (zfc (zf_29 (zy 20) rfl) zf0) trivial (zFc trivial trivial (zFc trivial trivial (zFc (zfc (zf_33 (zy 20) rfl) zf0) trivial (zFc trivial rfl zFn)))))))))))))))))))))))))))))))))))
set_option maxRecDepth 100000 in
theorem zt_21_0 : zFa 21 zk_21_0 := (zFc trivial trivial (zFc trivial trivial (zFc (zfc (zf_31 (zy 21) rfl) zf0) trivial (zFc trivial trivial (zFc trivial trivial (zFc (zfc (Or.inl ⟨rfl, rfl, zq_22⟩) zf0) trivial (zFc trivial trivial (zFc trivial trivial (zFc trivial trivial (zFc trivial trivial (zFc trivial trivial (zFc (zfc (zf_29 (zy 21) rfl) zf0) trivial (zFc trivial trivial (zFc trivial trivial (zFc trivial trivial (zFc trivial trivial (zFc (zfc (zf_31 (zy 21) rfl) zf0) trivial (zFc trivial trivial (zFc (zfc (zf_30 (zy 21) rfl) zf0) trivial (zFc trivial trivial (zFc trivial trivial (zFc trivial trivial (zFc (zfc (zf_31 (zy 21) rfl) zf0) trivial (zFc trivial trivial (zFc trivial trivial (zFc trivial trivial (zFc trivial trivial (zFc trivial trivial (zFc trivial trivial (zFc trivial trivial (zFc trivial trivial (zFc trivial trivial (zFc trivial trivial (zFc (zfc (zf_9 (zy 21) rfl) zf0) trivial (zFc trivial trivial (zFc trivial trivial (zFc (zfc (zf_32 (zy 21) rfl) zf0) trivial (zFc trivial rfl zFn))))))))))))))))))))))))))))))))))))))
set_option maxRecDepth 100000 in
theorem zt_22_0 : zFa 22 zk_22_0 := (zFc trivial trivial (zFc (zfc (zf_39 (zy 22) rfl) zf0) trivial (zFc trivial trivial (zFc trivial trivial (zFc (zfc (zf_40 (zy 22) rfl) zf0) trivial (zFc trivial trivial (zFc trivial trivial (zFc trivial trivial (zFc trivial trivial (zFc trivial trivial (zFc trivial trivial (zFc (zfc (zf_41 (zy 22) rfl) zf0) trivial (zFc trivial (zfc ⟨(zfc rfl zf0), rfl, by decide, by decide, _, rfl, Or.inl ⟨zq_114, zq_86, zq_87, zq_27⟩⟩ zf0) (zFc trivial trivial (zFc trivial trivial (zFc (zfc (zf_42 (zy 22) rfl) zf0) trivial (zFc trivial trivial (zFc trivial trivial (zFc (zfc (zf_43 (zy 22) rfl) zf0) trivial (zFc trivial trivial (zFc (zfc (zf_44 (zy 22) rfl) zf0) trivial (zFc trivial trivial (zFc trivial trivial (zFc trivial trivial (zFc trivial trivial (zFc trivial trivial (zFc (zfc (zf_45 (zy 22) rfl) zf0) trivial (zFc trivial trivial (zFc (zfc (zf_41 (zy 22) rfl) zf0) trivial (zFc trivial trivial (zFc trivial (zfc ⟨(zfc rfl zf0), rfl, by decide, by decide, _, rfl, Or.inl ⟨zq_118, zq_119, zq_120, zq_27⟩⟩ zf0) (zFc trivial (zfc ⟨(zfc rfl zf0), rfl, by decide, by decide, _, rfl, Or.inl ⟨zq_121, zq_122, zq_123, zq_15⟩⟩ zf0) (zFc trivial trivial (zFc trivial trivial (zFc trivial trivial (zFc trivial trivial (zFc (zfc (zf_46 (zy 22) rfl) zf0) trivial (zFc trivial trivial (zFc trivial trivial (zFc trivial rfl zFn))))))))))))))))))))))))))))))))))))))))
set_option maxRecDepth 100000 in
theorem zt_23_0 : zFa 23 zk_23_0 := (zFc trivial trivial (zFc trivial trivial (zFc trivial trivial (zFc trivial trivial (zFc (zfc (zf_29 (zy 23) rfl) zf0) trivial (zFc trivial trivial (zFc trivial trivial (zFc trivial trivial (zFc trivial trivial (zFc (zfc (zf_31 (zy 23) rfl) zf0) trivial (zFc trivial trivial (zFc (zfc (zf_30 (zy 23) rfl) zf0) trivial (zFc trivial trivial (zFc trivial trivial (zFc trivial trivial (zFc (zfc (zf_31 (zy 23) rfl) zf0) trivial (zFc trivial trivial (zFc trivial trivial (zFc trivial trivial (zFc trivial trivial (zFc trivial trivial (zFc trivial (zfc (Or.inl ⟨rfl, rfl⟩) zf0) zFn))))))))))))))))))))))
set_option maxRecDepth 100000 in
theorem zt_24_0 : zFa 24 zk_24_0 := (zFc trivial trivial (zFc (zfc (zf_47 (zy 24) rfl) zf0) trivial (zFc trivial trivial (zFc trivial trivial (zFc trivial rfl (zFc trivial trivial (zFc (zfc (zf_48 (zy 24) rfl) zf0) trivial (zFc trivial trivial (zFc (zfc (zf_47 (zy 24) rfl) zf0) trivial (zFc trivial trivial (zFc trivial trivial (zFc trivial trivial (zFc trivial trivial (zFc trivial trivial (zFc trivial trivial (zFc trivial trivial (zFc (zfc (zf_49 (zy 24) rfl) zf0) trivial (zFc trivial trivial (zFc trivial trivial (zFc trivial trivial (zFc trivial trivial (zFc trivial trivial (zFc trivial trivial (zFc (zfc (zf_49 (zy 24) rfl) zf0) trivial (zFc trivial trivial (zFc trivial trivial (zFc trivial trivial (zFc trivial trivial (zFc trivial trivial (zFc trivial trivial (zFc (zfc (zf_49 (zy 24) rfl) zf0) trivial (zFc trivial trivial (zFc trivial trivial (zFc trivial trivial (zFc trivial trivial (zFc trivial trivial (zFc trivial trivial (zFc (zfc (zf_49 (zy 24) rfl) zf0) trivial (zFc trivial trivial (zFc trivial trivial (zFc trivial trivial (zFc trivial trivial (zFc trivial trivial (zFc trivial trivial (zFc (zfc (zf_49 (zy 24) rfl) zf0) trivial (zFc trivial trivial (zFc trivial trivial (zFc trivial trivial (zFc trivial trivial (zFc trivial trivial (zFc trivial trivial (zFc trivial trivial (zFc (zfc (zf_47 (zy 24) rfl) zf0) trivial (zFc trivial trivial (zFc trivial trivial (zFc (zfc (zf_50 (zy 24) rfl) zf0) trivial (zFc trivial rfl zFn)))))))))))))))))))))))))))))))))))))))))))))))))))))))))
set_option maxRecDepth 100000 in
theorem zt_25_0 : zFa 25 zk_25_0 := (zFc trivial trivial (zFc trivial trivial (zFc trivial trivial (zFc trivial (zfc ⟨(zfc rfl zf0), rfl, by decide, by decide, _, rfl, Or.inl ⟨zq_65, zq_66, zq_67, zq_5⟩⟩ zf0) (zFc trivial trivial (zFc trivial trivial (zFc trivial trivial (zFc trivial trivial (zFc (zfc (zf_21 (zy 25) rfl) zf0) trivial (zFc trivial trivial (zFc trivial trivial (zFc trivial trivial (zFc trivial (zfc (Or.inr ⟨rfl, rfl⟩) zf0) (zFc trivial trivial (zFc trivial trivial (zFc (zfc (zf_51 (zy 25) rfl) zf0) trivial (zFc trivial trivial (zFc trivial trivial (zFc trivial trivial (zFc trivial trivial (zFc trivial (zfc ⟨(zfc rfl zf0), rfl, by decide, by decide, _, rfl, Or.inr (Or.inr ⟨"CircuitNet$Channel", ⟨"CircuitNet$Circuit", "put", "(III)V"⟩, (zfc zq_73 (zfc zq_74 (zfc zq_75 (zfc zq_76 (zfc zq_48 zf0))))), Or.inl rfl, ⟨by decide, by decide⟩, rfl⟩)⟩ zf0) (zFc trivial trivial (zFc trivial (zfc (Or.inr ⟨rfl, rfl⟩) zf0) zFn)))))))))))))))))))))))
set_option maxRecDepth 100000 in
theorem zt_26_0 : zFa 26 zk_26_0 := (zFc trivial trivial (zFc trivial trivial (zFc trivial trivial (zFc trivial (zfc ⟨(zfc rfl zf0), rfl, by decide, by decide, _, rfl, Or.inl ⟨zq_65, zq_66, zq_67, zq_5⟩⟩ zf0) (zFc trivial trivial (zFc trivial trivial (zFc trivial trivial (zFc trivial trivial (zFc trivial (zfc ⟨(zfc rfl zf0), rfl, by decide, by decide, _, rfl, Or.inl ⟨zq_126, zq_127, zq_128, zq_56⟩⟩ zf0) (zFc trivial trivial (zFc trivial trivial (zFc trivial (zfc (Or.inr ⟨rfl, rfl⟩) zf0) (zFc trivial trivial (zFc trivial (zfc ⟨(zfc rfl zf0), rfl, by decide, by decide, _, rfl, Or.inr (Or.inr ⟨"CircuitNet$Channel", ⟨"CircuitNet$Circuit", "startClearing", "()V"⟩, (zfc zq_129 (zfc zq_130 (zfc zq_131 (zfc zq_132 (zfc zq_48 zf0))))), Or.inl rfl, ⟨by decide, by decide⟩, rfl⟩)⟩ zf0) (zFc trivial trivial (zFc trivial (zfc (Or.inr ⟨rfl, rfl⟩) zf0) zFn))))))))))))))))
set_option maxRecDepth 100000 in
theorem zt_27_0 : zFa 27 zk_27_0 := (zFc trivial trivial (zFc (zfc (zf_52 (zy 27) rfl) zf0) trivial (zFc trivial trivial (zFc trivial trivial (zFc (zfc (zf_52 (zy 27) rfl) zf0) trivial (zFc trivial trivial (zFc trivial trivial (zFc trivial trivial (zFc trivial trivial (zFc trivial trivial (zFc trivial (zfc (Or.inr ⟨rfl, rfl⟩) zf0) zFn)))))))))))
set_option maxRecDepth 100000 in
theorem zt_28_0 : zFa 28 zk_28_0 := (zFc trivial trivial (zFc trivial trivial (zFc (zfc (zf_12 (zy 28) rfl) (zfc (zf_13 (zy 28) rfl) zf0)) trivial (zFc trivial trivial (zFc trivial trivial (zFc trivial trivial (zFc trivial trivial (zFc trivial (zfc ⟨(zfc rfl (zfc rfl zf0)), rfl, by decide, by decide, _, rfl, Or.inr (Or.inr ⟨"CircuitNet$Channel", ⟨"CircuitNet$Channel", "put", "(III)V"⟩, (zfc zq_133 (zfc zq_134 (zfc zq_135 (zfc zq_76 (zfc zq_48 zf0))))), Or.inl rfl, ⟨by decide, by decide⟩, rfl⟩)⟩ (zfc ⟨(zfc rfl (zfc rfl zf0)), rfl, by decide, by decide, _, rfl, Or.inr (Or.inr ⟨"CircuitNet$Channel", ⟨"CircuitNet$Channel", "put", "(III)V"⟩, (zfc zq_133 (zfc zq_134 (zfc zq_136 (zfc zq_76 (zfc zq_48 zf0))))), Or.inl rfl, ⟨by decide, by decide⟩, rfl⟩)⟩ zf0)) (zFc trivial rfl zFn)))))))))
set_option maxRecDepth 100000 in
theorem zt_29_0 : zFa 29 zk_29_0 := (zFc trivial trivial (zFc trivial trivial (zFc trivial trivial (zFc trivial (zfc ⟨(zfc rfl zf0), rfl, by decide, by decide, _, rfl, Or.inl ⟨zq_65, zq_66, zq_67, zq_5⟩⟩ zf0) (zFc trivial trivial (zFc trivial trivial (zFc trivial trivial (zFc trivial trivial (zFc (zfc (zf_21 (zy 29) rfl) zf0) trivial (zFc trivial trivial (zFc trivial trivial (zFc trivial trivial (zFc trivial (zfc (Or.inr ⟨rfl, rfl⟩) zf0) (zFc trivial trivial (zFc trivial (zfc ⟨(zfc rfl zf0), rfl, by decide, by decide, _, rfl, Or.inl ⟨zq_137, zq_80, zq_81, zq_56⟩⟩ zf0) (zFc trivial trivial (zFc trivial trivial (zFc trivial trivial (zFc trivial trivial (zFc trivial (zfc ⟨(zfc rfl zf0), rfl, by decide, by decide, _, rfl, Or.inr (Or.inr ⟨"CircuitNet$Channel", ⟨"CircuitNet$Circuit", "put", "(III)V"⟩, (zfc zq_73 (zfc zq_74 (zfc zq_75 (zfc zq_76 (zfc zq_48 zf0))))), Or.inl rfl, ⟨by decide, by decide⟩, rfl⟩)⟩ zf0) (zFc trivial trivial (zFc trivial trivial (zFc (zfc (zf_51 (zy 29) rfl) zf0) trivial (zFc trivial trivial (zFc trivial (zfc (Or.inr ⟨rfl, rfl⟩) zf0) zFn)))))))))))))))))))))))))
set_option maxRecDepth 100000 in
theorem zt_30_0 : zFa 30 zk_30_0 := (zFc trivial trivial (zFc trivial trivial (zFc trivial trivial (zFc trivial (zfc ⟨(zfc rfl zf0), rfl, by decide, by decide, _, rfl, Or.inl ⟨zq_65, zq_66, zq_67, zq_5⟩⟩ zf0) (zFc trivial trivial (zFc trivial trivial (zFc trivial trivial (zFc trivial trivial (zFc trivial trivial (zFc trivial trivial (zFc trivial trivial (zFc trivial trivial (zFc trivial trivial (zFc (zfc (zf_21 (zy 30) rfl) zf0) trivial (zFc trivial trivial (zFc trivial trivial (zFc trivial trivial (zFc trivial (zfc (Or.inl ⟨rfl, rfl⟩) zf0) (zFc trivial trivial (zFc trivial (zfc ⟨(zfc rfl zf0), rfl, by decide, by decide, _, rfl, Or.inl ⟨zq_138, zq_139, zq_140, zq_56⟩⟩ zf0) (zFc trivial trivial (zFc trivial trivial (zFc trivial (zfc (Or.inl ⟨rfl, rfl⟩) zf0) (zFc trivial trivial (zFc trivial trivial (zFc trivial (zfc ⟨(zfc rfl zf0), rfl, by decide, by decide, _, rfl, Or.inl ⟨zq_141, zq_142, zq_143, zq_56⟩⟩ zf0) (zFc trivial (zfc (Or.inl ⟨rfl, rfl⟩) zf0) zFn)))))))))))))))))))))))))))
set_option maxRecDepth 100000 in
theorem zt_31_0 : zFa 31 zk_31_0 := (zFc trivial trivial (zFc (zfc (zf_53 (zy 31) rfl) zf0) trivial (zFc trivial trivial (zFc (zfc (zf_54 (zy 31) rfl) zf0) trivial (zFc trivial trivial (zFc trivial trivial (zFc trivial trivial (zFc trivial trivial (zFc trivial trivial (zFc trivial trivial (zFc trivial trivial (zFc trivial trivial (zFc trivial (zfc (Or.inr ⟨rfl, rfl⟩) zf0) zFn)))))))))))))
set_option maxRecDepth 100000 in
theorem zt_32_0 : zFa 32 zk_32_0 := (zFc trivial trivial (zFc (zfc (zf_53 (zy 32) rfl) zf0) trivial (zFc trivial trivial (zFc trivial trivial (zFc trivial trivial (zFc (zfc (zf_53 (zy 32) rfl) zf0) trivial (zFc trivial trivial (zFc trivial trivial (zFc trivial trivial (zFc trivial trivial (zFc (zfc (zf_25 (zy 32) rfl) zf0) trivial (zFc trivial trivial (zFc trivial trivial (zFc trivial trivial (zFc trivial trivial (zFc trivial (zfc ⟨(zfc rfl zf0), rfl, by decide, by decide, _, rfl, Or.inr (Or.inr ⟨"CircuitNet$Channel", ⟨"CircuitNet$Circuit", "put", "(III)V"⟩, (zfc zq_144 (zfc zq_74 (zfc zq_75 (zfc zq_76 (zfc zq_48 zf0))))), Or.inl rfl, ⟨by decide, by decide⟩, rfl⟩)⟩ zf0) (zFc trivial trivial (zFc trivial (zfc (Or.inl ⟨rfl, rfl⟩) zf0) zFn))))))))))))))))))
set_option maxRecDepth 100000 in
theorem zt_33_0 : zFa 33 zk_33_0 := (zFc trivial trivial (zFc trivial trivial (zFc trivial trivial (zFc trivial (zfc ⟨(zfc rfl zf0), rfl, by decide, by decide, _, rfl, Or.inl ⟨zq_65, zq_66, zq_67, zq_5⟩⟩ zf0) (zFc trivial trivial (zFc trivial trivial (zFc trivial trivial (zFc trivial trivial (zFc (zfc (zf_21 (zy 33) rfl) zf0) trivial (zFc trivial trivial (zFc trivial trivial (zFc trivial trivial (zFc (zfc (zf_55 (zy 33) rfl) zf0) trivial (zFc trivial (zfc ⟨(zfc rfl zf0), rfl, by decide, by decide, _, rfl, Or.inl ⟨zq_146, zq_86, zq_87, zq_27⟩⟩ zf0) (zFc trivial trivial (zFc trivial trivial (zFc trivial (zfc (Or.inl ⟨rfl, rfl⟩) zf0) (zFc trivial trivial (zFc trivial (zfc ⟨(zfc rfl zf0), rfl, by decide, by decide, _, rfl, Or.inl ⟨zq_147, zq_148, zq_149, zq_56⟩⟩ zf0) (zFc trivial (zfc (Or.inl ⟨rfl, rfl⟩) zf0) zFn))))))))))))))))))))
set_option maxRecDepth 100000 in
theorem zt_34_0 : zFa 34 zk_34_0 := (zFc trivial trivial (zFc (zfc (zf_28 (zy 34) rfl) zf0) trivial (zFc trivial trivial (zFc trivial (zfc ⟨(zfc rfl zf0), rfl, by decide, by decide, _, rfl, Or.inl ⟨zq_150, zq_119, zq_120, zq_27⟩⟩ zf0) (zFc trivial trivial (zFc trivial trivial (zFc (zfc (zf_28 (zy 34) rfl) zf0) trivial (zFc trivial trivial (zFc trivial (zfc ⟨(zfc rfl zf0), rfl, by decide, by decide, _, rfl, Or.inl ⟨zq_88, zq_89, zq_90, zq_27⟩⟩ zf0) (zFc trivial trivial (zFc trivial trivial (zFc (zfc (zf_56 (zy 34) rfl) zf0) trivial (zFc trivial trivial (zFc trivial trivial (zFc trivial trivial (zFc trivial trivial (zFc (zfc (zf_27 (zy 34) rfl) zf0) trivial (zFc trivial trivial (zFc trivial trivial (zFc trivial trivial (zFc (zfc (zf_56 (zy 34) rfl) zf0) trivial (zFc trivial trivial (zFc trivial (zfc ⟨(zfc rfl zf0), rfl, by decide, by decide, _, rfl, Or.inr (Or.inr ⟨"CircuitNet$Channel", ⟨"CircuitNet$Circuit", "put", "(III)V"⟩, (zfc zq_144 (zfc zq_74 (zfc zq_75 (zfc zq_76 (zfc zq_48 zf0))))), Or.inl rfl, ⟨by decide, by decide⟩, rfl⟩)⟩ zf0) (zFc trivial trivial (zFc trivial (zfc (Or.inl ⟨rfl, rfl⟩) zf0) zFn)))))))))))))))))))))))))
set_option maxRecDepth 100000 in
theorem zt_35_0 : zFa 35 zk_35_0 := (zFc trivial trivial (zFc trivial trivial (zFc trivial trivial (zFc trivial (zfc ⟨(zfc rfl zf0), rfl, by decide, by decide, _, rfl, Or.inl ⟨zq_151, zq_152, zq_153, zq_5⟩⟩ zf0) (zFc trivial trivial (zFc trivial trivial (zFc trivial trivial (zFc trivial trivial (zFc (zfc (zf_57 (zy 35) rfl) zf0) trivial (zFc trivial (zfc ⟨(zfc rfl zf0), rfl, by decide, by decide, _, rfl, Or.inl ⟨zq_155, zq_156, zq_157, zq_15⟩⟩ zf0) (zFc trivial trivial (zFc trivial trivial (zFc trivial (zfc (Or.inr ⟨rfl, rfl⟩) zf0) (zFc trivial trivial (zFc (zfc (zf_57 (zy 35) rfl) zf0) trivial (zFc trivial trivial (zFc trivial trivial (zFc trivial (zfc ⟨(zfc rfl zf0), rfl, by decide, by decide, _, rfl, Or.inl ⟨zq_158, zq_159, zq_160, zq_15⟩⟩ zf0) (zFc trivial trivial (zFc trivial trivial (zFc (zfc (zf_57 (zy 35) rfl) zf0) trivial (zFc trivial trivial (zFc trivial trivial (zFc trivial (zfc ⟨(zfc rfl zf0), rfl, by decide, by decide, _, rfl, Or.inl ⟨zq_158, zq_159, zq_160, zq_15⟩⟩ zf0) (zFc trivial trivial (zFc trivial trivial (zFc (zfc (zf_57 (zy 35) rfl) zf0) trivial (zFc trivial trivial (zFc trivial trivial (zFc trivial (zfc ⟨(zfc rfl zf0), rfl, by decide, by decide, _, rfl, Or.inl ⟨zq_158, zq_159, zq_160, zq_15⟩⟩ zf0) (zFc trivial trivial (zFc trivial trivial (zFc (zfc (zf_57 (zy 35) rfl) zf0) trivial (zFc trivial trivial (zFc trivial trivial (zFc trivial (zfc ⟨(zfc rfl zf0), rfl, by decide, by decide, _, rfl, Or.inl ⟨zq_158, zq_159, zq_160, zq_15⟩⟩ zf0) (zFc trivial trivial (zFc trivial trivial (zFc (zfc (zf_57 (zy 35) rfl) zf0) trivial (zFc trivial trivial (zFc trivial trivial (zFc trivial (zfc ⟨(zfc rfl zf0), rfl, by decide, by decide, _, rfl, Or.inl ⟨zq_158, zq_159, zq_160, zq_15⟩⟩ zf0) (zFc trivial trivial (zFc trivial trivial (zFc (zfc (zf_57 (zy 35) rfl) zf0) trivial (zFc trivial (zfc ⟨(zfc rfl zf0), rfl, by decide, by decide, _, rfl, Or.inl ⟨zq_161, zq_162, zq_163, zq_15⟩⟩ zf0) (zFc trivial trivial (zFc trivial trivial (zFc trivial trivial (zFc trivial trivial (zFc trivial (zfc ⟨(zfc rfl zf0), rfl, by decide, by decide, _, rfl, Or.inl ⟨zq_164, zq_165, zq_166, zq_18⟩⟩ zf0) (zFc trivial trivial (zFc trivial trivial (zFc trivial trivial (zFc trivial trivial (zFc trivial trivial (zFc trivial trivial (zFc trivial (zfc ⟨(zfc rfl zf0), rfl, by decide, by decide, _, rfl, Or.inl ⟨zq_167, zq_168, zq_169, zq_18⟩⟩ zf0) (zFc trivial trivial (zFc trivial trivial (zFc (zfc (zf_20 (zy 35) rfl) zf0) trivial (zFc trivial trivial (zFc trivial trivial (zFc (zfc (zf_58 (zy 35) rfl) zf0) trivial (zFc trivial trivial (zFc trivial trivial (zFc trivial trivial (zFc trivial trivial (zFc trivial (zfc ⟨(zfc rfl zf0), rfl, by decide, by decide, _, rfl, Or.inl ⟨zq_171, zq_172, zq_173, zq_18⟩⟩ zf0) (zFc trivial trivial (zFc trivial trivial (zFc trivial trivial (zFc trivial trivial (zFc trivial trivial (zFc trivial (zfc ⟨(zfc rfl zf0), rfl, by decide, by decide, _, rfl, Or.inl ⟨zq_174, zq_175, zq_176, zq_18⟩⟩ zf0) (zFc trivial trivial (zFc trivial trivial (zFc trivial trivial (zFc trivial (zfc ⟨(zfc rfl zf0), rfl, by decide, by decide, _, rfl, Or.inl ⟨zq_177, zq_178, zq_179, zq_18⟩⟩ zf0) (zFc trivial trivial (zFc trivial trivial (zFc trivial trivial (zFc trivial trivial (zFc trivial trivial (zFc trivial trivial (zFc trivial (zfc (Or.inr (Or.inr ⟨by decide, by decide, rfl, by decide, zq_181, zq_103, Or.inl zq_180⟩)) zf0) (zFc trivial trivial (zFc trivial trivial (zFc trivial (zfc (Or.inr (Or.inr ⟨by decide, by decide, rfl, by decide, zq_181, zq_103, Or.inl zq_180⟩)) zf0) (zFc trivial trivial (zFc trivial trivial (zFc trivial (zfc (Or.inr (Or.inr ⟨by decide, by decide, rfl, by decide, zq_181, zq_103, Or.inl zq_180⟩)) zf0) (zFc trivial (zfc ⟨(zfc rfl (zfc rfl zf0)), rfl, by decide, by decide, _, rfl, Or.inr (Or.inr ⟨"CircuitNet$Channel", ⟨"CircuitNet$Channel", "arrive", "(III)V"⟩, (zfc zq_182 (zfc zq_183 (zfc zq_184 (zfc zq_185 (zfc zq_56 zf0))))), Or.inr zx_6, ⟨by decide, by decide⟩, rfl⟩)⟩ (zfc ⟨(zfc rfl (zfc rfl zf0)), rfl, by decide, by decide, _, rfl, Or.inr (Or.inr ⟨"CircuitNet$Channel", ⟨"CircuitNet$Channel", "arrive", "(III)V"⟩, (zfc zq_182 (zfc zq_183 (zfc zq_186 (zfc zq_187 (zfc zq_43 zf0))))), Or.inr zx_6, ⟨by decide, by decide⟩, rfl⟩)⟩ zf0)) (zFc trivial trivial (zFc trivial (zfc (Or.inr ⟨rfl, rfl⟩) zf0) zFn)))))))))))))))))))))))))))))))))))))))))))))))))))))))))))))))))))))))))))))))))))))))))))))))
set_option maxRecDepth 100000 in
theorem zt_36_0 : zFa 36 zk_36_0 := (zFc trivial trivial (zFc trivial trivial (zFc trivial trivial (zFc trivial trivial (zFc trivial trivial (zFc trivial trivial (zFc trivial trivial (zFc trivial trivial (zFc trivial trivial (zFc trivial trivial (zFc trivial trivial (zFc trivial (Or.inl ⟨_, rfl⟩) (zFc trivial trivial (zFc (zfc (zf_19 (zy 36) rfl) zf0) trivial (zFc trivial trivial (zFc trivial trivial (zFc trivial trivial (zFc trivial trivial (zFc trivial trivial (zFc trivial trivial (zFc trivial (Or.inl ⟨_, rfl⟩) zFn)))))))))))))))))))))
set_option maxRecDepth 100000 in
theorem zt_37_0 : zFa 37 zk_37_0 := (zFc trivial trivial (zFc (zfc (zf_47 (zy 37) rfl) zf0) trivial (zFc trivial (zfc (Or.inl ⟨rfl, rfl⟩) zf0) zFn)))
set_option maxRecDepth 100000 in
theorem zt_38_0 : zFa 38 zk_38_0 := (zFc trivial trivial (zFc trivial trivial (zFc trivial trivial (zFc trivial trivial (zFc (zfc (zf_47 (zy 38) rfl) zf0) trivial (zFc trivial trivial (zFc trivial trivial (zFc trivial trivial (zFc trivial trivial (zFc trivial trivial (zFc trivial trivial (zFc trivial trivial (zFc trivial (zfc (Or.inl ⟨rfl, rfl⟩) zf0) (zFc trivial trivial (zFc (zfc (zf_49 (zy 38) rfl) zf0) trivial (zFc trivial trivial (zFc (zfc (zf_48 (zy 38) rfl) zf0) trivial (zFc trivial trivial (zFc trivial trivial (zFc trivial trivial (zFc trivial trivial (zFc trivial trivial (zFc trivial trivial (zFc trivial trivial (zFc trivial trivial (zFc trivial trivial (zFc trivial (zfc (Or.inl ⟨rfl, rfl⟩) zf0) zFn)))))))))))))))))))))))))))
set_option maxRecDepth 100000 in
theorem zt_39_0 : zFa 39 zk_39_0 := (zFc trivial trivial (zFc (zfc (zf_47 (zy 39) rfl) zf0) trivial (zFc trivial trivial (zFc trivial trivial (zFc trivial trivial (zFc (zfc (zf_48 (zy 39) rfl) zf0) trivial (zFc trivial trivial (zFc trivial trivial (zFc trivial trivial (zFc trivial trivial (zFc (zfc (zf_59 (zy 39) rfl) zf0) trivial (zFc trivial trivial (zFc trivial trivial (zFc (zfc (zf_47 (zy 39) rfl) zf0) trivial (zFc trivial trivial (zFc trivial trivial (zFc (zfc (zf_50 (zy 39) rfl) zf0) trivial (zFc trivial rfl zFn))))))))))))))))))
set_option maxRecDepth 100000 in
theorem zt_40_0 : zFa 40 zk_40_0 := (zFc trivial trivial (zFc trivial trivial (zFc (zfc (zf_43 (zy 40) rfl) zf0) trivial (zFc trivial trivial (zFc trivial trivial (zFc trivial trivial (zFc (zfc (zf_60 (zy 40) rfl) zf0) trivial (zFc trivial trivial (zFc trivial (zfc ⟨(zfc rfl zf0), rfl, by decide, by decide, _, rfl, Or.inl ⟨zq_188, zq_189, zq_190, zq_18⟩⟩ zf0) (zFc trivial trivial (zFc trivial trivial (zFc (zfc (zf_5 (zy 40) rfl) zf0) trivial (zFc trivial trivial (zFc trivial trivial (zFc (zfc (zf_43 (zy 40) rfl) zf0) trivial (zFc trivial trivial (zFc trivial trivial (zFc (zfc (zf_42 (zy 40) rfl) zf0) trivial (zFc trivial trivial (zFc trivial trivial (zFc (zfc (zf_43 (zy 40) rfl) zf0) trivial (zFc trivial trivial (zFc trivial trivial (zFc trivial trivial (zFc trivial (zfc ⟨(zfc rfl zf0), rfl, by decide, by decide, _, rfl, Or.inl ⟨zq_121, zq_122, zq_123, zq_15⟩⟩ zf0) (zFc trivial rfl zFn))))))))))))))))))))))))))
set_option maxRecDepth 100000 in
theorem zt_41_0 : zFa 41 zk_41_0 := (zFc trivial trivial (zFc (zfc (zf_41 (zy 41) rfl) zf0) trivial (zFc trivial trivial (zFc (zfc (zf_41 (zy 41) rfl) zf0) trivial (zFc trivial (zfc ⟨(zfc rfl zf0), rfl, by decide, by decide, _, rfl, Or.inl ⟨zq_114, zq_86, zq_87, zq_27⟩⟩ zf0) (zFc trivial (zfc ⟨(zfc rfl zf0), rfl, by decide, by decide, _, rfl, Or.inl ⟨zq_191, zq_89, zq_90, zq_27⟩⟩ zf0) (zFc trivial trivial (zFc trivial trivial (zFc (zfc (zf_46 (zy 41) rfl) zf0) trivial (zFc trivial trivial (zFc trivial trivial (zFc (zfc (zf_61 (zy 41) rfl) zf0) trivial (zFc trivial trivial (zFc trivial trivial (zFc (zfc (zf_62 (zy 41) rfl) zf0) trivial (zFc trivial trivial (zFc trivial trivial (zFc (zfc (zf_63 (zy 41) rfl) zf0) trivial (zFc trivial trivial (zFc trivial trivial (zFc (zfc (zf_64 (zy 41) rfl) zf0) trivial (zFc trivial trivial (zFc trivial trivial (zFc trivial trivial (zFc trivial trivial (zFc trivial trivial (zFc trivial trivial (zFc (zfc (zf_65 (zy 41) rfl) zf0) trivial (zFc trivial trivial (zFc trivial trivial (zFc trivial (zfc ⟨(zfc rfl (zfc rfl zf0)), rfl, by decide, by decide, _, rfl, Or.inr (Or.inr ⟨"CircuitNet$Channel", ⟨"CircuitNet$Channel", "beLost", "()V"⟩, (zfc zq_194 (zfc zq_195 (zfc zq_196 (zfc zq_197 (zfc zq_56 zf0))))), Or.inr zx_7, ⟨by decide, by decide⟩, rfl⟩)⟩ (zfc ⟨(zfc rfl (zfc rfl zf0)), rfl, by decide, by decide, _, rfl, Or.inr (Or.inr ⟨"CircuitNet$Channel", ⟨"CircuitNet$Channel", "beLost", "()V"⟩, (zfc zq_194 (zfc zq_195 (zfc zq_198 (zfc zq_199 (zfc zq_43 zf0))))), Or.inr zx_7, ⟨by decide, by decide⟩, rfl⟩)⟩ zf0)) (zFc trivial trivial (zFc trivial trivial (zFc trivial rfl zFn))))))))))))))))))))))))))))))))))
set_option maxRecDepth 100000 in
theorem zt_42_0 : zFa 42 zk_42_0 := (zFc trivial trivial (zFc trivial trivial (zFc (zfc (zf_23 (zy 42) rfl) zf0) trivial (zFc trivial rfl zFn))))
set_option maxRecDepth 100000 in
theorem zt_43_0 : zFa 43 zk_43_0 := (zFc trivial trivial (zFc trivial (zfc ⟨(zfc rfl zf0), rfl, by decide, by decide, _, rfl, Or.inl ⟨zq_200, zq_201, zq_202, zq_43⟩⟩ zf0) (zFc trivial trivial (zFc trivial trivial (zFc trivial trivial (zFc trivial trivial (zFc trivial (zfc ⟨(zfc rfl zf0), rfl, by decide, by decide, _, rfl, Or.inr (Or.inr ⟨"CircuitNet$Channel", ⟨"CircuitNet$Joint", "startClearing", "()V"⟩, (zfc zq_203 (zfc zq_204 (zfc zq_205 (zfc zq_132 (zfc zq_48 zf0))))), Or.inl rfl, ⟨by decide, by decide⟩, rfl⟩)⟩ zf0) (zFc trivial rfl zFn))))))))
set_option maxRecDepth 100000 in
theorem zt_44_0 : zFa 44 zk_44_0 := (zFc trivial trivial (zFc (zfc (zf_66 (zy 44) rfl) zf0) trivial (zFc trivial trivial (zFc trivial trivial (zFc trivial trivial (zFc (zfc (zf_67 (zy 44) rfl) zf0) trivial (zFc trivial trivial (zFc trivial trivial (zFc trivial trivial (zFc trivial trivial (zFc trivial trivial (zFc (zfc (zf_68 (zy 44) rfl) zf0) trivial (zFc trivial trivial (zFc trivial trivial (zFc (zfc (zf_69 (zy 44) rfl) zf0) trivial (zFc trivial trivial (zFc trivial (Or.inl ⟨_, rfl⟩) zFn)))))))))))))))))
set_option maxRecDepth 100000 in
theorem zt_45_0 : zFa 45 zk_45_0 := (zFc trivial trivial (zFc trivial trivial (zFc (zfc (zf_43 (zy 45) rfl) zf0) trivial (zFc trivial trivial (zFc trivial trivial (zFc (zfc (zf_40 (zy 45) rfl) zf0) trivial (zFc trivial trivial (zFc trivial trivial (zFc trivial trivial (zFc (zfc (zf_5 (zy 45) rfl) zf0) trivial (zFc trivial trivial (zFc trivial trivial (zFc (zfc (zf_63 (zy 45) rfl) zf0) trivial (zFc trivial trivial (zFc trivial trivial (zFc (zfc (zf_64 (zy 45) rfl) zf0) trivial (zFc trivial trivial (zFc trivial (zfc ⟨(zfc rfl zf0), rfl, by decide, by decide, _, rfl, Or.inl ⟨zq_209, zq_108, zq_109, zq_18⟩⟩ zf0) (zFc trivial rfl zFn)))))))))))))))))))
set_option maxRecDepth 100000 in
theorem zt_46_0 : zFa 46 zk_46_0 := (zFc trivial trivial (zFc trivial trivial (zFc (zfc (zf_44 (zy 46) rfl) zf0) trivial (zFc trivial trivial (zFc trivial trivial (zFc trivial trivial (zFc trivial trivial (zFc trivial trivial (zFc trivial trivial (zFc (zfc (zf_39 (zy 46) rfl) zf0) trivial (zFc trivial trivial (zFc trivial rfl (zFc trivial trivial (zFc trivial trivial (zFc trivial trivial (zFc (zfc (zf_41 (zy 46) rfl) zf0) trivial (zFc trivial trivial (zFc trivial (zfc ⟨(zfc rfl zf0), rfl, by decide, by decide, _, rfl, Or.inl ⟨zq_191, zq_89, zq_90, zq_27⟩⟩ zf0) (zFc trivial trivial (zFc trivial trivial (zFc (zfc (zf_39 (zy 46) rfl) zf0) trivial (zFc trivial trivial (zFc trivial trivial (zFc (zfc (zf_46 (zy 46) rfl) zf0) trivial (zFc trivial trivial (zFc trivial trivial (zFc (zfc (zf_44 (zy 46) rfl) zf0) trivial (zFc trivial trivial (zFc trivial trivial (zFc trivial trivial (zFc trivial trivial (zFc (zfc (zf_61 (zy 46) rfl) zf0) trivial (zFc trivial trivial (zFc trivial trivial (zFc (zfc (zf_63 (zy 46) rfl) zf0) trivial (zFc trivial trivial (zFc trivial trivial (zFc (zfc (zf_64 (zy 46) rfl) zf0) trivial (zFc trivial trivial (zFc trivial (zfc ⟨(zfc rfl zf0), rfl, by decide, by decide, _, rfl, Or.inl ⟨zq_209, zq_108, zq_109, zq_18⟩⟩ zf0) (zFc trivial rfl zFn)))))))))))))))))))))))))))))))))))))))))
set_option maxRecDepth 100000 in
theorem zt_47_0 : zFa 47 zk_47_0 := (zFc trivial trivial (zFc trivial trivial (zFc (zfc (zf_45 (zy 47) rfl) zf0) trivial (zFc trivial trivial (zFc trivial trivial (zFc trivial trivial (zFc trivial trivial (zFc trivial trivial (zFc trivial trivial (zFc trivial trivial (zFc trivial trivial (zFc trivial trivial (zFc (zfc (zf_45 (zy 47) rfl) zf0) trivial (zFc trivial trivial (zFc trivial trivial (zFc trivial trivial (zFc trivial trivial (zFc (zfc (zf_62 (zy 47) rfl) zf0) trivial (zFc trivial trivial (zFc (zfc (zf_42 (zy 47) rfl) zf0) trivial (zFc trivial trivial (zFc trivial trivial (zFc (zfc (zf_43 (zy 47) rfl) zf0) trivial (zFc trivial trivial (zFc trivial trivial (zFc (zfc (zf_45 (zy 47) rfl) zf0) trivial (zFc trivial trivial (zFc trivial (zfc ⟨(zfc rfl zf0), rfl, by decide, by decide, _, rfl, Or.inl ⟨zq_121, zq_122, zq_123, zq_15⟩⟩ zf0) (zFc trivial trivial (zFc trivial (zfc (Or.inr ⟨rfl, rfl⟩) zf0) zFn))))))))))))))))))))))))))))))
set_option maxRecDepth 100000 in
theorem zt_48_0 : zFa 48 zk_48_0 := (zFc trivial trivial (zFc trivial trivial (zFc trivial (zfc (Or.inr (Or.inr ⟨by decide, by decide, rfl, by decide, zq_181, zq_103, Or.inl zq_210⟩)) zf0) (zFc trivial trivial (zFc trivial trivial (zFc trivial trivial (zFc trivial trivial (zFc trivial trivial (zFc trivial trivial (zFc trivial trivial (zFc trivial trivial (zFc trivial trivial (zFc trivial trivial (zFc (zfc (zf_65 (zy 48) rfl) zf0) trivial (zFc trivial trivial (zFc trivial trivial (zFc trivial trivial (zFc trivial trivial (zFc trivial (Or.inl ⟨_, rfl⟩) zFn)))))))))))))))))))
set_option maxRecDepth 100000 in
theorem zt_49_0 : zFa 49 zk_49_0 := (zFc trivial trivial (zFc trivial trivial (zFc trivial trivial (zFc trivial trivial (zFc trivial trivial (zFc trivial (zfc (Or.inl ⟨rfl, rfl⟩) zf0) (zFc trivial trivial (zFc trivial trivial (zFc trivial trivial (zFc trivial trivial (zFc trivial trivial (zFc trivial (zfc (Or.inl ⟨rfl, rfl⟩) zf0) (zFc trivial trivial (zFc trivial trivial (zFc trivial trivial (zFc trivial trivial (zFc trivial trivial (zFc trivial (zfc (Or.inl ⟨rfl, rfl⟩) zf0) (zFc trivial trivial (zFc trivial trivial (zFc trivial trivial (zFc trivial (zfc (Or.inl ⟨rfl, rfl⟩) zf0) (zFc trivial trivial (zFc trivial (zfc (Or.inl ⟨rfl, rfl⟩) zf0) zFn))))))))))))))))))))))))
set_option maxRecDepth 100000 in
theorem zt_50_0 : zFa 50 zk_50_0 := (zFc trivial trivial (zFc trivial trivial (zFc trivial trivial (zFc (zfc (zf_52 (zy 50) rfl) zf0) trivial (zFc trivial trivial (zFc trivial trivial (zFc trivial trivial (zFc trivial trivial (zFc trivial (zfc ⟨(zfc rfl zf0), rfl, by decide, by decide, _, rfl, Or.inl ⟨zq_211, zq_71, zq_72, zq_56⟩⟩ zf0) (zFc trivial trivial (zFc trivial trivial (zFc trivial trivial (zFc trivial trivial (zFc trivial (zfc ⟨(zfc rfl zf0), rfl, by decide, by decide, _, rfl, Or.inl ⟨zq_212, zq_213, zq_214, zq_56⟩⟩ zf0) (zFc trivial trivial (zFc trivial trivial (zFc trivial (zfc ⟨(zfc rfl zf0), rfl, by decide, by decide, _, rfl, Or.inl ⟨zq_215, zq_216, zq_217, zq_56⟩⟩ zf0) (zFc trivial trivial (zFc trivial trivial (zFc trivial trivial (zFc trivial trivial (zFc trivial (zfc ⟨(zfc rfl zf0), rfl, by decide, by decide, _, rfl, Or.inl ⟨zq_212, zq_213, zq_214, zq_56⟩⟩ zf0) (zFc trivial trivial (zFc trivial trivial (zFc (zfc (zf_52 (zy 50) rfl) zf0) trivial (zFc trivial trivial (zFc trivial trivial (zFc trivial trivial (zFc (zfc (zf_28 (zy 50) rfl) zf0) trivial (zFc trivial trivial (zFc trivial (zfc ⟨(zfc rfl zf0), rfl, by decide, by decide, _, rfl, Or.inl ⟨zq_218, zq_105, zq_106, zq_27⟩⟩ zf0) (zFc trivial trivial (zFc trivial trivial (zFc (zfc (zf_52 (zy 50) rfl) zf0) trivial (zFc trivial trivial (zFc trivial trivial (zFc trivial trivial (zFc trivial trivial (zFc (zfc (zf_26 (zy 50) rfl) zf0) trivial (zFc trivial trivial (zFc trivial trivial (zFc trivial (zfc ⟨(zfc rfl zf0), rfl, by decide, by decide, _, rfl, Or.inl ⟨zq_219, zq_220, zq_221, zq_56⟩⟩ zf0) (zFc trivial trivial (zFc trivial trivial (zFc trivial trivial (zFc trivial trivial (zFc trivial (zfc ⟨(zfc rfl zf0), rfl, by decide, by decide, _, rfl, Or.inl ⟨zq_212, zq_213, zq_214, zq_56⟩⟩ zf0) (zFc trivial trivial (zFc trivial rfl zFn)))))))))))))))))))))))))))))))))))))))))))))))))
set_option maxRecDepth 100000 in
theorem zt_51_0 : zFa 51 zk_51_0 := (zFc trivial trivial (zFc (zfc (zf_52 (zy 51) rfl) zf0) trivial (zFc trivial trivial (zFc trivial trivial (zFc trivial trivial (zFc trivial trivial (zFc (zfc (zf_23 (zy 51) rfl) zf0) trivial (zFc trivial rfl zFn))))))))
set_option maxRecDepth 100000 in
theorem zt_52_0 : zFa 52 zk_52_0 := (zFc trivial trivial (zFc (zfc (zf_52 (zy 52) rfl) zf0) trivial (zFc trivial trivial (zFc trivial trivial (zFc trivial trivial (zFc trivial trivial (zFc trivial trivial (zFc trivial trivial (zFc trivial trivial (zFc trivial trivial (zFc (zfc (zf_23 (zy 52) rfl) zf0) trivial (zFc trivial trivial (zFc trivial trivial (zFc trivial trivial (zFc trivial trivial (zFc trivial trivial (zFc trivial trivial (zFc trivial (zfc ⟨(zfc rfl zf0), rfl, by decide, by decide, _, rfl, Or.inr (Or.inr ⟨"CircuitNet$Channel", ⟨"CircuitNet$Circuit", "put", "(III)V"⟩, (zfc zq_144 (zfc zq_74 (zfc zq_75 (zfc zq_76 (zfc zq_48 zf0))))), Or.inl rfl, ⟨by decide, by decide⟩, rfl⟩)⟩ zf0) (zFc trivial rfl zFn)))))))))))))))))))
set_option maxRecDepth 100000 in
theorem zt_53_0 : zFa 53 zk_53_0 := (zFc trivial trivial (zFc (zfc (zf_52 (zy 53) rfl) zf0) trivial (zFc trivial trivial (zFc trivial trivial (zFc trivial trivial (zFc trivial (zfc ⟨(zfc rfl zf0), rfl, by decide, by decide, _, rfl, Or.inl ⟨zq_79, zq_80, zq_81, zq_56⟩⟩ zf0) (zFc trivial trivial (zFc trivial trivial (zFc trivial trivial (zFc trivial trivial (zFc trivial (zfc ⟨(zfc rfl zf0), rfl, by decide, by decide, _, rfl, Or.inr (Or.inr ⟨"CircuitNet$Channel", ⟨"CircuitNet$Circuit", "put", "(III)V"⟩, (zfc zq_144 (zfc zq_74 (zfc zq_75 (zfc zq_76 (zfc zq_48 zf0))))), Or.inl rfl, ⟨by decide, by decide⟩, rfl⟩)⟩ zf0) (zFc trivial trivial (zFc trivial trivial (zFc trivial trivial (zFc trivial trivial (zFc trivial (zfc ⟨(zfc rfl zf0), rfl, by decide, by decide, _, rfl, Or.inl ⟨zq_212, zq_213, zq_214, zq_56⟩⟩ zf0) (zFc trivial rfl zFn)))))))))))))))))
set_option maxRecDepth 100000 in
theorem zt_54_0 : zFa 54 zk_54_0 := (zFc trivial trivial (zFc (zfc (zf_70 (zy 54) rfl) zf0) trivial (zFc trivial trivial (zFc trivial trivial (zFc (zfc (zf_71 (zy 54) rfl) zf0) trivial (zFc (zfc (zf_72 (zy 54) rfl) zf0) trivial (zFc trivial trivial (zFc trivial trivial (zFc trivial trivial (zFc trivial trivial (zFc trivial trivial (zFc trivial trivial (zFc trivial trivial (zFc (zfc (zf_73 (zy 54) rfl) zf0) trivial (zFc trivial trivial (zFc trivial trivial (zFc trivial trivial (zFc trivial trivial (zFc trivial trivial (zFc trivial trivial (zFc trivial (zfc ⟨(zfc rfl zf0), rfl, by decide, by decide, _, rfl, Or.inl ⟨zq_226, zq_227, zq_228, zq_43⟩⟩ zf0) (zFc trivial trivial (zFc trivial trivial (zFc trivial (zfc ⟨(zfc rfl zf0), rfl, by decide, by decide, _, rfl, Or.inl ⟨zq_229, zq_230, zq_231, zq_43⟩⟩ zf0) (zFc trivial trivial (zFc trivial trivial (zFc (zfc (zf_66 (zy 54) rfl) zf0) trivial (zFc trivial trivial (zFc trivial trivial (zFc trivial trivial (zFc trivial trivial (zFc (zfc (zf_68 (zy 54) rfl) zf0) trivial (zFc trivial trivial (zFc trivial trivial (zFc (zfc (zf_66 (zy 54) rfl) zf0) trivial (zFc trivial trivial (zFc trivial trivial (zFc trivial trivial (zFc (zfc (zf_67 (zy 54) rfl) zf0) trivial (zFc trivial trivial (zFc trivial trivial (zFc (zfc (zf_67 (zy 54) rfl) zf0) trivial (zFc trivial trivial (zFc trivial trivial (zFc trivial trivial (zFc trivial (zfc ⟨(zfc rfl zf0), rfl, by decide, by decide, _, rfl, Or.inr (Or.inr ⟨"CircuitNet$Channel", ⟨"CircuitNet$Joint", "put", "(III)V"⟩, (zfc zq_232 (zfc zq_233 (zfc zq_234 (zfc zq_76 (zfc zq_48 zf0))))), Or.inl rfl, ⟨by decide, by decide⟩, rfl⟩)⟩ zf0) (zFc trivial rfl zFn)))))))))))))))))))))))))))))))))))))))))))))))
set_option maxRecDepth 100000 in
theorem zt_55_0 : zFa 55 zk_55_0 := (zFc trivial trivial (zFc (zfc (zf_66 (zy 55) rfl) zf0) trivial (zFc trivial trivial (zFc trivial trivial (zFc trivial trivial (zFc trivial trivial (zFc trivial trivial (zFc trivial (zfc ⟨(zfc rfl zf0), rfl, by decide, by decide, _, rfl, Or.inl ⟨zq_200, zq_201, zq_202, zq_43⟩⟩ zf0) (zFc trivial trivial (zFc trivial trivial (zFc trivial trivial (zFc trivial trivial (zFc trivial (zfc ⟨(zfc rfl zf0), rfl, by decide, by decide, _, rfl, Or.inr (Or.inr ⟨"CircuitNet$Channel", ⟨"CircuitNet$Joint", "startClearing", "()V"⟩, (zfc zq_203 (zfc zq_204 (zfc zq_205 (zfc zq_132 (zfc zq_48 zf0))))), Or.inl rfl, ⟨by decide, by decide⟩, rfl⟩)⟩ zf0) (zFc trivial trivial (zFc (zfc (zf_66 (zy 55) rfl) zf0) trivial (zFc trivial trivial (zFc trivial trivial (zFc trivial trivial (zFc trivial trivial (zFc trivial (zfc ⟨(zfc rfl zf0), rfl, by decide, by decide, _, rfl, Or.inl ⟨zq_235, zq_236, zq_237, zq_43⟩⟩ zf0) (zFc trivial rfl zFn)))))))))))))))))))))
set_option maxRecDepth 100000 in
theorem zt_56_0 : zFa 56 zk_56_0 := (zFc trivial trivial (zFc trivial trivial (zFc trivial (zfc ⟨(zfc rfl zf0), rfl, by decide, by decide, _, rfl, Or.inl ⟨zq_238, zq_239, zq_240, zq_43⟩⟩ zf0) (zFc trivial trivial (zFc trivial trivial (zFc trivial trivial (zFc trivial trivial (zFc trivial (zfc ⟨(zfc rfl zf0), rfl, by decide, by decide, _, rfl, Or.inr (Or.inr ⟨"CircuitNet$Channel", ⟨"CircuitNet$Joint", "startClearing", "()V"⟩, (zfc zq_203 (zfc zq_204 (zfc zq_205 (zfc zq_132 (zfc zq_48 zf0))))), Or.inl rfl, ⟨by decide, by decide⟩, rfl⟩)⟩ zf0) (zFc trivial rfl (zFc trivial trivial (zFc trivial trivial (zFc trivial (zfc ⟨(zfc rfl zf0), rfl, by decide, by decide, _, rfl, Or.inl ⟨zq_241, zq_242, zq_243, zq_43⟩⟩ zf0) (zFc trivial trivial (zFc trivial trivial (zFc trivial (zfc ⟨(zfc rfl zf0), rfl, by decide, by decide, _, rfl, Or.inl ⟨zq_241, zq_242, zq_243, zq_43⟩⟩ zf0) (zFc trivial trivial (zFc trivial trivial (zFc (zfc (zf_73 (zy 56) rfl) zf0) trivial (zFc trivial trivial (zFc trivial trivial (zFc trivial trivial (zFc trivial trivial (zFc trivial (zfc ⟨(zfc rfl zf0), rfl, by decide, by decide, _, rfl, Or.inr (Or.inr ⟨"CircuitNet$Channel", ⟨"CircuitNet$Joint", "put", "(III)V"⟩, (zfc zq_232 (zfc zq_233 (zfc zq_234 (zfc zq_76 (zfc zq_48 zf0))))), Or.inl rfl, ⟨by decide, by decide⟩, rfl⟩)⟩ zf0) (zFc trivial rfl zFn))))))))))))))))))))))))
set_option maxRecDepth 100000 in
theorem zt_57_0 : zFa 57 zk_57_0 := (zFc trivial trivial (zFc trivial trivial (zFc trivial trivial (zFc trivial trivial (zFc (zfc (zf_74 (zy 57) rfl) zf0) trivial (zFc trivial trivial (zFc trivial trivial (zFc trivial trivial (zFc trivial (Or.inl ⟨_, rfl⟩) (zFc trivial trivial (zFc (zfc (zf_74 (zy 57) rfl) zf0) trivial (zFc trivial trivial (zFc trivial trivial (zFc trivial trivial (zFc trivial trivial (zFc trivial trivial (zFc trivial trivial (zFc trivial trivial (zFc (zfc (zf_71 (zy 57) rfl) zf0) trivial (zFc trivial trivial (zFc trivial trivial (zFc (zfc (zf_75 (zy 57) rfl) zf0) trivial (zFc trivial trivial (zFc trivial trivial (zFc trivial (Or.inl ⟨_, rfl⟩) (zFc trivial trivial (zFc trivial trivial (zFc trivial trivial (zFc trivial trivial (zFc trivial trivial (zFc trivial trivial (zFc (zfc (zf_76 (zy 57) rfl) zf0) trivial (zFc trivial trivial (zFc (zfc (zf_72 (zy 57) rfl) zf0) trivial (zFc trivial trivial (zFc trivial trivial (zFc trivial trivial (zFc trivial trivial (zFc trivial trivial (zFc trivial trivial (zFc trivial trivial (zFc trivial trivial (zFc trivial trivial (zFc (zfc ⟨rfl, by decide, _, rfl, zq_246⟩ zf0) trivial (zFc trivial trivial (zFc trivial trivial (zFc (zfc ⟨rfl, by decide, _, rfl, zq_246⟩ zf0) trivial (zFc trivial trivial (zFc trivial trivial (zFc (zfc (zf_66 (zy 57) rfl) zf0) trivial (zFc trivial trivial (zFc trivial trivial (zFc trivial (Or.inl ⟨_, rfl⟩) (zFc trivial trivial (zFc trivial trivial (zFc trivial trivial (zFc trivial (Or.inl ⟨_, rfl⟩) zFn)))))))))))))))))))))))))))))))))))))))))))))))))))))))))
set_option maxRecDepth 100000 in
theorem zt_58_0 : zFa 58 zk_58_0 := (zFc trivial trivial (zFc trivial trivial (zFc (zfc (zf_68 (zy 58) rfl) zf0) trivial (zFc trivial trivial (zFc trivial trivial (zFc (zfc (zf_69 (zy 58) rfl) zf0) trivial (zFc trivial trivial (zFc trivial trivial (zFc (zfc (zf_73 (zy 58) rfl) zf0) trivial (zFc trivial rfl zFn))))))))))
set_option maxRecDepth 100000 in
theorem zt_59_0 : zFa 59 zk_59_0 := (zFc trivial trivial (zFc (zfc (zf_66 (zy 59) rfl) zf0) trivial (zFc trivial trivial (zFc trivial trivial (zFc trivial trivial (zFc trivial trivial (zFc trivial trivial (zFc trivial trivial (zFc trivial trivial (zFc trivial (zfc ⟨(zfc rfl zf0), rfl, by decide, by decide, _, rfl, Or.inl ⟨zq_200, zq_201, zq_202, zq_43⟩⟩ zf0) (zFc trivial trivial (zFc trivial trivial (zFc trivial trivial (zFc trivial trivial (zFc trivial trivial (zFc trivial trivial (zFc trivial trivial (zFc trivial (zfc ⟨(zfc rfl zf0), rfl, by decide, by decide, _, rfl, Or.inr (Or.inr ⟨"CircuitNet$Channel", ⟨"CircuitNet$Joint", "put", "(III)V"⟩, (zfc zq_232 (zfc zq_233 (zfc zq_234 (zfc zq_76 (zfc zq_48 zf0))))), Or.inl rfl, ⟨by decide, by decide⟩, rfl⟩)⟩ zf0) (zFc trivial trivial (zFc trivial trivial (zFc trivial trivial (zFc trivial (zfc ⟨(zfc rfl zf0), rfl, by decide, by decide, _, rfl, Or.inr (Or.inr ⟨"CircuitNet$Channel", ⟨"CircuitNet$Joint", "startClearing", "()V"⟩, (zfc zq_203 (zfc zq_204 (zfc zq_205 (zfc zq_132 (zfc zq_48 zf0))))), Or.inl rfl, ⟨by decide, by decide⟩, rfl⟩)⟩ zf0) (zFc trivial rfl zFn)))))))))))))))))))))))
set_option maxRecDepth 100000 in
theorem zt_60_0 : zFa 60 zk_60_0 := (zFc trivial trivial (zFc trivial trivial (zFc trivial trivial (zFc trivial (zfc ⟨(zfc rfl zf0), rfl, by decide, by decide, _, rfl, Or.inl ⟨zq_151, zq_152, zq_153, zq_5⟩⟩ zf0) (zFc trivial trivial (zFc trivial trivial (zFc trivial trivial (zFc trivial trivial (zFc (zfc (zf_57 (zy 60) rfl) zf0) trivial (zFc trivial (zfc ⟨(zfc rfl zf0), rfl, by decide, by decide, _, rfl, Or.inl ⟨zq_155, zq_156, zq_157, zq_15⟩⟩ zf0) (zFc trivial trivial (zFc trivial trivial (zFc trivial (zfc (Or.inr ⟨rfl, rfl⟩) zf0) (zFc trivial trivial (zFc (zfc (zf_57 (zy 60) rfl) zf0) trivial (zFc trivial (zfc ⟨(zfc rfl zf0), rfl, by decide, by decide, _, rfl, Or.inl ⟨zq_161, zq_162, zq_163, zq_15⟩⟩ zf0) (zFc trivial trivial (zFc trivial (zfc (Or.inr ⟨rfl, rfl⟩) zf0) zFn))))))))))))))))))
set_option maxRecDepth 100000 in
theorem zt_61_0 : zFa 61 zk_61_0 := (zFc trivial trivial (zFc trivial trivial (zFc trivial trivial (zFc trivial trivial (zFc trivial trivial (zFc trivial trivial (zFc trivial trivial (zFc trivial (zfc (Or.inr ⟨rfl, rfl⟩) zf0) (zFc trivial trivial (zFc trivial trivial (zFc trivial trivial (zFc trivial trivial (zFc trivial trivial (zFc trivial trivial (zFc trivial trivial (zFc trivial trivial (zFc trivial trivial (zFc (zfc (zf_19 (zy 61) rfl) zf0) trivial (zFc trivial trivial (zFc trivial trivial (zFc trivial trivial (zFc (zfc (zf_19 (zy 61) rfl) zf0) trivial (zFc trivial trivial (zFc trivial trivial (zFc trivial (zfc ⟨(zfc rfl zf0), rfl, by decide, by decide, _, rfl, Or.inl ⟨zq_247, zq_248, zq_249, zq_18⟩⟩ zf0) (zFc trivial trivial (zFc trivial trivial (zFc trivial trivial (zFc trivial trivial (zFc trivial trivial (zFc trivial (zfc (Or.inr ⟨rfl, rfl⟩) zf0) zFn)))))))))))))))))))))))))))))))
set_option maxRecDepth 100000 in
theorem zt_62_0 : zFa 62 zk_62_0 := (zFc trivial trivial (zFc (zfc (zf_40 (zy 62) rfl) zf0) trivial (zFc trivial trivial (zFc trivial trivial (zFc (zfc (zf_39 (zy 62) rfl) zf0) trivial (zFc trivial trivial (zFc trivial rfl (zFc trivial trivial (zFc trivial trivial (zFc (zfc (zf_77 (zy 62) rfl) zf0) trivial (zFc trivial trivial (zFc trivial trivial (zFc (zfc (zf_64 (zy 62) rfl) zf0) trivial (zFc trivial trivial (zFc (zfc (zf_77 (zy 62) rfl) zf0) trivial (zFc trivial trivial (zFc trivial trivial (zFc trivial rfl (zFc trivial trivial (zFc trivial trivial (zFc (zfc (zf_64 (zy 62) rfl) zf0) trivial (zFc trivial trivial (zFc (zfc (zf_40 (zy 62) rfl) zf0) trivial (zFc trivial trivial (zFc trivial trivial (zFc (zfc (zf_78 (zy 62) rfl) zf0) trivial (zFc trivial trivial (zFc trivial trivial (zFc trivial trivial (zFc trivial trivial (zFc (zfc (zf_78 (zy 62) rfl) zf0) trivial (zFc trivial trivial (zFc trivial trivial (zFc (zfc (zf_63 (zy 62) rfl) zf0) trivial (zFc trivial trivial (zFc trivial (zfc ⟨(zfc rfl zf0), rfl, by decide, by decide, _, rfl, Or.inl ⟨zq_250, zq_251, zq_252, zq_18⟩⟩ zf0) (zFc trivial rfl (zFc trivial trivial (zFc (zfc (zf_40 (zy 62) rfl) zf0) trivial (zFc trivial trivial (zFc trivial trivial (zFc trivial trivial (zFc (zfc (zf_43 (zy 62) rfl) zf0) trivial (zFc trivial trivial (zFc trivial trivial (zFc (zfc (zf_60 (zy 62) rfl) zf0) trivial (zFc trivial trivial (zFc trivial (zfc ⟨(zfc rfl zf0), rfl, by decide, by decide, _, rfl, Or.inl ⟨zq_188, zq_189, zq_190, zq_18⟩⟩ zf0) (zFc trivial trivial (zFc trivial trivial (zFc (zfc (zf_5 (zy 62) rfl) zf0) trivial (zFc trivial trivial (zFc (zfc (zf_42 (zy 62) rfl) zf0) trivial (zFc trivial trivial (zFc trivial trivial (zFc (zfc (zf_43 (zy 62) rfl) zf0) trivial (zFc trivial trivial (zFc trivial trivial (zFc trivial trivial (zFc trivial (zfc ⟨(zfc rfl zf0), rfl, by decide, by decide, _, rfl, Or.inl ⟨zq_121, zq_122, zq_123, zq_15⟩⟩ zf0) (zFc trivial rfl zFn)))))))))))))))))))))))))))))))))))))))))))))))))))))))))))))
set_option maxRecDepth 100000 in
theorem zt_63_0 : zFa 63 zk_63_0 := (zFc trivial trivial (zFc trivial trivial (zFc trivial trivial (zFc trivial trivial (zFc (zfc (zf_39 (zy 63) rfl) zf0) trivial (zFc trivial trivial (zFc trivial trivial (zFc (zfc (zf_42 (zy 63) rfl) zf0) trivial (zFc trivial trivial (zFc trivial trivial (zFc (zfc (zf_43 (zy 63) rfl) zf0) trivial (zFc trivial trivial (zFc (zfc (zf_44 (zy 63) rfl) zf0) trivial (zFc trivial trivial (zFc trivial trivial (zFc trivial trivial (zFc trivial trivial (zFc trivial trivial (zFc (zfc (zf_45 (zy 63) rfl) zf0) trivial (zFc trivial trivial (zFc (zfc (zf_41 (zy 63) rfl) zf0) trivial (zFc trivial trivial (zFc trivial (zfc ⟨(zfc rfl zf0), rfl, by decide, by decide, _, rfl, Or.inl ⟨zq_118, zq_119, zq_120, zq_27⟩⟩ zf0) (zFc trivial (zfc ⟨(zfc rfl zf0), rfl, by decide, by decide, _, rfl, Or.inl ⟨zq_121, zq_122, zq_123, zq_15⟩⟩ zf0) (zFc trivial trivial (zFc trivial trivial (zFc trivial rfl zFn)))))))))))))))))))))))))))
set_option maxRecDepth 100000 in
theorem zt_64_0 : zFa 64 zk_64_0 := (zFc trivial trivial (zFc trivial trivial (zFc trivial trivial (zFc trivial (zfc ⟨(zfc rfl zf0), rfl, by decide, by decide, _, rfl, Or.inl ⟨zq_65, zq_66, zq_67, zq_5⟩⟩ zf0) (zFc trivial trivial (zFc trivial trivial (zFc trivial trivial (zFc trivial trivial (zFc trivial trivial (zFc trivial trivial (zFc (zfc (zf_21 (zy 64) rfl) zf0) trivial (zFc trivial (zfc (Or.inl ⟨rfl, rfl⟩) zf0) zFn))))))))))))
set_option maxRecDepth 100000 in
theorem zt_65_0 : zFa 65 zk_65_0 := (zFc trivial trivial (zFc trivial trivial (zFc trivial trivial (zFc trivial (zfc ⟨(zfc rfl zf0), rfl, by decide, by decide, _, rfl, Or.inl ⟨zq_65, zq_66, zq_67, zq_5⟩⟩ zf0) (zFc trivial trivial (zFc trivial trivial (zFc trivial trivial (zFc trivial trivial (zFc trivial (zfc ⟨(zfc rfl zf0), rfl, by decide, by decide, _, rfl, Or.inl ⟨zq_126, zq_127, zq_128, zq_56⟩⟩ zf0) (zFc trivial trivial (zFc trivial trivial (zFc trivial trivial (zFc trivial trivial (zFc (zfc (zf_79 (zy 65) rfl) zf0) trivial (zFc trivial (zfc (Or.inl ⟨rfl, rfl⟩) zf0) zFn)))))))))))))))
set_option maxRecDepth 100000 in
theorem zt_66_0 : zFa 66 zk_66_0 := (zFc trivial trivial (zFc trivial trivial (zFc trivial trivial (zFc trivial (zfc ⟨(zfc rfl zf0), rfl, by decide, by decide, _, rfl, Or.inl ⟨zq_65, zq_66, zq_67, zq_5⟩⟩ zf0) (zFc trivial trivial (zFc trivial trivial (zFc trivial trivial (zFc trivial trivial (zFc trivial (zfc (Or.inl ⟨rfl, rfl⟩) zf0) (zFc trivial trivial (zFc (zfc (zf_21 (zy 66) rfl) zf0) trivial (zFc trivial trivial (zFc trivial trivial (zFc trivial trivial (zFc (zfc (zf_55 (zy 66) rfl) zf0) trivial (zFc trivial (zfc ⟨(zfc rfl zf0), rfl, by decide, by decide, _, rfl, Or.inl ⟨zq_146, zq_86, zq_87, zq_27⟩⟩ zf0) (zFc trivial trivial (zFc trivial trivial (zFc trivial (zfc (Or.inl ⟨rfl, rfl⟩) zf0) zFn)))))))))))))))))))
set_option maxRecDepth 100000 in
theorem zt_67_0 : zFa 67 zk_67_0 := (zFc trivial trivial (zFc trivial trivial (zFc trivial trivial (zFc trivial (zfc ⟨(zfc rfl zf0), rfl, by decide, by decide, _, rfl, Or.inl ⟨zq_151, zq_152, zq_153, zq_5⟩⟩ zf0) (zFc trivial trivial (zFc trivial trivial (zFc trivial trivial (zFc trivial trivial (zFc trivial trivial (zFc trivial trivial (zFc (zfc (zf_57 (zy 67) rfl) zf0) trivial (zFc trivial (zfc ⟨(zfc rfl zf0), rfl, by decide, by decide, _, rfl, Or.inl ⟨zq_155, zq_156, zq_157, zq_15⟩⟩ zf0) (zFc trivial (zfc (Or.inl ⟨rfl, rfl⟩) zf0) zFn)))))))))))))
set_option maxRecDepth 100000 in
theorem zt_68_0 : zFa 68 zk_68_0 := (zFc trivial trivial (zFc trivial trivial (zFc trivial trivial (zFc trivial (zfc ⟨(zfc rfl zf0), rfl, by decide, by decide, _, rfl, Or.inl ⟨zq_151, zq_152, zq_153, zq_5⟩⟩ zf0) (zFc trivial trivial (zFc trivial trivial (zFc trivial trivial (zFc trivial trivial (zFc trivial trivial (zFc trivial trivial (zFc trivial (zfc (Or.inl ⟨rfl, rfl⟩) zf0) (zFc trivial trivial (zFc trivial trivial (zFc trivial trivial (zFc trivial trivial (zFc (zfc (zf_57 (zy 68) rfl) zf0) trivial (zFc trivial trivial (zFc trivial trivial (zFc trivial (zfc ⟨(zfc rfl zf0), rfl, by decide, by decide, _, rfl, Or.inl ⟨zq_158, zq_159, zq_160, zq_15⟩⟩ zf0) (zFc trivial (zfc (Or.inl ⟨rfl, rfl⟩) zf0) (zFc trivial trivial (zFc (zfc (zf_57 (zy 68) rfl) zf0) trivial (zFc trivial trivial (zFc trivial trivial (zFc trivial (zfc ⟨(zfc rfl zf0), rfl, by decide, by decide, _, rfl, Or.inl ⟨zq_158, zq_159, zq_160, zq_15⟩⟩ zf0) (zFc trivial trivial (zFc trivial trivial (zFc trivial trivial (zFc trivial trivial (zFc trivial trivial (zFc trivial trivial (zFc trivial trivial (zFc trivial trivial (zFc trivial trivial (zFc trivial trivial (zFc trivial (zfc (Or.inr (Or.inr ⟨by decide, by decide, rfl, by decide, zq_181, zq_103, Or.inl zq_180⟩)) zf0) (zFc trivial (zfc (Or.inl ⟨rfl, rfl⟩) zf0) zFn)))))))))))))))))))))))))))))))))))))
set_option maxRecDepth 100000 in
theorem zt_69_0 : zFa 69 zk_69_0 := (zFc trivial trivial (zFc trivial trivial (zFc trivial trivial (zFc trivial (zfc ⟨(zfc rfl zf0), rfl, by decide, by decide, _, rfl, Or.inl ⟨zq_151, zq_152, zq_153, zq_5⟩⟩ zf0) (zFc trivial trivial (zFc trivial trivial (zFc trivial trivial (zFc trivial trivial (zFc trivial trivial (zFc trivial trivial (zFc (zfc (zf_80 (zy 69) rfl) zf0) trivial (zFc trivial (zfc ⟨(zfc rfl zf0), rfl, by decide, by decide, _, rfl, Or.inl ⟨zq_146, zq_86, zq_87, zq_27⟩⟩ zf0) (zFc trivial (zfc (Or.inl ⟨rfl, rfl⟩) zf0) zFn)))))))))))))
set_option maxRecDepth 100000 in
theorem zt_70_0 : zFa 70 zk_70_0 := (zFc trivial trivial (zFc trivial trivial (zFc trivial trivial (zFc trivial (zfc ⟨(zfc rfl zf0), rfl, by decide, by decide, _, rfl, Or.inl ⟨zq_151, zq_152, zq_153, zq_5⟩⟩ zf0) (zFc trivial trivial (zFc trivial trivial (zFc trivial trivial (zFc trivial trivial (zFc trivial trivial (zFc trivial trivial (zFc (zfc (zf_58 (zy 70) rfl) zf0) trivial (zFc trivial (zfc (Or.inl ⟨rfl, rfl⟩) zf0) zFn))))))))))))
set_option maxRecDepth 100000 in
theorem zt_71_0 : zFa 71 zk_71_0 := (zFc trivial trivial (zFc trivial trivial (zFc trivial trivial (zFc trivial (zfc ⟨(zfc rfl zf0), rfl, by decide, by decide, _, rfl, Or.inl ⟨zq_151, zq_152, zq_153, zq_5⟩⟩ zf0) (zFc trivial trivial (zFc trivial trivial (zFc trivial trivial (zFc trivial trivial (zFc (zfc (zf_20 (zy 71) rfl) zf0) trivial (zFc trivial trivial (zFc trivial trivial (zFc trivial trivial (zFc trivial trivial (zFc trivial (zfc (Or.inr ⟨rfl, rfl⟩) zf0) zFn))))))))))))))
set_option maxRecDepth 100000 in
theorem zt_72_0 : zFa 72 zk_72_0 := (zFc trivial trivial (zFc trivial trivial (zFc trivial trivial (zFc trivial (zfc ⟨(zfc rfl zf0), rfl, by decide, by decide, _, rfl, Or.inl ⟨zq_151, zq_152, zq_153, zq_5⟩⟩ zf0) (zFc trivial trivial (zFc trivial trivial (zFc trivial trivial (zFc trivial trivial (zFc trivial (zfc (Or.inl ⟨rfl, rfl⟩) zf0) (zFc trivial trivial (zFc trivial trivial (zFc trivial trivial (zFc trivial trivial (zFc trivial trivial (zFc trivial trivial (zFc trivial trivial (zFc trivial trivial (zFc (zfc (zf_10 (zy 72) rfl) zf0) trivial (zFc trivial trivial (zFc trivial trivial (zFc (zfc (zf_81 (zy 72) rfl) (zfc (zf_82 (zy 72) rfl) zf0)) trivial (zFc trivial trivial (zFc trivial trivial (zFc trivial trivial (zFc trivial trivial (zFc trivial trivial (zFc trivial (zfc (Or.inl ⟨rfl, rfl⟩) zf0) zFn)))))))))))))))))))))))))))
set_option maxRecDepth 100000 in
theorem zt_73_0 : zFa 73 zk_73_0 := (zFc trivial trivial (zFc trivial (zfc (Or.inl ⟨rfl, (zfc zq_256 (zfc zq_1 (zfc zq_2 zf0)))⟩) zf0) (zFc trivial trivial (zFc trivial trivial (zFc (zfc (Or.inl ⟨rfl, rfl, zq_22⟩) zf0) trivial (zFc (zfc (zf_83 (zy 73) rfl rfl) zf0) trivial (zFc trivial trivial (zFc trivial trivial (zFc (zfc (Or.inl ⟨rfl, rfl, zq_22⟩) zf0) trivial (zFc (zfc (zf_84 (zy 73) rfl rfl) zf0) trivial (zFc trivial trivial (zFc trivial trivial (zFc (zfc (Or.inl ⟨rfl, rfl, zq_22⟩) zf0) trivial (zFc (zfc (zf_85 (zy 73) rfl rfl) zf0) trivial (zFc trivial trivial (zFc trivial trivial (zFc (zfc (Or.inl ⟨rfl, rfl, zq_22⟩) zf0) trivial (zFc (zfc (zf_86 (zy 73) rfl rfl) zf0) trivial (zFc trivial trivial (zFc trivial trivial (zFc (zfc (Or.inl ⟨rfl, rfl, zq_22⟩) zf0) trivial (zFc (zfc (zf_87 (zy 73) rfl rfl) zf0) trivial (zFc trivial trivial (zFc trivial trivial (zFc (zfc (Or.inl ⟨rfl, rfl, zq_22⟩) zf0) trivial (zFc (zfc (zf_88 (zy 73) rfl rfl) zf0) trivial (zFc trivial trivial (zFc trivial trivial (zFc (zfc (Or.inl ⟨rfl, rfl, zq_22⟩) zf0) trivial (zFc (zfc (zf_89 (zy 73) rfl rfl) zf0) trivial (zFc trivial trivial (zFc trivial trivial (zFc (zfc (Or.inl ⟨rfl, rfl, zq_22⟩) zf0) trivial (zFc (zfc (zf_90 (zy 73) rfl rfl) zf0) trivial (zFc trivial trivial (zFc trivial trivial (zFc (zfc (Or.inr ⟨rfl, rfl, zq_265⟩) zf0) trivial (zFc (zfc (zf_91 (zy 73) rfl rfl) zf0) trivial (zFc trivial trivial (zFc trivial trivial (zFc (zfc (Or.inl ⟨rfl, rfl, zq_22⟩) zf0) trivial (zFc (zfc (zf_92 (zy 73) rfl rfl) zf0) trivial (zFc trivial trivial (zFc trivial trivial (zFc (zfc (Or.inl ⟨rfl, rfl, zq_22⟩) zf0) trivial (zFc (zfc (zf_93 (zy 73) rfl rfl) zf0) trivial (zFc trivial trivial (zFc trivial trivial (zFc (zfc (Or.inl ⟨rfl, rfl, zq_22⟩) zf0) trivial (zFc (zfc (zf_94 (zy 73) rfl rfl) zf0) trivial (zFc trivial trivial (zFc trivial trivial (zFc (zfc (Or.inl ⟨rfl, rfl, zq_22⟩) zf0) trivial (zFc (zfc (zf_95 (zy 73) rfl rfl) zf0) trivial (zFc trivial trivial (zFc trivial trivial (zFc (zfc (Or.inl ⟨rfl, rfl, zq_22⟩) zf0) trivial (zFc (zfc (zf_96 (zy 73) rfl rfl) zf0) trivial (zFc trivial trivial (zFc trivial trivial (zFc (zfc (Or.inl ⟨rfl, rfl, zq_22⟩) zf0) trivial (zFc (zfc (zf_97 (zy 73) rfl rfl) zf0) trivial (zFc trivial trivial (zFc trivial trivial (zFc (zfc (Or.inl ⟨rfl, rfl, zq_22⟩) zf0) trivial (zFc (zfc (zf_98 (zy 73) rfl rfl) zf0) trivial (zFc trivial trivial (zFc trivial trivial (zFc (zfc (Or.inr ⟨rfl, rfl, zq_265⟩) zf0) trivial (zFc (zfc (zf_99 (zy 73) rfl rfl) zf0) trivial (zFc trivial trivial (zFc trivial trivial (zFc (zfc (Or.inl ⟨rfl, rfl, zq_22⟩) zf0) trivial (zFc (zfc (zf_100 (zy 73) rfl rfl) zf0) trivial (zFc trivial trivial (zFc trivial trivial (zFc (zfc (Or.inl ⟨rfl, rfl, zq_22⟩) zf0) trivial (zFc (zfc (zf_101 (zy 73) rfl rfl) zf0) trivial (zFc trivial trivial (zFc trivial trivial (zFc (zfc (Or.inl ⟨rfl, rfl, zq_22⟩) zf0) trivial (zFc (zfc (zf_102 (zy 73) rfl rfl) zf0) trivial (zFc trivial trivial (zFc trivial trivial (zFc (zfc (Or.inl ⟨rfl, rfl, zq_22⟩) zf0) trivial (zFc (zfc (zf_103 (zy 73) rfl rfl) zf0) trivial (zFc trivial trivial (zFc trivial trivial (zFc (zfc (Or.inl ⟨rfl, rfl, zq_22⟩) zf0) trivial (zFc (zfc (zf_104 (zy 73) rfl rfl) zf0) trivial (zFc trivial trivial (zFc trivial trivial (zFc (zfc (Or.inl ⟨rfl, rfl, zq_22⟩) zf0) trivial (zFc (zfc (zf_105 (zy 73) rfl rfl) zf0) trivial (zFc trivial rfl zFn)))))))))))))))))))))))))))))))))))))))))))))))))))))))))))))))))))))))))))))))))))))))))))))))
set_option maxRecDepth 100000 in
theorem zt_74_0 : zFa 74 zk_74_0 := (zFc trivial trivial (zFc trivial trivial (zFc trivial trivial (zFc trivial trivial (zFc trivial trivial (zFc trivial trivial (zFc trivial trivial (zFc trivial (zfc (Or.inr ⟨rfl, rfl⟩) zf0) (zFc trivial trivial (zFc trivial trivial (zFc trivial trivial (zFc trivial trivial (zFc trivial trivial (zFc trivial trivial (zFc trivial trivial (zFc trivial trivial (zFc trivial trivial (zFc trivial trivial (zFc trivial trivial (zFc trivial trivial (zFc trivial (zfc ⟨(zfc rfl zf0), rfl, by decide, by decide, _, rfl, Or.inl ⟨zq_281, zq_282, zq_283, zq_284⟩⟩ zf0) (zFc trivial trivial (zFc trivial trivial (zFc trivial trivial (zFc trivial trivial (zFc trivial trivial (zFc trivial (zfc (Or.inr ⟨rfl, rfl⟩) zf0) zFn)))))))))))))))))))))))))))
set_option maxRecDepth 100000 in
theorem zt_75_0 : zFa 75 zk_75_0 := (zFc trivial trivial (zFc (zfc (zf_106 (zy 75) rfl) zf0) trivial (zFc trivial trivial (zFc trivial trivial (zFc trivial trivial (zFc trivial trivial (zFc (zfc (zf_107 (zy 75) rfl) zf0) trivial (zFc trivial trivial (zFc trivial trivial (zFc trivial trivial (zFc trivial trivial (zFc trivial trivial (zFc trivial trivial (zFc trivial trivial (zFc trivial trivial (zFc (zfc (zf_108 (zy 75) rfl) zf0) trivial (zFc trivial trivial (zFc trivial trivial (zFc trivial trivial (zFc trivial trivial (zFc (zfc (zf_108 (zy 75) rfl) zf0) trivial (zFc trivial trivial (zFc trivial trivial (zFc trivial trivial (zFc trivial trivial (zFc trivial trivial (zFc trivial trivial (zFc trivial trivial (zFc trivial trivial (zFc (zfc (zf_108 (zy 75) rfl) zf0) trivial (zFc trivial trivial (zFc trivial trivial (zFc trivial trivial (zFc trivial trivial (zFc trivial rfl (zFc trivial trivial (zFc (zfc (zf_108 (zy 75) rfl) zf0) trivial (zFc trivial trivial (zFc trivial trivial (zFc trivial trivial (zFc trivial trivial (zFc (zfc (zf_106 (zy 75) rfl) zf0) trivial (zFc trivial trivial (zFc trivial trivial (zFc trivial trivial (zFc trivial trivial (zFc trivial trivial (zFc trivial trivial (zFc trivial (zfc ⟨(zfc rfl zf0), rfl, by decide, by decide, _, rfl, Or.inl ⟨zq_285, zq_286, zq_287, zq_284⟩⟩ zf0) (zFc trivial trivial (zFc trivial trivial (zFc trivial trivial (zFc (zfc (zf_109 (zy 75) rfl) zf0) trivial (zFc trivial trivial (zFc trivial trivial (zFc trivial trivial (zFc trivial trivial (zFc trivial trivial (zFc trivial trivial (zFc trivial (zfc ⟨(zfc rfl zf0), rfl, by decide, by decide, _, rfl, Or.inl ⟨zq_288, zq_289, zq_290, zq_284⟩⟩ zf0) (zFc trivial trivial (zFc trivial trivial (zFc (zfc (zf_109 (zy 75) rfl) zf0) trivial (zFc trivial trivial (zFc trivial trivial (zFc trivial trivial (zFc trivial trivial (zFc trivial trivial (zFc trivial trivial (zFc trivial trivial (zFc trivial trivial (zFc trivial trivial (zFc trivial trivial (zFc (zfc (zf_107 (zy 75) rfl) zf0) trivial (zFc trivial trivial (zFc trivial trivial (zFc trivial trivial (zFc trivial trivial (zFc trivial trivial (zFc trivial trivial (zFc trivial (zfc ⟨(zfc rfl zf0), rfl, by decide, by decide, _, rfl, Or.inl ⟨zq_291, zq_292, zq_293, zq_284⟩⟩ zf0) (zFc trivial trivial (zFc trivial trivial (zFc trivial rfl zFn))))))))))))))))))))))))))))))))))))))))))))))))))))))))))))))))))))))))))))))))))))
set_option maxRecDepth 100000 in
theorem zt_76_0 : zFa 76 zk_76_0 := (zFc trivial trivial (zFc trivial trivial (zFc trivial trivial (zFc trivial trivial (zFc trivial trivial (zFc trivial trivial (zFc trivial trivial (zFc trivial trivial (zFc trivial trivial (zFc trivial trivial (zFc trivial trivial (zFc trivial trivial (zFc trivial trivial (zFc (zfc (zf_110 (zy 76) rfl) zf0) trivial (zFc trivial trivial (zFc trivial trivial (zFc trivial trivial (zFc trivial trivial (zFc trivial trivial (zFc trivial (zfc (Or.inl ⟨rfl, rfl⟩) zf0) (zFc trivial trivial (zFc trivial trivial (zFc trivial trivial (zFc trivial trivial (zFc trivial trivial (zFc (zfc (zf_110 (zy 76) rfl) zf0) trivial (zFc trivial trivial (zFc trivial trivial (zFc trivial trivial (zFc trivial trivial (zFc trivial trivial (zFc trivial trivial (zFc (zfc (zf_110 (zy 76) rfl) zf0) trivial (zFc trivial trivial (zFc trivial trivial (zFc trivial trivial (zFc trivial trivial (zFc trivial trivial (zFc trivial trivial (zFc trivial trivial (zFc (zfc (zf_111 (zy 76) rfl) zf0) trivial (zFc trivial trivial (zFc trivial trivial (zFc trivial trivial (zFc trivial trivial (zFc (zfc (zf_111 (zy 76) rfl) zf0) trivial (zFc trivial trivial (zFc trivial trivial (zFc trivial trivial (zFc trivial trivial (zFc (zfc (zf_112 (zy 76) rfl) zf0) trivial (zFc trivial trivial (zFc trivial trivial (zFc trivial trivial (zFc trivial trivial (zFc (zfc (zf_111 (zy 76) rfl) zf0) trivial (zFc trivial trivial (zFc trivial trivial (zFc trivial trivial (zFc trivial trivial (zFc (zfc (zf_113 (zy 76) rfl) zf0) trivial (zFc trivial trivial (zFc trivial trivial (zFc trivial trivial (zFc trivial trivial (zFc trivial (zfc (Or.inl ⟨rfl, rfl⟩) zf0) zFn))))))))))))))))))))))))))))))))))))))))))))))))))))))))))))))))))
set_option maxRecDepth 100000 in
theorem zt_77_0 : zFa 77 zk_77_0 := (zFc trivial trivial (zFc (zfc (zf_112 (zy 77) rfl) zf0) trivial (zFc trivial trivial (zFc trivial trivial (zFc trivial trivial (zFc trivial trivial (zFc trivial trivial (zFc trivial trivial (zFc trivial trivial (zFc trivial trivial (zFc trivial (zfc ⟨(zfc rfl zf0), rfl, by decide, by decide, _, rfl, Or.inl ⟨zq_294, zq_295, zq_296, zq_284⟩⟩ zf0) (zFc trivial trivial (zFc (zfc (zf_106 (zy 77) rfl) zf0) trivial (zFc trivial trivial (zFc trivial trivial (zFc trivial trivial (zFc trivial trivial (zFc trivial trivial (zFc trivial trivial (zFc trivial (zfc ⟨(zfc rfl zf0), rfl, by decide, by decide, _, rfl, Or.inl ⟨zq_285, zq_286, zq_287, zq_284⟩⟩ zf0) (zFc trivial trivial (zFc trivial rfl zFn))))))))))))))))))))))
set_option maxRecDepth 100000 in
theorem zt_78_0 : zFa 78 zk_78_0 := (zFc trivial trivial (zFc trivial trivial (zFc trivial trivial (zFc (zfc (zf_114 (zy 78) rfl) zf0) trivial (zFc trivial (zfc ⟨(zfc rfl zf0), rfl, by decide, by decide, _, rfl, Or.inl ⟨zq_298, zq_299, zq_300, zq_284⟩⟩ zf0) (zFc trivial trivial (zFc (zfc (zf_107 (zy 78) rfl) zf0) trivial (zFc trivial trivial (zFc trivial trivial (zFc trivial trivial (zFc trivial trivial (zFc (zfc (zf_115 (zy 78) rfl) zf0) trivial (zFc trivial trivial (zFc trivial trivial (zFc trivial trivial (zFc trivial trivial (zFc (zfc (zf_113 (zy 78) rfl) zf0) trivial (zFc trivial trivial (zFc trivial trivial (zFc trivial trivial (zFc trivial trivial (zFc (zfc (zf_109 (zy 78) rfl) zf0) trivial (zFc trivial trivial (zFc trivial trivial (zFc trivial trivial (zFc trivial trivial (zFc (zfc (zf_108 (zy 78) rfl) zf0) trivial (zFc trivial trivial (zFc trivial trivial (zFc trivial trivial (zFc trivial trivial (zFc trivial trivial (zFc trivial trivial (zFc trivial trivial (zFc trivial trivial (zFc trivial trivial (zFc trivial trivial (zFc trivial trivial (zFc trivial trivial (zFc trivial trivial (zFc trivial trivial (zFc trivial trivial (zFc trivial trivial (zFc trivial trivial (zFc trivial (zfc ⟨(zfc rfl zf0), rfl, by decide, by decide, _, rfl, Or.inl ⟨zq_301, zq_302, zq_303, zq_284⟩⟩ zf0) (zFc trivial trivial (zFc trivial trivial (zFc trivial rfl zFn))))))))))))))))))))))))))))))))))))))))))))))))
set_option maxRecDepth 100000 in
theorem zt_79_0 : zFa 79 zk_79_0 := (zFc trivial trivial (zFc trivial trivial (zFc trivial trivial (zFc trivial trivial (zFc trivial trivial (zFc trivial trivial (zFc trivial trivial (zFc trivial trivial (zFc (zfc (zf_114 (zy 79) rfl) zf0) trivial (zFc trivial trivial (zFc trivial trivial (zFc (zfc (zf_116 (zy 79) rfl) zf0) trivial (zFc trivial trivial (zFc trivial trivial (zFc trivial trivial (zFc trivial trivial (zFc trivial trivial (zFc trivial trivial (zFc trivial trivial (zFc trivial trivial (zFc trivial trivial (zFc trivial trivial (zFc (zfc (zf_116 (zy 79) rfl) zf0) trivial (zFc trivial trivial (zFc trivial trivial (zFc (zfc (zf_116 (zy 79) rfl) zf0) trivial (zFc trivial trivial (zFc trivial trivial (zFc trivial trivial (zFc trivial trivial (zFc (zfc (zf_117 (zy 79) rfl) zf0) trivial (zFc trivial trivial (zFc trivial trivial (zFc (zfc (zf_117 (zy 79) rfl) zf0) trivial (zFc trivial trivial (zFc trivial trivial (zFc trivial trivial (zFc trivial trivial (zFc (zfc (zf_118 (zy 79) rfl) zf0) trivial (zFc trivial trivial (zFc trivial trivial (zFc (zfc (zf_118 (zy 79) rfl) zf0) trivial (zFc trivial trivial (zFc trivial trivial (zFc trivial trivial (zFc trivial trivial (zFc (zfc (zf_119 (zy 79) rfl) zf0) trivial (zFc trivial trivial (zFc trivial trivial (zFc (zfc (zf_119 (zy 79) rfl) zf0) trivial (zFc trivial trivial (zFc trivial trivial (zFc trivial trivial (zFc trivial trivial (zFc (zfc (zf_120 (zy 79) rfl) zf0) trivial (zFc trivial trivial (zFc trivial trivial (zFc (zfc (zf_120 (zy 79) rfl) zf0) trivial (zFc trivial trivial (zFc trivial trivial (zFc trivial trivial (zFc trivial trivial (zFc trivial trivial (zFc trivial trivial (zFc trivial trivial (zFc trivial trivial (zFc (zfc (zf_121 (zy 79) rfl) zf0) trivial (zFc trivial rfl zFn))))))))))))))))))))))))))))))))))))))))))))))))))))))))))))))))))))
set_option maxRecDepth 100000 in
theorem zt_80_0 : zFa 80 zk_80_0 := (zFc trivial trivial (zFc (zfc (zf_122 (zy 80) rfl) zf0) trivial (zFc trivial trivial (zFc trivial trivial (zFc trivial trivial (zFc trivial trivial (zFc (zfc (zf_122 (zy 80) rfl) zf0) trivial (zFc trivial trivial (zFc trivial trivial (zFc trivial trivial (zFc trivial trivial (zFc trivial (zfc (Or.inr (Or.inr ⟨by decide, by decide, rfl, by decide, zq_305, zq_284, Or.inl zq_304⟩)) zf0) (zFc trivial trivial (zFc trivial trivial (zFc trivial trivial (zFc trivial trivial (zFc trivial trivial (zFc trivial trivial (zFc (zfc (zf_123 (zy 80) rfl) zf0) trivial (zFc trivial trivial (zFc trivial trivial (zFc trivial (zfc ⟨(zfc rfl zf0), rfl, by decide, by decide, _, rfl, Or.inl ⟨zq_306, zq_307, zq_308, zq_284⟩⟩ zf0) (zFc trivial rfl zFn)))))))))))))))))))))))
set_option maxRecDepth 100000 in
theorem zt_81_0 : zFa 81 zk_81_0 := (zFc trivial trivial (zFc trivial trivial (zFc trivial trivial (zFc trivial trivial (zFc trivial trivial (zFc trivial trivial (zFc trivial trivial (zFc trivial trivial (zFc trivial trivial (zFc trivial trivial (zFc trivial trivial (zFc trivial (zfc (Or.inr ⟨rfl, rfl⟩) zf0) zFn))))))))))))
set_option maxRecDepth 100000 in
theorem zt_82_0 : zFa 82 zk_82_0 := (zFc trivial trivial (zFc (zfc (zf_122 (zy 82) rfl) zf0) trivial (zFc trivial trivial (zFc trivial trivial (zFc trivial trivial (zFc trivial trivial (zFc (zfc (zf_124 (zy 82) rfl) zf0) trivial (zFc trivial trivial (zFc trivial trivial (zFc trivial trivial (zFc trivial trivial (zFc trivial trivial (zFc trivial trivial (zFc trivial (zfc ⟨(zfc rfl zf0), rfl, by decide, by decide, _, rfl, Or.inl ⟨zq_309, zq_310, zq_311, zq_284⟩⟩ zf0) (zFc trivial rfl zFn)))))))))))))))
set_option maxRecDepth 100000 in
theorem zt_83_0 : zFa 83 zk_83_0 := (zFc trivial trivial (zFc trivial trivial (zFc trivial trivial (zFc trivial trivial (zFc trivial trivial (zFc trivial trivial (zFc trivial trivial (zFc trivial trivial (zFc trivial trivial (zFc trivial trivial (zFc trivial trivial (zFc trivial trivial (zFc trivial (zfc ⟨(zfc rfl zf0), rfl, by decide, by decide, _, rfl, Or.inl ⟨zq_312, zq_313, zq_314, zq_284⟩⟩ zf0) (zFc trivial rfl zFn))))))))))))))
set_option maxRecDepth 100000 in
theorem zt_84_0 : zFa 84 zk_84_0 := (zFc trivial trivial (zFc (zfc (zf_116 (zy 84) rfl) zf0) trivial (zFc trivial trivial (zFc (zfc (zf_114 (zy 84) rfl) zf0) trivial (zFc trivial trivial (zFc trivial trivial (zFc trivial trivial (zFc (zfc (zf_117 (zy 84) rfl) zf0) trivial (zFc trivial trivial (zFc (zfc (zf_114 (zy 84) rfl) zf0) trivial (zFc trivial trivial (zFc trivial trivial (zFc trivial trivial (zFc (zfc (zf_118 (zy 84) rfl) zf0) trivial (zFc trivial trivial (zFc (zfc (zf_114 (zy 84) rfl) zf0) trivial (zFc trivial trivial (zFc trivial trivial (zFc trivial trivial (zFc (zfc (zf_119 (zy 84) rfl) zf0) trivial (zFc trivial trivial (zFc (zfc (zf_114 (zy 84) rfl) zf0) trivial (zFc trivial trivial (zFc trivial trivial (zFc trivial trivial (zFc (zfc (zf_120 (zy 84) rfl) zf0) trivial (zFc trivial trivial (zFc (zfc (zf_114 (zy 84) rfl) zf0) trivial (zFc trivial trivial (zFc trivial trivial (zFc trivial trivial (zFc trivial trivial (zFc (zfc (zf_114 (zy 84) rfl) zf0) trivial (zFc trivial trivial (zFc trivial trivial (zFc (zfc (zf_121 (zy 84) rfl) zf0) trivial (zFc trivial trivial (zFc trivial trivial (zFc trivial (zfc ⟨(zfc rfl zf0), rfl, by decide, by decide, _, rfl, Or.inl ⟨zq_315, zq_316, zq_317, zq_284⟩⟩ zf0) (zFc trivial rfl zFn))))))))))))))))))))))))))))))))))))))))
set_option maxRecDepth 100000 in
theorem zt_85_0 : zFa 85 zk_85_0 := (zFc trivial trivial (zFc trivial trivial (zFc trivial (zfc ⟨(zfc rfl zf0), rfl, by decide, by decide, _, rfl, Or.inl ⟨zq_318, zq_319, zq_320, zq_284⟩⟩ zf0) (zFc trivial trivial (zFc trivial trivial (zFc (zfc (zf_106 (zy 85) rfl) zf0) trivial (zFc trivial trivial (zFc trivial trivial (zFc trivial trivial (zFc trivial trivial (zFc (zfc (zf_107 (zy 85) rfl) zf0) trivial (zFc trivial trivial (zFc trivial trivial (zFc trivial trivial (zFc trivial trivial (zFc trivial trivial (zFc (zfc (zf_107 (zy 85) rfl) zf0) trivial (zFc trivial trivial (zFc trivial trivial (zFc trivial trivial (zFc trivial trivial (zFc trivial trivial (zFc trivial trivial (zFc trivial trivial (zFc (zfc (zf_107 (zy 85) rfl) zf0) trivial (zFc trivial trivial (zFc trivial trivial (zFc trivial (zfc ⟨(zfc rfl zf0), rfl, by decide, by decide, _, rfl, Or.inl ⟨zq_291, zq_292, zq_293, zq_284⟩⟩ zf0) (zFc trivial trivial (zFc (zfc (zf_107 (zy 85) rfl) zf0) trivial (zFc trivial trivial (zFc trivial trivial (zFc trivial trivial (zFc trivial trivial (zFc trivial trivial (zFc trivial trivial (zFc trivial trivial (zFc trivial rfl zFn))))))))))))))))))))))))))))))))))))))
set_option maxRecDepth 100000 in
theorem zt_86_0 : zFa 86 zk_86_0 := (zFc trivial trivial (zFc trivial trivial (zFc trivial trivial (zFc trivial trivial (zFc trivial trivial (zFc trivial trivial (zFc (zfc (zf_114 (zy 86) rfl) zf0) trivial (zFc trivial trivial (zFc trivial trivial (zFc trivial trivial (zFc (zfc (zf_116 (zy 86) rfl) zf0) trivial (zFc trivial trivial (zFc trivial trivial (zFc trivial trivial (zFc trivial trivial (zFc trivial trivial (zFc trivial trivial (zFc trivial trivial (zFc trivial trivial (zFc trivial trivial (zFc trivial trivial (zFc trivial trivial (zFc trivial trivial (zFc trivial (zfc (Or.inl ⟨rfl, rfl⟩) zf0) zFn))))))))))))))))))))))))
set_option maxRecDepth 100000 in
theorem zt_87_0 : zFa 87 zk_87_0 := (zFc trivial trivial (zFc trivial trivial (zFc trivial trivial (zFc trivial (zfc ⟨(zfc rfl zf0), rfl, by decide, by decide, _, rfl, Or.inl ⟨zq_285, zq_286, zq_287, zq_284⟩⟩ zf0) (zFc trivial trivial (zFc trivial trivial (zFc trivial trivial (zFc trivial rfl (zFc trivial trivial (zFc trivial trivial (zFc trivial trivial (zFc trivial (zfc ⟨(zfc rfl zf0), rfl, by decide, by decide, _, rfl, Or.inl ⟨zq_321, zq_322, zq_323, zq_284⟩⟩ zf0) (zFc trivial trivial (zFc trivial trivial (zFc (zfc (zf_111 (zy 87) rfl) zf0) trivial (zFc trivial trivial (zFc trivial trivial (zFc trivial trivial (zFc trivial trivial (zFc (zfc (zf_115 (zy 87) rfl) zf0) trivial (zFc trivial trivial (zFc trivial trivial (zFc trivial trivial (zFc trivial trivial (zFc trivial trivial (zFc trivial trivial (zFc trivial trivial (zFc trivial trivial (zFc (zfc (zf_111 (zy 87) rfl) zf0) trivial (zFc trivial trivial (zFc trivial trivial (zFc trivial trivial (zFc trivial trivial (zFc (zfc (zf_117 (zy 87) rfl) zf0) trivial (zFc trivial trivial (zFc trivial trivial (zFc trivial trivial (zFc trivial trivial (zFc (zfc (zf_111 (zy 87) rfl) zf0) trivial (zFc trivial trivial (zFc trivial trivial (zFc trivial trivial (zFc trivial trivial (zFc (zfc (zf_118 (zy 87) rfl) zf0) trivial (zFc trivial trivial (zFc trivial trivial (zFc trivial trivial (zFc trivial trivial (zFc (zfc (zf_111 (zy 87) rfl) zf0) trivial (zFc trivial trivial (zFc trivial trivial (zFc trivial trivial (zFc trivial trivial (zFc (zfc (zf_119 (zy 87) rfl) zf0) trivial (zFc trivial trivial (zFc trivial trivial (zFc trivial trivial (zFc trivial trivial (zFc (zfc (zf_111 (zy 87) rfl) zf0) trivial (zFc trivial trivial (zFc trivial trivial (zFc trivial trivial (zFc trivial trivial (zFc (zfc (zf_120 (zy 87) rfl) zf0) trivial (zFc trivial trivial (zFc trivial trivial (zFc trivial trivial (zFc trivial rfl zFn))))))))))))))))))))))))))))))))))))))))))))))))))))))))))))))))))))
set_option maxRecDepth 100000 in
theorem zt_88_0 : zFa 88 zk_88_0 := (zFc trivial trivial (zFc trivial trivial (zFc trivial trivial (zFc trivial trivial (zFc trivial trivial (zFc trivial trivial (zFc (zfc (zf_114 (zy 88) rfl) zf0) trivial (zFc trivial trivial (zFc trivial trivial (zFc (zfc (zf_116 (zy 88) rfl) zf0) trivial (zFc trivial trivial (zFc trivial trivial (zFc trivial trivial (zFc trivial trivial (zFc trivial trivial (zFc trivial trivial (zFc trivial trivial (zFc trivial (zfc (Or.inl ⟨rfl, rfl⟩) zf0) (zFc trivial trivial (zFc trivial trivial (zFc trivial trivial (zFc trivial trivial (zFc trivial (zfc (Or.inl ⟨rfl, rfl⟩) zf0) zFn)))))))))))))))))))))))
set_option maxRecDepth 100000 in
theorem zt_89_0 : zFa 89 zk_89_0 := (zFc trivial trivial (zFc trivial trivial (zFc trivial (zfc (Or.inr (Or.inr ⟨by decide, by decide, rfl, by decide, zq_325, zq_284, Or.inl zq_324⟩)) zf0) (zFc trivial trivial (zFc trivial trivial (zFc (zfc (zf_110 (zy 89) rfl) zf0) trivial (zFc trivial trivial (zFc trivial trivial (zFc trivial trivial (zFc trivial trivial (zFc trivial trivial (zFc trivial trivial (zFc trivial trivial (zFc trivial trivial (zFc trivial (zfc (Or.inr ⟨rfl, rfl⟩) zf0) (zFc trivial trivial (zFc trivial trivial (zFc trivial trivial (zFc trivial trivial (zFc trivial trivial (zFc trivial trivial (zFc trivial trivial (zFc trivial trivial (zFc trivial trivial (zFc trivial trivial (zFc trivial trivial (zFc (zfc (zf_111 (zy 89) rfl) zf0) trivial (zFc trivial trivial (zFc trivial trivial (zFc trivial trivial (zFc trivial trivial (zFc (zfc (zf_111 (zy 89) rfl) zf0) trivial (zFc trivial trivial (zFc trivial trivial (zFc trivial trivial (zFc trivial trivial (zFc trivial trivial (zFc trivial trivial (zFc (zfc (zf_111 (zy 89) rfl) zf0) trivial (zFc trivial trivial (zFc trivial trivial (zFc trivial trivial (zFc trivial trivial (zFc trivial trivial (zFc trivial trivial (zFc (zfc (zf_111 (zy 89) rfl) zf0) trivial (zFc trivial trivial (zFc trivial trivial (zFc trivial trivial (zFc trivial trivial (zFc trivial trivial (zFc trivial trivial (zFc (zfc (zf_111 (zy 89) rfl) zf0) trivial (zFc trivial trivial (zFc trivial trivial (zFc trivial trivial (zFc trivial trivial (zFc trivial trivial (zFc trivial trivial (zFc (zfc (zf_111 (zy 89) rfl) zf0) trivial (zFc trivial trivial (zFc trivial trivial (zFc trivial trivial (zFc trivial trivial (zFc trivial trivial (zFc trivial trivial (zFc (zfc (zf_111 (zy 89) rfl) zf0) trivial (zFc trivial trivial (zFc trivial trivial (zFc trivial trivial (zFc trivial trivial (zFc trivial trivial (zFc trivial trivial (zFc (zfc (zf_111 (zy 89) rfl) zf0) trivial (zFc trivial trivial (zFc trivial trivial (zFc trivial trivial (zFc trivial trivial (zFc trivial trivial (zFc trivial trivial (zFc trivial trivial (zFc trivial (zfc ⟨(zfc rfl zf0), rfl, by decide, by decide, _, rfl, Or.inl ⟨zq_326, zq_327, zq_328, zq_284⟩⟩ zf0) (zFc trivial trivial (zFc trivial trivial (zFc trivial trivial (zFc trivial trivial (zFc trivial trivial (zFc trivial (zfc ⟨(zfc rfl zf0), rfl, by decide, by decide, _, rfl, Or.inl ⟨zq_329, zq_330, zq_331, zq_284⟩⟩ zf0) (zFc trivial trivial (zFc trivial trivial (zFc trivial trivial (zFc trivial trivial (zFc trivial trivial (zFc (zfc (zf_106 (zy 89) rfl) zf0) trivial (zFc trivial trivial (zFc trivial trivial (zFc trivial trivial (zFc trivial trivial (zFc trivial trivial (zFc (zfc (zf_112 (zy 89) rfl) zf0) trivial zFn))))))))))))))))))))))))))))))))))))))))))))))))))))))))))))))))))))))))))))))))))))))))))))))))))))
set_option maxRecDepth 100000 in
theorem zt_89_1 : zFa 89 zk_89_1 := (zFc trivial trivial (zFc trivial trivial (zFc trivial trivial (zFc trivial trivial (zFc (zfc (zf_106 (zy 89) rfl) zf0) trivial (zFc trivial trivial (zFc trivial trivial (zFc trivial trivial (zFc trivial trivial (zFc (zfc (zf_109 (zy 89) rfl) zf0) trivial (zFc trivial trivial (zFc trivial trivial (zFc trivial trivial (zFc trivial trivial (zFc (zfc (zf_108 (zy 89) rfl) zf0) trivial (zFc trivial trivial (zFc trivial trivial (zFc trivial trivial (zFc trivial trivial (zFc trivial trivial (zFc trivial (zfc ⟨(zfc rfl zf0), rfl, by decide, by decide, _, rfl, Or.inl ⟨zq_315, zq_316, zq_317, zq_284⟩⟩ zf0) (zFc trivial trivial (zFc trivial trivial (zFc (zfc (zf_106 (zy 89) rfl) zf0) trivial (zFc trivial trivial (zFc trivial trivial (zFc trivial trivial (zFc trivial trivial (zFc trivial trivial (zFc (zfc (zf_112 (zy 89) rfl) zf0) trivial (zFc trivial trivial (zFc trivial trivial (zFc trivial trivial (zFc trivial trivial (zFc trivial trivial (zFc trivial trivial (zFc trivial (zfc ⟨(zfc rfl zf0), rfl, by decide, by decide, _, rfl, Or.inl ⟨zq_332, zq_333, zq_334, zq_284⟩⟩ zf0) (zFc trivial trivial (zFc trivial trivial (zFc trivial trivial (zFc trivial trivial (zFc trivial trivial (zFc (zfc (zf_113 (zy 89) rfl) zf0) trivial (zFc trivial trivial (zFc trivial trivial (zFc trivial trivial (zFc trivial trivial (zFc trivial trivial (zFc trivial trivial (zFc trivial trivial (zFc trivial trivial (zFc (zfc (zf_113 (zy 89) rfl) zf0) trivial (zFc trivial trivial (zFc trivial trivial (zFc trivial trivial (zFc trivial trivial (zFc (zfc (zf_113 (zy 89) rfl) zf0) trivial (zFc trivial trivial (zFc trivial trivial (zFc trivial trivial (zFc trivial trivial (zFc trivial trivial (zFc trivial trivial (zFc trivial trivial (zFc trivial trivial (zFc (zfc (zf_113 (zy 89) rfl) zf0) trivial (zFc trivial trivial (zFc trivial trivial (zFc trivial trivial (zFc trivial trivial (zFc trivial trivial (zFc trivial trivial (zFc trivial (zfc ⟨(zfc rfl zf0), rfl, by decide, by decide, _, rfl, Or.inl ⟨zq_285, zq_286, zq_287, zq_284⟩⟩ zf0) (zFc trivial trivial (zFc trivial trivial (zFc trivial trivial (zFc trivial trivial (zFc trivial trivial (zFc trivial trivial (zFc trivial trivial (zFc trivial trivial (zFc trivial trivial (zFc trivial (zfc ⟨(zfc rfl zf0), rfl, by decide, by decide, _, rfl, Or.inl ⟨zq_335, zq_336, zq_337, zq_284⟩⟩ zf0) (zFc trivial trivial (zFc trivial (zfc (Or.inr ⟨rfl, rfl⟩) zf0) zFn)))))))))))))))))))))))))))))))))))))))))))))))))))))))))))))))))))))))))))))))))))))
set_option maxRecDepth 100000 in
theorem zt_90_0 : zFa 90 zk_90_0 := (zFc trivial trivial (zFc trivial trivial (zFc trivial (zfc (Or.inr (Or.inr ⟨by decide, by decide, rfl, by decide, zq_339, zq_284, Or.inl zq_338⟩)) zf0) (zFc trivial trivial (zFc trivial trivial (zFc trivial trivial (zFc trivial (zfc (Or.inr (Or.inr ⟨by decide, by decide, rfl, by decide, zq_339, zq_284, Or.inl zq_338⟩)) zf0) (zFc trivial trivial (zFc trivial trivial (zFc trivial trivial (zFc trivial trivial (zFc trivial (zfc (Or.inr ⟨rfl, rfl⟩) zf0) zFn))))))))))))
set_option maxRecDepth 100000 in
theorem zt_91_0 : zFa 91 zk_91_0 := (zFc trivial trivial (zFc trivial trivial (zFc trivial trivial (zFc trivial trivial (zFc trivial trivial (zFc trivial trivial (zFc trivial trivial (zFc trivial trivial (zFc trivial (zfc (Or.inr ⟨rfl, rfl⟩) zf0) zFn)))))))))
set_option maxRecDepth 100000 in
theorem zt_92_0 : zFa 92 zk_92_0 := (zFc trivial trivial (zFc trivial trivial (zFc trivial trivial (zFc trivial trivial (zFc trivial trivial (zFc trivial trivial (zFc trivial trivial (zFc trivial trivial (zFc trivial trivial (zFc trivial trivial (zFc trivial trivial (zFc trivial trivial (zFc (zfc (zf_111 (zy 92) rfl) zf0) trivial (zFc trivial trivial (zFc trivial trivial (zFc (zfc (zf_111 (zy 92) rfl) zf0) trivial (zFc trivial trivial (zFc trivial trivial (zFc trivial trivial (zFc trivial trivial (zFc trivial trivial (zFc trivial trivial (zFc trivial trivial (zFc trivial trivial (zFc (zfc (zf_110 (zy 92) rfl) zf0) trivial (zFc trivial trivial (zFc trivial trivial (zFc trivial trivial (zFc trivial trivial (zFc trivial trivial (zFc trivial trivial (zFc trivial rfl zFn))))))))))))))))))))))))))))))))
set_option maxRecDepth 100000 in
theorem zt_93_0 : zFa 93 zk_93_0 := (zFc trivial trivial (zFc trivial trivial (zFc (zfc (zf_112 (zy 93) rfl) zf0) trivial (zFc trivial trivial (zFc trivial trivial (zFc trivial trivial (zFc trivial trivial (zFc (zfc (zf_112 (zy 93) rfl) zf0) trivial (zFc trivial trivial (zFc trivial trivial (zFc trivial trivial (zFc trivial trivial (zFc trivial trivial (zFc trivial (zfc ⟨(zfc rfl zf0), rfl, by decide, by decide, _, rfl, Or.inl ⟨zq_294, zq_295, zq_296, zq_284⟩⟩ zf0) (zFc trivial trivial (zFc (zfc (zf_106 (zy 93) rfl) zf0) trivial (zFc trivial trivial (zFc trivial trivial (zFc trivial trivial (zFc trivial trivial (zFc trivial trivial (zFc (zfc (zf_112 (zy 93) rfl) zf0) trivial (zFc trivial trivial (zFc trivial trivial (zFc trivial trivial (zFc trivial trivial (zFc trivial trivial (zFc trivial trivial (zFc trivial (zfc ⟨(zfc rfl zf0), rfl, by decide, by decide, _, rfl, Or.inl ⟨zq_285, zq_286, zq_287, zq_284⟩⟩ zf0) (zFc trivial trivial (zFc trivial rfl zFn)))))))))))))))))))))))))))))))
set_option maxRecDepth 100000 in
theorem zt_94_0 : zFa 94 zk_94_0 := (zFc trivial trivial (zFc trivial trivial (zFc (zfc (zf_115 (zy 94) rfl) zf0) trivial (zFc trivial trivial (zFc trivial trivial (zFc trivial trivial (zFc trivial trivial (zFc trivial trivial (zFc trivial trivial (zFc trivial trivial (zFc trivial trivial (zFc trivial trivial (zFc trivial trivial (zFc (zfc (zf_107 (zy 94) rfl) zf0) trivial (zFc trivial trivial (zFc trivial trivial (zFc trivial trivial (zFc trivial rfl (zFc trivial trivial (zFc trivial trivial (zFc trivial trivial (zFc trivial (zfc ⟨(zfc rfl zf0), rfl, by decide, by decide, _, rfl, Or.inl ⟨zq_298, zq_299, zq_300, zq_284⟩⟩ zf0) (zFc trivial trivial (zFc (zfc (zf_115 (zy 94) rfl) zf0) trivial (zFc trivial trivial (zFc trivial trivial (zFc (zfc (zf_115 (zy 94) rfl) zf0) trivial (zFc trivial trivial (zFc trivial trivial (zFc trivial trivial (zFc trivial trivial (zFc trivial trivial (zFc trivial trivial (zFc trivial trivial (zFc trivial trivial (zFc (zfc (zf_107 (zy 94) rfl) zf0) trivial (zFc trivial trivial (zFc trivial trivial (zFc trivial trivial (zFc trivial trivial (zFc trivial trivial (zFc trivial trivial (zFc trivial trivial (zFc (zfc (zf_109 (zy 94) rfl) zf0) trivial (zFc trivial trivial (zFc trivial trivial (zFc trivial trivial (zFc trivial trivial (zFc trivial trivial (zFc trivial trivial (zFc (zfc (zf_109 (zy 94) rfl) zf0) trivial (zFc trivial trivial (zFc trivial trivial (zFc trivial trivial (zFc trivial trivial (zFc (zfc (zf_108 (zy 94) rfl) zf0) trivial (zFc trivial trivial (zFc trivial trivial (zFc trivial trivial (zFc trivial trivial (zFc trivial trivial (zFc trivial trivial (zFc (zfc (zf_108 (zy 94) rfl) zf0) trivial (zFc trivial trivial (zFc trivial trivial (zFc trivial trivial (zFc trivial trivial (zFc trivial trivial (zFc trivial (zfc ⟨(zfc rfl zf0), rfl, by decide, by decide, _, rfl, Or.inl ⟨zq_315, zq_316, zq_317, zq_284⟩⟩ zf0) (zFc trivial rfl zFn))))))))))))))))))))))))))))))))))))))))))))))))))))))))))))))))))))))
set_option maxRecDepth 100000 in
theorem zt_95_0 : zFa 95 zk_95_0 := (zFc trivial trivial (zFc trivial trivial (zFc trivial trivial (zFc trivial trivial (zFc trivial trivial (zFc trivial trivial (zFc trivial trivial (zFc trivial trivial (zFc trivial trivial (zFc trivial (zfc (Or.inr (Or.inr ⟨by decide, by decide, rfl, by decide, zq_305, zq_284, Or.inl zq_304⟩)) zf0) (zFc trivial trivial (zFc trivial trivial (zFc trivial trivial (zFc trivial trivial (zFc trivial trivial (zFc trivial trivial (zFc trivial (zfc ⟨(zfc rfl zf0), rfl, by decide, by decide, _, rfl, Or.inl ⟨zq_340, zq_341, zq_342, zq_284⟩⟩ zf0) (zFc trivial rfl (zFc trivial trivial (zFc (zfc (zf_124 (zy 95) rfl) zf0) trivial (zFc trivial trivial (zFc trivial trivial (zFc trivial trivial (zFc trivial trivial (zFc trivial trivial (zFc trivial trivial (zFc trivial trivial (zFc trivial trivial (zFc trivial trivial (zFc trivial trivial (zFc trivial trivial (zFc trivial trivial (zFc trivial trivial (zFc (zfc (zf_124 (zy 95) rfl) zf0) trivial (zFc trivial trivial (zFc trivial trivial (zFc trivial trivial (zFc trivial trivial (zFc trivial trivial (zFc trivial trivial (zFc (zfc (zf_122 (zy 95) rfl) zf0) trivial (zFc trivial trivial (zFc trivial trivial (zFc trivial trivial (zFc trivial trivial (zFc trivial trivial (zFc trivial trivial (zFc trivial trivial (zFc (zfc (zf_122 (zy 95) rfl) zf0) trivial (zFc trivial trivial (zFc trivial trivial (zFc trivial trivial (zFc trivial trivial (zFc trivial trivial (zFc (zfc (zf_123 (zy 95) rfl) zf0) trivial (zFc trivial trivial (zFc trivial trivial (zFc trivial (zfc ⟨(zfc rfl zf0), rfl, by decide, by decide, _, rfl, Or.inl ⟨zq_306, zq_307, zq_308, zq_284⟩⟩ zf0) (zFc trivial trivial (zFc (zfc (zf_122 (zy 95) rfl) zf0) trivial (zFc trivial trivial (zFc trivial trivial (zFc trivial trivial (zFc trivial trivial (zFc trivial trivial (zFc trivial trivial (zFc trivial trivial (zFc trivial trivial (zFc trivial (zfc ⟨(zfc rfl zf0), rfl, by decide, by decide, _, rfl, Or.inl ⟨zq_343, zq_344, zq_345, zq_284⟩⟩ zf0) (zFc trivial trivial (zFc trivial trivial (zFc trivial trivial (zFc trivial trivial (zFc trivial trivial (zFc (zfc (zf_122 (zy 95) rfl) zf0) trivial (zFc trivial trivial (zFc trivial trivial (zFc trivial trivial (zFc trivial trivial (zFc (zfc (zf_122 (zy 95) rfl) zf0) trivial (zFc trivial trivial (zFc trivial trivial (zFc trivial trivial (zFc trivial trivial (zFc trivial trivial (zFc trivial trivial (zFc trivial trivial (zFc trivial trivial (zFc trivial trivial (zFc trivial (zfc ⟨(zfc rfl zf0), rfl, by decide, by decide, _, rfl, Or.inl ⟨zq_309, zq_310, zq_311, zq_284⟩⟩ zf0) (zFc trivial trivial (zFc trivial trivial (zFc trivial trivial (zFc trivial trivial (zFc trivial trivial (zFc (zfc (zf_123 (zy 95) rfl) zf0) trivial (zFc trivial trivial (zFc trivial trivial (zFc trivial (zfc ⟨(zfc rfl zf0), rfl, by decide, by decide, _, rfl, Or.inl ⟨zq_306, zq_307, zq_308, zq_284⟩⟩ zf0) (zFc trivial trivial zFn))))))))))))))))))))))))))))))))))))))))))))))))))))))))))))))))))))))))))))))))))))))))))))))))))))
set_option maxRecDepth 100000 in
theorem zt_95_1 : zFa 95 zk_95_1 := (zFc trivial trivial (zFc trivial trivial (zFc trivial trivial (zFc trivial trivial (zFc (zfc (zf_122 (zy 95) rfl) zf0) trivial (zFc trivial trivial (zFc trivial trivial (zFc (zfc (zf_122 (zy 95) rfl) zf0) trivial (zFc trivial trivial (zFc trivial trivial (zFc trivial trivial (zFc trivial trivial (zFc trivial trivial (zFc trivial trivial (zFc trivial trivial (zFc (zfc (zf_122 (zy 95) rfl) zf0) trivial (zFc trivial trivial (zFc trivial trivial (zFc trivial trivial (zFc trivial trivial (zFc trivial trivial (zFc (zfc (zf_122 (zy 95) rfl) zf0) trivial (zFc trivial trivial (zFc trivial trivial (zFc trivial trivial (zFc trivial trivial (zFc trivial trivial (zFc (zfc (zf_123 (zy 95) rfl) zf0) trivial (zFc trivial trivial (zFc trivial trivial (zFc trivial trivial (zFc trivial trivial (zFc trivial trivial (zFc trivial trivial (zFc trivial trivial (zFc trivial trivial (zFc trivial trivial (zFc trivial trivial (zFc trivial trivial (zFc trivial trivial (zFc trivial trivial (zFc trivial trivial (zFc trivial trivial (zFc trivial (zfc ⟨(zfc rfl zf0), rfl, by decide, by decide, _, rfl, Or.inl ⟨zq_312, zq_313, zq_314, zq_284⟩⟩ zf0) (zFc trivial rfl zFn)))))))))))))))))))))))))))))))))))))))))))))
set_option maxRecDepth 100000 in
theorem zt_96_0 : zFa 96 zk_96_0 := (zFc trivial trivial (zFc (zfc (zf_122 (zy 96) rfl) zf0) trivial (zFc trivial trivial (zFc trivial trivial (zFc trivial trivial (zFc trivial trivial (zFc trivial trivial (zFc trivial trivial (zFc trivial trivial (zFc trivial trivial (zFc (zfc (zf_122 (zy 96) rfl) zf0) trivial (zFc trivial trivial (zFc trivial trivial (zFc trivial trivial (zFc trivial trivial (zFc (zfc (zf_125 (zy 96) rfl) zf0) trivial (zFc trivial trivial (zFc trivial trivial (zFc trivial trivial (zFc trivial trivial (zFc trivial trivial (zFc trivial (zfc ⟨(zfc rfl zf0), rfl, by decide, by decide, _, rfl, Or.inl ⟨zq_346, zq_347, zq_348, zq_284⟩⟩ zf0) (zFc trivial trivial (zFc trivial trivial (zFc trivial trivial (zFc trivial trivial (zFc trivial trivial (zFc trivial trivial (zFc trivial trivial (zFc trivial trivial (zFc (zfc (zf_122 (zy 96) rfl) zf0) trivial (zFc trivial trivial (zFc trivial trivial (zFc trivial trivial (zFc trivial trivial (zFc trivial trivial (zFc trivial trivial (zFc trivial trivial (zFc trivial trivial (zFc (zfc (zf_122 (zy 96) rfl) zf0) trivial (zFc trivial trivial (zFc trivial trivial (zFc trivial trivial (zFc trivial trivial (zFc trivial trivial (zFc trivial trivial (zFc trivial trivial (zFc trivial trivial (zFc trivial trivial (zFc trivial (zfc ⟨(zfc rfl zf0), rfl, by decide, by decide, _, rfl, Or.inl ⟨zq_309, zq_310, zq_311, zq_284⟩⟩ zf0) (zFc trivial trivial (zFc trivial trivial (zFc trivial trivial (zFc trivial trivial (zFc trivial trivial (zFc trivial trivial (zFc trivial trivial (zFc trivial trivial (zFc (zfc (zf_122 (zy 96) rfl) zf0) trivial (zFc trivial trivial (zFc trivial trivial (zFc trivial trivial (zFc trivial trivial (zFc trivial trivial (zFc trivial trivial (zFc trivial trivial (zFc trivial trivial (zFc trivial trivial (zFc trivial trivial (zFc trivial trivial (zFc (zfc (zf_126 (zy 96) rfl) zf0) trivial (zFc trivial trivial (zFc trivial trivial (zFc trivial (zfc (Or.inr (Or.inr ⟨by decide, by decide, rfl, by decide, zq_350, zq_284, Or.inl zq_349⟩)) zf0) (zFc trivial trivial (zFc trivial trivial (zFc (zfc (zf_127 (zy 96) rfl) zf0) trivial (zFc trivial trivial (zFc trivial (zfc (Or.inr (Or.inr ⟨by decide, by decide, rfl, by decide, zq_350, zq_284, Or.inl zq_349⟩)) zf0) (zFc trivial trivial (zFc trivial trivial (zFc trivial trivial (zFc trivial trivial (zFc trivial trivial (zFc (zfc (zf_127 (zy 96) rfl) zf0) trivial (zFc trivial trivial (zFc trivial (zfc (Or.inr (Or.inr ⟨by decide, by decide, rfl, by decide, zq_350, zq_284, Or.inl zq_349⟩)) zf0) (zFc trivial trivial (zFc trivial trivial (zFc trivial trivial (zFc trivial trivial (zFc trivial trivial (zFc trivial trivial (zFc trivial trivial (zFc trivial trivial (zFc trivial trivial (zFc trivial trivial (zFc trivial trivial (zFc trivial trivial (zFc trivial trivial zFn))))))))))))))))))))))))))))))))))))))))))))))))))))))))))))))))))))))))))))))))))))))))))))))))))))
set_option maxRecDepth 100000 in
theorem zt_96_1 : zFa 96 zk_96_1 := (zFc (zfc (zf_128 (zy 96) rfl) zf0) trivial (zFc trivial trivial (zFc trivial trivial (zFc trivial trivial (zFc trivial trivial (zFc trivial trivial (zFc trivial trivial (zFc trivial trivial (zFc trivial trivial (zFc trivial trivial (zFc trivial trivial (zFc trivial trivial (zFc trivial trivial (zFc trivial (zfc ⟨(zfc rfl zf0), rfl, by decide, by decide, _, rfl, Or.inl ⟨zq_346, zq_347, zq_348, zq_284⟩⟩ zf0) (zFc trivial trivial (zFc trivial trivial (zFc trivial trivial (zFc trivial (zfc ⟨(zfc rfl zf0), rfl, by decide, by decide, _, rfl, Or.inl ⟨zq_309, zq_310, zq_311, zq_284⟩⟩ zf0) (zFc trivial trivial (zFc trivial trivial (zFc trivial trivial (zFc trivial trivial (zFc trivial trivial (zFc trivial trivial (zFc trivial trivial (zFc trivial trivial (zFc trivial trivial (zFc trivial trivial (zFc trivial trivial (zFc (zfc (zf_122 (zy 96) rfl) zf0) trivial (zFc trivial trivial (zFc trivial trivial (zFc trivial trivial (zFc trivial rfl zFn))))))))))))))))))))))))))))))))))
set_option maxRecDepth 100000 in
theorem zt_97_0 : zFa 97 zk_97_0 := (zFc trivial trivial (zFc (zfc (zf_129 (zy 97) rfl) zf0) trivial (zFc trivial trivial (zFc trivial trivial (zFc trivial trivial (zFc trivial trivial (zFc (zfc (zf_128 (zy 97) rfl) zf0) trivial (zFc trivial trivial (zFc trivial trivial (zFc trivial trivial (zFc trivial trivial (zFc (zfc (zf_130 (zy 97) rfl) zf0) trivial (zFc trivial trivial (zFc trivial trivial (zFc trivial trivial (zFc trivial trivial (zFc (zfc (zf_127 (zy 97) rfl) zf0) trivial (zFc trivial trivial (zFc trivial (zfc (Or.inr (Or.inr ⟨by decide, by decide, rfl, by decide, zq_350, zq_284, Or.inl zq_349⟩)) zf0) (zFc trivial trivial (zFc trivial trivial (zFc trivial rfl zFn))))))))))))))))))))))
set_option maxRecDepth 100000 in
theorem zt_98_0 : zFa 98 zk_98_0 := (zFc trivial trivial (zFc trivial trivial (zFc trivial trivial (zFc trivial trivial (zFc trivial trivial (zFc trivial trivial (zFc trivial trivial (zFc trivial trivial (zFc trivial trivial (zFc trivial (zfc (Or.inl ⟨rfl, rfl⟩) zf0) zFn))))))))))
set_option maxRecDepth 100000 in
theorem zt_99_0 : zFa 99 zk_99_0 := (zFc trivial trivial (zFc trivial trivial (zFc trivial (zfc (Or.inr (Or.inr ⟨by decide, by decide, rfl, by decide, zq_352, zq_284, Or.inl zq_351⟩)) zf0) (zFc trivial trivial (zFc trivial trivial (zFc trivial trivial (zFc trivial trivial (zFc trivial trivial (zFc (zfc (zf_106 (zy 99) rfl) zf0) trivial (zFc trivial trivial (zFc trivial trivial (zFc trivial trivial (zFc trivial trivial (zFc trivial trivial (zFc trivial trivial (zFc trivial trivial (zFc trivial (zfc ⟨(zfc rfl zf0), rfl, by decide, by decide, _, rfl, Or.inl ⟨zq_353, zq_354, zq_355, zq_284⟩⟩ zf0) (zFc trivial trivial (zFc trivial trivial (zFc trivial trivial (zFc trivial trivial (zFc trivial trivial (zFc trivial (zfc ⟨(zfc rfl zf0), rfl, by decide, by decide, _, rfl, Or.inl ⟨zq_306, zq_307, zq_308, zq_284⟩⟩ zf0) (zFc trivial rfl (zFc trivial trivial (zFc (zfc (zf_122 (zy 99) rfl) zf0) trivial (zFc trivial trivial (zFc trivial trivial (zFc trivial trivial (zFc trivial trivial (zFc (zfc (zf_122 (zy 99) rfl) zf0) trivial (zFc trivial trivial (zFc trivial trivial (zFc trivial trivial (zFc trivial trivial (zFc (zfc (zf_123 (zy 99) rfl) zf0) trivial (zFc trivial trivial (zFc trivial trivial (zFc trivial trivial (zFc trivial trivial (zFc (zfc (zf_123 (zy 99) rfl) zf0) trivial (zFc trivial trivial (zFc trivial trivial (zFc trivial trivial (zFc trivial trivial (zFc (zfc (zf_124 (zy 99) rfl) zf0) trivial (zFc trivial trivial (zFc trivial trivial (zFc trivial trivial (zFc trivial trivial (zFc trivial trivial (zFc trivial trivial (zFc trivial trivial (zFc trivial trivial (zFc trivial trivial (zFc trivial trivial (zFc trivial trivial (zFc trivial trivial (zFc trivial trivial (zFc trivial (zfc ⟨(zfc rfl zf0), rfl, by decide, by decide, _, rfl, Or.inl ⟨zq_312, zq_313, zq_314, zq_284⟩⟩ zf0) (zFc trivial rfl zFn)))))))))))))))))))))))))))))))))))))))))))))))))))))))))))))
set_option maxRecDepth 100000 in
theorem zt_100_0 : zFa 100 zk_100_0 := (zFc trivial trivial (zFc trivial trivial (zFc trivial trivial (zFc trivial trivial (zFc trivial trivial (zFc trivial trivial (zFc trivial trivial (zFc trivial trivial (zFc trivial trivial (zFc trivial trivial (zFc trivial trivial (zFc trivial trivial (zFc trivial trivial (zFc trivial trivial (zFc trivial trivial (zFc trivial trivial (zFc trivial trivial (zFc trivial trivial (zFc trivial trivial (zFc trivial trivial (zFc trivial trivial (zFc trivial trivial (zFc trivial trivial (zFc trivial trivial (zFc trivial (zfc (Or.inl ⟨rfl, rfl⟩) zf0) zFn)))))))))))))))))))))))))
set_option maxRecDepth 100000 in
theorem zt_101_0 : zFa 101 zk_101_0 := (zFc trivial trivial (zFc trivial trivial (zFc trivial trivial (zFc trivial trivial (zFc trivial trivial (zFc trivial trivial (zFc trivial trivial (zFc trivial trivial (zFc trivial trivial (zFc trivial trivial (zFc trivial trivial (zFc trivial trivial (zFc trivial trivial (zFc trivial trivial (zFc (zfc (zf_122 (zy 101) rfl) zf0) trivial (zFc trivial trivial (zFc trivial trivial (zFc trivial trivial (zFc trivial trivial (zFc trivial trivial (zFc trivial trivial (zFc trivial trivial (zFc trivial trivial (zFc trivial trivial (zFc trivial trivial (zFc trivial trivial (zFc trivial trivial (zFc trivial trivial (zFc trivial trivial (zFc trivial trivial (zFc trivial trivial (zFc trivial (zfc (Or.inl ⟨rfl, rfl⟩) zf0) zFn))))))))))))))))))))))))))))))))
set_option maxRecDepth 100000 in
theorem zt_102_0 : zFa 102 zk_102_0 := (zFc trivial trivial (zFc trivial trivial (zFc trivial (zfc (Or.inr (Or.inr ⟨by decide, by decide, rfl, by decide, zq_325, zq_284, Or.inl zq_324⟩)) zf0) (zFc trivial trivial (zFc trivial trivial (zFc (zfc (zf_110 (zy 102) rfl) zf0) trivial (zFc trivial trivial (zFc trivial trivial (zFc trivial trivial (zFc trivial trivial (zFc trivial trivial (zFc trivial trivial (zFc trivial trivial (zFc trivial trivial (zFc trivial (zfc (Or.inr ⟨rfl, rfl⟩) zf0) (zFc trivial trivial (zFc trivial trivial (zFc trivial trivial (zFc trivial trivial (zFc trivial trivial (zFc trivial trivial (zFc trivial (zfc ⟨(zfc rfl zf0), rfl, by decide, by decide, _, rfl, Or.inl ⟨zq_326, zq_327, zq_328, zq_284⟩⟩ zf0) (zFc trivial trivial (zFc trivial (zfc (Or.inr ⟨rfl, rfl⟩) zf0) zFn))))))))))))))))))))))))
set_option maxRecDepth 100000 in
theorem zt_103_0 : zFa 103 zk_103_0 := (zFc trivial trivial (zFc trivial trivial (zFc trivial (zfc (Or.inr (Or.inr ⟨by decide, by decide, rfl, by decide, zq_339, zq_284, Or.inl zq_338⟩)) zf0) (zFc trivial trivial (zFc trivial trivial (zFc trivial trivial (zFc trivial (zfc (Or.inr (Or.inr ⟨by decide, by decide, rfl, by decide, zq_339, zq_284, Or.inl zq_338⟩)) zf0) (zFc trivial trivial (zFc trivial trivial (zFc trivial trivial (zFc trivial trivial (zFc trivial trivial (zFc (zfc (zf_106 (zy 103) rfl) zf0) trivial (zFc trivial trivial (zFc trivial trivial (zFc trivial trivial (zFc trivial trivial (zFc trivial trivial (zFc trivial trivial (zFc trivial (zfc (Or.inl ⟨rfl, rfl⟩) zf0) (zFc trivial trivial (zFc trivial trivial (zFc trivial trivial (zFc trivial trivial (zFc trivial (zfc ⟨(zfc rfl zf0), rfl, by decide, by decide, _, rfl, Or.inl ⟨zq_353, zq_354, zq_355, zq_284⟩⟩ zf0) (zFc trivial trivial (zFc trivial trivial (zFc trivial trivial (zFc trivial trivial (zFc trivial (zfc (Or.inl ⟨rfl, rfl⟩) zf0) (zFc trivial trivial (zFc (zfc (zf_122 (zy 103) rfl) zf0) trivial (zFc trivial trivial (zFc trivial trivial (zFc trivial trivial (zFc trivial trivial (zFc (zfc (zf_125 (zy 103) rfl) zf0) trivial (zFc trivial trivial (zFc trivial trivial (zFc trivial trivial (zFc trivial trivial (zFc trivial trivial (zFc trivial (zfc ⟨(zfc rfl zf0), rfl, by decide, by decide, _, rfl, Or.inl ⟨zq_346, zq_347, zq_348, zq_284⟩⟩ zf0) (zFc trivial trivial (zFc trivial trivial (zFc trivial trivial (zFc trivial trivial (zFc trivial trivial (zFc trivial trivial (zFc trivial trivial (zFc trivial trivial (zFc trivial trivial (zFc trivial trivial (zFc trivial trivial (zFc trivial trivial (zFc trivial (zfc ⟨(zfc rfl zf0), rfl, by decide, by decide, _, rfl, Or.inl ⟨zq_312, zq_313, zq_314, zq_284⟩⟩ zf0) (zFc trivial trivial (zFc trivial trivial (zFc trivial trivial (zFc trivial trivial (zFc trivial trivial (zFc trivial (zfc (Or.inl ⟨rfl, rfl⟩) zf0) zFn))))))))))))))))))))))))))))))))))))))))))))))))))))))))))))))
set_option maxRecDepth 100000 in
theorem zt_104_0 : zFa 104 zk_104_0 := (zFc trivial trivial (zFc trivial trivial (zFc trivial (zfc (Or.inr (Or.inr ⟨by decide, by decide, rfl, by decide, zq_357, zq_284, Or.inl zq_356⟩)) zf0) (zFc trivial trivial (zFc trivial trivial (zFc (zfc (zf_122 (zy 104) rfl) zf0) trivial (zFc trivial trivial (zFc trivial trivial (zFc trivial (zfc (Or.inr (Or.inr ⟨by decide, by decide, rfl, by decide, zq_359, zq_284, Or.inl zq_358⟩)) zf0) (zFc trivial trivial (zFc trivial trivial (zFc trivial trivial (zFc trivial trivial (zFc trivial (zfc (Or.inr ⟨rfl, rfl⟩) zf0) (zFc trivial trivial (zFc (zfc (zf_122 (zy 104) rfl) zf0) trivial (zFc trivial trivial (zFc trivial trivial (zFc trivial (zfc (Or.inr (Or.inr ⟨by decide, by decide, rfl, by decide, zq_359, zq_284, Or.inl zq_358⟩)) zf0) (zFc trivial trivial (zFc trivial trivial (zFc trivial trivial (zFc trivial trivial (zFc trivial trivial (zFc trivial (zfc (Or.inr (Or.inr ⟨by decide, by decide, rfl, by decide, zq_359, zq_284, Or.inl zq_358⟩)) zf0) (zFc trivial trivial (zFc trivial (zfc ⟨(zfc rfl zf0), rfl, by decide, by decide, _, rfl, Or.inl ⟨zq_309, zq_310, zq_311, zq_284⟩⟩ zf0) (zFc trivial trivial (zFc trivial (zfc (Or.inr ⟨rfl, rfl⟩) zf0) zFn)))))))))))))))))))))))))))))
set_option maxRecDepth 100000 in
theorem zt_105_0 : zFa 105 zk_105_0 := (zFc trivial trivial (zFc trivial trivial (zFc trivial (zfc (Or.inr (Or.inr ⟨by decide, by decide, rfl, by decide, zq_339, zq_284, Or.inl zq_338⟩)) zf0) (zFc trivial trivial (zFc trivial trivial (zFc trivial trivial (zFc trivial trivial (zFc trivial trivial (zFc trivial (zfc (Or.inr (Or.inr ⟨by decide, by decide, rfl, by decide, zq_339, zq_284, Or.inl zq_338⟩)) zf0) (zFc trivial trivial (zFc trivial trivial (zFc trivial trivial (zFc trivial trivial (zFc trivial (zfc (Or.inr ⟨rfl, rfl⟩) zf0) zFn))))))))))))))
set_option maxRecDepth 100000 in
theorem zt_106_0 : zFa 106 zk_106_0 := (zFc trivial trivial (zFc trivial trivial (zFc trivial trivial (zFc trivial trivial (zFc trivial trivial (zFc trivial trivial (zFc trivial trivial (zFc trivial (zfc (Or.inl ⟨rfl, rfl⟩) zf0) zFn))))))))
set_option maxRecDepth 100000 in
theorem zt_107_0 : zFa 107 zk_107_0 := (zFc trivial trivial (zFc trivial trivial (zFc trivial (zfc (Or.inr (Or.inr ⟨by decide, by decide, rfl, by decide, zq_357, zq_284, Or.inl zq_356⟩)) zf0) (zFc trivial trivial (zFc trivial trivial (zFc (zfc (zf_122 (zy 107) rfl) zf0) trivial (zFc trivial trivial (zFc trivial trivial (zFc trivial (zfc (Or.inr (Or.inr ⟨by decide, by decide, rfl, by decide, zq_359, zq_284, Or.inl zq_358⟩)) zf0) (zFc trivial trivial (zFc trivial trivial (zFc trivial trivial (zFc (zfc (zf_122 (zy 107) rfl) zf0) trivial (zFc trivial trivial (zFc trivial trivial (zFc trivial (zfc (Or.inr (Or.inr ⟨by decide, by decide, rfl, by decide, zq_359, zq_284, Or.inl zq_358⟩)) zf0) (zFc trivial trivial (zFc trivial trivial (zFc trivial trivial (zFc trivial trivial (zFc trivial (zfc (Or.inr ⟨rfl, rfl⟩) zf0) (zFc trivial trivial (zFc (zfc (zf_122 (zy 107) rfl) zf0) trivial (zFc trivial trivial (zFc trivial trivial (zFc trivial (zfc (Or.inr (Or.inr ⟨by decide, by decide, rfl, by decide, zq_359, zq_284, Or.inl zq_358⟩)) zf0) (zFc trivial trivial (zFc trivial trivial (zFc trivial trivial (zFc trivial trivial (zFc trivial trivial (zFc trivial (zfc (Or.inr (Or.inr ⟨by decide, by decide, rfl, by decide, zq_359, zq_284, Or.inl zq_358⟩)) zf0) (zFc trivial trivial (zFc trivial (zfc ⟨(zfc rfl zf0), rfl, by decide, by decide, _, rfl, Or.inl ⟨zq_309, zq_310, zq_311, zq_284⟩⟩ zf0) (zFc trivial trivial (zFc trivial (zfc (Or.inr ⟨rfl, rfl⟩) zf0) zFn))))))))))))))))))))))))))))))))))))
set_option maxRecDepth 100000 in
theorem zt_108_0 : zFa 108 zk_108_0 := (zFc trivial trivial (zFc trivial trivial (zFc trivial (zfc (Or.inr (Or.inr ⟨by decide, by decide, rfl, by decide, zq_357, zq_284, Or.inl zq_356⟩)) zf0) (zFc trivial trivial (zFc trivial trivial (zFc (zfc (zf_122 (zy 108) rfl) zf0) trivial (zFc trivial trivial (zFc trivial trivial (zFc trivial (zfc (Or.inr (Or.inr ⟨by decide, by decide, rfl, by decide, zq_359, zq_284, Or.inl zq_358⟩)) zf0) (zFc trivial trivial (zFc trivial trivial (zFc trivial trivial (zFc trivial trivial (zFc trivial (zfc (Or.inr ⟨rfl, rfl⟩) zf0) (zFc trivial trivial (zFc trivial trivial (zFc trivial (zfc (Or.inr (Or.inr ⟨by decide, by decide, rfl, by decide, zq_359, zq_284, Or.inl zq_358⟩)) zf0) (zFc trivial trivial (zFc trivial trivial (zFc trivial trivial (zFc trivial (zfc ⟨(zfc rfl zf0), rfl, by decide, by decide, _, rfl, Or.inl ⟨zq_346, zq_347, zq_348, zq_284⟩⟩ zf0) (zFc trivial trivial (zFc (zfc (zf_122 (zy 108) rfl) zf0) trivial (zFc trivial trivial (zFc trivial trivial (zFc trivial trivial (zFc trivial trivial (zFc trivial trivial (zFc trivial trivial (zFc trivial (zfc ⟨(zfc rfl zf0), rfl, by decide, by decide, _, rfl, Or.inl ⟨zq_309, zq_310, zq_311, zq_284⟩⟩ zf0) (zFc trivial trivial (zFc trivial (zfc (Or.inr ⟨rfl, rfl⟩) zf0) zFn))))))))))))))))))))))))))))))))
set_option maxRecDepth 100000 in
theorem zt_109_0 : zFa 109 zk_109_0 := (zFc trivial trivial (zFc trivial trivial (zFc trivial (zfc (Or.inr (Or.inr ⟨by decide, by decide, rfl, by decide, zq_357, zq_284, Or.inl zq_356⟩)) zf0) (zFc trivial trivial (zFc trivial trivial (zFc trivial trivial (zFc trivial trivial (zFc trivial trivial (zFc trivial trivial (zFc trivial trivial (zFc (zfc (zf_122 (zy 109) rfl) zf0) trivial (zFc trivial trivial (zFc trivial trivial (zFc trivial (zfc (Or.inr (Or.inr ⟨by decide, by decide, rfl, by decide, zq_359, zq_284, Or.inl zq_358⟩)) zf0) (zFc trivial trivial (zFc trivial trivial (zFc trivial trivial (zFc trivial trivial (zFc trivial (zfc (Or.inl ⟨rfl, rfl⟩) zf0) (zFc trivial trivial (zFc trivial trivial (zFc trivial (zfc (Or.inr (Or.inr ⟨by decide, by decide, rfl, by decide, zq_359, zq_284, Or.inl zq_358⟩)) zf0) (zFc trivial trivial (zFc trivial trivial (zFc (zfc (zf_129 (zy 109) rfl) zf0) trivial (zFc trivial trivial (zFc trivial trivial (zFc trivial trivial (zFc trivial trivial (zFc trivial trivial (zFc (zfc (zf_128 (zy 109) rfl) zf0) trivial (zFc trivial trivial (zFc trivial trivial (zFc trivial trivial (zFc trivial trivial (zFc trivial trivial (zFc trivial trivial (zFc trivial trivial (zFc trivial trivial (zFc trivial (zfc (Or.inl ⟨rfl, rfl⟩) zf0) (zFc trivial trivial (zFc (zfc (zf_129 (zy 109) rfl) zf0) trivial (zFc trivial trivial (zFc trivial trivial (zFc trivial trivial (zFc trivial trivial (zFc trivial trivial (zFc trivial trivial (zFc trivial trivial (zFc trivial trivial (zFc trivial trivial (zFc trivial trivial (zFc trivial trivial (zFc trivial trivial (zFc trivial trivial (zFc trivial trivial (zFc trivial trivial (zFc trivial (zfc ⟨(zfc rfl zf0), rfl, by decide, by decide, _, rfl, Or.inl ⟨zq_312, zq_313, zq_314, zq_284⟩⟩ zf0) (zFc trivial trivial (zFc trivial (zfc (Or.inl ⟨rfl, rfl⟩) zf0) zFn))))))))))))))))))))))))))))))))))))))))))))))))))))))))))))
set_option maxRecDepth 100000 in
theorem zt_110_0 : zFa 110 zk_110_0 := (zFc trivial trivial (zFc trivial trivial (zFc trivial (zfc (Or.inr (Or.inr ⟨by decide, by decide, rfl, by decide, zq_357, zq_284, Or.inl zq_356⟩)) zf0) (zFc trivial trivial (zFc trivial trivial (zFc (zfc (zf_122 (zy 110) rfl) zf0) trivial (zFc trivial trivial (zFc trivial trivial (zFc trivial (zfc (Or.inr (Or.inr ⟨by decide, by decide, rfl, by decide, zq_359, zq_284, Or.inl zq_358⟩)) zf0) (zFc trivial trivial (zFc trivial trivial (zFc trivial trivial (zFc trivial trivial (zFc trivial (zfc (Or.inl ⟨rfl, rfl⟩) zf0) (zFc trivial trivial (zFc trivial trivial (zFc trivial (zfc (Or.inr (Or.inr ⟨by decide, by decide, rfl, by decide, zq_359, zq_284, Or.inl zq_358⟩)) zf0) (zFc trivial trivial (zFc trivial trivial (zFc trivial (zfc (Or.inr (Or.inr ⟨by decide, by decide, rfl, by decide, zq_350, zq_284, Or.inl zq_349⟩)) zf0) (zFc trivial trivial (zFc trivial trivial (zFc (zfc (zf_127 (zy 110) rfl) zf0) trivial (zFc trivial trivial (zFc trivial trivial (zFc trivial trivial (zFc trivial trivial (zFc trivial (zfc (Or.inl ⟨rfl, rfl⟩) zf0) (zFc trivial trivial (zFc (zfc (zf_126 (zy 110) rfl) zf0) trivial (zFc trivial trivial (zFc trivial trivial (zFc trivial trivial (zFc trivial trivial (zFc trivial trivial (zFc trivial trivial (zFc (zfc (zf_127 (zy 110) rfl) zf0) trivial (zFc trivial trivial (zFc trivial trivial (zFc trivial trivial (zFc trivial trivial (zFc trivial trivial (zFc trivial trivial (zFc trivial trivial (zFc trivial trivial (zFc trivial trivial (zFc trivial trivial (zFc (zfc (zf_127 (zy 110) rfl) zf0) trivial (zFc trivial trivial (zFc trivial trivial (zFc trivial trivial (zFc trivial trivial (zFc (zfc (zf_126 (zy 110) rfl) zf0) trivial (zFc trivial trivial (zFc trivial trivial (zFc trivial trivial (zFc trivial trivial (zFc trivial trivial (zFc trivial trivial (zFc (zfc (zf_126 (zy 110) rfl) zf0) trivial (zFc trivial trivial (zFc trivial trivial (zFc trivial trivial (zFc trivial trivial (zFc trivial trivial (zFc trivial trivial (zFc trivial trivial (zFc trivial trivial (zFc trivial trivial (zFc trivial trivial (zFc trivial trivial (zFc trivial trivial (zFc (zfc (zf_130 (zy 110) rfl) zf0) trivial (zFc trivial trivial (zFc trivial trivial (zFc (zfc (zf_130 (zy 110) rfl) zf0) trivial (zFc trivial trivial (zFc trivial trivial (zFc trivial trivial (zFc trivial trivial (zFc trivial trivial (zFc trivial trivial (zFc trivial trivial (zFc trivial trivial (zFc trivial trivial (zFc trivial trivial (zFc trivial trivial (zFc trivial trivial (zFc trivial trivial (zFc trivial trivial (zFc (zfc (zf_130 (zy 110) rfl) zf0) trivial (zFc trivial trivial (zFc trivial trivial (zFc trivial trivial (zFc trivial (zfc ⟨(zfc rfl zf0), rfl, by decide, by decide, _, rfl, Or.inl ⟨zq_312, zq_313, zq_314, zq_284⟩⟩ zf0) (zFc trivial trivial (zFc trivial (zfc (Or.inl ⟨rfl, rfl⟩) zf0) zFn)))))))))))))))))))))))))))))))))))))))))))))))))))))))))))))))))))))))))))))))))))))))))))))))))
set_option maxRecDepth 100000 in
theorem zt_111_0 : zFa 111 zk_111_0 := (zFc trivial trivial (zFc trivial trivial (zFc trivial (zfc (Or.inr (Or.inr ⟨by decide, by decide, rfl, by decide, zq_357, zq_284, Or.inl zq_356⟩)) zf0) (zFc trivial trivial (zFc trivial trivial (zFc trivial trivial (zFc trivial trivial (zFc (zfc (zf_122 (zy 111) rfl) zf0) trivial (zFc trivial trivial (zFc trivial trivial (zFc trivial (zfc (Or.inr (Or.inr ⟨by decide, by decide, rfl, by decide, zq_359, zq_284, Or.inl zq_358⟩)) zf0) (zFc trivial trivial (zFc trivial (zfc (Or.inl ⟨rfl, rfl⟩) zf0) zFn)))))))))))))
set_option maxRecDepth 100000 in
theorem zt_112_0 : zFa 112 zk_112_0 := (zFc trivial trivial (zFc trivial trivial (zFc trivial (zfc (Or.inr (Or.inr ⟨by decide, by decide, rfl, by decide, zq_357, zq_284, Or.inl zq_356⟩)) zf0) (zFc trivial trivial (zFc trivial trivial (zFc (zfc (zf_122 (zy 112) rfl) zf0) trivial (zFc trivial trivial (zFc trivial trivial (zFc trivial (zfc (Or.inr (Or.inr ⟨by decide, by decide, rfl, by decide, zq_359, zq_284, Or.inl zq_358⟩)) zf0) (zFc trivial trivial (zFc trivial trivial (zFc trivial trivial (zFc (zfc (zf_122 (zy 112) rfl) zf0) trivial (zFc trivial trivial (zFc trivial trivial (zFc trivial (zfc (Or.inr (Or.inr ⟨by decide, by decide, rfl, by decide, zq_359, zq_284, Or.inl zq_358⟩)) zf0) (zFc trivial trivial (zFc trivial trivial (zFc trivial trivial (zFc trivial trivial (zFc trivial (zfc (Or.inl ⟨rfl, rfl⟩) zf0) (zFc trivial trivial (zFc (zfc (zf_125 (zy 112) rfl) zf0) trivial (zFc trivial trivial (zFc trivial trivial (zFc trivial (zfc (Or.inr (Or.inr ⟨by decide, by decide, rfl, by decide, zq_359, zq_284, Or.inl zq_358⟩)) zf0) (zFc trivial trivial (zFc trivial (zfc (Or.inl ⟨rfl, rfl⟩) zf0) zFn))))))))))))))))))))))))))))
set_option maxRecDepth 100000 in
theorem zt_113_0 : zFa 113 zk_113_0 := (zFc trivial trivial (zFc trivial trivial (zFc trivial (zfc (Or.inr (Or.inr ⟨by decide, by decide, rfl, by decide, zq_357, zq_284, Or.inl zq_356⟩)) zf0) (zFc trivial trivial (zFc trivial trivial (zFc trivial (zfc (Or.inl ⟨rfl, rfl⟩) zf0) (zFc trivial trivial (zFc trivial trivial (zFc trivial (zfc (Or.inr (Or.inr ⟨by decide, by decide, rfl, by decide, zq_359, zq_284, Or.inl zq_358⟩)) zf0) (zFc trivial trivial (zFc trivial trivial (zFc (zfc (zf_122 (zy 113) rfl) zf0) trivial (zFc trivial trivial (zFc trivial trivial (zFc trivial trivial (zFc trivial trivial (zFc trivial trivial (zFc (zfc (zf_127 (zy 113) rfl) zf0) trivial (zFc trivial trivial (zFc trivial (zfc (Or.inr (Or.inr ⟨by decide, by decide, rfl, by decide, zq_350, zq_284, Or.inl zq_349⟩)) zf0) (zFc trivial trivial (zFc trivial trivial (zFc trivial trivial (zFc trivial (zfc (Or.inl ⟨rfl, rfl⟩) zf0) zFn))))))))))))))))))))))))
set_option maxRecDepth 100000 in
theorem zt_114_0 : zFa 114 zk_114_0 := (zFc trivial trivial (zFc trivial trivial (zFc trivial (zfc (Or.inr (Or.inr ⟨by decide, by decide, rfl, by decide, zq_325, zq_284, Or.inl zq_324⟩)) zf0) (zFc trivial trivial (zFc trivial trivial (zFc trivial trivial (zFc trivial trivial (zFc (zfc (zf_110 (zy 114) rfl) zf0) trivial (zFc trivial trivial (zFc trivial trivial (zFc trivial trivial (zFc trivial trivial (zFc trivial trivial (zFc trivial trivial (zFc trivial (zfc (Or.inl ⟨rfl, rfl⟩) zf0) zFn)))))))))))))))
set_option maxRecDepth 100000 in
theorem zt_115_0 : zFa 115 zk_115_0 := (zFc trivial trivial (zFc trivial trivial (zFc trivial (zfc (Or.inr (Or.inr ⟨by decide, by decide, rfl, by decide, zq_325, zq_284, Or.inl zq_324⟩)) zf0) (zFc trivial trivial (zFc trivial trivial (zFc trivial trivial (zFc trivial (zfc (Or.inr (Or.inr ⟨by decide, by decide, rfl, by decide, zq_339, zq_284, Or.inl zq_338⟩)) zf0) (zFc trivial trivial (zFc trivial trivial (zFc trivial trivial (zFc (zfc (zf_110 (zy 115) rfl) zf0) trivial (zFc trivial trivial (zFc trivial trivial (zFc trivial trivial (zFc trivial trivial (zFc trivial trivial (zFc trivial trivial (zFc trivial (zfc (Or.inr (Or.inr ⟨by decide, by decide, rfl, by decide, zq_339, zq_284, Or.inl zq_338⟩)) zf0) (zFc trivial trivial (zFc trivial trivial (zFc trivial (zfc (Or.inl ⟨rfl, rfl⟩) zf0) (zFc trivial trivial (zFc trivial trivial (zFc trivial trivial (zFc trivial trivial (zFc trivial trivial (zFc trivial trivial (zFc trivial trivial (zFc trivial trivial (zFc trivial trivial (zFc trivial trivial (zFc trivial trivial (zFc trivial trivial (zFc trivial trivial (zFc (zfc (zf_111 (zy 115) rfl) zf0) trivial (zFc trivial trivial (zFc trivial trivial (zFc trivial trivial (zFc trivial trivial (zFc trivial trivial (zFc trivial trivial (zFc trivial trivial (zFc trivial trivial (zFc trivial trivial (zFc trivial trivial (zFc trivial trivial (zFc trivial trivial (zFc trivial trivial (zFc trivial trivial (zFc trivial trivial (zFc trivial trivial (zFc trivial trivial (zFc trivial trivial (zFc trivial trivial (zFc trivial trivial (zFc trivial trivial (zFc trivial trivial (zFc (zfc (zf_111 (zy 115) rfl) zf0) trivial (zFc trivial trivial (zFc trivial trivial (zFc trivial trivial (zFc trivial trivial (zFc trivial trivial (zFc trivial trivial (zFc trivial (zfc (Or.inl ⟨rfl, rfl⟩) zf0) zFn)))))))))))))))))))))))))))))))))))))))))))))))))))))))))))))))))
set_option maxRecDepth 100000 in
theorem zt_116_0 : zFa 116 zk_116_0 := (zFc trivial trivial (zFc trivial trivial (zFc trivial (zfc (Or.inr (Or.inr ⟨by decide, by decide, rfl, by decide, zq_325, zq_284, Or.inl zq_324⟩)) zf0) (zFc trivial trivial (zFc trivial trivial (zFc trivial trivial (zFc trivial trivial (zFc trivial trivial (zFc trivial trivial (zFc trivial trivial (zFc trivial trivial (zFc trivial trivial (zFc trivial (zfc ⟨(zfc rfl zf0), rfl, by decide, by decide, _, rfl, Or.inl ⟨zq_318, zq_319, zq_320, zq_284⟩⟩ zf0) (zFc trivial (zfc (Or.inl ⟨rfl, rfl⟩) zf0) zFn))))))))))))))
set_option maxRecDepth 100000 in
theorem zt_117_0 : zFa 117 zk_117_0 := (zFc trivial trivial (zFc trivial trivial (zFc trivial (zfc (Or.inr (Or.inr ⟨by decide, by decide, rfl, by decide, zq_325, zq_284, Or.inl zq_324⟩)) zf0) (zFc trivial trivial (zFc trivial trivial (zFc trivial trivial (zFc trivial trivial (zFc (zfc (zf_112 (zy 117) rfl) zf0) trivial (zFc trivial trivial (zFc trivial trivial (zFc trivial trivial (zFc trivial trivial (zFc trivial trivial (zFc trivial trivial (zFc trivial (zfc (Or.inl ⟨rfl, rfl⟩) zf0) zFn)))))))))))))))
set_option maxRecDepth 100000 in
theorem zt_118_0 : zFa 118 zk_118_0 := (zFc trivial trivial (zFc trivial trivial (zFc trivial (zfc (Or.inr (Or.inr ⟨by decide, by decide, rfl, by decide, zq_325, zq_284, Or.inl zq_324⟩)) zf0) (zFc trivial trivial (zFc trivial trivial (zFc (zfc (zf_106 (zy 118) rfl) zf0) trivial (zFc trivial trivial (zFc trivial trivial (zFc trivial trivial (zFc trivial trivial (zFc trivial trivial (zFc trivial trivial (zFc trivial trivial (zFc trivial trivial (zFc trivial trivial (zFc trivial trivial (zFc trivial (zfc (Or.inr ⟨rfl, rfl⟩) zf0) zFn)))))))))))))))))
set_option maxRecDepth 100000 in
theorem zt_119_0 : zFa 119 zk_119_0 := (zFc trivial trivial (zFc trivial trivial (zFc trivial (zfc (Or.inr (Or.inr ⟨by decide, by decide, rfl, by decide, zq_325, zq_284, Or.inl zq_324⟩)) zf0) (zFc trivial trivial (zFc trivial trivial (zFc trivial (zfc (Or.inl ⟨rfl, rfl⟩) zf0) (zFc trivial trivial (zFc trivial trivial (zFc trivial trivial (zFc trivial trivial (zFc trivial trivial (zFc trivial trivial (zFc trivial trivial (zFc trivial trivial (zFc trivial trivial (zFc trivial trivial (zFc trivial trivial (zFc trivial trivial (zFc trivial trivial (zFc trivial trivial (zFc trivial trivial (zFc trivial trivial (zFc trivial trivial (zFc trivial trivial (zFc trivial trivial (zFc trivial trivial (zFc trivial trivial (zFc (zfc (zf_122 (zy 119) rfl) zf0) trivial (zFc trivial trivial (zFc trivial trivial (zFc trivial trivial (zFc trivial trivial (zFc trivial trivial (zFc trivial trivial (zFc trivial trivial (zFc trivial trivial (zFc trivial trivial (zFc trivial trivial (zFc trivial trivial (zFc trivial (zfc (Or.inl ⟨rfl, rfl⟩) zf0) zFn))))))))))))))))))))))))))))))))))))))))
set_option maxRecDepth 100000 in
theorem zt_120_0 : zFa 120 zk_120_0 := (zFc (zfc ⟨_, _, _, zty_5, zd_5, rfl, zq_360, zq_361, zq_5, zdf_5⟩ zf0) trivial (zFc trivial trivial (zFc trivial (zfc (Or.inr ⟨by decide, rfl, by decide, rfl, rfl, zq_363, zq_5, Or.inl zq_362⟩) zf0) (zFc trivial trivial (zFc (zfc ⟨_, _, _, zty_6, zd_6, rfl, zq_364, zq_365, zq_284, zdf_6⟩ zf0) trivial (zFc trivial trivial (zFc trivial (zfc (Or.inr ⟨by decide, rfl, by decide, rfl, rfl, zq_367, zq_284, Or.inl zq_366⟩) zf0) (zFc trivial trivial (zFc trivial trivial (zFc trivial trivial (zFc trivial trivial (zFc trivial trivial (zFc trivial trivial (zFc trivial trivial (zFc trivial trivial (zFc trivial trivial (zFc trivial trivial (zFc trivial trivial (zFc trivial trivial (zFc trivial trivial (zFc trivial trivial (zFc trivial trivial (zFc trivial trivial (zFc trivial trivial (zFc trivial trivial (zFc trivial trivial (zFc trivial trivial (zFc trivial trivial (zFc trivial trivial (zFc trivial trivial (zFc trivial trivial (zFc trivial trivial (zFc trivial trivial (zFc trivial (zfc ⟨(zfc rfl zf0), rfl, by decide, by decide, _, rfl, Or.inl ⟨zq_368, zq_369, zq_370, zq_5⟩⟩ zf0) (zFc trivial trivial (zFc trivial trivial (zFc trivial trivial (zFc trivial trivial (zFc trivial trivial (zFc trivial trivial (zFc trivial trivial (zFc trivial trivial (zFc trivial trivial (zFc trivial trivial (zFc trivial trivial (zFc trivial (zfc ⟨(zfc rfl zf0), rfl, by decide, by decide, _, rfl, Or.inl ⟨zq_371, zq_372, zq_373, zq_284⟩⟩ zf0) (zFc trivial trivial (zFc trivial trivial (zFc trivial (zfc (Or.inr ⟨rfl, rfl⟩) zf0) (zFc trivial trivial (zFc trivial trivial (zFc trivial trivial (zFc trivial trivial (zFc trivial trivial (zFc trivial trivial (zFc trivial trivial (zFc trivial trivial (zFc trivial trivial (zFc trivial trivial (zFc trivial trivial (zFc trivial (zfc ⟨(zfc rfl zf0), rfl, by decide, by decide, _, rfl, Or.inl ⟨zq_374, zq_375, zq_376, zq_5⟩⟩ zf0) (zFc trivial trivial (zFc trivial trivial (zFc trivial trivial (zFc trivial trivial (zFc trivial trivial (zFc trivial trivial (zFc trivial trivial (zFc trivial trivial (zFc trivial trivial (zFc trivial trivial (zFc trivial trivial (zFc trivial (zfc ⟨(zfc rfl zf0), rfl, by decide, by decide, _, rfl, Or.inl ⟨zq_377, zq_378, zq_379, zq_284⟩⟩ zf0) (zFc trivial trivial (zFc trivial trivial (zFc trivial (zfc (Or.inr ⟨rfl, rfl⟩) zf0) (zFc trivial trivial (zFc trivial trivial (zFc trivial trivial (zFc trivial trivial (zFc trivial trivial (zFc trivial trivial (zFc trivial trivial (zFc trivial trivial (zFc trivial trivial (zFc trivial trivial (zFc trivial trivial (zFc trivial (zfc ⟨(zfc rfl zf0), rfl, by decide, by decide, _, rfl, Or.inl ⟨zq_380, zq_381, zq_382, zq_5⟩⟩ zf0) (zFc trivial trivial (zFc trivial trivial (zFc trivial trivial (zFc trivial trivial (zFc trivial trivial (zFc trivial trivial (zFc trivial trivial (zFc trivial trivial (zFc trivial trivial (zFc trivial trivial (zFc trivial trivial (zFc trivial (zfc ⟨(zfc rfl zf0), rfl, by decide, by decide, _, rfl, Or.inl ⟨zq_383, zq_384, zq_385, zq_284⟩⟩ zf0) zFn))))))))))))))))))))))))))))))))))))))))))))))))))))))))))))))))))))))))))))))))))))))))))))))))))))
set_option maxRecDepth 100000 in
theorem zt_120_1 : zFa 120 zk_120_1 := (zFc trivial trivial (zFc trivial trivial (zFc trivial (zfc (Or.inr ⟨rfl, rfl⟩) zf0) (zFc trivial trivial (zFc trivial trivial (zFc trivial trivial (zFc trivial trivial (zFc trivial trivial (zFc trivial trivial (zFc trivial trivial (zFc trivial trivial (zFc trivial trivial (zFc trivial trivial (zFc trivial trivial (zFc trivial (zfc ⟨(zfc rfl zf0), rfl, by decide, by decide, _, rfl, Or.inl ⟨zq_386, zq_387, zq_388, zq_5⟩⟩ zf0) (zFc trivial trivial (zFc trivial trivial (zFc trivial trivial (zFc trivial trivial (zFc trivial trivial (zFc trivial trivial (zFc trivial trivial (zFc trivial trivial (zFc trivial trivial (zFc trivial trivial (zFc trivial trivial (zFc trivial (zfc ⟨(zfc rfl zf0), rfl, by decide, by decide, _, rfl, Or.inl ⟨zq_389, zq_390, zq_391, zq_284⟩⟩ zf0) (zFc trivial trivial (zFc trivial trivial (zFc trivial (zfc (Or.inr ⟨rfl, rfl⟩) zf0) (zFc trivial trivial (zFc trivial trivial (zFc trivial trivial (zFc trivial trivial (zFc trivial trivial (zFc trivial trivial (zFc trivial trivial (zFc trivial trivial (zFc trivial trivial (zFc trivial trivial (zFc trivial trivial (zFc trivial trivial (zFc trivial trivial (zFc trivial trivial (zFc trivial trivial (zFc trivial trivial (zFc trivial (zfc ⟨(zfc rfl zf0), rfl, by decide, by decide, _, rfl, Or.inl ⟨zq_392, zq_393, zq_394, zq_5⟩⟩ zf0) (zFc trivial trivial (zFc trivial trivial (zFc trivial trivial (zFc trivial trivial (zFc trivial trivial (zFc trivial trivial (zFc trivial trivial (zFc trivial trivial (zFc trivial trivial (zFc trivial trivial (zFc trivial trivial (zFc trivial trivial (zFc trivial trivial (zFc trivial trivial (zFc trivial trivial (zFc trivial trivial (zFc trivial (zfc ⟨(zfc rfl zf0), rfl, by decide, by decide, _, rfl, Or.inl ⟨zq_395, zq_396, zq_397, zq_284⟩⟩ zf0) (zFc trivial trivial (zFc trivial trivial (zFc trivial (zfc (Or.inr ⟨rfl, rfl⟩) zf0) (zFc trivial trivial (zFc trivial trivial (zFc trivial trivial (zFc trivial trivial (zFc trivial trivial (zFc trivial trivial (zFc trivial trivial (zFc trivial trivial (zFc trivial trivial (zFc trivial trivial (zFc trivial trivial (zFc trivial (zfc ⟨(zfc rfl zf0), rfl, by decide, by decide, _, rfl, Or.inl ⟨zq_398, zq_399, zq_400, zq_5⟩⟩ zf0) (zFc trivial trivial (zFc trivial trivial (zFc trivial trivial (zFc trivial trivial (zFc trivial trivial (zFc trivial trivial (zFc trivial trivial (zFc trivial trivial (zFc trivial trivial (zFc trivial trivial (zFc trivial trivial (zFc trivial (zfc ⟨(zfc rfl zf0), rfl, by decide, by decide, _, rfl, Or.inl ⟨zq_401, zq_402, zq_403, zq_284⟩⟩ zf0) (zFc trivial trivial (zFc trivial trivial (zFc trivial (zfc (Or.inr ⟨rfl, rfl⟩) zf0) (zFc trivial trivial (zFc trivial trivial (zFc trivial trivial (zFc trivial trivial (zFc trivial trivial (zFc trivial trivial zFn))))))))))))))))))))))))))))))))))))))))))))))))))))))))))))))))))))))))))))))))))))))))))))))))))))
set_option maxRecDepth 100000 in
theorem zt_120_2 : zFa 120 zk_120_2 := (zFc trivial trivial (zFc trivial trivial (zFc trivial trivial (zFc trivial trivial (zFc trivial trivial (zFc trivial (zfc ⟨(zfc rfl zf0), rfl, by decide, by decide, _, rfl, Or.inl ⟨zq_404, zq_405, zq_406, zq_5⟩⟩ zf0) (zFc trivial trivial (zFc trivial trivial (zFc trivial trivial (zFc trivial trivial (zFc trivial trivial (zFc trivial trivial (zFc trivial trivial (zFc trivial trivial (zFc trivial trivial (zFc trivial trivial (zFc trivial trivial (zFc trivial (zfc ⟨(zfc rfl zf0), rfl, by decide, by decide, _, rfl, Or.inl ⟨zq_407, zq_408, zq_409, zq_284⟩⟩ zf0) (zFc trivial trivial (zFc trivial trivial (zFc trivial (zfc (Or.inr ⟨rfl, rfl⟩) zf0) (zFc trivial trivial (zFc trivial trivial (zFc trivial trivial (zFc trivial trivial (zFc trivial trivial (zFc trivial trivial (zFc trivial trivial (zFc trivial trivial (zFc trivial trivial (zFc trivial trivial (zFc trivial trivial (zFc trivial (zfc ⟨(zfc rfl zf0), rfl, by decide, by decide, _, rfl, Or.inl ⟨zq_410, zq_411, zq_412, zq_5⟩⟩ zf0) (zFc trivial trivial (zFc trivial trivial (zFc trivial trivial (zFc trivial trivial (zFc trivial trivial (zFc trivial trivial (zFc trivial trivial (zFc trivial trivial (zFc trivial trivial (zFc trivial trivial (zFc trivial trivial (zFc trivial (zfc ⟨(zfc rfl zf0), rfl, by decide, by decide, _, rfl, Or.inl ⟨zq_413, zq_414, zq_415, zq_284⟩⟩ zf0) (zFc trivial trivial (zFc trivial trivial (zFc trivial (zfc (Or.inr ⟨rfl, rfl⟩) zf0) (zFc trivial trivial (zFc trivial trivial (zFc trivial trivial (zFc trivial trivial (zFc trivial trivial (zFc trivial trivial (zFc trivial (zfc ⟨(zfc rfl zf0), rfl, by decide, by decide, _, rfl, Or.inl ⟨zq_416, zq_417, zq_418, zq_5⟩⟩ zf0) (zFc trivial trivial (zFc trivial trivial (zFc trivial trivial (zFc trivial trivial (zFc trivial trivial (zFc trivial trivial (zFc trivial (zfc ⟨(zfc rfl zf0), rfl, by decide, by decide, _, rfl, Or.inl ⟨zq_419, zq_420, zq_421, zq_284⟩⟩ zf0) (zFc trivial trivial (zFc trivial trivial (zFc trivial (zfc (Or.inr ⟨rfl, rfl⟩) zf0) (zFc trivial trivial (zFc trivial trivial (zFc trivial trivial (zFc trivial trivial (zFc trivial trivial (zFc trivial trivial (zFc trivial trivial (zFc trivial trivial (zFc trivial trivial (zFc trivial trivial (zFc trivial trivial (zFc trivial (zfc ⟨(zfc rfl zf0), rfl, by decide, by decide, _, rfl, Or.inl ⟨zq_422, zq_423, zq_424, zq_5⟩⟩ zf0) (zFc trivial trivial (zFc trivial trivial (zFc trivial trivial (zFc trivial trivial (zFc trivial trivial (zFc trivial trivial (zFc trivial trivial (zFc trivial trivial (zFc trivial trivial (zFc trivial trivial (zFc trivial trivial (zFc trivial (zfc ⟨(zfc rfl zf0), rfl, by decide, by decide, _, rfl, Or.inl ⟨zq_425, zq_426, zq_427, zq_284⟩⟩ zf0) (zFc trivial trivial (zFc trivial trivial (zFc trivial (zfc (Or.inr ⟨rfl, rfl⟩) zf0) (zFc trivial trivial (zFc trivial trivial (zFc trivial trivial (zFc trivial trivial (zFc trivial trivial (zFc trivial trivial (zFc trivial trivial (zFc trivial trivial zFn))))))))))))))))))))))))))))))))))))))))))))))))))))))))))))))))))))))))))))))))))))))))))))))))))))
set_option maxRecDepth 100000 in
theorem zt_120_3 : zFa 120 zk_120_3 := (zFc trivial trivial (zFc trivial trivial (zFc trivial trivial (zFc trivial (zfc ⟨(zfc rfl zf0), rfl, by decide, by decide, _, rfl, Or.inl ⟨zq_428, zq_429, zq_430, zq_5⟩⟩ zf0) (zFc trivial trivial (zFc trivial trivial (zFc trivial trivial (zFc trivial trivial (zFc trivial trivial (zFc trivial trivial (zFc trivial trivial (zFc trivial trivial (zFc trivial trivial (zFc trivial trivial (zFc trivial trivial (zFc trivial (zfc ⟨(zfc rfl zf0), rfl, by decide, by decide, _, rfl, Or.inl ⟨zq_431, zq_432, zq_433, zq_284⟩⟩ zf0) (zFc trivial trivial (zFc trivial trivial (zFc trivial (zfc (Or.inr ⟨rfl, rfl⟩) zf0) (zFc trivial trivial (zFc trivial trivial (zFc trivial trivial (zFc trivial trivial (zFc trivial trivial (zFc trivial trivial (zFc trivial trivial (zFc trivial trivial (zFc trivial trivial (zFc trivial trivial (zFc trivial trivial (zFc trivial (zfc ⟨(zfc rfl zf0), rfl, by decide, by decide, _, rfl, Or.inl ⟨zq_434, zq_435, zq_436, zq_5⟩⟩ zf0) (zFc trivial trivial (zFc trivial trivial (zFc trivial trivial (zFc trivial trivial (zFc trivial trivial (zFc trivial trivial (zFc trivial trivial (zFc trivial trivial (zFc trivial trivial (zFc trivial trivial (zFc trivial trivial (zFc trivial (zfc ⟨(zfc rfl zf0), rfl, by decide, by decide, _, rfl, Or.inl ⟨zq_437, zq_438, zq_439, zq_284⟩⟩ zf0) (zFc trivial trivial (zFc trivial trivial (zFc trivial (zfc (Or.inr ⟨rfl, rfl⟩) zf0) (zFc trivial trivial (zFc trivial trivial (zFc trivial trivial (zFc trivial trivial (zFc trivial trivial (zFc trivial trivial (zFc trivial trivial (zFc trivial trivial (zFc trivial trivial (zFc trivial trivial (zFc trivial trivial (zFc trivial (zfc ⟨(zfc rfl zf0), rfl, by decide, by decide, _, rfl, Or.inl ⟨zq_440, zq_441, zq_442, zq_5⟩⟩ zf0) (zFc trivial trivial (zFc trivial trivial (zFc trivial trivial (zFc trivial trivial (zFc trivial trivial (zFc trivial trivial (zFc trivial trivial (zFc trivial trivial (zFc trivial trivial (zFc trivial trivial (zFc trivial trivial (zFc trivial (zfc ⟨(zfc rfl zf0), rfl, by decide, by decide, _, rfl, Or.inl ⟨zq_443, zq_444, zq_445, zq_284⟩⟩ zf0) (zFc trivial trivial (zFc trivial trivial (zFc trivial (zfc (Or.inr ⟨rfl, rfl⟩) zf0) (zFc trivial trivial (zFc trivial trivial (zFc trivial trivial (zFc trivial trivial (zFc trivial trivial (zFc trivial trivial (zFc trivial trivial (zFc trivial trivial (zFc trivial trivial (zFc trivial trivial (zFc trivial trivial (zFc trivial trivial (zFc trivial trivial (zFc trivial trivial (zFc trivial trivial (zFc trivial trivial (zFc trivial trivial (zFc trivial trivial (zFc trivial trivial (zFc trivial trivial (zFc trivial trivial (zFc trivial (zfc ⟨(zfc rfl zf0), rfl, by decide, by decide, _, rfl, Or.inl ⟨zq_446, zq_447, zq_448, zq_5⟩⟩ zf0) (zFc trivial trivial (zFc trivial trivial (zFc trivial trivial (zFc trivial trivial (zFc trivial trivial zFn))))))))))))))))))))))))))))))))))))))))))))))))))))))))))))))))))))))))))))))))))))))))))))))))))))
set_option maxRecDepth 100000 in
theorem zt_120_4 : zFa 120 zk_120_4 := (zFc trivial trivial (zFc trivial trivial (zFc trivial trivial (zFc trivial trivial (zFc trivial trivial (zFc trivial trivial (zFc trivial trivial (zFc trivial trivial (zFc trivial trivial (zFc trivial trivial (zFc trivial trivial (zFc trivial trivial (zFc trivial trivial (zFc trivial trivial (zFc trivial trivial (zFc trivial trivial (zFc trivial (zfc ⟨(zfc rfl zf0), rfl, by decide, by decide, _, rfl, Or.inl ⟨zq_449, zq_450, zq_451, zq_284⟩⟩ zf0) (zFc trivial trivial (zFc trivial trivial (zFc trivial (zfc (Or.inr ⟨rfl, rfl⟩) zf0) (zFc trivial trivial (zFc trivial trivial (zFc trivial trivial (zFc trivial trivial (zFc trivial trivial (zFc trivial trivial (zFc trivial trivial (zFc trivial trivial (zFc trivial trivial (zFc trivial trivial (zFc trivial trivial (zFc trivial (zfc ⟨(zfc rfl zf0), rfl, by decide, by decide, _, rfl, Or.inl ⟨zq_452, zq_453, zq_454, zq_5⟩⟩ zf0) (zFc trivial trivial (zFc trivial trivial (zFc trivial trivial (zFc trivial trivial (zFc trivial trivial (zFc trivial trivial (zFc trivial trivial (zFc trivial trivial (zFc trivial trivial (zFc trivial trivial (zFc trivial trivial (zFc trivial (zfc ⟨(zfc rfl zf0), rfl, by decide, by decide, _, rfl, Or.inl ⟨zq_455, zq_456, zq_457, zq_284⟩⟩ zf0) (zFc trivial trivial (zFc trivial trivial (zFc trivial (zfc (Or.inr ⟨rfl, rfl⟩) zf0) (zFc trivial trivial (zFc trivial trivial (zFc trivial trivial (zFc trivial trivial (zFc trivial trivial (zFc trivial trivial (zFc trivial trivial (zFc trivial trivial (zFc trivial trivial (zFc trivial trivial (zFc trivial trivial (zFc trivial (zfc ⟨(zfc rfl zf0), rfl, by decide, by decide, _, rfl, Or.inl ⟨zq_458, zq_459, zq_460, zq_5⟩⟩ zf0) (zFc trivial trivial (zFc trivial trivial (zFc trivial trivial (zFc trivial trivial (zFc trivial trivial (zFc trivial trivial (zFc trivial trivial (zFc trivial trivial (zFc trivial trivial (zFc trivial trivial (zFc trivial trivial (zFc trivial (zfc ⟨(zfc rfl zf0), rfl, by decide, by decide, _, rfl, Or.inl ⟨zq_461, zq_462, zq_463, zq_284⟩⟩ zf0) (zFc trivial trivial (zFc trivial trivial (zFc trivial (zfc (Or.inr ⟨rfl, rfl⟩) zf0) (zFc trivial trivial (zFc trivial trivial (zFc trivial trivial (zFc trivial trivial (zFc trivial trivial (zFc trivial trivial (zFc trivial trivial (zFc trivial trivial (zFc trivial trivial (zFc trivial trivial (zFc trivial trivial (zFc trivial (zfc ⟨(zfc rfl zf0), rfl, by decide, by decide, _, rfl, Or.inl ⟨zq_464, zq_465, zq_466, zq_5⟩⟩ zf0) (zFc trivial trivial (zFc trivial trivial (zFc trivial trivial (zFc trivial trivial (zFc trivial trivial (zFc trivial trivial (zFc trivial trivial (zFc trivial trivial (zFc trivial trivial (zFc trivial trivial (zFc trivial trivial (zFc trivial (zfc ⟨(zfc rfl zf0), rfl, by decide, by decide, _, rfl, Or.inl ⟨zq_467, zq_468, zq_469, zq_284⟩⟩ zf0) (zFc trivial trivial (zFc trivial trivial zFn))))))))))))))))))))))))))))))))))))))))))))))))))))))))))))))))))))))))))))))))))))))))))))))))))))
set_option maxRecDepth 100000 in
theorem zt_120_5 : zFa 120 zk_120_5 := (zFc trivial (zfc (Or.inr ⟨rfl, rfl⟩) zf0) (zFc trivial trivial (zFc trivial trivial (zFc trivial trivial (zFc trivial trivial (zFc trivial trivial (zFc trivial trivial (zFc trivial trivial (zFc trivial trivial (zFc trivial trivial (zFc trivial trivial (zFc trivial trivial (zFc trivial (zfc ⟨(zfc rfl zf0), rfl, by decide, by decide, _, rfl, Or.inl ⟨zq_470, zq_471, zq_472, zq_5⟩⟩ zf0) (zFc trivial trivial (zFc trivial trivial (zFc trivial trivial (zFc trivial trivial (zFc trivial trivial (zFc trivial trivial (zFc trivial trivial (zFc trivial trivial (zFc trivial trivial (zFc trivial trivial (zFc trivial trivial (zFc trivial (zfc ⟨(zfc rfl zf0), rfl, by decide, by decide, _, rfl, Or.inl ⟨zq_473, zq_474, zq_475, zq_284⟩⟩ zf0) (zFc trivial trivial (zFc trivial trivial (zFc trivial (zfc (Or.inr ⟨rfl, rfl⟩) zf0) (zFc trivial trivial (zFc trivial trivial (zFc trivial trivial (zFc trivial (zfc (Or.inr ⟨rfl, rfl⟩) zf0) zFn))))))))))))))))))))))))))))))))
theorem zt_0 : zFa 0 zk_0 := zt_0_0
theorem zt_1 : zFa 1 zk_1 := zt_1_0
theorem zt_2 : zFa 2 zk_2 := zt_2_0
theorem zt_3 : zFa 3 zk_3 := zt_3_0
theorem zt_4 : zFa 4 zk_4 := zt_4_0
theorem zt_5 : zFa 5 zk_5 := zt_5_0
theorem zt_6 : zFa 6 zk_6 := zt_6_0
theorem zt_7 : zFa 7 zk_7 := zt_7_0
theorem zt_8 : zFa 8 zk_8 := zt_8_0
theorem zt_9 : zFa 9 zk_9 := zt_9_0
theorem zt_10 : zFa 10 zk_10 := zt_10_0
theorem zt_11 : zFa 11 zk_11 := zt_11_0
theorem zt_12 : zFa 12 zk_12 := zt_12_0
theorem zt_13 : zFa 13 zk_13 := zt_13_0
theorem zt_14 : zFa 14 zk_14 := zt_14_0
theorem zt_15 : zFa 15 zk_15 := zt_15_0
theorem zt_16 : zFa 16 zk_16 := zt_16_0
theorem zt_17 : zFa 17 zk_17 := zt_17_0
theorem zt_18 : zFa 18 zk_18 := zt_18_0
theorem zt_19 : zFa 19 zk_19 := zt_19_0
theorem zt_20 : zFa 20 zk_20 := zt_20_0
theorem zt_21 : zFa 21 zk_21 := zt_21_0
theorem zt_22 : zFa 22 zk_22 := zt_22_0
theorem zt_23 : zFa 23 zk_23 := zt_23_0
theorem zt_24 : zFa 24 zk_24 := zt_24_0
theorem zt_25 : zFa 25 zk_25 := zt_25_0
theorem zt_26 : zFa 26 zk_26 := zt_26_0
theorem zt_27 : zFa 27 zk_27 := zt_27_0
theorem zt_28 : zFa 28 zk_28 := zt_28_0
theorem zt_29 : zFa 29 zk_29 := zt_29_0
theorem zt_30 : zFa 30 zk_30 := zt_30_0
theorem zt_31 : zFa 31 zk_31 := zt_31_0
theorem zt_32 : zFa 32 zk_32 := zt_32_0
theorem zt_33 : zFa 33 zk_33 := zt_33_0
theorem zt_34 : zFa 34 zk_34 := zt_34_0
theorem zt_35 : zFa 35 zk_35 := zt_35_0
theorem zt_36 : zFa 36 zk_36 := zt_36_0
theorem zt_37 : zFa 37 zk_37 := zt_37_0
theorem zt_38 : zFa 38 zk_38 := zt_38_0
theorem zt_39 : zFa 39 zk_39 := zt_39_0
theorem zt_40 : zFa 40 zk_40 := zt_40_0
theorem zt_41 : zFa 41 zk_41 := zt_41_0
theorem zt_42 : zFa 42 zk_42 := zt_42_0
theorem zt_43 : zFa 43 zk_43 := zt_43_0
theorem zt_44 : zFa 44 zk_44 := zt_44_0
theorem zt_45 : zFa 45 zk_45 := zt_45_0
theorem zt_46 : zFa 46 zk_46 := zt_46_0
theorem zt_47 : zFa 47 zk_47 := zt_47_0
theorem zt_48 : zFa 48 zk_48 := zt_48_0
theorem zt_49 : zFa 49 zk_49 := zt_49_0
theorem zt_50 : zFa 50 zk_50 := zt_50_0
theorem zt_51 : zFa 51 zk_51 := zt_51_0
theorem zt_52 : zFa 52 zk_52 := zt_52_0
theorem zt_53 : zFa 53 zk_53 := zt_53_0
theorem zt_54 : zFa 54 zk_54 := zt_54_0
theorem zt_55 : zFa 55 zk_55 := zt_55_0
theorem zt_56 : zFa 56 zk_56 := zt_56_0
theorem zt_57 : zFa 57 zk_57 := zt_57_0
theorem zt_58 : zFa 58 zk_58 := zt_58_0
theorem zt_59 : zFa 59 zk_59 := zt_59_0
theorem zt_60 : zFa 60 zk_60 := zt_60_0
theorem zt_61 : zFa 61 zk_61 := zt_61_0
theorem zt_62 : zFa 62 zk_62 := zt_62_0
theorem zt_63 : zFa 63 zk_63 := zt_63_0
theorem zt_64 : zFa 64 zk_64 := zt_64_0
theorem zt_65 : zFa 65 zk_65 := zt_65_0
theorem zt_66 : zFa 66 zk_66 := zt_66_0
theorem zt_67 : zFa 67 zk_67 := zt_67_0
theorem zt_68 : zFa 68 zk_68 := zt_68_0
theorem zt_69 : zFa 69 zk_69 := zt_69_0
theorem zt_70 : zFa 70 zk_70 := zt_70_0
theorem zt_71 : zFa 71 zk_71 := zt_71_0
theorem zt_72 : zFa 72 zk_72 := zt_72_0
theorem zt_73 : zFa 73 zk_73 := zt_73_0
theorem zt_74 : zFa 74 zk_74 := zt_74_0
theorem zt_75 : zFa 75 zk_75 := zt_75_0
theorem zt_76 : zFa 76 zk_76 := zt_76_0
theorem zt_77 : zFa 77 zk_77 := zt_77_0
theorem zt_78 : zFa 78 zk_78 := zt_78_0
theorem zt_79 : zFa 79 zk_79 := zt_79_0
theorem zt_80 : zFa 80 zk_80 := zt_80_0
theorem zt_81 : zFa 81 zk_81 := zt_81_0
theorem zt_82 : zFa 82 zk_82 := zt_82_0
theorem zt_83 : zFa 83 zk_83 := zt_83_0
theorem zt_84 : zFa 84 zk_84 := zt_84_0
theorem zt_85 : zFa 85 zk_85 := zt_85_0
theorem zt_86 : zFa 86 zk_86 := zt_86_0
theorem zt_87 : zFa 87 zk_87 := zt_87_0
theorem zt_88 : zFa 88 zk_88 := zt_88_0
theorem zt_89 : zFa 89 zk_89 := (zFa_app zt_89_0 zt_89_1)
theorem zt_90 : zFa 90 zk_90 := zt_90_0
theorem zt_91 : zFa 91 zk_91 := zt_91_0
theorem zt_92 : zFa 92 zk_92 := zt_92_0
theorem zt_93 : zFa 93 zk_93 := zt_93_0
theorem zt_94 : zFa 94 zk_94 := zt_94_0
theorem zt_95 : zFa 95 zk_95 := (zFa_app zt_95_0 zt_95_1)
theorem zt_96 : zFa 96 zk_96 := (zFa_app zt_96_0 zt_96_1)
theorem zt_97 : zFa 97 zk_97 := zt_97_0
theorem zt_98 : zFa 98 zk_98 := zt_98_0
theorem zt_99 : zFa 99 zk_99 := zt_99_0
theorem zt_100 : zFa 100 zk_100 := zt_100_0
theorem zt_101 : zFa 101 zk_101 := zt_101_0
theorem zt_102 : zFa 102 zk_102 := zt_102_0
theorem zt_103 : zFa 103 zk_103 := zt_103_0
theorem zt_104 : zFa 104 zk_104 := zt_104_0
theorem zt_105 : zFa 105 zk_105 := zt_105_0
theorem zt_106 : zFa 106 zk_106 := zt_106_0
theorem zt_107 : zFa 107 zk_107 := zt_107_0
theorem zt_108 : zFa 108 zk_108 := zt_108_0
theorem zt_109 : zFa 109 zk_109 := zt_109_0
theorem zt_110 : zFa 110 zk_110 := zt_110_0
theorem zt_111 : zFa 111 zk_111 := zt_111_0
theorem zt_112 : zFa 112 zk_112 := zt_112_0
theorem zt_113 : zFa 113 zk_113 := zt_113_0
theorem zt_114 : zFa 114 zk_114 := zt_114_0
theorem zt_115 : zFa 115 zk_115 := zt_115_0
theorem zt_116 : zFa 116 zk_116 := zt_116_0
theorem zt_117 : zFa 117 zk_117 := zt_117_0
theorem zt_118 : zFa 118 zk_118 := zt_118_0
theorem zt_119 : zFa 119 zk_119 := zt_119_0
theorem zt_120 : zFa 120 zk_120 := (zFa_app (zFa_app (zFa_app (zFa_app (zFa_app zt_120_0 zt_120_1) zt_120_2) zt_120_3) zt_120_4) zt_120_5)
end
section
theorem zau {f : zK → Bool} {a b : List zK} (h1 : a.all f = true) (h2 : b.all f = true) : (a ++ b).all f = true := by rw [List.all_append, h1, h2]; rfl
set_option maxRecDepth 100000 in
theorem zu_0_0 : zk_0_0.all (zdB (zb 0)) = true := by decide +kernel
set_option maxRecDepth 100000 in
theorem zu_1_0 : zk_1_0.all (zdB (zb 1)) = true := by decide +kernel
set_option maxRecDepth 100000 in
theorem zu_2_0 : zk_2_0.all (zdB (zb 2)) = true := by decide +kernel
set_option maxRecDepth 100000 in
theorem zu_3_0 : zk_3_0.all (zdB (zb 3)) = true := by decide +kernel
set_option maxRecDepth 100000 in
theorem zu_4_0 : zk_4_0.all (zdB (zb 4)) = true := by decide +kernel
set_option maxRecDepth 100000 in
theorem zu_5_0 : zk_5_0.all (zdB (zb 5)) = true := by decide +kernel
set_option maxRecDepth 100000 in
theorem zu_6_0 : zk_6_0.all (zdB (zb 6)) = true := by decide +kernel
set_option maxRecDepth 100000 in
theorem zu_7_0 : zk_7_0.all (zdB (zb 7)) = true := by decide +kernel
set_option maxRecDepth 100000 in
theorem zu_8_0 : zk_8_0.all (zdB (zb 8)) = true := by decide +kernel
set_option maxRecDepth 100000 in
theorem zu_9_0 : zk_9_0.all (zdB (zb 9)) = true := by decide +kernel
set_option maxRecDepth 100000 in
theorem zu_10_0 : zk_10_0.all (zdB (zb 10)) = true := by decide +kernel
set_option maxRecDepth 100000 in
theorem zu_11_0 : zk_11_0.all (zdB (zb 11)) = true := by decide +kernel
set_option maxRecDepth 100000 in
theorem zu_12_0 : zk_12_0.all (zdB (zb 12)) = true := by decide +kernel
set_option maxRecDepth 100000 in
theorem zu_13_0 : zk_13_0.all (zdB (zb 13)) = true := by decide +kernel
set_option maxRecDepth 100000 in
theorem zu_14_0 : zk_14_0.all (zdB (zb 14)) = true := by decide +kernel
set_option maxRecDepth 100000 in
theorem zu_15_0 : zk_15_0.all (zdB (zb 15)) = true := by decide +kernel
set_option maxRecDepth 100000 in
theorem zu_16_0 : zk_16_0.all (zdB (zb 16)) = true := by decide +kernel
set_option maxRecDepth 100000 in
theorem zu_17_0 : zk_17_0.all (zdB (zb 17)) = true := by decide +kernel
set_option maxRecDepth 100000 in
theorem zu_18_0 : zk_18_0.all (zdB (zb 18)) = true := by decide +kernel
set_option maxRecDepth 100000 in
theorem zu_19_0 : zk_19_0.all (zdB (zb 19)) = true := by decide +kernel
set_option maxRecDepth 100000 in
theorem zu_20_0 : zk_20_0.all (zdB (zb 20)) = true := by decide +kernel
set_option maxRecDepth 100000 in
theorem zu_21_0 : zk_21_0.all (zdB (zb 21)) = true := by decide +kernel
set_option maxRecDepth 100000 in
theorem zu_22_0 : zk_22_0.all (zdB (zb 22)) = true := by decide +kernel
set_option maxRecDepth 100000 in
theorem zu_23_0 : zk_23_0.all (zdB (zb 23)) = true := by decide +kernel
set_option maxRecDepth 100000 in
theorem zu_24_0 : zk_24_0.all (zdB (zb 24)) = true := by decide +kernel
set_option maxRecDepth 100000 in
theorem zu_25_0 : zk_25_0.all (zdB (zb 25)) = true := by decide +kernel
set_option maxRecDepth 100000 in
theorem zu_26_0 : zk_26_0.all (zdB (zb 26)) = true := by decide +kernel
set_option maxRecDepth 100000 in
theorem zu_27_0 : zk_27_0.all (zdB (zb 27)) = true := by decide +kernel
set_option maxRecDepth 100000 in
theorem zu_28_0 : zk_28_0.all (zdB (zb 28)) = true := by decide +kernel
set_option maxRecDepth 100000 in
theorem zu_29_0 : zk_29_0.all (zdB (zb 29)) = true := by decide +kernel
set_option maxRecDepth 100000 in
theorem zu_30_0 : zk_30_0.all (zdB (zb 30)) = true := by decide +kernel
set_option maxRecDepth 100000 in
theorem zu_31_0 : zk_31_0.all (zdB (zb 31)) = true := by decide +kernel
set_option maxRecDepth 100000 in
theorem zu_32_0 : zk_32_0.all (zdB (zb 32)) = true := by decide +kernel
set_option maxRecDepth 100000 in
theorem zu_33_0 : zk_33_0.all (zdB (zb 33)) = true := by decide +kernel
set_option maxRecDepth 100000 in
theorem zu_34_0 : zk_34_0.all (zdB (zb 34)) = true := by decide +kernel
set_option maxRecDepth 100000 in
theorem zu_35_0 : zk_35_0.all (zdB (zb 35)) = true := by decide +kernel
set_option maxRecDepth 100000 in
theorem zu_36_0 : zk_36_0.all (zdB (zb 36)) = true := by decide +kernel
set_option maxRecDepth 100000 in
theorem zu_37_0 : zk_37_0.all (zdB (zb 37)) = true := by decide +kernel
set_option maxRecDepth 100000 in
theorem zu_38_0 : zk_38_0.all (zdB (zb 38)) = true := by decide +kernel
set_option maxRecDepth 100000 in
theorem zu_39_0 : zk_39_0.all (zdB (zb 39)) = true := by decide +kernel
set_option maxRecDepth 100000 in
theorem zu_40_0 : zk_40_0.all (zdB (zb 40)) = true := by decide +kernel
set_option maxRecDepth 100000 in
theorem zu_41_0 : zk_41_0.all (zdB (zb 41)) = true := by decide +kernel
set_option maxRecDepth 100000 in
theorem zu_42_0 : zk_42_0.all (zdB (zb 42)) = true := by decide +kernel
set_option maxRecDepth 100000 in
theorem zu_43_0 : zk_43_0.all (zdB (zb 43)) = true := by decide +kernel
set_option maxRecDepth 100000 in
theorem zu_44_0 : zk_44_0.all (zdB (zb 44)) = true := by decide +kernel
set_option maxRecDepth 100000 in
theorem zu_45_0 : zk_45_0.all (zdB (zb 45)) = true := by decide +kernel
set_option maxRecDepth 100000 in
theorem zu_46_0 : zk_46_0.all (zdB (zb 46)) = true := by decide +kernel
set_option maxRecDepth 100000 in
theorem zu_47_0 : zk_47_0.all (zdB (zb 47)) = true := by decide +kernel
set_option maxRecDepth 100000 in
theorem zu_48_0 : zk_48_0.all (zdB (zb 48)) = true := by decide +kernel
set_option maxRecDepth 100000 in
theorem zu_49_0 : zk_49_0.all (zdB (zb 49)) = true := by decide +kernel
set_option maxRecDepth 100000 in
theorem zu_50_0 : zk_50_0.all (zdB (zb 50)) = true := by decide +kernel
set_option maxRecDepth 100000 in
theorem zu_51_0 : zk_51_0.all (zdB (zb 51)) = true := by decide +kernel
set_option maxRecDepth 100000 in
theorem zu_52_0 : zk_52_0.all (zdB (zb 52)) = true := by decide +kernel
set_option maxRecDepth 100000 in
theorem zu_53_0 : zk_53_0.all (zdB (zb 53)) = true := by decide +kernel
set_option maxRecDepth 100000 in
theorem zu_54_0 : zk_54_0.all (zdB (zb 54)) = true := by decide +kernel
set_option maxRecDepth 100000 in
theorem zu_55_0 : zk_55_0.all (zdB (zb 55)) = true := by decide +kernel
set_option maxRecDepth 100000 in
theorem zu_56_0 : zk_56_0.all (zdB (zb 56)) = true := by decide +kernel
set_option maxRecDepth 100000 in
theorem zu_57_0 : zk_57_0.all (zdB (zb 57)) = true := by decide +kernel
set_option maxRecDepth 100000 in
theorem zu_58_0 : zk_58_0.all (zdB (zb 58)) = true := by decide +kernel
set_option maxRecDepth 100000 in
theorem zu_59_0 : zk_59_0.all (zdB (zb 59)) = true := by decide +kernel
set_option maxRecDepth 100000 in
theorem zu_60_0 : zk_60_0.all (zdB (zb 60)) = true := by decide +kernel
set_option maxRecDepth 100000 in
theorem zu_61_0 : zk_61_0.all (zdB (zb 61)) = true := by decide +kernel
set_option maxRecDepth 100000 in
theorem zu_62_0 : zk_62_0.all (zdB (zb 62)) = true := by decide +kernel
set_option maxRecDepth 100000 in
theorem zu_63_0 : zk_63_0.all (zdB (zb 63)) = true := by decide +kernel
set_option maxRecDepth 100000 in
theorem zu_64_0 : zk_64_0.all (zdB (zb 64)) = true := by decide +kernel
set_option maxRecDepth 100000 in
theorem zu_65_0 : zk_65_0.all (zdB (zb 65)) = true := by decide +kernel
set_option maxRecDepth 100000 in
theorem zu_66_0 : zk_66_0.all (zdB (zb 66)) = true := by decide +kernel
set_option maxRecDepth 100000 in
theorem zu_67_0 : zk_67_0.all (zdB (zb 67)) = true := by decide +kernel
set_option maxRecDepth 100000 in
theorem zu_68_0 : zk_68_0.all (zdB (zb 68)) = true := by decide +kernel
set_option maxRecDepth 100000 in
theorem zu_69_0 : zk_69_0.all (zdB (zb 69)) = true := by decide +kernel
set_option maxRecDepth 100000 in
theorem zu_70_0 : zk_70_0.all (zdB (zb 70)) = true := by decide +kernel
set_option maxRecDepth 100000 in
theorem zu_71_0 : zk_71_0.all (zdB (zb 71)) = true := by decide +kernel
set_option maxRecDepth 100000 in
theorem zu_72_0 : zk_72_0.all (zdB (zb 72)) = true := by decide +kernel
set_option maxRecDepth 100000 in
theorem zu_73_0 : zk_73_0.all (zdB (zb 73)) = true := by decide +kernel
set_option maxRecDepth 100000 in
theorem zu_74_0 : zk_74_0.all (zdB (zb 74)) = true := by decide +kernel
set_option maxRecDepth 100000 in
theorem zu_75_0 : zk_75_0.all (zdB (zb 75)) = true := by decide +kernel
set_option maxRecDepth 100000 in
theorem zu_76_0 : zk_76_0.all (zdB (zb 76)) = true := by decide +kernel
set_option maxRecDepth 100000 in
theorem zu_77_0 : zk_77_0.all (zdB (zb 77)) = true := by decide +kernel
set_option maxRecDepth 100000 in
theorem zu_78_0 : zk_78_0.all (zdB (zb 78)) = true := by decide +kernel
set_option maxRecDepth 100000 in
theorem zu_79_0 : zk_79_0.all (zdB (zb 79)) = true := by decide +kernel
set_option maxRecDepth 100000 in
theorem zu_80_0 : zk_80_0.all (zdB (zb 80)) = true := by decide +kernel
set_option maxRecDepth 100000 in
theorem zu_81_0 : zk_81_0.all (zdB (zb 81)) = true := by decide +kernel
set_option maxRecDepth 100000 in
theorem zu_82_0 : zk_82_0.all (zdB (zb 82)) = true := by decide +kernel
set_option maxRecDepth 100000 in
theorem zu_83_0 : zk_83_0.all (zdB (zb 83)) = true := by decide +kernel
set_option maxRecDepth 100000 in
theorem zu_84_0 : zk_84_0.all (zdB (zb 84)) = true := by decide +kernel
set_option maxRecDepth 100000 in
theorem zu_85_0 : zk_85_0.all (zdB (zb 85)) = true := by decide +kernel
set_option maxRecDepth 100000 in
theorem zu_86_0 : zk_86_0.all (zdB (zb 86)) = true := by decide +kernel
set_option maxRecDepth 100000 in
theorem zu_87_0 : zk_87_0.all (zdB (zb 87)) = true := by decide +kernel
set_option maxRecDepth 100000 in
theorem zu_88_0 : zk_88_0.all (zdB (zb 88)) = true := by decide +kernel
set_option maxRecDepth 100000 in
theorem zu_89_0 : zk_89_0.all (zdB (zb 89)) = true := by decide +kernel
set_option maxRecDepth 100000 in
theorem zu_89_1 : zk_89_1.all (zdB (zb 89)) = true := by decide +kernel
set_option maxRecDepth 100000 in
theorem zu_90_0 : zk_90_0.all (zdB (zb 90)) = true := by decide +kernel
set_option maxRecDepth 100000 in
theorem zu_91_0 : zk_91_0.all (zdB (zb 91)) = true := by decide +kernel
set_option maxRecDepth 100000 in
theorem zu_92_0 : zk_92_0.all (zdB (zb 92)) = true := by decide +kernel
set_option maxRecDepth 100000 in
theorem zu_93_0 : zk_93_0.all (zdB (zb 93)) = true := by decide +kernel
set_option maxRecDepth 100000 in
theorem zu_94_0 : zk_94_0.all (zdB (zb 94)) = true := by decide +kernel
set_option maxRecDepth 100000 in
theorem zu_95_0 : zk_95_0.all (zdB (zb 95)) = true := by decide +kernel
set_option maxRecDepth 100000 in
theorem zu_95_1 : zk_95_1.all (zdB (zb 95)) = true := by decide +kernel
set_option maxRecDepth 100000 in
theorem zu_96_0 : zk_96_0.all (zdB (zb 96)) = true := by decide +kernel
set_option maxRecDepth 100000 in
theorem zu_96_1 : zk_96_1.all (zdB (zb 96)) = true := by decide +kernel
set_option maxRecDepth 100000 in
theorem zu_97_0 : zk_97_0.all (zdB (zb 97)) = true := by decide +kernel
set_option maxRecDepth 100000 in
theorem zu_98_0 : zk_98_0.all (zdB (zb 98)) = true := by decide +kernel
set_option maxRecDepth 100000 in
theorem zu_99_0 : zk_99_0.all (zdB (zb 99)) = true := by decide +kernel
set_option maxRecDepth 100000 in
theorem zu_100_0 : zk_100_0.all (zdB (zb 100)) = true := by decide +kernel
set_option maxRecDepth 100000 in
theorem zu_101_0 : zk_101_0.all (zdB (zb 101)) = true := by decide +kernel
set_option maxRecDepth 100000 in
theorem zu_102_0 : zk_102_0.all (zdB (zb 102)) = true := by decide +kernel
set_option maxRecDepth 100000 in
theorem zu_103_0 : zk_103_0.all (zdB (zb 103)) = true := by decide +kernel
set_option maxRecDepth 100000 in
theorem zu_104_0 : zk_104_0.all (zdB (zb 104)) = true := by decide +kernel
set_option maxRecDepth 100000 in
theorem zu_105_0 : zk_105_0.all (zdB (zb 105)) = true := by decide +kernel
set_option maxRecDepth 100000 in
theorem zu_106_0 : zk_106_0.all (zdB (zb 106)) = true := by decide +kernel
set_option maxRecDepth 100000 in
theorem zu_107_0 : zk_107_0.all (zdB (zb 107)) = true := by decide +kernel
set_option maxRecDepth 100000 in
theorem zu_108_0 : zk_108_0.all (zdB (zb 108)) = true := by decide +kernel
set_option maxRecDepth 100000 in
theorem zu_109_0 : zk_109_0.all (zdB (zb 109)) = true := by decide +kernel
set_option maxRecDepth 100000 in
theorem zu_110_0 : zk_110_0.all (zdB (zb 110)) = true := by decide +kernel
set_option maxRecDepth 100000 in
theorem zu_111_0 : zk_111_0.all (zdB (zb 111)) = true := by decide +kernel
set_option maxRecDepth 100000 in
theorem zu_112_0 : zk_112_0.all (zdB (zb 112)) = true := by decide +kernel
set_option maxRecDepth 100000 in
theorem zu_113_0 : zk_113_0.all (zdB (zb 113)) = true := by decide +kernel
set_option maxRecDepth 100000 in
theorem zu_114_0 : zk_114_0.all (zdB (zb 114)) = true := by decide +kernel
set_option maxRecDepth 100000 in
theorem zu_115_0 : zk_115_0.all (zdB (zb 115)) = true := by decide +kernel
set_option maxRecDepth 100000 in
theorem zu_116_0 : zk_116_0.all (zdB (zb 116)) = true := by decide +kernel
set_option maxRecDepth 100000 in
theorem zu_117_0 : zk_117_0.all (zdB (zb 117)) = true := by decide +kernel
set_option maxRecDepth 100000 in
theorem zu_118_0 : zk_118_0.all (zdB (zb 118)) = true := by decide +kernel
set_option maxRecDepth 100000 in
theorem zu_119_0 : zk_119_0.all (zdB (zb 119)) = true := by decide +kernel
set_option maxRecDepth 100000 in
theorem zu_120_0 : zk_120_0.all (zdB (zb 120)) = true := by decide +kernel
set_option maxRecDepth 100000 in
theorem zu_120_1 : zk_120_1.all (zdB (zb 120)) = true := by decide +kernel
set_option maxRecDepth 100000 in
theorem zu_120_2 : zk_120_2.all (zdB (zb 120)) = true := by decide +kernel
set_option maxRecDepth 100000 in
theorem zu_120_3 : zk_120_3.all (zdB (zb 120)) = true := by decide +kernel
set_option maxRecDepth 100000 in
theorem zu_120_4 : zk_120_4.all (zdB (zb 120)) = true := by decide +kernel
set_option maxRecDepth 100000 in
theorem zu_120_5 : zk_120_5.all (zdB (zb 120)) = true := by decide +kernel
theorem zu_0 : zk_0.all (zdB (zb 0)) = true := zu_0_0
theorem zu_1 : zk_1.all (zdB (zb 1)) = true := zu_1_0
theorem zu_2 : zk_2.all (zdB (zb 2)) = true := zu_2_0
theorem zu_3 : zk_3.all (zdB (zb 3)) = true := zu_3_0
theorem zu_4 : zk_4.all (zdB (zb 4)) = true := zu_4_0
theorem zu_5 : zk_5.all (zdB (zb 5)) = true := zu_5_0
theorem zu_6 : zk_6.all (zdB (zb 6)) = true := zu_6_0
theorem zu_7 : zk_7.all (zdB (zb 7)) = true := zu_7_0
theorem zu_8 : zk_8.all (zdB (zb 8)) = true := zu_8_0
theorem zu_9 : zk_9.all (zdB (zb 9)) = true := zu_9_0
theorem zu_10 : zk_10.all (zdB (zb 10)) = true := zu_10_0
theorem zu_11 : zk_11.all (zdB (zb 11)) = true := zu_11_0
theorem zu_12 : zk_12.all (zdB (zb 12)) = true := zu_12_0
theorem zu_13 : zk_13.all (zdB (zb 13)) = true := zu_13_0
theorem zu_14 : zk_14.all (zdB (zb 14)) = true := zu_14_0
theorem zu_15 : zk_15.all (zdB (zb 15)) = true := zu_15_0
theorem zu_16 : zk_16.all (zdB (zb 16)) = true := zu_16_0
theorem zu_17 : zk_17.all (zdB (zb 17)) = true := zu_17_0
theorem zu_18 : zk_18.all (zdB (zb 18)) = true := zu_18_0
theorem zu_19 : zk_19.all (zdB (zb 19)) = true := zu_19_0
theorem zu_20 : zk_20.all (zdB (zb 20)) = true := zu_20_0
theorem zu_21 : zk_21.all (zdB (zb 21)) = true := zu_21_0
theorem zu_22 : zk_22.all (zdB (zb 22)) = true := zu_22_0
theorem zu_23 : zk_23.all (zdB (zb 23)) = true := zu_23_0
theorem zu_24 : zk_24.all (zdB (zb 24)) = true := zu_24_0
theorem zu_25 : zk_25.all (zdB (zb 25)) = true := zu_25_0
theorem zu_26 : zk_26.all (zdB (zb 26)) = true := zu_26_0
theorem zu_27 : zk_27.all (zdB (zb 27)) = true := zu_27_0
theorem zu_28 : zk_28.all (zdB (zb 28)) = true := zu_28_0
theorem zu_29 : zk_29.all (zdB (zb 29)) = true := zu_29_0
theorem zu_30 : zk_30.all (zdB (zb 30)) = true := zu_30_0
theorem zu_31 : zk_31.all (zdB (zb 31)) = true := zu_31_0
theorem zu_32 : zk_32.all (zdB (zb 32)) = true := zu_32_0
theorem zu_33 : zk_33.all (zdB (zb 33)) = true := zu_33_0
theorem zu_34 : zk_34.all (zdB (zb 34)) = true := zu_34_0
theorem zu_35 : zk_35.all (zdB (zb 35)) = true := zu_35_0
theorem zu_36 : zk_36.all (zdB (zb 36)) = true := zu_36_0
theorem zu_37 : zk_37.all (zdB (zb 37)) = true := zu_37_0
theorem zu_38 : zk_38.all (zdB (zb 38)) = true := zu_38_0
theorem zu_39 : zk_39.all (zdB (zb 39)) = true := zu_39_0
theorem zu_40 : zk_40.all (zdB (zb 40)) = true := zu_40_0
theorem zu_41 : zk_41.all (zdB (zb 41)) = true := zu_41_0
theorem zu_42 : zk_42.all (zdB (zb 42)) = true := zu_42_0
theorem zu_43 : zk_43.all (zdB (zb 43)) = true := zu_43_0
theorem zu_44 : zk_44.all (zdB (zb 44)) = true := zu_44_0
theorem zu_45 : zk_45.all (zdB (zb 45)) = true := zu_45_0
theorem zu_46 : zk_46.all (zdB (zb 46)) = true := zu_46_0
theorem zu_47 : zk_47.all (zdB (zb 47)) = true := zu_47_0
theorem zu_48 : zk_48.all (zdB (zb 48)) = true := zu_48_0
theorem zu_49 : zk_49.all (zdB (zb 49)) = true := zu_49_0
theorem zu_50 : zk_50.all (zdB (zb 50)) = true := zu_50_0
theorem zu_51 : zk_51.all (zdB (zb 51)) = true := zu_51_0
theorem zu_52 : zk_52.all (zdB (zb 52)) = true := zu_52_0
theorem zu_53 : zk_53.all (zdB (zb 53)) = true := zu_53_0
theorem zu_54 : zk_54.all (zdB (zb 54)) = true := zu_54_0
theorem zu_55 : zk_55.all (zdB (zb 55)) = true := zu_55_0
theorem zu_56 : zk_56.all (zdB (zb 56)) = true := zu_56_0
theorem zu_57 : zk_57.all (zdB (zb 57)) = true := zu_57_0
theorem zu_58 : zk_58.all (zdB (zb 58)) = true := zu_58_0
theorem zu_59 : zk_59.all (zdB (zb 59)) = true := zu_59_0
theorem zu_60 : zk_60.all (zdB (zb 60)) = true := zu_60_0
theorem zu_61 : zk_61.all (zdB (zb 61)) = true := zu_61_0
theorem zu_62 : zk_62.all (zdB (zb 62)) = true := zu_62_0
theorem zu_63 : zk_63.all (zdB (zb 63)) = true := zu_63_0
theorem zu_64 : zk_64.all (zdB (zb 64)) = true := zu_64_0
theorem zu_65 : zk_65.all (zdB (zb 65)) = true := zu_65_0
theorem zu_66 : zk_66.all (zdB (zb 66)) = true := zu_66_0
theorem zu_67 : zk_67.all (zdB (zb 67)) = true := zu_67_0
theorem zu_68 : zk_68.all (zdB (zb 68)) = true := zu_68_0
theorem zu_69 : zk_69.all (zdB (zb 69)) = true := zu_69_0
theorem zu_70 : zk_70.all (zdB (zb 70)) = true := zu_70_0
theorem zu_71 : zk_71.all (zdB (zb 71)) = true := zu_71_0
theorem zu_72 : zk_72.all (zdB (zb 72)) = true := zu_72_0
theorem zu_73 : zk_73.all (zdB (zb 73)) = true := zu_73_0
theorem zu_74 : zk_74.all (zdB (zb 74)) = true := zu_74_0
theorem zu_75 : zk_75.all (zdB (zb 75)) = true := zu_75_0
theorem zu_76 : zk_76.all (zdB (zb 76)) = true := zu_76_0
theorem zu_77 : zk_77.all (zdB (zb 77)) = true := zu_77_0
theorem zu_78 : zk_78.all (zdB (zb 78)) = true := zu_78_0
theorem zu_79 : zk_79.all (zdB (zb 79)) = true := zu_79_0
theorem zu_80 : zk_80.all (zdB (zb 80)) = true := zu_80_0
theorem zu_81 : zk_81.all (zdB (zb 81)) = true := zu_81_0
theorem zu_82 : zk_82.all (zdB (zb 82)) = true := zu_82_0
theorem zu_83 : zk_83.all (zdB (zb 83)) = true := zu_83_0
theorem zu_84 : zk_84.all (zdB (zb 84)) = true := zu_84_0
theorem zu_85 : zk_85.all (zdB (zb 85)) = true := zu_85_0
theorem zu_86 : zk_86.all (zdB (zb 86)) = true := zu_86_0
theorem zu_87 : zk_87.all (zdB (zb 87)) = true := zu_87_0
theorem zu_88 : zk_88.all (zdB (zb 88)) = true := zu_88_0
theorem zu_89 : zk_89.all (zdB (zb 89)) = true := (zau zu_89_0 zu_89_1)
theorem zu_90 : zk_90.all (zdB (zb 90)) = true := zu_90_0
theorem zu_91 : zk_91.all (zdB (zb 91)) = true := zu_91_0
theorem zu_92 : zk_92.all (zdB (zb 92)) = true := zu_92_0
theorem zu_93 : zk_93.all (zdB (zb 93)) = true := zu_93_0
theorem zu_94 : zk_94.all (zdB (zb 94)) = true := zu_94_0
theorem zu_95 : zk_95.all (zdB (zb 95)) = true := (zau zu_95_0 zu_95_1)
theorem zu_96 : zk_96.all (zdB (zb 96)) = true := (zau zu_96_0 zu_96_1)
theorem zu_97 : zk_97.all (zdB (zb 97)) = true := zu_97_0
theorem zu_98 : zk_98.all (zdB (zb 98)) = true := zu_98_0
theorem zu_99 : zk_99.all (zdB (zb 99)) = true := zu_99_0
theorem zu_100 : zk_100.all (zdB (zb 100)) = true := zu_100_0
theorem zu_101 : zk_101.all (zdB (zb 101)) = true := zu_101_0
theorem zu_102 : zk_102.all (zdB (zb 102)) = true := zu_102_0
theorem zu_103 : zk_103.all (zdB (zb 103)) = true := zu_103_0
theorem zu_104 : zk_104.all (zdB (zb 104)) = true := zu_104_0
theorem zu_105 : zk_105.all (zdB (zb 105)) = true := zu_105_0
theorem zu_106 : zk_106.all (zdB (zb 106)) = true := zu_106_0
theorem zu_107 : zk_107.all (zdB (zb 107)) = true := zu_107_0
theorem zu_108 : zk_108.all (zdB (zb 108)) = true := zu_108_0
theorem zu_109 : zk_109.all (zdB (zb 109)) = true := zu_109_0
theorem zu_110 : zk_110.all (zdB (zb 110)) = true := zu_110_0
theorem zu_111 : zk_111.all (zdB (zb 111)) = true := zu_111_0
theorem zu_112 : zk_112.all (zdB (zb 112)) = true := zu_112_0
theorem zu_113 : zk_113.all (zdB (zb 113)) = true := zu_113_0
theorem zu_114 : zk_114.all (zdB (zb 114)) = true := zu_114_0
theorem zu_115 : zk_115.all (zdB (zb 115)) = true := zu_115_0
theorem zu_116 : zk_116.all (zdB (zb 116)) = true := zu_116_0
theorem zu_117 : zk_117.all (zdB (zb 117)) = true := zu_117_0
theorem zu_118 : zk_118.all (zdB (zb 118)) = true := zu_118_0
theorem zu_119 : zk_119.all (zdB (zb 119)) = true := zu_119_0
theorem zu_120 : zk_120.all (zdB (zb 120)) = true := (zau (zau (zau (zau (zau zu_120_0 zu_120_1) zu_120_2) zu_120_3) zu_120_4) zu_120_5)
end
section
theorem ztF : ∀ i, i ≤ znm → zFa i (zcd i)
  | 0, _ => zt_0
  | 1, _ => zt_1
  | 2, _ => zt_2
  | 3, _ => zt_3
  | 4, _ => zt_4
  | 5, _ => zt_5
  | 6, _ => zt_6
  | 7, _ => zt_7
  | 8, _ => zt_8
  | 9, _ => zt_9
  | 10, _ => zt_10
  | 11, _ => zt_11
  | 12, _ => zt_12
  | 13, _ => zt_13
  | 14, _ => zt_14
  | 15, _ => zt_15
  | 16, _ => zt_16
  | 17, _ => zt_17
  | 18, _ => zt_18
  | 19, _ => zt_19
  | 20, _ => zt_20
  | 21, _ => zt_21
  | 22, _ => zt_22
  | 23, _ => zt_23
  | 24, _ => zt_24
  | 25, _ => zt_25
  | 26, _ => zt_26
  | 27, _ => zt_27
  | 28, _ => zt_28
  | 29, _ => zt_29
  | 30, _ => zt_30
  | 31, _ => zt_31
  | 32, _ => zt_32
  | 33, _ => zt_33
  | 34, _ => zt_34
  | 35, _ => zt_35
  | 36, _ => zt_36
  | 37, _ => zt_37
  | 38, _ => zt_38
  | 39, _ => zt_39
  | 40, _ => zt_40
  | 41, _ => zt_41
  | 42, _ => zt_42
  | 43, _ => zt_43
  | 44, _ => zt_44
  | 45, _ => zt_45
  | 46, _ => zt_46
  | 47, _ => zt_47
  | 48, _ => zt_48
  | 49, _ => zt_49
  | 50, _ => zt_50
  | 51, _ => zt_51
  | 52, _ => zt_52
  | 53, _ => zt_53
  | 54, _ => zt_54
  | 55, _ => zt_55
  | 56, _ => zt_56
  | 57, _ => zt_57
  | 58, _ => zt_58
  | 59, _ => zt_59
  | 60, _ => zt_60
  | 61, _ => zt_61
  | 62, _ => zt_62
  | 63, _ => zt_63
  | 64, _ => zt_64
  | 65, _ => zt_65
  | 66, _ => zt_66
  | 67, _ => zt_67
  | 68, _ => zt_68
  | 69, _ => zt_69
  | 70, _ => zt_70
  | 71, _ => zt_71
  | 72, _ => zt_72
  | 73, _ => zt_73
  | 74, _ => zt_74
  | 75, _ => zt_75
  | 76, _ => zt_76
  | 77, _ => zt_77
  | 78, _ => zt_78
  | 79, _ => zt_79
  | 80, _ => zt_80
  | 81, _ => zt_81
  | 82, _ => zt_82
  | 83, _ => zt_83
  | 84, _ => zt_84
  | 85, _ => zt_85
  | 86, _ => zt_86
  | 87, _ => zt_87
  | 88, _ => zt_88
  | 89, _ => zt_89
  | 90, _ => zt_90
  | 91, _ => zt_91
  | 92, _ => zt_92
  | 93, _ => zt_93
  | 94, _ => zt_94
  | 95, _ => zt_95
  | 96, _ => zt_96
  | 97, _ => zt_97
  | 98, _ => zt_98
  | 99, _ => zt_99
  | 100, _ => zt_100
  | 101, _ => zt_101
  | 102, _ => zt_102
  | 103, _ => zt_103
  | 104, _ => zt_104
  | 105, _ => zt_105
  | 106, _ => zt_106
  | 107, _ => zt_107
  | 108, _ => zt_108
  | 109, _ => zt_109
  | 110, _ => zt_110
  | 111, _ => zt_111
  | 112, _ => zt_112
  | 113, _ => zt_113
  | 114, _ => zt_114
  | 115, _ => zt_115
  | 116, _ => zt_116
  | 117, _ => zt_117
  | 118, _ => zt_118
  | 119, _ => zt_119
  | 120, _ => zt_120
  | n + 121, h => absurd h (by unfold znm; omega)
theorem ztU : ∀ i, i ≤ znm → (zcd i).all (zdB (zb i)) = true
  | 0, _ => zu_0
  | 1, _ => zu_1
  | 2, _ => zu_2
  | 3, _ => zu_3
  | 4, _ => zu_4
  | 5, _ => zu_5
  | 6, _ => zu_6
  | 7, _ => zu_7
  | 8, _ => zu_8
  | 9, _ => zu_9
  | 10, _ => zu_10
  | 11, _ => zu_11
  | 12, _ => zu_12
  | 13, _ => zu_13
  | 14, _ => zu_14
  | 15, _ => zu_15
  | 16, _ => zu_16
  | 17, _ => zu_17
  | 18, _ => zu_18
  | 19, _ => zu_19
  | 20, _ => zu_20
  | 21, _ => zu_21
  | 22, _ => zu_22
  | 23, _ => zu_23
  | 24, _ => zu_24
  | 25, _ => zu_25
  | 26, _ => zu_26
  | 27, _ => zu_27
  | 28, _ => zu_28
  | 29, _ => zu_29
  | 30, _ => zu_30
  | 31, _ => zu_31
  | 32, _ => zu_32
  | 33, _ => zu_33
  | 34, _ => zu_34
  | 35, _ => zu_35
  | 36, _ => zu_36
  | 37, _ => zu_37
  | 38, _ => zu_38
  | 39, _ => zu_39
  | 40, _ => zu_40
  | 41, _ => zu_41
  | 42, _ => zu_42
  | 43, _ => zu_43
  | 44, _ => zu_44
  | 45, _ => zu_45
  | 46, _ => zu_46
  | 47, _ => zu_47
  | 48, _ => zu_48
  | 49, _ => zu_49
  | 50, _ => zu_50
  | 51, _ => zu_51
  | 52, _ => zu_52
  | 53, _ => zu_53
  | 54, _ => zu_54
  | 55, _ => zu_55
  | 56, _ => zu_56
  | 57, _ => zu_57
  | 58, _ => zu_58
  | 59, _ => zu_59
  | 60, _ => zu_60
  | 61, _ => zu_61
  | 62, _ => zu_62
  | 63, _ => zu_63
  | 64, _ => zu_64
  | 65, _ => zu_65
  | 66, _ => zu_66
  | 67, _ => zu_67
  | 68, _ => zu_68
  | 69, _ => zu_69
  | 70, _ => zu_70
  | 71, _ => zu_71
  | 72, _ => zu_72
  | 73, _ => zu_73
  | 74, _ => zu_74
  | 75, _ => zu_75
  | 76, _ => zu_76
  | 77, _ => zu_77
  | 78, _ => zu_78
  | 79, _ => zu_79
  | 80, _ => zu_80
  | 81, _ => zu_81
  | 82, _ => zu_82
  | 83, _ => zu_83
  | 84, _ => zu_84
  | 85, _ => zu_85
  | 86, _ => zu_86
  | 87, _ => zu_87
  | 88, _ => zu_88
  | 89, _ => zu_89
  | 90, _ => zu_90
  | 91, _ => zu_91
  | 92, _ => zu_92
  | 93, _ => zu_93
  | 94, _ => zu_94
  | 95, _ => zu_95
  | 96, _ => zu_96
  | 97, _ => zu_97
  | 98, _ => zu_98
  | 99, _ => zu_99
  | 100, _ => zu_100
  | 101, _ => zu_101
  | 102, _ => zu_102
  | 103, _ => zu_103
  | 104, _ => zu_104
  | 105, _ => zu_105
  | 106, _ => zu_106
  | 107, _ => zu_107
  | 108, _ => zu_108
  | 109, _ => zu_109
  | 110, _ => zu_110
  | 111, _ => zu_111
  | 112, _ => zu_112
  | 113, _ => zu_113
  | 114, _ => zu_114
  | 115, _ => zu_115
  | 116, _ => zu_116
  | 117, _ => zu_117
  | 118, _ => zu_118
  | 119, _ => zu_119
  | 120, _ => zu_120
  | n + 121, h => absurd h (by unfold znm; omega)
theorem ztab (i : Nat) (hi : i ≤ znm) (pc : Nat) (ins : Jvm.ClassFile.Instr) (inf : zI) (h : zlk (zcd i) pc = some (ins, inf)) : zdc (zb i) pc ins ∧ zjB pc ins inf = true ∧ zo3 (zy i) ins inf ∧ zo4 i ins inf := by
  have hm := zlk_mem h
  have h1 := zdB_ok (List.all_eq_true.mp (ztU i hi) _ hm)
  have h2 := zFa_mem (ztF i hi) hm
  exact ⟨h1.1, h1.2, h2.1, h2.2⟩
theorem zWS_code : ∀ j, j < znm → Cond.code (zy j) (zb j) (znl j) (zty j) ∈ zWS
  | 0, _ => zq_476
  | 1, _ => zq_477
  | 2, _ => zq_478
  | 3, _ => zq_479
  | 4, _ => zq_480
  | 5, _ => zq_481
  | 6, _ => zq_482
  | 7, _ => zq_483
  | 8, _ => zq_484
  | 9, _ => zq_485
  | 10, _ => zq_486
  | 11, _ => zq_487
  | 12, _ => zq_488
  | 13, _ => zq_489
  | 14, _ => zq_490
  | 15, _ => zq_491
  | 16, _ => zq_492
  | 17, _ => zq_493
  | 18, _ => zq_494
  | 19, _ => zq_495
  | 20, _ => zq_496
  | 21, _ => zq_497
  | 22, _ => zq_498
  | 23, _ => zq_499
  | 24, _ => zq_500
  | 25, _ => zq_501
  | 26, _ => zq_502
  | 27, _ => zq_503
  | 28, _ => zq_504
  | 29, _ => zq_505
  | 30, _ => zq_506
  | 31, _ => zq_507
  | 32, _ => zq_508
  | 33, _ => zq_509
  | 34, _ => zq_510
  | 35, _ => zq_511
  | 36, _ => zq_512
  | 37, _ => zq_513
  | 38, _ => zq_514
  | 39, _ => zq_515
  | 40, _ => zq_516
  | 41, _ => zq_517
  | 42, _ => zq_518
  | 43, _ => zq_519
  | 44, _ => zq_520
  | 45, _ => zq_521
  | 46, _ => zq_522
  | 47, _ => zq_523
  | 48, _ => zq_524
  | 49, _ => zq_525
  | 50, _ => zq_526
  | 51, _ => zq_527
  | 52, _ => zq_528
  | 53, _ => zq_529
  | 54, _ => zq_530
  | 55, _ => zq_531
  | 56, _ => zq_532
  | 57, _ => zq_533
  | 58, _ => zq_534
  | 59, _ => zq_535
  | 60, _ => zq_536
  | 61, _ => zq_537
  | 62, _ => zq_538
  | 63, _ => zq_539
  | 64, _ => zq_540
  | 65, _ => zq_541
  | 66, _ => zq_542
  | 67, _ => zq_543
  | 68, _ => zq_544
  | 69, _ => zq_545
  | 70, _ => zq_546
  | 71, _ => zq_547
  | 72, _ => zq_548
  | 73, _ => zq_549
  | 74, _ => zq_550
  | 75, _ => zq_551
  | 76, _ => zq_552
  | 77, _ => zq_553
  | 78, _ => zq_554
  | 79, _ => zq_555
  | 80, _ => zq_556
  | 81, _ => zq_557
  | 82, _ => zq_558
  | 83, _ => zq_559
  | 84, _ => zq_560
  | 85, _ => zq_561
  | 86, _ => zq_562
  | 87, _ => zq_563
  | 88, _ => zq_564
  | 89, _ => zq_565
  | 90, _ => zq_566
  | 91, _ => zq_567
  | 92, _ => zq_568
  | 93, _ => zq_569
  | 94, _ => zq_570
  | 95, _ => zq_571
  | 96, _ => zq_572
  | 97, _ => zq_573
  | 98, _ => zq_574
  | 99, _ => zq_575
  | 100, _ => zq_576
  | 101, _ => zq_577
  | 102, _ => zq_578
  | 103, _ => zq_579
  | 104, _ => zq_580
  | 105, _ => zq_581
  | 106, _ => zq_582
  | 107, _ => zq_583
  | 108, _ => zq_584
  | 109, _ => zq_585
  | 110, _ => zq_586
  | 111, _ => zq_587
  | 112, _ => zq_588
  | 113, _ => zq_589
  | 114, _ => zq_590
  | 115, _ => zq_591
  | 116, _ => zq_592
  | 117, _ => zq_593
  | 118, _ => zq_594
  | 119, _ => zq_595
  | n + 120, h => absurd h (by unfold znm; omega)
theorem zWS_good : ∀ w ∈ zWS, (w.onTables && w.keeps) = true ∨ ∃ ty, w = .arrayClass ty := fun w h => good_of_word (List.mem_filter.mp h).2
theorem zmd : ∀ j, j < znm → (zy j).cls ≠ "java/lang/invoke/MethodHandle" ∧ (zy j).cls ≠ "java/lang/invoke/VarHandle" ∧ (parseMethodDescriptor (zy j).desc).map (fun d => d.parameters.length) = some (zna j) := by decide +kernel
theorem zpl : ∀ j, j < znm → plainName (zy j).cls = true := by decide +kernel
theorem znl_le : ∀ j, j < znm → znl j ≤ 21 := by decide +kernel
theorem zrk_1 (i : Nat) (hi : i ≤ znm) : 1 ≤ zrk i := (by decide +kernel : ∀ i, i < znm + 1 → 1 ≤ zrk i) i (Nat.lt_succ_of_le hi)
end
section
/-! The machine's own state behind the abstract one: object a lies at b + a. -/
def zt (b sc : Nat) (v : Value) : Value := match v with
  | .ref a => .ref (b + a)
  | .long _ => .ref sc
  | v => v
def zE (CA : Nat → ClassId) (b : Nat) (M : zM) (a : Nat) : va_E :=
  if (zk M a).1 < 20 then .inr ((zk M a).1, (List.range (zN (zk M a).1)).map fun j => if zRf (zk M a).1 j = true then va_rf ((zr M a j).map (fun q => b + q)) else .int (zi M a j))
  else if (zk M a).1 < 22 then .inl (CA ((zk M a).1 - 20), (zk M a).2, .inl (zi M a))
  else .inl (CA ((zk M a).1 - 20), (zk M a).2, .inr (.inr (.inr (.inr fun j => (zr M a j).map (fun q => b + q)))))
def zW (CA : Nat → ClassId) (b : Nat) (M : zM) : va_W := (List.range (zn M)).map fun a => (b + a, zE CA b M a)
def zwf (M : zM) : Prop := ∀ a, zn M ≤ a → 25 ≤ (zk M a).1
theorem zW_get {CA : Nat → ClassId} {b : Nat} {M : zM} {a : Nat} (h : a < zn M) : (zW CA b M)[a]? = some (b + a, zE CA b M a) := by
  simp [zW, List.getElem?_map, List.getElem?_range h]
theorem zW_len {CA : Nat → ClassId} {b : Nat} {M : zM} : (zW CA b M).length = zn M := by simp [zW]
theorem zW_at {CA : Nat → ClassId} {b : Nat} {M : zM} {k : Nat} {q : Nat × va_E} (h : (zW CA b M)[k]? = some q) : k < zn M ∧ q = (b + k, zE CA b M k) := by
  have hk : k < zn M := by
    have := (List.getElem?_eq_some_iff.mp h).1
    rwa [zW_len] at this
  rw [zW_get hk] at h
  exact ⟨hk, (Option.some.inj h).symm⟩
theorem zW_set {CA : Nat → ClassId} {b : Nat} {M M' : zM} {a : Nat} (hn : zn M' = zn M) (ho : ∀ k, k ≠ a → zE CA b M' k = zE CA b M k) : (zW CA b M).set a (b + a, zE CA b M' a) = zW CA b M' := by
  apply List.ext_getElem?
  intro k
  by_cases hk : k < zn M
  · rw [zW_get (M := M') (by rw [hn]; exact hk)]
    by_cases hka : k = a
    · subst hka
      rw [List.getElem?_set_self (by rw [zW_len]; exact hk)]
    · rw [List.getElem?_set_ne (Ne.symm hka), zW_get hk, ho k hka]
  · rw [List.getElem?_eq_none (by rw [List.length_set, zW_len]; omega), List.getElem?_eq_none (by rw [zW_len, hn]; omega)]
theorem zW_push {CA : Nat → ClassId} {b : Nat} {M M' : zM} (hn : zn M' = zn M + 1) (ho : ∀ k, k < zn M → zE CA b M' k = zE CA b M k) : zW CA b M ++ [(b + zn M, zE CA b M' (zn M))] = zW CA b M' := by
  unfold zW
  rw [hn, List.range_succ, List.map_append]
  congr 1
  refine List.map_congr_left fun k hk => ?_
  rw [ho k (List.mem_range.mp hk)]
theorem zW_D {CA : Nat → ClassId} {b : Nat} {M : zM} : va_D (fun q => b ≤ q) (zW CA b M) := by
  refine ⟨fun i j x y hi hj hxy => ?_, fun k q hk => ?_⟩
  · obtain ⟨-, e1⟩ := zW_at hi
    obtain ⟨-, e2⟩ := zW_at hj
    subst e1; subst e2
    have : b + i = b + j := hxy
    omega
  · obtain ⟨-, e⟩ := zW_at hk
    subst e
    exact Nat.le_add_right _ _
theorem zt_cat {b sc : Nat} {v : Value} (h : zok v = true) : (zt b sc v).category = 1 := by
  cases v <;> first | rfl | cases h
theorem zt_A {b sc : Nat} {v : Value} (h : zA v = true) : zt b sc v = va_rf ((zq v).map (fun q => b + q)) := by
  cases v <;> first | rfl | cases h
theorem zt_rf {b sc : Nat} {o : Option Nat} : zt b sc (va_rf o) = va_rf (o.map (fun q => b + q)) := by
  cases o <;> rfl
theorem zok_rf {o : Option Nat} : zok (va_rf o) = true := by cases o <;> rfl
theorem zA_rf {o : Option Nat} : zA (va_rf o) = true := by cases o <;> rfl
theorem zAL_rf {o : Option Nat} : zAL (va_rf o) = true := by cases o <;> rfl
theorem zq_rf {o : Option Nat} : zq (va_rf o) = o := by cases o <;> rfl
theorem zok_A {v : Value} (h : zA v = true) : zok v = true := by cases v <;> first | rfl | cases h
theorem zok_AL {v : Value} (h : zAL v = true) : zok v = true := by cases v <;> first | rfl | cases h
/-! the locals -/
def zlv (b sc : Nat) (L : List Value) : List (Nat × Value) := (List.range L.length).filterMap fun k => match L[k]? with
  | some v => if zok v = true then some (k, zt b sc v) else none
  | none => none
def zls (b sc : Nat) (ls : Array Slot) (n : Nat) (L : List Value) : Prop := L.length = n ∧ lv_has ls n (zlv b sc L)
theorem zlv_in {b sc : Nat} {L : List Value} {q : Nat × Value} : q ∈ zlv b sc L ↔ ∃ v, L[q.1]? = some v ∧ zok v = true ∧ q.2 = zt b sc v := by
  unfold zlv
  rw [List.mem_filterMap]
  constructor
  · rintro ⟨k, -, hk⟩
    cases hv : L[k]? with
    | none => rw [hv] at hk; cases hk
    | some v =>
      rw [hv] at hk
      dsimp only at hk
      by_cases ho : zok v = true
      · rw [if_pos ho] at hk
        cases hk
        exact ⟨v, hv, ho, rfl⟩
      · rw [if_neg ho] at hk; cases hk
  · rintro ⟨v, hv, ho, e⟩
    refine ⟨q.1, List.mem_range.mpr (List.getElem?_eq_some_iff.mp hv).1, ?_⟩
    rw [hv]
    dsimp only
    rw [if_pos ho, ← e]
theorem zls_at {b sc : Nat} {ls : Array Slot} {n : Nat} {L : List Value} (h : zls b sc ls n L) {k : Nat} {v : Value} (hv : L[k]? = some v) (ho : zok v = true) : ls[k]? = some (.val (zt b sc v)) :=
  h.2.2.2 (k, zt b sc v) (zlv_in.mpr ⟨v, hv, ho, rfl⟩)
theorem zls_set {b sc : Nat} {ls ls' : Array Slot} {n : Nat} {L : List Value} (h : zls b sc ls n L) {k : Nat} {x : Value} (hk : k < n) (hx : zok x = true)
    (h' : lv_has ls' n ((k, zt b sc x) :: (zlv b sc L).filter (fun q => !(q.1 == k) && !(q.1 + 1 == k && q.2.category == 2)))) : zls b sc ls' n (L.set k x) := by
  refine ⟨by rw [List.length_set]; exact h.1, h'.1, h'.2.1, fun q hq => ?_⟩
  obtain ⟨v, hv, ho, e⟩ := zlv_in.mp hq
  by_cases hqk : q.1 = k
  · rw [hqk, List.getElem?_set_self (by rw [h.1]; exact hk)] at hv
    cases hv
    have := h'.2.2 (k, zt b sc x) List.mem_cons_self
    rw [hqk, e]; exact this
  · rw [List.getElem?_set_ne (Ne.symm hqk)] at hv
    refine h'.2.2 q (List.mem_cons_of_mem _ (List.mem_filter.mpr ⟨zlv_in.mpr ⟨v, hv, ho, e⟩, ?_⟩))
    have : q.2.category = 1 := by rw [e]; exact zt_cat ho
    simp [hqk, this]
/-! The judgement: from this configuration the machine comes to the end r. -/
def zQ (D : va_G) (CA : Nat → ClassId) (b sc : Nat) (r : zR) : Array Value → State → Outcome → State → Prop := fun _ st o t =>
  o = .returned (r.1.map (zt b sc)) ∧ va_P D vwCl (zW CA b r.2) t.heap ∧ va_F (fun q => b ≤ q) st t ∧ zwf r.2 ∧ ∀ v, r.1 = some v → zok v = true
section ZG
variable {p : Program} {l : Launch} {e : Env} {R : Room} {s : State} {m : MethodId} {args : Array Value} {below : List Frame} {meth : Method} {c : Code}
variable {D : va_G} {CA : Nat → ClassId} {b sc n0 z0 : Nat} {sp : Nat × (Nat → Int32)}
/-- what stands fast while method i runs -/
def zB (p : Program) (R : Room) (s : State) (m : MethodId) (args : Array Value) (meth : Method) (c : Code) (D : va_G) (CA : Nat → ClassId) (b sc n0 : Nat) (sp : Nat × (Nat → Int32)) (i : Nat) : Prop :=
  p.tables.exec = Jvm.exec ∧ c.code = zb i ∧ c.maxLocals = znl i ∧ s.vm.findClass (zy i).cls = some m.cls ∧ ((∀ w ∈ zWS, w.before args s = true) ∧ ∀ w ∈ zXS, va_Nw w s) ∧
  (meth.locks = false ∧ meth.sig.returnType = zty i ∧ ((zy i).name = "<init>" → meth.name = "<init>")) ∧ va_K D vwCl (zT CA) s ∧ zrk i ≤ R.frames ∧ 40 * zrk i ≤ R.locals ∧
  (s.heap.size = b + n0 ∧ sc < b ∧ va_X sc sp.1 sp.2 s s.heap)
def zG (p : Program) (l : Launch) (e : Env) (R : Room) (s : State) (m : MethodId) (args : Array Value) (below : List Frame) (meth : Method) (c : Code) (D : va_G) (CA : Nat → ClassId) (b sc n0 z0 : Nat) (cf : zC) (r : zR) : Prop :=
  ∀ (H : Heap) (locs : List Loc) (ls : Array Slot) (cells slots : Nat), va_P D vwCl (zW CA b cf.2.2.2.2) H → zls b sc ls (znl cf.1) cf.2.2.1 → va_S (fun q => b ≤ q) s.heap H locs → cells + n0 = zn cf.2.2.2.2 → slots + z0 = zz cf.2.2.2.2 → (∀ v ∈ cf.2.2.2.1, zok v = true) → zwf cf.2.2.2.2 →
    W p l e R s m args below meth c H locs cells slots (MQ below (zQ D CA b sc r) args s (zn r.2 - n0) (zz r.2 - z0) (fun q => b ≤ q)) (F0 m cf.2.1 ls (cf.2.2.2.1.map (zt b sc)))
theorem zG_i {i pc : Nat} {L st : List Value} {M : zM} {r : zR} (h : ∀ (H : Heap) (locs : List Loc) (ls : Array Slot) (cells slots : Nat), va_P D vwCl (zW CA b M) H → zls b sc ls (znl i) L → va_S (fun q => b ≤ q) s.heap H locs → cells + n0 = zn M → slots + z0 = zz M → (∀ v ∈ st, zok v = true) → zwf M →
    W p l e R s m args below meth c H locs cells slots (MQ below (zQ D CA b sc r) args s (zn r.2 - n0) (zz r.2 - z0) (fun q => b ≤ q)) (F0 m pc ls (st.map (zt b sc)))) : zG p l e R s m args below meth c D CA b sc n0 z0 (i, pc, L, st, M) r := h
/-- the heap's size is known -/
theorem z_sz {H : Heap} {locs : List Loc} {cells slots : Nat} {Q : State → Prop} {g : JFrame} (k : H.size ≤ s.heap.size + cells → W p l e R s m args below meth c H locs cells slots Q g) : W p l e R s m args below meth c H locs cells slots Q g := by
  intro T hT X
  refine k ?_ T hT X
  have h := X.same.2.2.1
  rw [← hT]
  exact h
theorem z_bin {f : Int32 → Int32 → Int32} {i pc : Nat} {L st : List Value} {M : zM} {cf : zC} {r : zR}
    (row : ∀ {H : Heap} {locs : List Loc} {cells slots : Nat} {Q : State → Prop} {ls : Array Slot} {x y : Int32} {t : List Value}, W p l e R s m args below meth c H locs cells slots Q (F0 m (pc + 1) ls (.int (f x y) :: t)) → W p l e R s m args below meth c H locs cells slots Q (F0 m pc ls (.int y :: .int x :: t)))
    (h : zbin f i pc L st M = some (.inl cf)) (k : zG p l e R s m args below meth c D CA b sc n0 z0 cf r) : zG p l e R s m args below meth c D CA b sc n0 z0 (i, pc, L, st, M) r := by
  unfold zbin at h
  split at h
  · cases h
    refine zG_i (fun H locs ls cells slots hP hl hS hc hz hst hw => ?_)
    refine row (k H locs ls cells slots hP hl hS hc hz (fun v hv => ?_) hw)
    rcases List.mem_cons.mp hv with h | h
    · subst h; rfl
    · exact hst v (List.mem_cons_of_mem _ (List.mem_cons_of_mem _ h))
  · cases h
theorem z_const {i pc d : Nat} {v : Value} {L st : List Value} {M : zM} {cf : zC} {r : zR} (hv : zok v = true)
    (row : ∀ {H : Heap} {locs : List Loc} {cells slots : Nat} {Q : State → Prop} {ls : Array Slot} {t : List Value}, W p l e R s m args below meth c H locs cells slots Q (F0 m d ls (zt b sc v :: t)) → W p l e R s m args below meth c H locs cells slots Q (F0 m pc ls t))
    (h : zgo i d L (v :: st) M = some (.inl cf)) (k : zG p l e R s m args below meth c D CA b sc n0 z0 cf r) : zG p l e R s m args below meth c D CA b sc n0 z0 (i, pc, L, st, M) r := by
  cases h
  refine zG_i (fun H locs ls cells slots hP hl hS hc hz hst hw => ?_)
  refine row (k H locs ls cells slots hP hl hS hc hz (fun w hw => ?_) hw)
  rcases List.mem_cons.mp hw with h | h
  · subst h; exact hv
  · exact hst w h
theorem z_ldi {i pc d j : Nat} {L st : List Value} {M : zM} {cf : zC} {r : zR}
    (row : ∀ {H : Heap} {locs : List Loc} {cells slots : Nat} {Q : State → Prop} {ls : Array Slot} {x : Int32} {t : List Value}, ls[j]? = some (.val (.int x)) → W p l e R s m args below meth c H locs cells slots Q (F0 m d ls (.int x :: t)) → W p l e R s m args below meth c H locs cells slots Q (F0 m pc ls t))
    (h : zldi j i d L st M = some (.inl cf)) (k : zG p l e R s m args below meth c D CA b sc n0 z0 cf r) : zG p l e R s m args below meth c D CA b sc n0 z0 (i, pc, L, st, M) r := by
  unfold zldi at h
  split at h
  · rename_i x hx
    cases h
    refine zG_i (fun H locs ls cells slots hP hl hS hc hz hst hw => ?_)
    refine row (x := x) (zls_at hl hx rfl) (k H locs ls cells slots hP hl hS hc hz (fun w hw => ?_) hw)
    rcases List.mem_cons.mp hw with h | h
    · subst h; rfl
    · exact hst w h
  · cases h
theorem z_lda {i pc d j : Nat} {L st : List Value} {M : zM} {cf : zC} {r : zR}
    (row : ∀ {H : Heap} {locs : List Loc} {cells slots : Nat} {Q : State → Prop} {ls : Array Slot} {x : Nat} {t : List Value}, ls[j]? = some (.val (.ref x)) → W p l e R s m args below meth c H locs cells slots Q (F0 m d ls (.ref x :: t)) → W p l e R s m args below meth c H locs cells slots Q (F0 m pc ls t))
    (rowN : ∀ {H : Heap} {locs : List Loc} {cells slots : Nat} {Q : State → Prop} {ls : Array Slot} {t : List Value}, ls[j]? = some (.val .null) → W p l e R s m args below meth c H locs cells slots Q (F0 m d ls (.null :: t)) → W p l e R s m args below meth c H locs cells slots Q (F0 m pc ls t))
    (h : zlda j i d L st M = some (.inl cf)) (k : zG p l e R s m args below meth c D CA b sc n0 z0 cf r) : zG p l e R s m args below meth c D CA b sc n0 z0 (i, pc, L, st, M) r := by
  unfold zlda at h
  split at h
  · rename_i v hx
    split at h
    · rename_i hA
      cases h
      refine zG_i (fun H locs ls cells slots hP hl hS hc hz hst hw => ?_)
      have k' := k H locs ls cells slots hP hl hS hc hz (fun w hw => by
        rcases List.mem_cons.mp hw with h | h
        · subst h; exact zok_AL hA
        · exact hst w h) hw
      have hat := zls_at hl hx (zok_AL hA)
      cases v with
      | ref a => exact row hat k'
      | null => exact rowN hat k'
      | long a => exact row hat k'
      | _ => cases hA
    · cases h
  · cases h
theorem z_sti {i pc d j : Nat} {L st : List Value} {M : zM} {cf : zC} {r : zR}
    (row : ∀ {H : Heap} {locs : List Loc} {cells slots : Nat} {Q : State → Prop} {ls : Array Slot} {x : Int32} {t : List Value} {lv : List (Nat × Value)}, lv_has ls (znl i) lv → j < znl i → (∀ ls' : Array Slot, lv_has ls' (znl i) ((j, Value.int x) :: lv.filter (fun q => !(q.1 == j) && !(q.1 + 1 == j && q.2.category == 2))) → W p l e R s m args below meth c H locs cells slots Q (F0 m d ls' t)) → W p l e R s m args below meth c H locs cells slots Q (F0 m pc ls (.int x :: t)))
    (h : zsti j i d L st M = some (.inl cf)) (k : zG p l e R s m args below meth c D CA b sc n0 z0 cf r) : zG p l e R s m args below meth c D CA b sc n0 z0 (i, pc, L, st, M) r := by
  unfold zsti at h
  split at h
  · rename_i x t
    split at h
    · rename_i hk
      cases h
      refine zG_i (fun H locs ls cells slots hP hl hS hc hz hst hw => ?_)
      have hk' : j < znl i := by rw [← hl.1]; exact hk
      exact row hl.2 hk' fun ls' h' => k H locs ls' cells slots hP (zls_set hl hk' rfl h') hS hc hz (fun w hw => hst w (List.mem_cons_of_mem _ hw)) hw
    · cases h
  · cases h
theorem z_sta {i pc d j : Nat} {L st : List Value} {M : zM} {cf : zC} {r : zR}
    (row : ∀ {H : Heap} {locs : List Loc} {cells slots : Nat} {Q : State → Prop} {ls : Array Slot} {x : Nat} {t : List Value} {lv : List (Nat × Value)}, lv_has ls (znl i) lv → j < znl i → (∀ ls' : Array Slot, lv_has ls' (znl i) ((j, Value.ref x) :: lv.filter (fun q => !(q.1 == j) && !(q.1 + 1 == j && q.2.category == 2))) → W p l e R s m args below meth c H locs cells slots Q (F0 m d ls' t)) → W p l e R s m args below meth c H locs cells slots Q (F0 m pc ls (.ref x :: t)))
    (rowN : ∀ {H : Heap} {locs : List Loc} {cells slots : Nat} {Q : State → Prop} {ls : Array Slot} {t : List Value} {lv : List (Nat × Value)}, lv_has ls (znl i) lv → j < znl i → (∀ ls' : Array Slot, lv_has ls' (znl i) ((j, Value.null) :: lv.filter (fun q => !(q.1 == j) && !(q.1 + 1 == j && q.2.category == 2))) → W p l e R s m args below meth c H locs cells slots Q (F0 m d ls' t)) → W p l e R s m args below meth c H locs cells slots Q (F0 m pc ls (.null :: t)))
    (h : zsta j i d L st M = some (.inl cf)) (k : zG p l e R s m args below meth c D CA b sc n0 z0 cf r) : zG p l e R s m args below meth c D CA b sc n0 z0 (i, pc, L, st, M) r := by
  unfold zsta at h
  split at h
  · rename_i v t
    split at h
    · rename_i hA
      split at h
      · rename_i hk
        cases h
        refine zG_i (fun H locs ls cells slots hP hl hS hc hz hst hw => ?_)
        have hk' : j < znl i := by rw [← hl.1]; exact hk
        have k' := fun ls' h' => k H locs ls' cells slots hP (zls_set hl hk' (zok_A hA) h') hS hc hz (fun w hw => hst w (List.mem_cons_of_mem _ hw)) hw
        cases v with
        | ref a => exact row hl.2 hk' k'
        | null => exact rowN hl.2 hk' k'
        | _ => cases hA
      · cases h
    · cases h
  · cases h
theorem z_x1 {i pc : Nat} {ins : Jvm.ClassFile.Instr} {L st : List Value} {M : zM} {cf : zC} {r : zR} (B : zB p R s m args meth c D CA b sc n0 sp i) (hd : zdc (zb i) pc ins)
    (h : zx1 i pc ins L st M = some (.inl cf)) (k : zG p l e R s m args below meth c D CA b sc n0 z0 cf r) : zG p l e R s m args below meth c D CA b sc n0 z0 (i, pc, L, st, M) r := by
  have hx := B.1
  have hb := B.2.1
  cases ins
  case iconst n => exact z_const (v := .int (Int32.ofInt n)) rfl (fun q => lv_iconst hx hb hd rfl q) h k
  case bipush n => exact z_const (v := .int (Int8.ofInt n).toInt32) rfl (fun q => lv_bipush hx hb hd rfl q) h k
  case sipush n => exact z_const (v := .int (Int16.ofInt n).toInt32) rfl (fun q => lv_sipush hx hb hd rfl q) h k
  case aconst_null => exact z_const (v := .null) rfl (fun q => lv_null hx hb hd q) h k
  case iload_n j => exact z_ldi (fun a q => lv_iload_n hx hb hd rfl a q) h k
  case iload j => exact z_ldi (fun a q => lv_iload hx hb hd a q) h k
  case aload_n j => exact z_lda (fun a q => lv_aload_n hx hb hd rfl a q) (fun a q => lv_aload_nN hx hb hd rfl a q) h k
  case aload j => exact z_lda (fun a q => lv_aload hx hb hd a q) (fun a q => lv_aloadN hx hb hd a q) h k
  case istore_n j => exact z_sti (fun a hj q => lv_istore_n hx hb hd rfl a hj rfl q) h k
  case istore j => exact z_sti (fun a hj q => lv_istore hx hb hd a hj rfl q) h k
  case astore_n j => exact z_sta (fun a hj q => lv_astore_n hx hb hd rfl a hj rfl q) (fun a hj q => lv_astore_nN hx hb hd rfl a hj rfl q) h k
  case astore j => exact z_sta (fun a hj q => lv_astore hx hb hd a hj rfl q) (fun a hj q => lv_astoreN hx hb hd a hj rfl q) h k
  case iadd => exact z_bin (fun q => lv_iadd hx hb hd q) h k
  case isub => exact z_bin (fun q => lv_isub hx hb hd q) h k
  case imul => exact z_bin (fun q => lv_imul hx hb hd q) h k
  case iand => exact z_bin (fun q => lv_iand hx hb hd q) h k
  case ior => exact z_bin (fun q => lv_ior hx hb hd q) h k
  case ishl => exact z_bin (fun q => lv_ishl hx hb hd q) h k
  case ishr => exact z_bin (fun q => lv_ishr hx hb hd q) h k
  case iinc j n =>
    dsimp only [zx1] at h
    split at h
    · rename_i x hL
      cases h
      refine zG_i (fun H locs ls cells slots hP hl hS hc hz hst hw => ?_)
      have hj : j < znl i := by rw [← hl.1]; exact (List.getElem?_eq_some_iff.mp hL).1
      obtain ⟨q0, hq0⟩ := List.getElem?_of_mem (zlv_in.mpr ⟨.int x, hL, rfl, rfl⟩ : (j, zt b sc (.int x)) ∈ zlv b sc L)
      exact lv_iinc hx hb hd hl.2 hq0 rfl hj rfl fun ls' h' => k H locs ls' cells slots hP (zls_set hl hj rfl h') hS hc hz hst hw
    · cases h
  case idiv =>
    dsimp only [zx1] at h
    split at h
    · split at h
      · cases h
      · rename_i hy
        cases h
        refine zG_i (fun H locs ls cells slots hP hl hS hc hz hst hw => ?_)
        refine lv_idiv hx hb hd hy (k H locs ls cells slots hP hl hS hc hz (fun v hv => ?_) hw)
        rcases List.mem_cons.mp hv with h | h
        · subst h; rfl
        · exact hst v (List.mem_cons_of_mem _ (List.mem_cons_of_mem _ h))
    · cases h
  case irem =>
    dsimp only [zx1] at h
    split at h
    · split at h
      · cases h
      · rename_i hy
        cases h
        refine zG_i (fun H locs ls cells slots hP hl hS hc hz hst hw => ?_)
        refine lv_irem hx hb hd hy (k H locs ls cells slots hP hl hS hc hz (fun v hv => ?_) hw)
        rcases List.mem_cons.mp hv with h | h
        · subst h; rfl
        · exact hst v (List.mem_cons_of_mem _ (List.mem_cons_of_mem _ h))
    · cases h
  case dup =>
    dsimp only [zx1] at h
    split at h
    · cases h
      refine zG_i (fun H locs ls cells slots hP hl hS hc hz hst hw => ?_)
      exact lv_dup hx hb hd (zt_cat (hst _ (by simp))) (k H locs ls cells slots hP hl hS hc hz (fun v hv => hst v (by simp at hv ⊢; exact hv)) hw)
    · cases h
  case pop =>
    dsimp only [zx1] at h
    split at h
    · cases h
      refine zG_i (fun H locs ls cells slots hP hl hS hc hz hst hw => ?_)
      exact lv_pop hx hb hd (zt_cat (hst _ (by simp))) (k H locs ls cells slots hP hl hS hc hz (fun v hv => hst v (List.mem_cons_of_mem _ hv)) hw)
    · cases h
  case dup_x1 =>
    dsimp only [zx1] at h
    split at h
    · cases h
      refine zG_i (fun H locs ls cells slots hP hl hS hc hz hst hw => ?_)
      exact lv_dup_x1 hx hb hd (zt_cat (hst _ (by simp))) (zt_cat (hst _ (by simp))) (k H locs ls cells slots hP hl hS hc hz (fun v hv => hst v (by simp at hv ⊢; rcases hv with h | h | h | h <;> simp [h])) hw)
    · cases h
  case dup_x2 =>
    dsimp only [zx1] at h
    split at h
    · cases h
      refine zG_i (fun H locs ls cells slots hP hl hS hc hz hst hw => ?_)
      exact lv_dup_x2 hx hb hd (zt_cat (hst _ (by simp))) (zt_cat (hst _ (by simp))) (zt_cat (hst _ (by simp))) (k H locs ls cells slots hP hl hS hc hz (fun v hv => hst v (by simp at hv ⊢; rcases hv with h | h | h | h | h <;> simp [h])) hw)
    · cases h
  case dup2 =>
    dsimp only [zx1] at h
    split at h
    · cases h
      refine zG_i (fun H locs ls cells slots hP hl hS hc hz hst hw => ?_)
      exact lv_dup2_11 hx hb hd (zt_cat (hst _ (by simp))) (zt_cat (hst _ (by simp))) (k H locs ls cells slots hP hl hS hc hz (fun v hv => hst v (by simp at hv ⊢; rcases hv with h | h | h | h | h <;> simp [h])) hw)
    · cases h
  all_goals (change (none : zO) = _ at h; cases h)
theorem zjT_at {pc : Nat} : ∀ {os : List Int} {t : zI} {k n : Nat} {x : Nat × Nat × Nat}, zjT pc os t k = true → t[n]? = some x → x.1 = k + n ∧ ∃ off, os[n]? = some off ∧ (pc : Int) + off = (x.2.1 : Int)
  | off :: os, y :: t, k, 0, x, h, hx => by
    simp only [zjT, Bool.and_eq_true, decide_eq_true_eq] at h
    cases hx
    exact ⟨h.1.1, off, rfl, h.1.2⟩
  | off :: os, y :: t, k, n + 1, x, h, hx => by
    simp only [zjT, Bool.and_eq_true, decide_eq_true_eq] at h
    obtain ⟨h1, off', h2, h3⟩ := zjT_at (n := n) h.2 hx
    exact ⟨by omega, off', h2, h3⟩
  | [], y :: t, k, n, x, h, hx => by cases h
  | [], [], k, n, x, h, hx => by cases hx
  | _ :: _, [], k, n, x, h, hx => by cases hx
theorem zsw_some {x : Int32} {K : Nat → zO} {d : Nat} {o : zC ⊕ zR ⊕ (zC × Nat × Nat × List Value × List Value)} : ∀ {inf : zI}, zsw inf x K d = some o → (K d = some o ∧ ∀ q ∈ inf, ¬ x = Int32.ofNat q.1) ∨ ∃ (n : Nat) (q : Nat × Nat × Nat), inf[n]? = some q ∧ x = Int32.ofNat q.1 ∧ K q.2.1 = some o
  | [], h => Or.inl ⟨h, fun q hq => by cases hq⟩
  | q :: t, h => by
    rw [zsw] at h
    by_cases hx : x = Int32.ofNat q.1
    · rw [if_pos hx] at h
      exact Or.inr ⟨0, q, rfl, hx, h⟩
    · rw [if_neg hx] at h
      rcases zsw_some h with ⟨h1, h2⟩ | ⟨n, q', h1, h2, h3⟩
      · refine Or.inl ⟨h1, fun q' hq => ?_⟩
        rcases List.mem_cons.mp hq with e | e
        · subst e; exact hx
        · exact h2 q' e
      · exact Or.inr ⟨n + 1, q', h1, h2, h3⟩
theorem z_if {i pc tg : Nat} {q : Prop} [Decidable q] {L t st : List Value} {M : zM} {cf : zC} {r : zR}
    (row : ∀ {H : Heap} {locs : List Loc} {cells slots : Nat} {Q : State → Prop} {ls : Array Slot}, (q → W p l e R s m args below meth c H locs cells slots Q (F0 m tg ls (t.map (zt b sc)))) → (¬ q → W p l e R s m args below meth c H locs cells slots Q (F0 m (pc + 3) ls (t.map (zt b sc)))) → W p l e R s m args below meth c H locs cells slots Q (F0 m pc ls (st.map (zt b sc))))
    (hs : ∀ v ∈ t, v ∈ st) (h : (if q then zgo i tg L t M else zgo i (pc + 3) L t M) = some (.inl cf)) (k : zG p l e R s m args below meth c D CA b sc n0 z0 cf r) : zG p l e R s m args below meth c D CA b sc n0 z0 (i, pc, L, st, M) r := by
  refine zG_i (fun H locs ls cells slots hP hl hS hc hz hst hw => ?_)
  refine row (fun hq => ?_) (fun hq => ?_)
  · rw [if_pos hq] at h
    cases h
    exact k H locs ls cells slots hP hl hS hc hz (fun v hv => hst v (hs v hv)) hw
  · rw [if_neg hq] at h
    cases h
    exact k H locs ls cells slots hP hl hS hc hz (fun v hv => hst v (hs v hv)) hw
theorem z_ifn {i pc tg : Nat} {q : Prop} [Decidable q] {L t st : List Value} {M : zM} {cf : zC} {r : zR}
    (row : ∀ {H : Heap} {locs : List Loc} {cells slots : Nat} {Q : State → Prop} {ls : Array Slot}, (¬ q → W p l e R s m args below meth c H locs cells slots Q (F0 m tg ls (t.map (zt b sc)))) → (q → W p l e R s m args below meth c H locs cells slots Q (F0 m (pc + 3) ls (t.map (zt b sc)))) → W p l e R s m args below meth c H locs cells slots Q (F0 m pc ls (st.map (zt b sc))))
    (hs : ∀ v ∈ t, v ∈ st) (h : (if q then zgo i (pc + 3) L t M else zgo i tg L t M) = some (.inl cf)) (k : zG p l e R s m args below meth c D CA b sc n0 z0 cf r) : zG p l e R s m args below meth c D CA b sc n0 z0 (i, pc, L, st, M) r := by
  refine zG_i (fun H locs ls cells slots hP hl hS hc hz hst hw => ?_)
  refine row (fun hq => ?_) (fun hq => ?_)
  · rw [if_neg hq] at h
    cases h
    exact k H locs ls cells slots hP hl hS hc hz (fun v hv => hst v (hs v hv)) hw
  · rw [if_pos hq] at h
    cases h
    exact k H locs ls cells slots hP hl hS hc hz (fun v hv => hst v (hs v hv)) hw
theorem z_le {x y : Int32} : ¬ x < y ↔ y ≤ x := Int32.not_lt
theorem z_x2 {i pc : Nat} {ins : Jvm.ClassFile.Instr} {inf : zI} {L st : List Value} {M : zM} {cf : zC} {r : zR} (B : zB p R s m args meth c D CA b sc n0 sp i) (hd : zdc (zb i) pc ins) (hj : zjB pc ins inf = true)
    (h : zx2 i pc ins inf L st M = some (.inl cf)) (k : zG p l e R s m args below meth c D CA b sc n0 z0 cf r) : zG p l e R s m args below meth c D CA b sc n0 z0 (i, pc, L, st, M) r := by
  have hx := B.1
  have hb := B.2.1
  cases inf with
  | nil => cases h
  | cons q inf' =>
    cases ins
    case goto off =>
      have ht := of_decide_eq_true hj
      cases h
      refine zG_i (fun H locs ls cells slots hP hl hS hc hz hst hw => ?_)
      exact lv_goto hx hb hd ht (k H locs ls cells slots hP hl hS hc hz hst hw)
    case ifCond cd off =>
      have ht := of_decide_eq_true hj
      dsimp only [zx2] at h
      split at h
      · rename_i x t
        cases cd
        case eq => exact z_if (fun a a' => lv_if_eq hx hb hd ht a a') (fun v hv => List.mem_cons_of_mem _ hv) h k
        case ne => exact z_ifn (fun a a' => lv_if_ne hx hb hd ht a a') (fun v hv => List.mem_cons_of_mem _ hv) h k
        case lt => exact z_if (fun a a' => lv_if_lt hx hb hd ht a a') (fun v hv => List.mem_cons_of_mem _ hv) h k
        case ge => exact z_ifn (fun a a' => lv_if_ge hx hb hd ht (fun w => a (z_le.mpr w)) (fun w => a' (Classical.byContradiction fun z => w (z_le.mp z)))) (fun v hv => List.mem_cons_of_mem _ hv) h k
        case gt => exact z_if (fun a a' => lv_if_gt hx hb hd ht a a') (fun v hv => List.mem_cons_of_mem _ hv) h k
        case le => exact z_ifn (fun a a' => lv_if_le hx hb hd ht (fun w => a (z_le.mpr w)) (fun w => a' (Classical.byContradiction fun z => w (z_le.mp z)))) (fun v hv => List.mem_cons_of_mem _ hv) h k
      · cases h
    case if_icmp cd off =>
      have ht := of_decide_eq_true hj
      dsimp only [zx2] at h
      split at h
      · rename_i y x t
        have hs : ∀ v ∈ t, v ∈ (Value.int y :: Value.int x :: t) := fun v hv => List.mem_cons_of_mem _ (List.mem_cons_of_mem _ hv)
        cases cd
        case eq => exact z_if (fun a a' => lv_icmp_eq hx hb hd ht a a') hs h k
        case ne => exact z_ifn (fun a a' => lv_icmp_ne hx hb hd ht a a') hs h k
        case lt => exact z_if (fun a a' => lv_icmp_lt hx hb hd ht a a') hs h k
        case ge => exact z_ifn (fun a a' => lv_icmp_ge hx hb hd ht (fun w => a (z_le.mpr w)) (fun w => a' (Classical.byContradiction fun z => w (z_le.mp z)))) hs h k
        case gt => exact z_if (fun a a' => lv_icmp_gt hx hb hd ht a a') hs h k
        case le => exact z_ifn (fun a a' => lv_icmp_le hx hb hd ht (fun w => a (z_le.mpr w)) (fun w => a' (Classical.byContradiction fun z => w (z_le.mp z)))) hs h k
      · cases h
    case ifnull off =>
      have ht := of_decide_eq_true hj
      dsimp only [zx2] at h
      split at h
      · rename_i v t
        split at h
        · rename_i hA
          cases v with
          | ref a => exact z_if (fun u u' => lv_ifnull hx hb hd (u' (fun z => by cases z))) (fun v hv => List.mem_cons_of_mem _ hv) h k
          | null => exact z_if (fun u u' => lv_ifnullN hx hb hd ht (u rfl)) (fun v hv => List.mem_cons_of_mem _ hv) h k
          | _ => cases hA
        · cases h
      · cases h
    case ifnonnull off =>
      have ht := of_decide_eq_true hj
      dsimp only [zx2] at h
      split at h
      · rename_i v t
        split at h
        · rename_i hA
          cases v with
          | ref a => exact z_ifn (fun u u' => lv_ifnonnull hx hb hd ht (u (fun z => by cases z))) (fun v hv => List.mem_cons_of_mem _ hv) h k
          | null => exact z_ifn (fun u u' => lv_ifnonnullN hx hb hd (u' rfl)) (fun v hv => List.mem_cons_of_mem _ hv) h k
          | _ => cases hA
        · cases h
      · cases h
    case if_acmp cd off =>
      have ht := of_decide_eq_true hj
      dsimp only [zx2] at h
      split at h
      · rename_i w v t
        split at h
        · rename_i hA
          have hs : ∀ u ∈ t, u ∈ (w :: v :: t) := fun u hv => List.mem_cons_of_mem _ (List.mem_cons_of_mem _ hv)
          have hq : ∀ {x y : Option Nat}, x.map (fun q => b + q) = y.map (fun q => b + q) ↔ x = y := by
            intro x y
            cases x <;> cases y <;> simp
          have e1 : (w :: v :: t).map (zt b sc) = va_rf ((zq w).map (fun q => b + q)) :: va_rf ((zq v).map (fun q => b + q)) :: t.map (zt b sc) := by
            rw [List.map_cons, List.map_cons, zt_A hA.1, zt_A hA.2]
          cases cd
          case eq => exact z_if (fun a a' => by rw [e1]; exact lv_acmp_eq hx hb hd ht (fun z => a (hq.mp z)) (fun z => a' (fun z' => z (hq.mpr z')))) hs h k
          case ne => exact z_ifn (fun a a' => by rw [e1]; exact lv_acmp_ne hx hb hd ht (fun z => a (fun z' => z (hq.mpr z'))) (fun z => a' (hq.mp z))) hs h k
        · cases h
      · cases h
    case tableswitch df lo hi offs =>
      obtain ⟨len, hd⟩ := hd
      dsimp only [zx2] at h
      simp only [zjB, Bool.and_eq_true, decide_eq_true_eq] at hj
      obtain ⟨⟨⟨⟨j1, j2⟩, j3⟩, j4⟩, j5⟩ := hj
      subst j2
      split at h
      · rename_i x t
        rcases zsw_some h with ⟨h1, h2⟩ | ⟨n, q', h1, h2, h3⟩
        · cases h1
          refine zG_i (fun H locs ls cells slots hP hl hS hc hz hst hw => ?_)
          refine lv_tableOut hx hb hd ?_ j1 (k H locs ls cells slots hP hl hS hc hz (fun v hv => hst v (List.mem_cons_of_mem _ hv)) hw)
          refine Classical.byContradiction fun z => ?_
          have z1 : 0 ≤ x.toInt := by omega
          have z2 : x.toInt < inf'.length := by omega
          obtain ⟨q', hq'⟩ : ∃ q', inf'[x.toInt.toNat]? = some q' := ⟨_, List.getElem?_eq_getElem (by omega)⟩
          refine h2 q' (List.mem_of_getElem? hq') ?_
          rw [(zjT_at j5 hq').1]
          apply Int32.toInt_inj.mp
          rw [Nat.zero_add]
          have := nI_toInt (n := x.toInt.toNat) (by omega)
          unfold nI at this
          rw [this]
          omega
        · cases h3
          obtain ⟨g1, off, g2, g3⟩ := zjT_at j5 h1
          have hn : n < inf'.length := (List.getElem?_eq_some_iff.mp h1).1
          have hxn : x.toInt = (n : Int) := by
            rw [h2, g1, Nat.zero_add]
            have := nI_toInt (n := n) (by omega)
            unfold nI at this
            exact this
          refine zG_i (fun H locs ls cells slots hP hl hS hc hz hst hw => ?_)
          refine lv_tableIn hx hb hd (by omega) (by omega) (off := off) ?_ g3 (k H locs ls cells slots hP hl hS hc hz (fun v hv => hst v (List.mem_cons_of_mem _ hv)) hw)
          rw [show (x.toInt - 0).toNat = n by omega]
          simpa using g2
      · cases h
    all_goals (change (none : zO) = _ at h; cases h)
/-! memory -/
theorem zgf_some {x : Nat} {K : Nat → Nat → zO} {o : zC ⊕ zR ⊕ (zC × Nat × Nat × List Value × List Value)} : ∀ {inf : zI}, zgf inf x K = some o → ∃ q ∈ inf, x = q.1 ∧ K q.2.1 q.2.2 = some o
  | [], h => by cases h
  | q :: t, h => by
    rw [zgf] at h
    by_cases hx : x = q.1
    · rw [if_pos hx] at h
      exact ⟨q, List.mem_cons_self, hx, h⟩
    · rw [if_neg hx] at h
      obtain ⟨q', h1, h2⟩ := zgf_some h
      exact ⟨q', List.mem_cons_of_mem _ h1, h2⟩
def zfs (b : Nat) (M : zM) (a ci : Nat) : List Value := (List.range (zN ci)).map fun j => if zRf ci j = true then va_rf ((zr M a j).map (fun q => b + q)) else .int (zi M a j)
theorem zE_obj {CA : Nat → ClassId} {b : Nat} {M : zM} {a ci : Nat} (h : (zk M a).1 = ci) (hc : ci < 20) : zE CA b M a = .inr (ci, zfs b M a ci) := by
  subst h
  unfold zE zfs
  rw [if_pos hc]
theorem zfs_get {b : Nat} {M : zM} {a ci j : Nat} (hj : j < zN ci) : (zfs b M a ci)[j]? = some (if zRf ci j = true then va_rf ((zr M a j).map (fun q => b + q)) else .int (zi M a j)) := by
  simp [zfs, List.getElem?_map, List.getElem?_range hj]
theorem zfs_len {b : Nat} {M : zM} {a ci : Nat} : (zfs b M a ci).length = zN ci := by simp [zfs]
theorem zE_arr {CA : Nat → ClassId} {b : Nat} {M : zM} {a : Nat} (h : 20 ≤ (zk M a).1) (h2 : (zk M a).1 < 22) : zE CA b M a = .inl (CA ((zk M a).1 - 20), (zk M a).2, .inl (zi M a)) := by
  unfold zE
  rw [if_neg (by omega), if_pos h2]
theorem zE_ref {CA : Nat → ClassId} {b : Nat} {M : zM} {a : Nat} (h : 22 ≤ (zk M a).1) : zE CA b M a = .inl (CA ((zk M a).1 - 20), (zk M a).2, .inr (.inr (.inr (.inr fun j => (zr M a j).map (fun q => b + q))))) := by
  unfold zE
  rw [if_neg (by omega), if_neg (by omega)]
theorem zE_wi {CA : Nat → ClassId} {b : Nat} {M : zM} {a j : Nat} {x : Int32} (k : Nat) (hk : k ≠ a) : zE CA b (zwi M a j x) k = zE CA b M k := by
  have h : ∀ j', zi (zwi M a j x) k j' = zi M k j' := fun j' => by
    show (if k = a ∧ j' = j then x else zi M k j') = _
    rw [if_neg (fun z => hk z.1)]
  have h2 : zi (zwi M a j x) k = zi M k := funext h
  have h3 : ∀ k, zk (zwi M a j x) k = zk M k := fun _ => rfl
  have h4 : ∀ k j', zr (zwi M a j x) k j' = zr M k j' := fun _ _ => rfl
  simp only [zE, h2, h3, h4]
theorem zE_wr {CA : Nat → ClassId} {b : Nat} {M : zM} {a j : Nat} {x : Option Nat} (k : Nat) (hk : k ≠ a) : zE CA b (zwr M a j x) k = zE CA b M k := by
  have h : ∀ j', zr (zwr M a j x) k j' = zr M k j' := fun j' => by
    show (if k = a ∧ j' = j then x else zr M k j') = _
    rw [if_neg (fun z => hk z.1)]
  have h3 : ∀ k, zk (zwr M a j x) k = zk M k := fun _ => rfl
  have h4 : ∀ k j', zi (zwr M a j x) k j' = zi M k j' := fun _ _ => rfl
  have h5 : ∀ k, zi (zwr M a j x) k = zi M k := fun _ => rfl
  simp only [zE, h, h3, h4, h5]
theorem zE_al {CA : Nat → ClassId} {b : Nat} {M : zM} {t len n : Nat} (k : Nat) (hk : k < zn M) : zE CA b (zal M t len n) k = zE CA b M k := by
  have hne : ¬ k = M.2.2.2.1 := fun z => by
    have : k < M.2.2.2.1 := hk
    omega
  have h1 : zk (zal M t len n) k = zk M k := by
    show (if k = M.2.2.2.1 then (t, len) else zk M k) = _
    rw [if_neg hne]
  have h2 : ∀ j', zi (zal M t len n) k j' = zi M k j' := fun j' => by
    show (if k = M.2.2.2.1 then 0 else zi M k j') = _
    rw [if_neg hne]
  have h3 : ∀ j', zr (zal M t len n) k j' = zr M k j' := fun j' => by
    show (if k = M.2.2.2.1 then none else zr M k j') = _
    rw [if_neg hne]
  have h4 : zi (zal M t len n) k = zi M k := funext h2
  simp only [zE, h1, h2, h3, h4]
theorem zal_k {M : zM} {t len n : Nat} : zk (zal M t len n) (zn M) = (t, len) := by
  show (if M.2.2.2.1 = M.2.2.2.1 then (t, len) else _) = _
  rw [if_pos rfl]
theorem zal_i {M : zM} {t len n j : Nat} : zi (zal M t len n) (zn M) j = 0 := by
  show (if M.2.2.2.1 = M.2.2.2.1 then (0 : Int32) else _) = _
  rw [if_pos rfl]
theorem zal_r {M : zM} {t len n j : Nat} : zr (zal M t len n) (zn M) j = none := by
  show (if M.2.2.2.1 = M.2.2.2.1 then none else _) = _
  rw [if_pos rfl]
theorem zwf_lt {M : zM} (h : zwf M) {a : Nat} (hk : (zk M a).1 < 25) : a < zn M := Nat.not_le.mp fun z => by
  have := h a z
  omega
theorem zwf_wi {M : zM} (h : zwf M) {a j : Nat} {x : Int32} : zwf (zwi M a j x) := fun a h1 => h a h1
theorem zwf_wr {M : zM} (h : zwf M) {a j : Nat} {x : Option Nat} : zwf (zwr M a j x) := fun a h1 => h a h1
theorem zwf_al {M : zM} (h : zwf M) {t len n : Nat} : zwf (zal M t len n) := fun a h1 => by
  have h1 : M.2.2.2.1 + 1 ≤ a := h1
  show 25 ≤ (if a = M.2.2.2.1 then (t, len) else zk M a).1
  rw [if_neg (by omega)]
  exact h a (show M.2.2.2.1 ≤ a by omega)
theorem zfs_wi {b : Nat} {M : zM} {a ci j : Nat} {x : Int32} (hj : j < zN ci) (hr : zRf ci j = false) : zfs b (zwi M a j x) a ci = (zfs b M a ci).set j (.int x) := by
  apply List.ext_getElem?
  intro k
  by_cases hk : k < zN ci
  · rw [zfs_get hk]
    by_cases hkj : k = j
    · subst hkj
      rw [List.getElem?_set_self (by rw [zfs_len]; exact hk), hr]
      show some (Value.int (if a = a ∧ k = k then x else zi M a k)) = _
      rw [if_pos ⟨rfl, rfl⟩]
    · rw [List.getElem?_set_ne (Ne.symm hkj), zfs_get hk]
      show some (if zRf ci k = true then va_rf ((zr M a k).map _) else Value.int (if a = a ∧ k = j then x else zi M a k)) = _
      rw [if_neg (fun z : a = a ∧ k = j => hkj z.2)]
  · rw [List.getElem?_eq_none (by rw [zfs_len]; omega), List.getElem?_eq_none (by rw [List.length_set, zfs_len]; omega)]
theorem zfs_wr {b : Nat} {M : zM} {a ci j : Nat} {x : Option Nat} (hj : j < zN ci) (hr : zRf ci j = true) : zfs b (zwr M a j x) a ci = (zfs b M a ci).set j (va_rf (x.map (fun q => b + q))) := by
  apply List.ext_getElem?
  intro k
  by_cases hk : k < zN ci
  · rw [zfs_get hk]
    by_cases hkj : k = j
    · subst hkj
      rw [List.getElem?_set_self (by rw [zfs_len]; exact hk), if_pos hr]
      show some (va_rf ((if a = a ∧ k = k then x else zr M a k).map _)) = _
      rw [if_pos ⟨rfl, rfl⟩]
    · rw [List.getElem?_set_ne (Ne.symm hkj), zfs_get hk]
      show some (if zRf ci k = true then va_rf ((if a = a ∧ k = j then x else zr M a k).map _) else Value.int (zi M a k)) = _
      rw [if_neg (fun z : a = a ∧ k = j => hkj z.2)]
  · rw [List.getElem?_eq_none (by rw [zfs_len]; omega), List.getElem?_eq_none (by rw [List.length_set, zfs_len]; omega)]
theorem z_getf {i pc idx : Nat} {inf : zI} {a : Nat} {L t : List Value} {M : zM} {cf : zC} {r : zR} (B : zB p R s m args meth c D CA b sc n0 sp i) (hd : decode (zb i) pc = .ok (.getfield idx, 3)) (hF : ∀ q ∈ inf, zfk (zy i) false idx q)
    (h : zgf inf (zk M a).1 (fun j k => if k = 2 then zgo i (pc + 3) L (va_rf (zr M a j) :: t) M else zgo i (pc + 3) L (.int (zi M a j) :: t) M) = some (.inl cf)) (k : zG p l e R s m args below meth c D CA b sc n0 z0 cf r) : zG p l e R s m args below meth c D CA b sc n0 z0 (i, pc, L, .ref a :: t, M) r := by
  obtain ⟨hx, hb, hml, hown, ⟨hts, hxs⟩, hme, hK, hrest⟩ := B
  obtain ⟨q, hq, e1, h⟩ := zgf_some h
  obtain ⟨C, T, N, ty0, ref, ⟨c1, c2, c3, c4, c5, c6⟩, g1, g2, g3, g4, -⟩ := hF q hq
  subst c3
  have hsame : ∀ x, s.fieldFound? (T q.2.1).1 (T q.2.1).2.1 (T q.2.1).2.2.1 = some x → s.fieldFound? ref (T q.2.1).2.1 (T q.2.1).2.2.1 = some x := by
    intro x hx'
    rcases g3 with g3 | g3
    · rw [g3]; exact hx'
    · exact u_same (hts _ g3) x hx'
  have key : ∀ (v : Value), (if zRf q.1 q.2.1 = true then va_rf ((zr M a q.2.1).map (fun q => b + q)) else Value.int (zi M a q.2.1)) = zt b sc v → zok v = true → zG p l e R s m args below meth c D CA b sc n0 z0 (i, pc + 3, L, v :: t, M) r → zG p l e R s m args below meth c D CA b sc n0 z0 (i, pc, L, .ref a :: t, M) r := by
    intro v hv hvo k
    refine zG_i (fun H locs ls cells slots hP hl hS hc hz hst hw => ?_)
    have ha : a < zn M := zwf_lt hw (by rw [e1]; omega)
    have he : (zW CA b M)[a]? = some (b + a, .inr (q.1, zfs b M a q.1)) := by rw [zW_get ha, zE_obj e1 c2]
    have hvv : (zfs b M a q.1)[q.2.1]? = some (zt b sc v) := by rw [zfs_get g1, hv]
    have kk := k H locs ls cells slots hP hl hS hc hz (fun w hw => by
      rcases List.mem_cons.mp hw with h | h
      · subst h; exact hvo
      · exact hst w (List.mem_cons_of_mem _ h)) hw
    rcases g2 with g2 | ⟨-, host, g2⟩
    · exact va_get hx hb hts c4 hown hK hP a he c1 q.2.1 g1 (hts _ g2) hsame hvv hd kk
    · exact va_getN hx hb hts c4 hown hK hP a he c1 q.2.1 g1 (va_Nw.use rfl (hxs _ g2)) hsame hvv hd kk
  rcases g4 with ⟨k0, k1, -⟩ | ⟨k0, k1, -⟩ | ⟨k0, k1, -⟩
  · rw [k0, if_neg (by decide)] at h
    cases h
    exact key (.int (zi M a q.2.1)) (by rw [k1]; rfl) rfl k
  · rw [k0, if_neg (by decide)] at h
    cases h
    exact key (.int (zi M a q.2.1)) (by rw [k1]; rfl) rfl k
  · rw [k0, if_pos rfl] at h
    cases h
    exact key (va_rf (zr M a q.2.1)) (by rw [k1, zt_rf]; rfl) zok_rf k
theorem z_putf {i pc idx : Nat} {inf : zI} {a : Nat} {v : Value} {L t : List Value} {M : zM} {cf : zC} {r : zR} (B : zB p R s m args meth c D CA b sc n0 sp i) (hd : decode (zb i) pc = .ok (.putfield idx, 3)) (hF : ∀ q ∈ inf, zfk (zy i) true idx q)
    (h : zgf inf (zk M a).1 (fun j k => if k = 2 then (if zA v = true then zgo i (pc + 3) L t (zwr M a j (zq v)) else none) else (match v with
      | .int x => if k = 0 then zgo i (pc + 3) L t (zwi M a j x) else (if x = 0 ∨ x = 1 then zgo i (pc + 3) L t (zwi M a j x) else none)
      | _ => none)) = some (.inl cf)) (k : zG p l e R s m args below meth c D CA b sc n0 z0 cf r) : zG p l e R s m args below meth c D CA b sc n0 z0 (i, pc, L, v :: .ref a :: t, M) r := by
  obtain ⟨hx, hb, hml, hown, ⟨hts, hxs⟩, ⟨hme, hret, hin⟩, hK, hrest⟩ := B
  obtain ⟨q, hq, e1, h⟩ := zgf_some h
  obtain ⟨C, T, N, ty0, ref, ⟨c1, c2, c3, c4, c5, c6⟩, g1, g2, g3, g4, g5⟩ := hF q hq
  subst c3
  have g5 := g5 rfl
  have hsame : ∀ x, s.fieldFound? (T q.2.1).1 (T q.2.1).2.1 (T q.2.1).2.2.1 = some x → s.fieldFound? ref (T q.2.1).2.1 (T q.2.1).2.2.1 = some x := by
    intro x hx'
    rcases g3 with g3 | g3
    · rw [g3]; exact hx'
    · exact u_same (hts _ g3) x hx'
  have key : ∀ (M' : zM), zn M' = zn M → zz M' = zz M → (zwf M → zwf M') → (∀ k, k ≠ a → zE CA b M' k = zE CA b M k) → (zk M' a).1 = q.1 → zfs b M' a q.1 = (zfs b M a q.1).set q.2.1 (zt b sc v) → narrow (ty0 q.2.1) (zt b sc v) = zt b sc v → fits (ty0 q.2.1) (zt b sc v) = true → zG p l e R s m args below meth c D CA b sc n0 z0 (i, pc + 3, L, t, M') r → zG p l e R s m args below meth c D CA b sc n0 z0 (i, pc, L, v :: .ref a :: t, M) r := by
    intro M' m1 m2 m3 m4 m5 m6 hn hf k
    refine zG_i (fun H locs ls cells slots hP hl hS hc hz hst hw => ?_)
    have ha : a < zn M := zwf_lt hw (by rw [e1]; omega)
    have he : (zW CA b M)[a]? = some (b + a, .inr (q.1, zfs b M a q.1)) := by rw [zW_get ha, zE_obj e1 c2]
    have hset : (zW CA b M).set a (b + a, .inr (q.1, (zfs b M a q.1).set q.2.1 (zt b sc v))) = zW CA b M' := by
      rw [← m6, ← zE_obj (CA := CA) m5 c2]
      exact zW_set m1 m4
    have kk : ∀ (H1 : Heap) (locs1 : List Loc), va_P D vwCl ((zW CA b M).set a (b + a, .inr (q.1, (zfs b M a q.1).set q.2.1 (zt b sc v)))) H1 → va_D (fun q => b ≤ q) ((zW CA b M).set a (b + a, .inr (q.1, (zfs b M a q.1).set q.2.1 (zt b sc v)))) → va_S (fun q => b ≤ q) s.heap H1 locs1 → W p l e R s m args below meth c H1 locs1 cells slots (MQ below (zQ D CA b sc r) args s (zn r.2 - n0) (zz r.2 - z0) (fun q => b ≤ q)) (F0 m (pc + 3) ls (t.map (zt b sc))) := by
      intro H1 locs1 hP1 _ hS1
      rw [hset] at hP1
      exact k H1 locs1 ls cells slots hP1 hl hS1 (by rw [hc]; exact m1.symm) (by rw [hz]; exact m2.symm) (fun w hw => hst w (List.mem_cons_of_mem _ (List.mem_cons_of_mem _ hw))) (m3 hw)
    have hlen : q.2.1 < (zfs b M a q.1).length := by rw [zfs_len]; exact g1
    rcases g2 with g2 | ⟨g2', host, g2⟩
    · rcases g5 with g5 | ⟨g5, g6, g7⟩
      · exact va_put hx hb hts c4 ty0 c5 c6 hown hK hP zW_D hS a he c1 q.2.1 g1 (hts _ g2) hsame g5 (c5 _ g1) hn hf hlen hd kk
      · exact va_putF hx hb hts c4 ty0 c5 c6 hown hK hP zW_D hS a he c1 q.2.1 g1 (hts _ g2) hsame g5 (hin g6) g7 (c5 _ g1) hn hf hlen hd kk
    · exact va_putN hx hb hts c4 ty0 c5 c6 hown hK hP zW_D hS a he c1 q.2.1 g1 (va_Nw.use rfl (hxs _ g2)) hsame (g2' rfl) (c5 _ g1) hn hf hlen hd kk
  have b01 : ∀ x : Int32, (x = 0 ∨ x = 1) → narrow .boolean (.int x) = .int x ∧ fits .boolean (.int x) = true := by
    intro x hx
    rcases hx with hx | hx <;> subst hx <;> exact ⟨rfl, rfl⟩
  rcases g4 with ⟨k0, k1, k2⟩ | ⟨k0, k1, k2⟩ | ⟨k0, k1, k2⟩
  · rw [k0, if_neg (by decide)] at h
    cases v with
    | int x =>
      dsimp only at h
      rw [if_pos rfl] at h
      cases h
      exact key (zwi M a q.2.1 x) rfl rfl (fun h => zwf_wi h) zE_wi e1 (zfs_wi g1 k1) (by rw [k2]; rfl) (by rw [k2]; rfl) k
    | _ => cases h
  · rw [k0, if_neg (by decide)] at h
    cases v with
    | int x =>
      dsimp only at h
      rw [if_neg (by decide)] at h
      split at h
      · rename_i hx01
        cases h
        exact key (zwi M a q.2.1 x) rfl rfl (fun h => zwf_wi h) zE_wi e1 (zfs_wi g1 k1) (by rw [k2]; exact (b01 x hx01).1) (by rw [k2]; exact (b01 x hx01).2) k
      · cases h
    | _ => cases h
  · rw [k0, if_pos rfl] at h
    split at h
    · rename_i hA
      cases h
      refine key (zwr M a q.2.1 (zq v)) rfl rfl (fun h => zwf_wr h) zE_wr e1 (by rw [zt_A hA]; exact zfs_wr g1 k1) ?_ ?_ k
      · rcases k2 with ⟨n, k2⟩ | ⟨n, k2⟩ <;> rw [k2] <;> cases v <;> first | rfl | cases hA
      · rcases k2 with ⟨n, k2⟩ | ⟨n, k2⟩ <;> rw [k2] <;> cases v <;> first | rfl | cases hA
    · cases h
theorem zin_vp {k : Int32} {n : Nat} (h : zin k n = true) : vp_in k n := by
  have h := of_decide_eq_true h
  intro z
  rcases z with z | z
  · exact h.1 z
  · omega
theorem z_fresh {D : va_G} {CA : Nat → ClassId} {b : Nat} {M : zM} {q : Nat} {x : va_E} {H1 : Heap} (hP : va_P D vwCl (zW CA b M ++ [(q, x)]) H1) (hD : va_D (fun q => b ≤ q) (zW CA b M ++ [(q, x)])) (hz : H1.size ≤ b + zn M + 1) : q = b + zn M := by
  have g1 : (zW CA b M ++ [(q, x)])[zn M]? = some (q, x) := by
    rw [List.getElem?_append_right (by rw [zW_len]; exact Nat.le_refl _), zW_len, Nat.sub_self]
    rfl
  have h1 : q < H1.size := (hP _ _ g1).lt
  have h2 : b ≤ q := hD.2 _ _ g1
  refine Classical.byContradiction fun hne => ?_
  have hlt : q - b < zn M := by omega
  have g2 : (zW CA b M ++ [(q, x)])[q - b]? = some (b + (q - b), zE CA b M (q - b)) := by
    rw [List.getElem?_append_left (by rw [zW_len]; exact hlt)]
    exact zW_get hlt
  have := hD.1 _ _ _ _ g2 g1 (show b + (q - b) = q by omega)
  omega
theorem zT_get {CA : Nat → ClassId} {t : Nat} (h : 22 ≤ t) (h2 : t < 25) : (zT CA)[t - 20]? = some (CA (t - 20), .object (zel t)) := by
  have : t = 22 ∨ t = 23 ∨ t = 24 := by omega
  rcases this with h | h | h <;> subst h <;> rfl
theorem z_al {i pc d : Nat} {L t st : List Value} {M : zM} {ty len n : Nat} {r : zR} (B : zB p R s m args meth c D CA b sc n0 sp i) (hmn : zn (zal M ty len n) ≤ zn r.2 ∧ zz (zal M ty len n) ≤ zz r.2) (hR : zn r.2 - n0 ≤ R.cells ∧ zz r.2 - z0 ≤ R.slots)
    (row : ∀ {H : Heap} {locs : List Loc} {cells slots : Nat} {Q : State → Prop} {ls : Array Slot}, va_P D vwCl (zW CA b M) H → va_D (fun q => b ≤ q) (zW CA b M) → va_S (fun q => b ≤ q) s.heap H locs → (∀ q, s.heap.size ≤ q → b ≤ q) → cells + 1 ≤ R.cells → slots + n ≤ R.slots → (∀ (q : Nat) (H1 : Heap), va_P D vwCl (zW CA b M ++ [(q, zE CA b (zal M ty len n) (zn M))]) H1 → va_D (fun q => b ≤ q) (zW CA b M ++ [(q, zE CA b (zal M ty len n) (zn M))]) → va_S (fun q => b ≤ q) s.heap H1 locs → W p l e R s m args below meth c H1 locs (cells + 1) (slots + n) Q (F0 m d ls (.ref q :: t.map (zt b sc)))) → W p l e R s m args below meth c H locs cells slots Q (F0 m pc ls (st.map (zt b sc))))
    (hs : ∀ v ∈ t, v ∈ st) (k : zG p l e R s m args below meth c D CA b sc n0 z0 (i, d, L, .ref (zn M) :: t, zal M ty len n) r) : zG p l e R s m args below meth c D CA b sc n0 z0 (i, pc, L, st, M) r := by
  obtain ⟨hx, hb, hml, hown, ⟨hts, hxs⟩, hme, hK, hrf, hrl, hsz, hsc, hX⟩ := B
  refine zG_i (fun H locs ls cells slots hP hl hS hc hz hst hw => ?_)
  have hc : cells + n0 = zn M := hc
  have hz : slots + z0 = zz M := hz
  have hn1 : zn (zal M ty len n) = zn M + 1 := rfl
  have hz1 : zz (zal M ty len n) = zz M + n := rfl
  rw [hn1, hz1] at hmn
  refine row hP zW_D hS (fun q h => by omega) (by omega) (by omega) (fun q H1 hP1 hD1 hS1 => z_sz fun hsz1 => ?_)
  have hq : q = b + zn M := z_fresh hP1 hD1 (by omega)
  subst hq
  rw [zW_push (M' := zal M ty len n) hn1 (fun k hk => zE_al k hk)] at hP1
  refine k H1 locs ls (cells + 1) (slots + n) hP1 hl hS1 (by show cells + 1 + n0 = zn M + 1; omega) (by show slots + n + z0 = zz M + n; omega) (fun v hv => ?_) (zwf_al hw)
  rcases List.mem_cons.mp hv with h | h
  · subst h; rfl
  · exact hst v (hs v h)
theorem z_K {D : va_G} {CA : Nat → ClassId} {U : State} {cA : ClassId} {ty : FieldType} {t : Nat} (hK : va_K D vwCl (zT CA) U) (ht : (zT CA)[t]? = some (CA t, ty)) (hK1 : va_K D vwCl (zT CA ++ [(cA, ty)]) U) : cA = CA t := by
  have g1 := (hK.2 t _ ht).2
  have g2 := (hK1.2 (zT CA).length (cA, ty) (by rw [List.getElem?_append_right (Nat.le_refl _), Nat.sub_self]; rfl)).2
  cases ty with
  | object C =>
    obtain ⟨_, _, -, -, -, g1⟩ := g1
    obtain ⟨_, _, -, -, -, g2⟩ := g2
    exact Option.some.inj (g2.symm.trans g1)
  | _ => exact Option.some.inj (g2.symm.trans g1)
theorem z_x3 {i pc : Nat} {ins : Jvm.ClassFile.Instr} {inf : zI} {L st : List Value} {M : zM} {cf : zC} {r : zR} (B : zB p R s m args meth c D CA b sc n0 sp i) (hd : zdc (zb i) pc ins) (ho : zo3 (zy i) ins inf) (hmn : zn cf.2.2.2.2 ≤ zn r.2 ∧ zz cf.2.2.2.2 ≤ zz r.2) (hR : zn r.2 - n0 ≤ R.cells ∧ zz r.2 - z0 ≤ R.slots)
    (h : zx3 (zPr sp) i pc ins inf L st M = some (.inl cf)) (k : zG p l e R s m args below meth c D CA b sc n0 z0 cf r) : zG p l e R s m args below meth c D CA b sc n0 z0 (i, pc, L, st, M) r := by
  have B0 := B
  obtain ⟨hx, hb, hml, hown, ⟨hts, hxs⟩, hme, hK, hrf, hrl, hsz, hsc, hX⟩ := B0
  cases ins
  case getfield idx =>
    dsimp only [zx3] at h
    split at h
    · exact z_getf B hd ho h k
    · cases h
  case putfield idx =>
    dsimp only [zx3] at h
    split at h
    · exact z_putf B hd ho h k
    · cases h
  case iaload =>
    dsimp only [zx3] at h
    split at h
    · rename_i kx a t
      split at h
      · rename_i h20
        split at h
        · rename_i hin
          cases h
          refine zG_i (fun H locs ls cells slots hP hl hS hc hz hst hw => ?_)
          have ha : a < zn M := zwf_lt hw (by rw [h20]; decide)
          have he := zW_get (CA := CA) (b := b) ha
          rw [zE_arr (by omega) (by omega), h20] at he
          exact va_iald hx hb hK hP a 0 he rfl (zin_vp hin) hd (k H locs ls cells slots hP hl hS hc hz (fun v hv => by
            rcases List.mem_cons.mp hv with h | h
            · subst h; rfl
            · exact hst v (List.mem_cons_of_mem _ (List.mem_cons_of_mem _ h))) hw)
        · cases h
      · cases h
    · rename_i kx a t
      split at h
      · rename_i hin
        cases h
        refine zG_i (fun H locs ls cells slots hP hl hS hc hz hst hw => ?_)
        exact va_sld hx hb hX (by omega) (show ¬ b ≤ sc by omega) hS (zin_vp hin) hd (k H locs ls cells slots hP hl hS hc hz (fun v hv => by
          rcases List.mem_cons.mp hv with h | h
          · subst h; rfl
          · exact hst v (List.mem_cons_of_mem _ (List.mem_cons_of_mem _ h))) hw)
      · cases h
    · cases h
  case baload =>
    dsimp only [zx3] at h
    split at h
    · rename_i kx a t
      split at h
      · rename_i h20
        split at h
        · rename_i hin
          cases h
          refine zG_i (fun H locs ls cells slots hP hl hS hc hz hst hw => ?_)
          have ha : a < zn M := zwf_lt hw (by rw [h20]; decide)
          have he := zW_get (CA := CA) (b := b) ha
          rw [zE_arr (by omega) (by omega), h20] at he
          exact va_zald hx hb hK hP a 1 he rfl (zin_vp hin) hd (k H locs ls cells slots hP hl hS hc hz (fun v hv => by
            rcases List.mem_cons.mp hv with h | h
            · subst h; rfl
            · exact hst v (List.mem_cons_of_mem _ (List.mem_cons_of_mem _ h))) hw)
        · cases h
      · cases h
    · cases h
  case aaload =>
    dsimp only [zx3] at h
    split at h
    · rename_i kx a t
      split at h
      · rename_i h20
        split at h
        · rename_i hin
          cases h
          refine zG_i (fun H locs ls cells slots hP hl hS hc hz hst hw => ?_)
          have ha : a < zn M := zwf_lt hw (by omega)
          have he := zW_get (CA := CA) (b := b) ha
          rw [zE_ref h20.1] at he
          have k' := k H locs ls cells slots hP hl hS hc hz (fun v hv => by
            rcases List.mem_cons.mp hv with h | h
            · subst h; exact zok_rf
            · exact hst v (List.mem_cons_of_mem _ (List.mem_cons_of_mem _ h))) hw
          simp only [List.map_cons, zt_rf] at k'
          exact va_aldq hx hb hK hP a _ he (zT_get h20.1 h20.2) (zin_vp hin) hd k'
        · cases h
      · cases h
    · cases h
  case iastore =>
    dsimp only [zx3] at h
    split at h
    · rename_i x kx a t
      split at h
      · rename_i h20
        split at h
        · rename_i hin
          cases h
          refine zG_i (fun H locs ls cells slots hP hl hS hc hz hst hw => ?_)
          have ha : a < zn M := zwf_lt hw (by rw [h20]; decide)
          have he := zW_get (CA := CA) (b := b) ha
          rw [zE_arr (by omega) (by omega), h20] at he
          refine va_iast hx hb hK hP zW_D hS a 0 he rfl (zin_vp hin) hd (fun H1 locs1 hP1 _ hS1 => ?_)
          have e1 : (b + a, (.inl (CA (20 - 20), (zk M a).2, .inl (upd (zi M a) kx.toNatClampNeg x)) : va_E)) = (b + a, zE CA b (zwi M a kx.toNatClampNeg x) a) := by
            rw [zE_arr (M := zwi M a kx.toNatClampNeg x) (show 20 ≤ (zk M a).1 by omega) (show (zk M a).1 < 22 by omega)]
            show _ = (b + a, (Sum.inl (CA ((zk M a).1 - 20), (zk M a).2, Sum.inl (zi (zwi M a kx.toNatClampNeg x) a)) : va_E))
            rw [h20]
            congr 5
            funext j
            show (if j = kx.toNatClampNeg then x else zi M a j) = (if a = a ∧ j = kx.toNatClampNeg then x else zi M a j)
            by_cases hj : j = kx.toNatClampNeg <;> simp [hj]
          rw [e1, zW_set (M := M) (M' := zwi M a kx.toNatClampNeg x) (a := a) rfl (fun k hk => zE_wi k hk)] at hP1
          exact k H1 locs1 ls cells slots hP1 hl hS1 hc hz (fun v hv => hst v (by simp [hv])) (zwf_wi hw)
        · cases h
      · cases h
    · cases h
  case bastore =>
    dsimp only [zx3] at h
    split at h
    · rename_i x kx a t
      split at h
      · rename_i h20
        split at h
        · rename_i hin
          cases h
          refine zG_i (fun H locs ls cells slots hP hl hS hc hz hst hw => ?_)
          have ha : a < zn M := zwf_lt hw (by rw [h20]; decide)
          have he := zW_get (CA := CA) (b := b) ha
          rw [zE_arr (by omega) (by omega), h20] at he
          refine va_zast hx hb hK hP zW_D hS a 1 he rfl (zin_vp hin) hd (fun H1 locs1 hP1 _ hS1 => ?_)
          have e1 : (b + a, (.inl (CA (21 - 20), (zk M a).2, .inl (upd (zi M a) kx.toNatClampNeg (vp_nar .boolean x))) : va_E)) = (b + a, zE CA b (zwi M a kx.toNatClampNeg (vp_nar .boolean x)) a) := by
            rw [zE_arr (M := zwi M a kx.toNatClampNeg (vp_nar .boolean x)) (show 20 ≤ (zk M a).1 by omega) (show (zk M a).1 < 22 by omega)]
            show _ = (b + a, (Sum.inl (CA ((zk M a).1 - 20), (zk M a).2, Sum.inl (zi (zwi M a kx.toNatClampNeg (vp_nar .boolean x)) a)) : va_E))
            rw [h20]
            congr 5
            funext j
            show (if j = kx.toNatClampNeg then _ else zi M a j) = (if a = a ∧ j = kx.toNatClampNeg then _ else zi M a j)
            by_cases hj : j = kx.toNatClampNeg <;> simp [hj]
          rw [e1, zW_set (M := M) (M' := zwi M a kx.toNatClampNeg (vp_nar .boolean x)) (a := a) rfl (fun k hk => zE_wi k hk)] at hP1
          exact k H1 locs1 ls cells slots hP1 hl hS1 hc hz (fun v hv => hst v (by simp [hv])) (zwf_wi hw)
        · cases h
      · cases h
    · cases h
  case aastore =>
    dsimp only [zx3] at h
    split at h
    · rename_i v kx a t
      obtain ⟨q, hq, e1, h⟩ := zgf_some h
      obtain ⟨o1, o2⟩ := ho q hq
      split at h
      · rename_i hvk
        obtain ⟨hvk, hin⟩ := hvk
        cases h
        obtain ⟨o3, rr, o4, o5⟩ := o2 _ hvk
        refine zG_i (fun H locs ls cells slots hP hl hS hc hz hst hw => ?_)
        have ha : a < zn M := zwf_lt hw (by omega)
        have hv : v < zn M := zwf_lt hw (by omega)
        have he := zW_get (CA := CA) (b := b) ha
        rw [zE_ref (by omega), e1] at he
        have hev := zW_get (CA := CA) (b := b) hv
        rw [zE_obj rfl o3] at hev
        have hr := va_recv hK hP o4 hev
        refine vb_astq (E := zel q.1) hx hb hK hP zW_D hS a _ he (zT_get o1.1 o1.2) hr (fun comp c0 f1 f2 => ?_) (zin_vp hin) hd (fun H1 locs1 hP1 _ hS1 => ?_)
        · rcases o5 with o5 | o5
          · rw [o5] at f2; exact vb_asgS comp c0 f1 f2
          · exact vb_asgC (hxs _ o5) comp c0 f1 f2
        · have e2 : (b + a, (.inl (CA (q.1 - 20), (zk M a).2, .inr (.inr (.inr (.inr (va_up (fun j => (zr M a j).map (fun q => b + q)) kx.toNatClampNeg (some (b + v))))))) : va_E)) = (b + a, zE CA b (zwr M a kx.toNatClampNeg (some v)) a) := by
            rw [zE_ref (M := zwr M a kx.toNatClampNeg (some v)) (show 22 ≤ (zk M a).1 by omega)]
            show _ = (b + a, (Sum.inl (CA ((zk M a).1 - 20), (zk M a).2, Sum.inr (Sum.inr (Sum.inr (Sum.inr (fun j => (zr (zwr M a kx.toNatClampNeg (some v)) a j).map (fun q => b + q)))))) : va_E))
            rw [e1]
            congr 8
            funext j
            show (if j = kx.toNatClampNeg then some (b + v) else (zr M a j).map (fun q => b + q)) = (if a = a ∧ j = kx.toNatClampNeg then some v else zr M a j).map (fun q => b + q)
            by_cases hj : j = kx.toNatClampNeg <;> simp [hj]
          rw [e2, zW_set (M := M) (M' := zwr M a kx.toNatClampNeg (some v)) (a := a) rfl (fun k hk => zE_wr k hk)] at hP1
          exact k H1 locs1 ls cells slots hP1 hl hS1 hc hz (fun w hw => hst w (by simp [hw])) (zwf_wr hw)
      · cases h
    · cases h
  case arraylength =>
    dsimp only [zx3] at h
    split at h
    · rename_i a t
      split at h
      · rename_i h20
        cases h
        refine zG_i (fun H locs ls cells slots hP hl hS hc hz hst hw => ?_)
        have ha : a < zn M := zwf_lt hw (by omega)
        have he := zW_get (CA := CA) (b := b) ha
        have k' := k H locs ls cells slots hP hl hS hc hz (fun v hv => by
          rcases List.mem_cons.mp hv with h | h
          · subst h; rfl
          · exact hst v (List.mem_cons_of_mem _ h)) hw
        by_cases h22 : (zk M a).1 < 22
        · rw [zE_arr h20.1 h22] at he
          have : (zk M a).1 = 20 ∨ (zk M a).1 = 21 := by omega
          rcases this with h | h
          · rw [h] at he
            exact va_alen hx hb hK hP a 0 he rfl rfl hd k'
          · rw [h] at he
            exact va_alen hx hb hK hP a 1 he rfl rfl hd k'
        · rw [zE_ref (by omega)] at he
          exact va_alen hx hb hK hP a _ he (zT_get (by omega) h20.2) rfl hd k'
      · cases h
    · rename_i a t
      cases h
      refine zG_i (fun H locs ls cells slots hP hl hS hc hz hst hw => ?_)
      exact va_slen hx hb hX (by omega) (show ¬ b ≤ sc by omega) hS hd (k H locs ls cells slots hP hl hS hc hz (fun v hv => by
          rcases List.mem_cons.mp hv with h | h
          · subst h; rfl
          · exact hst v (List.mem_cons_of_mem _ h)) hw)
    · cases h
  case newarray at_ =>
    dsimp only [zx3] at h
    split at h
    · rename_i kx t q inf'
      split at h
      · rename_i hin
        cases h
        have hin' := of_decide_eq_true hin
        rcases ho q List.mem_cons_self with ⟨o1, o2, o3⟩ | ⟨o1, o2, o3⟩
        · refine z_al B hmn hR (fun {H} {locs} {cells} {slots} {Q} {ls} hP hD hS hA hc hs kk => ?_) (fun v hv => List.mem_cons_of_mem _ hv) k
          refine va_newa (a0 := (kx.toNatClampNeg, .inl fun _ => 0)) hx hb (by rw [o2]; exact hts _ o3) o2 hK hP hD hS hA (fun cA => rfl) hin'.1 rfl (by show kx.toNatClampNeg * 4 ≤ _; omega) hc hs hd (fun q1 cA H1 hK1 hP1 hD1 hS1 => ?_)
          have hcA : cA = CA 0 := z_K (t := 0) hK rfl hK1
          have e1 : zE CA b (zal M q.1 kx.toNatClampNeg kx.toNatClampNeg) (zn M) = .inl (cA, kx.toNatClampNeg, .inl fun _ => 0) := by
            rw [zE_arr (by rw [zal_k, o1]; decide) (by rw [zal_k, o1]; decide), zal_k, o1, hcA]
            congr 4
            funext j
            exact zal_i
          rw [← e1] at hP1 hD1
          exact kk q1 H1 hP1 hD1 hS1
        · refine z_al B hmn hR (fun {H} {locs} {cells} {slots} {Q} {ls} hP hD hS hA hc hs kk => ?_) (fun v hv => List.mem_cons_of_mem _ hv) k
          refine va_newa (a0 := (kx.toNatClampNeg, .inl fun _ => 0)) hx hb (by rw [o2]; exact hts _ o3) o2 hK hP hD hS hA (fun cA => rfl) hin'.1 rfl (by show kx.toNatClampNeg * 1 ≤ _; omega) hc hs hd (fun q1 cA H1 hK1 hP1 hD1 hS1 => ?_)
          have hcA : cA = CA 1 := z_K (t := 1) hK rfl hK1
          have e1 : zE CA b (zal M q.1 kx.toNatClampNeg kx.toNatClampNeg) (zn M) = .inl (cA, kx.toNatClampNeg, .inl fun _ => 0) := by
            rw [zE_arr (by rw [zal_k, o1]; decide) (by rw [zal_k, o1]; decide), zal_k, o1, hcA]
            congr 4
            funext j
            exact zal_i
          rw [← e1] at hP1 hD1
          exact kk q1 H1 hP1 hD1 hS1
      · cases h
    · cases h
  case anewarray idx =>
    dsimp only [zx3] at h
    split at h
    · rename_i kx t q inf'
      split at h
      · rename_i hin
        cases h
        have hin' := of_decide_eq_true hin
        obtain ⟨o1, o2, o3⟩ := ho q List.mem_cons_self
        refine z_al B hmn hR (fun {H} {locs} {cells} {slots} {Q} {ls} hP hD hS hA hc hs kk => ?_) (fun v hv => List.mem_cons_of_mem _ hv) k
        refine va_newq hx hb hown (hts _ o2) (hxs _ o3) hK hP hD hS hA hin'.1 rfl (by omega) hc hs hd (fun q1 cA H1 hK1 hP1 hD1 hS1 => ?_)
        have hcA : cA = CA (q.1 - 20) := z_K hK (zT_get o1.1 o1.2) hK1
        have e1 : zE CA b (zal M q.1 kx.toNatClampNeg kx.toNatClampNeg) (zn M) = .inl (cA, kx.toNatClampNeg, .inr (.inr (.inr (.inr fun _ => none)))) := by
          rw [zE_ref (by rw [zal_k]; exact o1.1), zal_k, hcA]
          congr 7
          funext j
          rw [zal_r]
          rfl
        rw [← e1] at hP1 hD1
        exact kk q1 H1 hP1 hD1 hS1
      · cases h
    · cases h
  case new idx =>
    dsimp only [zx3] at h
    split at h
    · rename_i q inf'
      cases h
      obtain ⟨C, T, N, ty0, ⟨c1, c2, c3, c4, c5⟩, c6, o1, o2, o3, o4⟩ := ho q List.mem_cons_self
      subst c3
      refine z_al B hmn hR (fun {H} {locs} {cells} {slots} {Q} {ls} hP hD hS hA hc hs kk => ?_) (fun v hv => hv) k
      rw [c6] at hs
      refine va_new (ci := q.1) (fs := zfs b (zal M q.1 0 q.2.1) (zn M) q.1) hx hb hts c4 ty0 c5 hown (hts _ o1) (hts _ o2) (hts _ o3) hK hP hD hS hA c1 (fun j hj => ?_) hc hs hd (fun q1 H1 hP1 hD1 hS1 => ?_)
      · unfold vp_V
        rw [List.getD_eq_getElem?_getD, zfs_get hj, o4 j hj, zal_r, zal_i]
        by_cases hz : zRf q.1 j = true
        · rw [if_pos hz, if_pos hz]; rfl
        · rw [if_neg hz, if_neg hz]; rfl
      · have e1 : zE CA b (zal M q.1 0 q.2.1) (zn M) = .inr (q.1, zfs b (zal M q.1 0 q.2.1) (zn M) q.1) := zE_obj (by rw [zal_k]) c2
        rw [← e1] at hP1 hD1
        have := kk q1 H1 hP1 hD1 hS1
        rw [c6] at this
        exact this
    · cases h
  case instanceof idx =>
    dsimp only [zx3] at h
    split at h
    · rename_i a t
      obtain ⟨q, hq, e1, h⟩ := zgf_some h
      obtain ⟨o1, o2, rr, o3, o4⟩ := ho q hq
      rw [o1] at h
      cases h
      refine zG_i (fun H locs ls cells slots hP hl hS hc hz hst hw => ?_)
      have ha : a < zn M := zwf_lt hw (by omega)
      have he := zW_get (CA := CA) (b := b) ha
      rw [zE_obj e1 o2] at he
      exact va_instS hx hb hown (hts _ o4) (hK.1 q.1 rr o3).2 (va_recv hK hP o3 he) hd (k H locs ls cells slots hP hl hS hc hz (fun v hv => by
          rcases List.mem_cons.mp hv with h | h
          · subst h; rfl
          · exact hst v (List.mem_cons_of_mem _ h)) hw)
    · rename_i t
      cases h
      refine zG_i (fun H locs ls cells slots hP hl hS hc hz hst hw => ?_)
      exact lv_instN hx hb hd (k H locs ls cells slots hP hl hS hc hz (fun v hv => by
          rcases List.mem_cons.mp hv with h | h
          · subst h; rfl
          · exact hst v (List.mem_cons_of_mem _ h)) hw)
    · cases h
  case checkcast idx =>
    dsimp only [zx3] at h
    split at h
    · rename_i a t
      obtain ⟨q, hq, e1, h⟩ := zgf_some h
      obtain ⟨o1, o2, rr, o3, o4⟩ := ho q hq
      rw [o1, if_pos rfl] at h
      cases h
      refine zG_i (fun H locs ls cells slots hP hl hS hc hz hst hw => ?_)
      have ha : a < zn M := zwf_lt hw (by omega)
      have he := zW_get (CA := CA) (b := b) ha
      rw [zE_obj e1 o2] at he
      exact va_castS hx hb hown (hts _ o4) (hK.1 q.1 rr o3).2 (va_recv hK hP o3 he) hd (k H locs ls cells slots hP hl hS hc hz hst hw)
    · rename_i t
      cases h
      refine zG_i (fun H locs ls cells slots hP hl hS hc hz hst hw => ?_)
      exact lv_castN hx hb hd (k H locs ls cells slots hP hl hS hc hz hst hw)
    · cases h
  all_goals (change (none : zO) = _ at h; cases h)
/-! returns and calls -/
theorem z_x4r {i pc : Nat} {ins : Jvm.ClassFile.Instr} {inf : zI} {L st : List Value} {M : zM} {r : zR} (B : zB p R s m args meth c D CA b sc n0 sp i) (hd : zdc (zb i) pc ins) (ho : zo4 i ins inf)
    (h : zx4 (zPr sp) i pc ins inf L st M = some (.inr (.inl r))) : zG p l e R s m args below meth c D CA b sc n0 z0 (i, pc, L, st, M) r := by
  obtain ⟨hx, hb, hml, hown, ⟨hts, hxs⟩, ⟨hme, hret, hin⟩, hK, hrf, hrl, hsz, hsc, hX⟩ := B
  have fin : ∀ {H : Heap} {locs : List Loc} {v : Option Value}, va_P D vwCl (zW CA b M) H → va_S (fun q => b ≤ q) s.heap H locs → zwf M → (∀ w, v = some w → zok w = true) → ∀ t : State, t.heap = H → s.WarmedH t.vm → zQ D CA b sc (v, M) args s (.returned (v.map (zt b sc))) t := by
    intro H locs v hP hS hw hv t ht _
    exact ⟨rfl, by rw [ht]; exact hP, hS.F ht, hw, hv⟩
  cases ins
  case ireturn =>
    dsimp only [zx4] at h
    split at h
    · rename_i x q inf'
      split at h
      · rename_i hq
        cases h
        refine zG_i (fun H locs ls cells slots hP hl hS hc hz hst hw => ?_)
        have hc : cells + n0 = zn M := hc
        have hz : slots + z0 = zz M := hz
        rw [show zn M - n0 = cells by omega, show zz M - z0 = slots by omega]
        rcases ho q List.mem_cons_self with ⟨o1, o2⟩ | ⟨o1, o2⟩
        · exact W.iret (v := x) hx hb (hret.trans o2) (fin (v := some (.int x)) hP hS hw (fun w hw => by cases hw; rfl)) hS.2.2 hd hme
        · have h01 : x = 0 ∨ x = 1 := by
            rcases hq with hq | hq
            · omega
            · exact hq
          exact W.zret (v := x) (ty := .boolean) hx hb (hret.trans o2) (by rcases h01 with h | h <;> subst h <;> rfl) (fin (v := some (.int x)) hP hS hw (fun w hw => by cases hw; rfl)) hS.2.2 hd hme
      · cases h
    · cases h
  case areturn =>
    dsimp only [zx4] at h
    split at h
    · rename_i v
      split at h
      · rename_i hA
        cases h
        refine zG_i (fun H locs ls cells slots hP hl hS hc hz hst hw => ?_)
        have hc : cells + n0 = zn M := hc
        have hz : slots + z0 = zz M := hz
        rw [show zn M - n0 = cells by omega, show zz M - z0 = slots by omega]
        have hv : zt b sc v = .null ∨ ∃ a, zt b sc v = .ref a := by
          cases v <;> first | exact Or.inl rfl | exact Or.inr ⟨_, rfl⟩ | cases hA
        rcases ho with ⟨n, o⟩ | ⟨n, o⟩
        · exact W.aret (v := zt b sc v) hx hb (hret.trans o) (Or.inl ⟨n, rfl⟩) hv (fin (v := some v) hP hS hw (fun w hw => by cases hw; exact zok_A hA)) hS.2.2 hd hme
        · exact W.aret (v := zt b sc v) hx hb (hret.trans o) (Or.inr ⟨n, rfl⟩) hv (fin (v := some v) hP hS hw (fun w hw => by cases hw; exact zok_A hA)) hS.2.2 hd hme
      · cases h
    · cases h
  case return_ =>
    dsimp only [zx4] at h
    split at h
    · cases h
      refine zG_i (fun H locs ls cells slots hP hl hS hc hz hst hw => ?_)
      have hc : cells + n0 = zn M := hc
      have hz : slots + z0 = zz M := hz
      rw [show zn M - n0 = cells by omega, show zz M - z0 = slots by omega]
      exact W.vret hx hb (hret.trans ho) (fin (v := none) hP hS hw (fun w hw => by cases hw)) hS.2.2 hd hme
    · cases h
  case invokestatic idx =>
    dsimp only [zx4] at h
    split at h
    · split at h
      · split at h
        · split at h <;> cases h
        · cases h
      · split at h
        · split at h
          · split at h <;> cases h
          · cases h
        · unfold zcal at h
          split at h <;> cases h
    · cases h
  case invokespecial idx =>
    dsimp only [zx4] at h
    split at h
    · split at h
      · split at h
        · split at h <;> cases h
        · cases h
      · split at h
        · unfold zcal at h
          split at h <;> cases h
        · cases h
    · cases h
  case invokevirtual idx =>
    dsimp only [zx4] at h
    split at h
    · split at h
      · obtain ⟨q, -, -, h⟩ := zgf_some h
        unfold zcal at h
        split at h <;> cases h
      · cases h
    · cases h
  all_goals (change (none : zO) = _ at h; cases h)
theorem z_x4g {i pc : Nat} {ins : Jvm.ClassFile.Instr} {inf : zI} {L st : List Value} {M : zM} {cf : zC} {r : zR} (B : zB p R s m args meth c D CA b sc n0 sp i) (hd : zdc (zb i) pc ins) (ho : zo4 i ins inf) (hmn : zn cf.2.2.2.2 ≤ zn r.2 ∧ zz cf.2.2.2.2 ≤ zz r.2) (hR : zn r.2 - n0 ≤ R.cells ∧ zz r.2 - z0 ≤ R.slots) (hrk : 1 ≤ zrk i)
    (h : zx4 (zPr sp) i pc ins inf L st M = some (.inl cf)) (k : zG p l e R s m args below meth c D CA b sc n0 z0 cf r) : zG p l e R s m args below meth c D CA b sc n0 z0 (i, pc, L, st, M) r := by
  obtain ⟨hx, hb, hml, hown, ⟨hts, hxs⟩, ⟨hme, hret, hin⟩, hK, hrf, hrl, hsz, hsc, hX⟩ := B
  have hcat : ∀ {t : List Value}, (∀ v ∈ t, zok v = true) → ((t.map (zt b sc)).map fun v => v.category).sum = t.length := by
    intro t ht
    induction t with
    | nil => rfl
    | cons v t ih =>
      rw [List.map_cons, List.map_cons, List.sum_cons, ih (fun w hw => ht w (List.mem_cons_of_mem _ hw)), zt_cat (ht v List.mem_cons_self), List.length_cons]
      omega
  cases ins
  case invokestatic idx =>
    dsimp only [zx4] at h
    split at h
    · rename_i q inf'
      split at h
      · rename_i h1
        split at h
        · rename_i y x t
          split at h
          · rename_i ht
            cases h
            refine zG_i (fun H locs ls cells slots hP hl hS hc hz hst hw => ?_)
            have hc : cells + n0 = zn M := hc
            have hz : slots + z0 = zz M := hz
            have hmn : zn M ≤ zn r.2 ∧ zz M ≤ zz r.2 := hmn
            rcases ho q List.mem_cons_self with ⟨-, o⟩ | ⟨o, -⟩ | ⟨o, -⟩
            · refine va_mmax hx hb (hml.trans hl.2.1.symm) hown (hts _ (o _ (by simp))) (hts _ (o _ (by simp))) (hts _ (o _ (by simp))) (hts _ (o _ (by simp))) (by omega) ?_ (by omega) (by omega) hd (k H locs ls cells slots hP hl hS hc hz (fun v hv => ?_) hw)
              · rw [hcat (fun v hv => hst v (by simp [hv]))]
                omega
              · rcases List.mem_cons.mp hv with h | h
                · subst h; rfl
                · exact hst v (by simp [h])
            · omega
            · exact absurd h1 o
          · cases h
        · cases h
      · rename_i h1
        split at h
        · rename_i h2
          split at h
          · rename_i y x t
            split at h
            · rename_i ht
              cases h
              refine zG_i (fun H locs ls cells slots hP hl hS hc hz hst hw => ?_)
              have hc : cells + n0 = zn M := hc
              have hz : slots + z0 = zz M := hz
              have hmn : zn M ≤ zn r.2 ∧ zz M ≤ zz r.2 := hmn
              rcases ho q List.mem_cons_self with ⟨o, -⟩ | ⟨-, o⟩ | ⟨-, o, -⟩
              · exact absurd o h1
              · refine va_mmin hx hb (hml.trans hl.2.1.symm) hown (hts _ (o _ (by simp))) (hts _ (o _ (by simp))) (hts _ (o _ (by simp))) (hts _ (o _ (by simp))) (by omega) ?_ (by omega) (by omega) hd (k H locs ls cells slots hP hl hS hc hz (fun v hv => ?_) hw)
                · rw [hcat (fun v hv => hst v (by simp [hv]))]
                  omega
                · rcases List.mem_cons.mp hv with h | h
                  · subst h; rfl
                  · exact hst v (by simp [h])
              · exact absurd h2 o
            · cases h
          · cases h
        · unfold zcal at h
          split at h <;> cases h
    · cases h
  case invokespecial idx =>
    dsimp only [zx4] at h
    split at h
    · rename_i q inf'
      split at h
      · rename_i h1
        split at h
        · rename_i a t
          split at h
          · rename_i ht
            cases h
            refine zG_i (fun H locs ls cells slots hP hl hS hc hz hst hw => ?_)
            rcases ho q List.mem_cons_self with ⟨-, o⟩ | ⟨o, -⟩
            · refine W.objInit hx hb hown (hts _ (o _ (by simp))) (hts _ (o _ (by simp))) (hts _ (o _ (by simp))) rfl (hl.2.1.trans hml.symm) rfl hd (by omega) ?_ (k H locs ls cells slots hP hl hS hc hz (fun v hv => hst v (by simp [hv])) hw)
              have := lv_room (m := m) (pc := pc) (ls := ls) (rest := ((Value.ref a :: t).map (zt b sc))) (st := t.map (zt b sc)) (by rw [hcat (fun v hv => hst v (by simp [hv]))]; exact ht)
              omega
            · exact absurd h1 o
          · cases h
        · cases h
      · split at h
        · unfold zcal at h
          split at h <;> cases h
        · cases h
    · cases h
  case invokevirtual idx =>
    dsimp only [zx4] at h
    split at h
    · split at h
      · obtain ⟨q, -, -, h⟩ := zgf_some h
        unfold zcal at h
        split at h <;> cases h
      · cases h
    · cases h
  case ireturn =>
    dsimp only [zx4] at h
    split at h
    · split at h <;> cases h
    · cases h
  case areturn =>
    dsimp only [zx4] at h
    split at h
    · split at h <;> cases h
    · cases h
  case return_ =>
    dsimp only [zx4] at h
    split at h <;> cases h
  all_goals (change (none : zO) = _ at h; cases h)
def zmr (i mc ms : Nat) : Room := { frames := zrk i, cells := mc, slots := ms, locals := 40 * zrk i }
def zw (i : Nat) : List Cond := .code (zy i) (zb i) (znl i) (zty i) :: zWS
def zPc (D : va_G) (CA : Nat → ClassId) (b sc : Nat) (sp : Nat × (Nat → Int32)) (as : List Value) (M : zM) : Array Value → State → Prop :=
  va_Pc (as.map (zt b sc)) (fun U => va_P D vwCl (zW CA b M) U.heap ∧ va_K D vwCl (zT CA) U ∧ U.heap.size = b + zn M ∧ va_X sc sp.1 sp.2 U U.heap ∧ ∀ w ∈ zXS, va_Nw w U)
def zMet (l : Launch) (D : va_G) (CA : Nat → ClassId) (b sc : Nat) (sp : Nat × (Nat → Int32)) (i : Nat) (as : List Value) (M : zM) (r : zR) : Prop :=
  Met l (zy i) (zw i) (zmr i (zn r.2 - zn M) (zz r.2 - zz M)) (zPc D CA b sc sp as M) (zQ D CA b sc r) (zn r.2 - zn M) (zz r.2 - zz M) (fun q => b ≤ q)
theorem zPc_blind {as : List Value} {M : zM} : FrameBlind (zPc D CA b sc sp as M) := by
  intro a U g mk h
  obtain ⟨h1, h2, h3, h4, h5, h6⟩ := h
  exact ⟨h1, h2, va_K.moved (u := U) (U := U.calling g mk a) (Vm.Alike.refl U.vm) h3, h4, va_X.moved (u := U) (U := U.calling g mk a) (Vm.Alike.refl U.vm) h5, zXS_same (u := U) rfl h6⟩
/-- behind a call -/
theorem z_cont {r1 : zR} {pc mc ms : Nat} {ls : Array Slot} {rest st0 : List Value} {a : Array Value} {H : Heap} {locs : List Loc} {cells slots : Nat} {Q : State → Prop} (hr : va_Run p l e R s m args below meth c H locs cells slots mc ms (F0 m pc ls st0) rest (zQ D CA b sc r1 a) (fun q => b ≤ q)) (hS : va_S (fun q => b ≤ q) s.heap H locs)
    (kk : ∀ (H1 : Heap) (locs1 : List Loc), va_P D vwCl (zW CA b r1.2) H1 → va_S (fun q => b ≤ q) s.heap H1 locs1 → zwf r1.2 → (∀ v, r1.1 = some v → zok v = true) → W p l e R s m args below meth c H1 locs1 (cells + mc) (slots + ms) Q (F0 m (pc + 3) ls ((r1.1.map (zt b sc)).toList ++ rest))) : W p l e R s m args below meth c H locs cells slots Q (F0 m pc ls st0) := by
  intro T hT X
  obtain ⟨v, st₀, t, T', L, h0, X', hL, e1, e2, ⟨hv, hP, ⟨hz, hk⟩, hw, hok⟩, st⟩ := hr T hT X
  cases hv
  rw [h0] at hz hk
  have hS1 : va_S (fun q => b ≤ q) s.heap T'.heap (locs ++ L) := by
    refine ⟨Nat.le_trans hS.1 (by rw [e1]; exact hz), fun q h1 h2 => ?_, fun q hq => ?_⟩
    · rw [e1, hk q (Nat.lt_of_lt_of_le h1 hS.1) h2]
      exact hS.2.1 q h1 h2
    · rcases List.mem_append.mp hq with h | h
      · exact hS.2.2 q h
      · exact hL q h
  obtain ⟨t2, a1, b1⟩ := kk T'.heap (locs ++ L) (by rw [e1]; exact hP) hS1 hw hok T' rfl X'
  exact ⟨t2, st t2 a1, b1⟩
theorem z_size {M : zM} {H : Heap} (hP : va_P D vwCl (zW CA b M) H) (h1 : b ≤ H.size) (h2 : H.size ≤ b + zn M) : H.size = b + zn M := by
  by_cases hz : zn M = 0
  · omega
  · have := (hP (zn M - 1) _ (zW_get (by omega))).lt
    have h3 : b + (zn M - 1) < H.size := this
    omega
theorem z_good {j : Nat} (hj : j < znm) : GoodIn zWS (zw j) := by
  intro w hw
  rcases List.mem_cons.mp hw with h | h
  · subst h
    exact ⟨zWS_code j hj, Or.inl rfl⟩
  · exact ⟨h, zWS_good w h⟩
theorem z_x4c {i pc : Nat} {ins : Jvm.ClassFile.Instr} {inf : zI} {L st : List Value} {M : zM} {q0 : zC × Nat × Nat × List Value × List Value} {r1 r : zR} (B : zB p R s m args meth c D CA b sc n0 sp i) (hd : zdc (zb i) pc ins) (ho : zo4 i ins inf)
    (hM : ∀ j as, q0.1 = (j, 0, as ++ List.replicate (znl j - as.length) (.double 0), [], M) → as.length ≤ znl j → (∀ v ∈ as, v ∈ st) → zwf M → (∀ v ∈ st, zok v = true) → j < znm → zMet l D CA b sc sp j as M r1)
    (hmn : (zn M ≤ zn r1.2 ∧ zz M ≤ zz r1.2) ∧ (zn r1.2 ≤ zn r.2 ∧ zz r1.2 ≤ zz r.2)) (hR : zn r.2 - n0 ≤ R.cells ∧ zz r.2 - z0 ≤ R.slots)
    (h : zx4 (zPr sp) i pc ins inf L st M = some (.inr (.inr q0))) (k : zG p l e R s m args below meth c D CA b sc n0 z0 (q0.2.1, q0.2.2.1, q0.2.2.2.1, r1.1.toList ++ q0.2.2.2.2, r1.2) r) : zG p l e R s m args below meth c D CA b sc n0 z0 (i, pc, L, st, M) r := by
  obtain ⟨hx, hb, hml, hown, ⟨hts, hxs⟩, ⟨hme, hret, hin⟩, hK, hrf, hrl, hsz, hsc, hX⟩ := B
  have hcat : ∀ {t : List Value}, (∀ v ∈ t, zok v = true) → ((t.map (zt b sc)).map fun v => v.category).sum = t.length := by
    intro t ht
    induction t with
    | nil => rfl
    | cons v t ih =>
      rw [List.map_cons, List.map_cons, List.sum_cons, ih (fun w hw => ht w (List.mem_cons_of_mem _ hw)), zt_cat (ht v List.mem_cons_self), List.length_cons]
      omega
  -- the common part: a run of the callee and what follows
  have key : ∀ (j cnt : Nat), zcal (zPr sp) j cnt i pc L st M = some (.inr (.inr q0)) → j < znm →
      (∀ {H : Heap} {locs : List Loc} {cells slots : Nat} {ls : Array Slot}, va_P D vwCl (zW CA b M) H → zwf M → (∀ v ∈ st, zok v = true) → ls.size = znl i → zrk j < zrk i → cnt ≤ st.length → zMet l D CA b sc sp j (st.take cnt).reverse M r1 → (∀ U : State, U.heap = H → s.WarmedH U.vm → zPc D CA b sc sp (st.take cnt).reverse M ((st.take cnt).reverse.map (zt b sc)).toArray U) → 2 * (F0 m pc ls (st.map (zt b sc))).monitorRoom + (((st.drop cnt).map (zt b sc)).map fun v => v.category).sum ≤ 8 → (cells + (zn r1.2 - zn M) ≤ R.cells ∧ slots + (zz r1.2 - zz M) ≤ R.slots) →
        va_Run p l e R s m args below meth c H locs cells slots (zn r1.2 - zn M) (zz r1.2 - zz M) (F0 m pc ls (st.map (zt b sc))) ((st.drop cnt).map (zt b sc)) (zQ D CA b sc r1 ((st.take cnt).reverse.map (zt b sc)).toArray) (fun q => b ≤ q)) →
      zG p l e R s m args below meth c D CA b sc n0 z0 (i, pc, L, st, M) r := by
    intro j cnt h hj run
    unfold zcal at h
    split at h
    · rename_i hc4
      obtain ⟨c1, c2, c3, c4⟩ := hc4
      cases h
      refine zG_i (fun H locs ls cells slots hP hl hS hc hz hst hw => ?_)
      have hc : cells + n0 = zn M := hc
      have hz : slots + z0 = zz M := hz
      have hlen : (st.take cnt).reverse.length = cnt := by rw [List.length_reverse, List.length_take]; omega
      have hMet := hM j (st.take cnt).reverse (by rw [hlen]; rfl) (by rw [hlen]; exact c3) (fun v hv => List.mem_of_mem_take (List.mem_reverse.mp hv)) hw hst hj
      refine z_sz fun hsz1 => ?_
      have hHs : H.size = b + zn M := z_size hP (by have := hS.1; omega) (by omega)
      refine z_cont (run hP hw hst hl.2.1 c1 c2 hMet (fun U hU hW => ?_) ?_ (by omega)) hS (fun H1 locs1 hP1 hS1 hw1 hok1 => ?_)
      · refine ⟨rfl, by rw [hU]; exact hP, va_K.moved hW.alike hK, ?_, ?_, zXS_warm hW hxs⟩
        · rw [hU]
          exact hHs
        · rw [hU]
          exact va_X.moved hW.alike (hX.kept (hS.2.1 sc (by omega) (show ¬ b ≤ sc by omega)))
      · refine lv_room ?_
        rw [hcat (fun v hv => hst v (List.mem_of_mem_drop hv)), List.length_drop]
        omega
      · have k' := k H1 locs1 ls (cells + (zn r1.2 - zn M)) (slots + (zz r1.2 - zz M)) hP1 hl hS1 (by show _ = zn r1.2; omega) (by show _ = zz r1.2; omega) (fun v hv => ?_) hw1
        · have e1 : (r1.1.toList ++ st.drop cnt).map (zt b sc) = (r1.1.map (zt b sc)).toList ++ (st.drop cnt).map (zt b sc) := by
            rw [List.map_append]
            cases r1.1 <;> rfl
          dsimp only at k'
          rw [e1] at k'
          exact k'
        · rcases List.mem_append.mp hv with hv | hv
          · refine hok1 v ?_
            cases hr1 : r1.1 with
            | none => rw [hr1] at hv; cases hv
            | some w =>
              rw [hr1] at hv
              rw [List.mem_singleton.mp (show v ∈ [w] from hv)]
          · exact hst v (List.mem_of_mem_drop hv)
    · cases h
  have hstk : ∀ cnt : Nat, st.map (zt b sc) = ((st.take cnt).reverse.map (zt b sc)).reverse ++ (st.drop cnt).map (zt b sc) := by
    intro cnt
    rw [List.map_reverse, List.reverse_reverse, ← List.map_append, List.take_append_drop]
  have hrm : ∀ {j : Nat}, zrk j < zrk i → j < znm → ∀ mc ms, (zmr j mc ms).frames + 1 ≤ R.frames ∧ 8 + (znl j + 11) + (zmr j mc ms).locals ≤ R.locals := by
    intro j h1 hj mc ms
    have := znl_le j hj
    refine ⟨show zrk j + 1 ≤ R.frames by omega, show 8 + (znl j + 11) + 40 * zrk j ≤ R.locals by omega⟩
  have htk : ∀ {n a : Nat}, st[n]? = some (.ref a) → (st.take (n + 1)).reverse.map (zt b sc) = .ref (b + a) :: (st.take n).reverse.map (zt b sc) := by
    intro n a hn
    rw [List.take_add_one, hn]
    simp [List.reverse_append, zt]
  have hln : ∀ {n : Nat}, n ≤ st.length → ((st.take n).reverse.map (zt b sc)).length = n := by
    intro n hn
    rw [List.length_map, List.length_reverse, List.length_take]
    omega
  cases ins
  case invokestatic idx =>
    dsimp only [zx4] at h
    split at h
    · rename_i q inf'
      split at h
      · split at h
        · split at h <;> cases h
        · cases h
      · rename_i h1
        split at h
        · split at h
          · split at h <;> cases h
          · cases h
        · rename_i h2
          rcases ho q List.mem_cons_self with ⟨o, -⟩ | ⟨o, -⟩ | ⟨-, -, o1, o2, o3, o4, o5⟩
          · exact absurd o h1
          · exact absurd o h2
          · refine key q.2.1 q.2.2 h o2 (fun {H} {locs} {cells} {slots} {ls} hP hw hst hsize hrk hcnt hMet hPre hW hf => ?_)
            have hmd := zmd q.2.1 o2
            rw [← o1] at hmd
            rcases o5 with o5 | ⟨host, o5⟩
            · exact va_runS (g := F0 m pc ls (st.map (zt b sc))) (n := q.2.2) ⟨hx, hb, hml, hown, hts⟩ hMet ⟨callB_of q.2.2 hts (z_good o2) rfl rfl rfl (hts _ o4) (hts _ o5) hmd (hrm hrk o2 _ _), hts _ o3⟩ ⟨zPc_blind, hPre⟩ rfl (hln hcnt) hsize (hstk _) hW hd hf
            · exact va_runSN (g := F0 m pc ls (st.map (zt b sc))) (n := q.2.2) ⟨hx, hb, hml, hown, hts⟩ hMet ⟨va_cnB q.2.2 hts (z_good o2) rfl rfl rfl (hxs _ o5) (hts _ o4) hmd (hrm hrk o2 _ _), hts _ o3, trivial⟩ ⟨zPc_blind, hPre⟩ rfl (hln hcnt) hsize (hstk _) hW hd hf
    · cases h
  case invokespecial idx =>
    dsimp only [zx4] at h
    split at h
    · rename_i q inf'
      split at h
      · split at h
        · split at h <;> cases h
        · cases h
      · rename_i h1
        split at h
        · rename_i a hn
          rcases ho q List.mem_cons_self with ⟨o, -⟩ | ⟨-, o1, o2, o3, o4, o5, o6, o7⟩
          · exact absurd o h1
          · refine key q.2.1 (q.2.2 + 1) h o2 (fun {H} {locs} {cells} {slots} {ls} hP hw hst hsize hrk hcnt hMet hPre hW hf => ?_)
            have hmd := zmd q.2.1 o2
            rw [← o1] at hmd
            have hsk := hstk (q.2.2 + 1)
            rw [htk hn, List.reverse_cons, List.append_assoc, List.singleton_append] at hsk
            rw [htk hn] at hPre ⊢
            rw [zMet, zw, o3] at hMet
            have hG : GoodIn zWS (Cond.code (zy q.2.1) (zb q.2.1) (znl q.2.1) none :: zWS) := by
              have := z_good o2
              rw [zw, o3] at this
              exact this
            rcases o7 with o7 | ⟨host, o7⟩
            · exact va_runI (g := F0 m pc ls (st.map (zt b sc))) (n := q.2.2) ⟨hx, hb, hml, hown, hts⟩ hMet ⟨callB_of q.2.2 hts hG rfl rfl rfl (hts _ o6) (hts _ o7) hmd (hrm hrk o2 _ _), o4, hts _ o5⟩ ⟨zPc_blind, hPre⟩ rfl (hln (by omega)) hsize hsk hW hd hf
            · exact va_runIN (g := F0 m pc ls (st.map (zt b sc))) (n := q.2.2) ⟨hx, hb, hml, hown, hts⟩ hMet ⟨va_cnB q.2.2 hts hG rfl rfl rfl (hxs _ o7) (hts _ o6) hmd (hrm hrk o2 _ _), o4, hts _ o5⟩ ⟨zPc_blind, hPre⟩ rfl (hln (by omega)) hsize hsk hW hd hf
        · cases h
    · cases h
  case invokevirtual idx =>
    dsimp only [zx4] at h
    split at h
    · rename_i q1 inf'
      split at h
      · rename_i a hn
        obtain ⟨q, hq, e1, h⟩ := zgf_some h
        obtain ⟨o0, o1, o2, o3, rr, o4, o5⟩ := ho q hq
        rw [o0 q1 List.mem_cons_self] at hn
        refine key q.2.1 (q.2.2 + 1) h o2 (fun {H} {locs} {cells} {slots} {ls} hP hw hst hsize hrk hcnt hMet hPre hW hf => ?_)
        have hmd := zmd q.2.1 o2
        rw [← o1] at hmd
        have hsk := hstk (q.2.2 + 1)
        rw [htk hn, List.reverse_cons, List.append_assoc, List.singleton_append] at hsk
        rw [htk hn] at hPre ⊢
        have ha : a < zn M := zwf_lt hw (by omega)
        have he := zW_get (CA := CA) (b := b) ha
        rw [zE_obj e1 o3] at he
        have hrc := va_recv hK hP o4 he
        rcases o5 with ⟨w1, w2, w3, w4⟩ | ⟨host, w1, w2, w3, w4⟩ | ⟨owner, x, w1, w2, w3, w4⟩
        · exact va_runV (g := F0 m pc ls (st.map (zt b sc))) (n := q.2.2) (C := rr.1) ⟨hx, hb, hml, hown, hts⟩ hMet ⟨callB_of q.2.2 hts (z_good o2) rfl rfl rfl (hts _ w4) (hts _ w1) hmd (hrm hrk o2 _ _), hts _ w2, hts _ w3⟩ ⟨zPc_blind, hrc, hPre⟩ rfl (hln (by omega)) hsize hsk hW hd hf
        · exact va_runVN (g := F0 m pc ls (st.map (zt b sc))) (n := q.2.2) (C := rr.1) ⟨hx, hb, hml, hown, hts⟩ hMet ⟨va_cnB q.2.2 hts (z_good o2) rfl rfl rfl (hxs _ w1) (hts _ w4) hmd (hrm hrk o2 _ _), hts _ w2, hts _ w3⟩ ⟨zPc_blind, hrc, hPre⟩ rfl (hln (by omega)) hsize hsk hW hd hf
        · have hcd : (Cond.code (zy q.2.1) (zb q.2.1) (znl q.2.1) (zty q.2.1)).before args s = true := hts _ (zWS_code q.2.1 o2)
          have hR' := hrm hrk o2 (zn r1.2 - zn M) (zz r1.2 - zz M)
          have hlen : ∀ sig, parseMethodDescriptor x.desc = some sig → q.2.2 = sig.parameters.length := by
            intro sig hs
            have h2 := hmd.2.2
            rw [← w4, hs] at h2
            exact (Option.some.inj h2).symm
          have hdecl : va_Decl s ⟨owner, x.name, x.desc⟩ := by
            rcases w2 with w2 | w2
            · rw [← w2]
              exact va_Decl.of (hts _ (w1 _ (by simp))) hcd
            · exact va_Decl.abs (hxs _ w2)
          exact va_runU (g := F0 m pc ls (st.map (zt b sc))) (n := q.2.2) (C := rr.1) (owner := owner) (x := x) ⟨hx, hb, hml, hown, hts⟩ hMet
            ⟨⟨rfl, rfl, hR'.1, hR'.2, pay_in hts (z_good o2), List.mem_cons_self⟩, hcd, hts _ (w1 _ (by simp)), w3, hlen, hts _ (w1 _ (by simp)), hts _ (w1 _ (by simp)), hdecl, hts _ (w1 _ (by simp)), hts _ (w1 _ (by simp))⟩
            ⟨zPc_blind, hrc, hPre⟩ rfl (hln (by omega)) hsize hsk hW hd hf
      · cases h
    · cases h
  case ireturn =>
    dsimp only [zx4] at h
    split at h
    · split at h <;> cases h
    · cases h
  case areturn =>
    dsimp only [zx4] at h
    split at h
    · split at h <;> cases h
    · cases h
  case return_ =>
    dsimp only [zx4] at h
    split at h <;> cases h
  all_goals (change (none : zO) = _ at h; cases h)
end ZG
/-! all of it -/
def zon (i : Nat) (M : zM) (o : zO) : Prop := match o with
  | none => True
  | some (.inl c) => c.1 = i ∧ zn M ≤ zn c.2.2.2.2 ∧ zz M ≤ zz c.2.2.2.2
  | some (.inr _) => False
theorem zon_go {i pc : Nat} {L st : List Value} {M M' : zM} (h1 : zn M ≤ zn M') (h2 : zz M ≤ zz M') : zon i M (zgo i pc L st M') := ⟨rfl, h1, h2⟩
theorem zon_gf {i : Nat} {M : zM} {x : Nat} {K : Nat → Nat → zO} (h : ∀ j k, zon i M (K j k)) : ∀ {inf : zI}, zon i M (zgf inf x K)
  | [] => trivial
  | q :: t => by
    rw [zgf]
    split
    · exact h _ _
    · exact zon_gf h
theorem zon_sw {i : Nat} {M : zM} {x : Int32} {K : Nat → zO} {d : Nat} (h : ∀ j, zon i M (K j)) : ∀ {inf : zI}, zon i M (zsw inf x K d)
  | [] => h d
  | q :: t => by
    rw [zsw]
    split
    · exact h _
    · exact zon_sw h
theorem zon_x1 {i pc : Nat} {ins : Jvm.ClassFile.Instr} {L st : List Value} {M : zM} : zon i M (zx1 i pc ins L st M) := by
  cases ins <;> dsimp only [zx1, zbin, zldi, zlda, zsti, zsta] <;> (repeat' split) <;> first | exact trivial | exact zon_go (Nat.le_refl _) (Nat.le_refl _)
theorem zon_x2 {i pc : Nat} {ins : Jvm.ClassFile.Instr} {inf : zI} {L st : List Value} {M : zM} : zon i M (zx2 i pc ins inf L st M) := by
  cases inf with
  | nil => exact trivial
  | cons q inf' =>
    cases ins <;> dsimp only [zx2] <;> (repeat' split) <;> first | exact trivial | exact zon_go (Nat.le_refl _) (Nat.le_refl _) | exact zon_sw (fun j => zon_go (Nat.le_refl _) (Nat.le_refl _))
theorem zon_al {i pc : Nat} {L st : List Value} {M : zM} {t len k : Nat} : zon i M (zgo i pc L st (zal M t len k)) := zon_go (Nat.le_succ _) (Nat.le_add_right _ _)
theorem zon_x3 {P : zP} {i pc : Nat} {ins : Jvm.ClassFile.Instr} {inf : zI} {L st : List Value} {M : zM} : zon i M (zx3 P i pc ins inf L st M) := by
  cases ins <;> dsimp only [zx3] <;> (repeat' split) <;> first | exact trivial | exact zon_go (Nat.le_refl _) (Nat.le_refl _) | exact zon_al | (refine zon_gf (fun j k => ?_); (repeat' split) <;> first | exact trivial | exact zon_go (Nat.le_refl _) (Nat.le_refl _))
def zop (i : Nat) (M : zM) (o : zO) : Prop := match o with
  | none => True
  | some (.inl c) => c.1 = i ∧ zn M ≤ zn c.2.2.2.2 ∧ zz M ≤ zz c.2.2.2.2
  | some (.inr (.inl r)) => r.2 = M
  | some (.inr (.inr q)) => q.1.2.2.2.2 = M ∧ q.2.1 = i
theorem zop_cal {P : zP} {j cnt i pc : Nat} {L st : List Value} {M : zM} : zop i M (zcal P j cnt i pc L st M) := by
  unfold zcal
  split
  · exact ⟨rfl, rfl⟩
  · exact trivial
theorem zop_gf {i : Nat} {M : zM} {x : Nat} {K : Nat → Nat → zO} (h : ∀ j k, zop i M (K j k)) : ∀ {inf : zI}, zop i M (zgf inf x K)
  | [] => trivial
  | q :: t => by
    rw [zgf]
    split
    · exact h _ _
    · exact zop_gf h
theorem zop_x4 {P : zP} {i pc : Nat} {ins : Jvm.ClassFile.Instr} {inf : zI} {L st : List Value} {M : zM} : zop i M (zx4 P i pc ins inf L st M) := by
  cases ins <;> dsimp only [zx4] <;> (repeat' split) <;> first | exact trivial | exact rfl | exact zop_cal | exact ⟨rfl, Nat.le_refl _, Nat.le_refl _⟩ | exact zop_gf (fun j k => zop_cal)
theorem zex_of {P : zP} {i pc : Nat} {ins : Jvm.ClassFile.Instr} {inf : zI} {L st : List Value} {M : zM} : zex P i pc ins inf L st M = zx1 i pc ins L st M ∨ zex P i pc ins inf L st M = zx2 i pc ins inf L st M ∨ zex P i pc ins inf L st M = zx3 P i pc ins inf L st M ∨ zex P i pc ins inf L st M = zx4 P i pc ins inf L st M := by
  cases ins <;> first | exact Or.inl rfl | exact Or.inr (Or.inl rfl) | exact Or.inr (Or.inr (Or.inl rfl)) | exact Or.inr (Or.inr (Or.inr rfl))
theorem zop_on {i : Nat} {M : zM} {o : zO} (h : zon i M o) : zop i M o := by
  cases o with
  | none => trivial
  | some o => cases o with
    | inl c => exact h
    | inr o => exact absurd h (fun z => z)
theorem zop_st {P : zP} {cf : zC} : zop cf.1 cf.2.2.2.2 (zst P cf) := by
  unfold zst
  split
  · trivial
  · rcases @zex_of P cf.1 cf.2.1 _ _ cf.2.2.1 cf.2.2.2.1 cf.2.2.2.2 with h | h | h | h
    · rw [h]; exact zop_on zon_x1
    · rw [h]; exact zop_on zon_x2
    · rw [h]; exact zop_on zon_x3
    · rw [h]; exact zop_x4
theorem zrun_mn {P : zP} : ∀ {k : Nat} {cf : zC} {r : zR}, zrun P k cf = some r → zn cf.2.2.2.2 ≤ zn r.2 ∧ zz cf.2.2.2.2 ≤ zz r.2
  | 0, cf, r, h => by cases h
  | k + 1, cf, r, h => by
    rw [zrun] at h
    have ho := @zop_st P cf
    cases hs : zst P cf with
    | none => rw [hs] at h; cases h
    | some o =>
      rw [hs] at h ho
      cases o with
      | inl c' =>
        have := zrun_mn (k := k) h
        have ho : c'.1 = cf.1 ∧ zn cf.2.2.2.2 ≤ zn c'.2.2.2.2 ∧ zz cf.2.2.2.2 ≤ zz c'.2.2.2.2 := ho
        omega
      | inr o => cases o with
        | inl r' =>
          cases h
          have ho : r.2 = cf.2.2.2.2 := ho
          rw [ho]
          exact ⟨Nat.le_refl _, Nat.le_refl _⟩
        | inr q =>
          dsimp only at h
          cases h1 : zrun P k q.1 with
          | none => rw [h1] at h; cases h
          | some r1 =>
            rw [h1] at h
            have g1 := zrun_mn (k := k) h1
            have g2 := zrun_mn (k := k) h
            have ho : q.1.2.2.2.2 = cf.2.2.2.2 ∧ q.2.1 = cf.1 := ho
            rw [ho.1] at g1
            dsimp only at g2
            omega
theorem z_met {l : Launch} {D : va_G} {CA : Nat → ClassId} {b sc : Nat} {sp : Nat × (Nat → Int32)} {j : Nat} {as : List Value} {M : zM} {r : zR} (hsc : sc < b) (hj : j < znm) (hl : as.length ≤ znl j) (hok : ∀ v ∈ as, zok v = true) (hw : zwf M)
    (h : ∀ (p : Program) (e : Env) (R : Room) (s : State) (m : MethodId) (args : Array Value) (below : List Frame) (meth : Method) (c : Code), zB p R s m args meth c D CA b sc (zn M) sp j → (zn r.2 - zn M ≤ R.cells ∧ zz r.2 - zz M ≤ R.slots) → zG p l e R s m args below meth c D CA b sc (zn M) (zz M) (j, 0, as ++ List.replicate (znl j - as.length) (.double 0), [], M) r) : zMet l D CA b sc sp j as M r := by
  refine Met.ofW (cc := zb j) (maxL := znl j) (ret := zty j) (zpl j hj) rfl ?_
  intro p e s m args below meth c s₁ B hml hv
  obtain ⟨rfl, hP, hK, hsz, hX, hxs⟩ := hv
  have hts := atoms_spec (ws := zw j) B.pre
  have hvs : ∀ v ∈ as.map (zt b sc), v.category = 1 := by
    intro v hv
    obtain ⟨w, hw1, hw2⟩ := List.mem_map.mp hv
    rw [← hw2]
    exact zt_cat (hok w hw1)
  have hsl : lg_sl (as.map (zt b sc)) = (as.map (zt b sc)).map Slot.val := by
    unfold lg_sl
    have : ∀ vs : List Value, (∀ v ∈ vs, v.category = 1) → (vs.flatMap fun v => if v.category = 2 then [Slot.val v, .second] else [.val v]) = vs.map Slot.val := by
      intro vs hvs
      induction vs with
      | nil => rfl
      | cons v vs ih =>
        rw [List.flatMap_cons, ih (fun w hw => hvs w (List.mem_cons_of_mem _ hw)), if_neg (by rw [hvs v List.mem_cons_self]; decide)]
        rfl
    exact this _ hvs
  have hlen : (lg_sl (as.map (zt b sc))).length = as.length := by rw [hsl, List.length_map, List.length_map]
  have hl0 := lv_entry (as.map (zt b sc)) (n := znl j) (by rw [hlen]; exact hl)
  rw [lg_entry_eq]
  have hls : zls b sc ((lg_sl (as.map (zt b sc)) ++ List.replicate (znl j - (lg_sl (as.map (zt b sc))).length) Slot.unset).toArray) (znl j) (as ++ List.replicate (znl j - as.length) (.double 0)) := by
    refine ⟨by rw [List.length_append, List.length_replicate]; omega, hl0.1, hl0.2.1, fun q hq => ?_⟩
    obtain ⟨v, hv, ho, e1⟩ := zlv_in.mp hq
    by_cases hqa : q.1 < as.length
    · rw [List.getElem?_append_left hqa] at hv
      rw [hsl, List.getElem?_toArray, List.getElem?_append_left (by rw [List.length_map, List.length_map]; exact hqa), List.getElem?_map, List.getElem?_map, hv, e1]
      rfl
    · rw [List.getElem?_append_right (by omega)] at hv
      have := List.mem_of_getElem? hv
      rw [List.eq_of_mem_replicate this] at ho
      cases ho
  exact h p e _ s m _ below meth c ⟨B.exec, B.bytes, hml, findClass_of_methodNamed B.named, ⟨fun w hw => hts w (List.mem_cons_of_mem _ hw), hxs⟩, ⟨B.notSynchronized, B.returns, fun hn => by rw [(name_of_methodNamed B.named B.method).1]; exact hn⟩, hK, Nat.le_refl _, Nat.le_refl _, hsz, hsc, hX⟩ ⟨Nat.le_refl _, Nat.le_refl _⟩ s.heap [] _ 0 0 hP hls ⟨Nat.le_refl _, fun _ _ _ => rfl, fun q hq => by cases hq⟩ (Nat.zero_add _) (Nat.zero_add _) (fun v hv => by cases hv) hw
theorem z_snd {l : Launch} {D : va_G} {CA : Nat → ClassId} {b sc : Nat} {sp : Nat × (Nat → Int32)} (hsc : sc < b) : ∀ (k : Nat) {cf : zC} {r : zR}, zrun (zPr sp) k cf = some r → cf.1 ≤ znm → ∀ (p : Program) (e : Env) (R : Room) (s : State) (m : MethodId) (args : Array Value) (below : List Frame) (meth : Method) (c : Code) (n0 z0 : Nat), zB p R s m args meth c D CA b sc n0 sp cf.1 → (zn r.2 - n0 ≤ R.cells ∧ zz r.2 - z0 ≤ R.slots) → zG p l e R s m args below meth c D CA b sc n0 z0 cf r
  | 0, cf, r, h, _ => by cases h
  | k + 1, (i, pc, L, st, M), r, h, hi => by
    intro p e R s m args below meth c n0 z0 B hR
    rw [zrun] at h
    have ho := @zop_st (zPr sp) (i, pc, L, st, M)
    cases hlk : zlk (zcd i) pc with
    | none =>
      have hs : zst (zPr sp) (i, pc, L, st, M) = none := by
        show (match zlk (zcd i) pc with | none => none | some q => zex (zPr sp) i pc q.1 q.2 L st M) = none
        rw [hlk]
      rw [hs] at h; cases h
    | some q =>
      obtain ⟨ins, inf⟩ := q
      have hs : zst (zPr sp) (i, pc, L, st, M) = zex (zPr sp) i pc ins inf L st M := by
        show (match zlk (zcd i) pc with | none => none | some q => zex (zPr sp) i pc q.1 q.2 L st M) = _
        rw [hlk]
      obtain ⟨t1, t2, t3, t4⟩ := ztab i hi pc ins inf hlk
      rw [hs] at h ho
      cases hx : zex (zPr sp) i pc ins inf L st M with
      | none => rw [hx] at h; cases h
      | some o =>
        rw [hx] at h ho
        cases o with
        | inl c' =>
          have ho : c'.1 = i ∧ zn M ≤ zn c'.2.2.2.2 ∧ zz M ≤ zz c'.2.2.2.2 := ho
          have h : zrun (zPr sp) k c' = some r := h
          have kk := z_snd (l := l) (D := D) (CA := CA) hsc k h (by rw [ho.1]; exact hi) p e R s m args below meth c n0 z0 (by rw [ho.1]; exact B) hR
          have hmn := zrun_mn h
          rcases @zex_of (zPr sp) i pc ins inf L st M with e1 | e1 | e1 | e1
          · rw [e1] at hx; exact z_x1 B t1 hx kk
          · rw [e1] at hx; exact z_x2 B t1 t2 hx kk
          · rw [e1] at hx; exact z_x3 B t1 t3 hmn hR hx kk
          · rw [e1] at hx; exact z_x4g B t1 t4 hmn hR (zrk_1 i hi) hx kk
        | inr o => cases o with
          | inl r' =>
            cases h
            rcases @zex_of (zPr sp) i pc ins inf L st M with e1 | e1 | e1 | e1
            · rw [e1] at hx
              have := @zon_x1 i pc ins L st M
              rw [hx] at this
              exact this.elim
            · rw [e1] at hx
              have := @zon_x2 i pc ins inf L st M
              rw [hx] at this
              exact this.elim
            · rw [e1] at hx
              have := @zon_x3 (zPr sp) i pc ins inf L st M
              rw [hx] at this
              exact this.elim
            · rw [e1] at hx; exact z_x4r B t1 t4 hx
          | inr q =>
            have ho : q.1.2.2.2.2 = M ∧ q.2.1 = i := ho
            dsimp only at h
            cases h1 : zrun (zPr sp) k q.1 with
            | none => rw [h1] at h; cases h
            | some r1 =>
              rw [h1] at h
              have h : zrun (zPr sp) k (q.2.1, q.2.2.1, q.2.2.2.1, r1.1.toList ++ q.2.2.2.2, r1.2) = some r := h
              have g1 := zrun_mn h1
              have g2 := zrun_mn h
              rw [ho.1] at g1
              have kk := z_snd (l := l) (D := D) (CA := CA) hsc k h (by rw [show (q.2.1, q.2.2.1, q.2.2.2.1, r1.1.toList ++ q.2.2.2.2, r1.2).1 = q.2.1 from rfl, ho.2]; exact hi) p e R s m args below meth c n0 z0 (by rw [show (q.2.1, q.2.2.1, q.2.2.2.1, r1.1.toList ++ q.2.2.2.2, r1.2).1 = q.2.1 from rfl, ho.2]; exact B) hR
              rcases @zex_of (zPr sp) i pc ins inf L st M with e1 | e1 | e1 | e1
              · rw [e1] at hx
                have := @zon_x1 i pc ins L st M
                rw [hx] at this
                exact this.elim
              · rw [e1] at hx
                have := @zon_x2 i pc ins inf L st M
                rw [hx] at this
                exact this.elim
              · rw [e1] at hx
                have := @zon_x3 (zPr sp) i pc ins inf L st M
                rw [hx] at this
                exact this.elim
              · rw [e1] at hx
                refine z_x4c B t1 t4 (r1 := r1) (fun j as hq hal hin hwf hst hj => ?_) ⟨g1, g2⟩ hR hx kk
                rw [hq] at h1
                exact z_met hsc hj hal (fun v hv => hst v (hin v hv)) hwf (fun p e R s m args below meth c B' hR' => z_snd (l := l) (D := D) (CA := CA) hsc k h1 (Nat.le_of_lt hj) p e R s m args below meth c (zn M) (zz M) B' hR')
end
section
/-! THE CLAIM OUT OF ONE WALK OF THE LAW'S BODY. Your part is whole_start (and what it stands on); all else here is the same for every law, but numbers. -/
def R_law : String := "CircuitNetLaw"
def lw_P (b : Addr) (xs : List Int32) (args : Array Value) (s : State) : Prop := args = #[.ref b] ∧ s.IntsAt b xs ∧ xs.length ≤ 2560 ∧ (Jvm.Cond.and given_1 narrow_1).before args s = true
def lw_Q (_ : Array Value) (s : State) (o : Outcome) (t : State) : Prop := o = .returned (some (.int 1)) ∧ Framed s o t [] 600000 7302250
def lw_Z (below : List Frame) (a : Array Value) (s : State) : State → Prop := fun t => ∃ o, t.status = .running ∧ Ended t below o ∧ lw_Q a s o t
/-- the law's own end, with 1 on the stack, nothing written that was there before, its room as the claim has it -/
theorem lw_ret {p : Program} {l : Launch} {e : Env} {s : State} {m : MethodId} {below : List Frame} {meth : Method} {c : Code} {b : Nat} (hx : p.tables.exec = Jvm.exec) (hb : c.code = code) (hr : meth.sig.returnType = ret) (hlocks : meth.locks = false) {pc : Nat} {H : Heap} {ls : Array Slot} (hdg : decode code pc = .ok (.ireturn, 1)) : W p l e room_1 s m #[Value.ref b] below meth c H [] 600000 7302250 (lw_Z below #[Value.ref b] s) (F0 m pc ls [.int 1]) := by
  intro T hT X
  obtain ⟨fs, hret, hrun, hended, hW, hframe⟩ := X.leave (v := some (.int 1)) (hlocks := hlocks) (fun h => by rw [hr] at h; cases h)
  have hmeth' : T.vm.method? m = some meth := X.method'
  refine ⟨T.setFrames fs, ?_, .returned (some (.int 1)), hrun, hended, rfl, ⟨_, rfl⟩, hW, hframe⟩
  jvm_step X.here [X.here.top, hx, hb, hdg, hmeth', hr, ret, narrow_b1]
  (try refine ⟨rfl, ?_⟩); (try refine ⟨rfl, ?_⟩)
  first | (intro acts; rw [hret _ acts rfl rfl rfl]) | rw [hret _ _ rfl rfl rfl]
  exact Steps.refl _
/-- what holds at the law's entry: the machine, the code, the tables' words (any of lw_tbl by 'hts w (by decide +kernel)'), the script of L ints xs at the cell b, what the Statement gives of the start (any of its parts by flat_of_before) -/
def lw_At (p : Program) (s : State) (m : MethodId) (meth : Method) (c : Code) (b L : Nat) (xs : Nat → Int32) : Prop :=
  p.tables.exec = Jvm.exec ∧ c.code = code ∧ meth.sig.returnType = ret ∧ c.maxLocals = 4 ∧ s.vm.findClass R_law = some m.cls ∧ (∀ w ∈ lw_tbl, w.before #[Value.ref b] s = true) ∧ va_X b L xs s s.heap ∧ b < s.heap.size ∧ meth.locks = false ∧ (Jvm.Cond.and given_1 narrow_1).before #[Value.ref b] s = true
end
section
def zM0 : zM := (fun _ => (999, 0), fun _ _ => 0, fun _ _ => none, 0, 0)
theorem zXS_of {A : Array Value} {U : State} (h : ∀ w ∈ zXS, w.before A U = true) : ∀ w ∈ zXS, va_Nw w U := List.forall_mem_cons.mpr ⟨va_AO.of (h _ zx_0), List.forall_mem_cons.mpr ⟨va_Nw.of rfl (h _ zx_1), List.forall_mem_cons.mpr ⟨va_Nw.of rfl (h _ zx_2), List.forall_mem_cons.mpr ⟨va_AO.of (h _ zx_3), List.forall_mem_cons.mpr ⟨va_AO.of (h _ zx_4), List.forall_mem_cons.mpr ⟨va_Nw.of rfl (h _ zx_5), List.forall_mem_cons.mpr ⟨va_Nw.of rfl (h _ zx_6), List.forall_mem_cons.mpr ⟨va_Nw.of rfl (h _ zx_7), List.forall_mem_cons.mpr ⟨va_Nw.of rfl (h _ zx_8), List.forall_mem_cons.mpr ⟨va_Nw.of rfl (h _ zx_9), fun w hw => absurd hw List.not_mem_nil⟩⟩⟩⟩⟩⟩⟩⟩⟩⟩
/-! whole_start out of a run of the abstract machine -/
theorem zW_mono {p : Program} {l : Launch} {e : Env} {R : Room} {s : State} {m : MethodId} {args : Array Value} {below : List Frame} {meth : Method} {c : Code} {H : Heap} {locs : List Loc} {cells slots : Nat} {Q Q' : State → Prop} {g : JFrame} (h : ∀ t, Q t → Q' t) (w : W p l e R s m args below meth c H locs cells slots Q g) : W p l e R s m args below meth c H locs cells slots Q' g := fun T hT X => by
  obtain ⟨t, a, b⟩ := w T hT X
  exact ⟨t, a, h t b⟩
theorem z_known {s : State} {args : Array Value} (hts : ∀ w ∈ zWS, w.before args s = true) (hxs : ∀ w ∈ zXS, va_Nw w s) : ∃ (D : va_G) (CA : Nat → ClassId), va_K D vwCl (zT CA) s := by
  obtain ⟨c0, i0, hk0⟩ := u_known hts zc_0.2.2.2.1 (hts _ zq_55)
  obtain ⟨c1, i1, hk1⟩ := u_known hts zc_1.2.2.2.1 (hts _ zq_17)
  obtain ⟨c2, i2, hk2⟩ := u_known hts zc_2.2.2.2.1 (hts _ zq_42)
  obtain ⟨c3, i3, hk3⟩ := u_known hts zc_3.2.2.2.1 (hts _ zq_26)
  obtain ⟨c4, i4, hk4⟩ := u_known hts zc_4.2.2.2.1 (hts _ zq_14)
  obtain ⟨c5, i5, hk5⟩ := u_known hts zc_5.2.2.2.1 (hts _ zq_361)
  obtain ⟨c6, i6, hk6⟩ := u_known hts zc_6.2.2.2.1 (hts _ zq_365)
  obtain ⟨a0, k0, comp0, f0, g0, h0⟩ := Cond.arrayClass_spec (hts _ zq_22)
  obtain ⟨a1, k1, comp1, f1, g1, h1⟩ := Cond.arrayClass_spec (hts _ zq_265)
  obtain ⟨comp2, a2, k2, e2, -, g2, h2, f2⟩ := Cond.arrayOver_spec (hxs _ zx_0)
  obtain ⟨comp3, a3, k3, e3, -, g3, h3, f3⟩ := Cond.arrayOver_spec (hxs _ zx_3)
  obtain ⟨comp4, a4, k4, e4, -, g4, h4, f4⟩ := Cond.arrayOver_spec (hxs _ zx_4)
  refine ⟨(fun i => [c0, c1, c2, c3, c4, c5, c6].getD i 0, fun i => [i0, i1, i2, i3, i4, i5, i6].getD i (fun _ => 0)), fun i => [a0, a1, a2, a3, a4].getD i 0, fun c q hq => ?_, fun k q hq => ?_⟩
  · have hc : c < 7 := (List.getElem?_eq_some_iff.mp hq).1
    have : c = 0 ∨ c = 1 ∨ c = 2 ∨ c = 3 ∨ c = 4 ∨ c = 5 ∨ c = 6 := by omega
    rcases this with h | h | h | h | h | h | h <;> subst h <;> cases hq <;> assumption
  · have hk : k < 5 := (List.getElem?_eq_some_iff.mp hq).1
    have : k = 0 ∨ k = 1 ∨ k = 2 ∨ k = 3 ∨ k = 4 := by omega
    rcases this with h | h | h | h | h <;> subst h <;> cases hq
    · exact ⟨fun n z => ⟨fun k h => (by cases h), k0, g0, comp0, h0⟩, f0⟩
    · exact ⟨fun n z => ⟨fun k h => (by cases h), k1, g1, comp1, h1⟩, f1⟩
    · exact ⟨fun n z => ⟨fun k h => (by cases h), k2, g2, comp2, h2⟩, k2, comp2, g2, h2, e2, f2⟩
    · exact ⟨fun n z => ⟨fun k h => (by cases h), k3, g3, comp3, h3⟩, k3, comp3, g3, h3, e3, f3⟩
    · exact ⟨fun n z => ⟨fun k h => (by cases h), k4, g4, comp4, h4⟩, k4, comp4, g4, h4, e4, f4⟩
theorem z_ent {m : MethodId} {b sc n : Nat} {as : List Value} (hl : as.length ≤ n) (hok : ∀ v ∈ as, zok v = true) : ∃ ls : Array Slot, entryFrame m (as.map (zt b sc)).toArray n = F0 m 0 ls [] ∧ zls b sc ls n (as ++ List.replicate (n - as.length) (.double 0)) := by
  have hvs : ∀ v ∈ as.map (zt b sc), v.category = 1 := by
    intro v hv
    obtain ⟨w, hw1, hw2⟩ := List.mem_map.mp hv
    rw [← hw2]
    exact zt_cat (hok w hw1)
  have hsl : lg_sl (as.map (zt b sc)) = (as.map (zt b sc)).map Slot.val := by
    unfold lg_sl
    have : ∀ vs : List Value, (∀ v ∈ vs, v.category = 1) → (vs.flatMap fun v => if v.category = 2 then [Slot.val v, .second] else [.val v]) = vs.map Slot.val := by
      intro vs hvs
      induction vs with
      | nil => rfl
      | cons v vs ih =>
        rw [List.flatMap_cons, ih (fun w hw => hvs w (List.mem_cons_of_mem _ hw)), if_neg (by rw [hvs v List.mem_cons_self]; decide)]
        rfl
    exact this _ hvs
  have hlen : (lg_sl (as.map (zt b sc))).length = as.length := by rw [hsl, List.length_map, List.length_map]
  have hl0 := lv_entry (as.map (zt b sc)) (n := n) (by rw [hlen]; exact hl)
  refine ⟨_, lg_entry_eq _ _ _, by rw [List.length_append, List.length_replicate]; omega, hl0.1, hl0.2.1, fun q hq => ?_⟩
  obtain ⟨v, hv, ho, e1⟩ := zlv_in.mp hq
  by_cases hqa : q.1 < as.length
  · rw [List.getElem?_append_left hqa] at hv
    rw [hsl, List.getElem?_toArray, List.getElem?_append_left (by rw [List.length_map, List.length_map]; exact hqa), List.getElem?_map, List.getElem?_map, hv, e1]
    rfl
  · rw [List.getElem?_append_right (by omega)] at hv
    have := List.mem_of_getElem? hv
    rw [List.eq_of_mem_replicate this] at ho
    cases ho
theorem z_top {p : Program} {e : Env} {s : State} {m : MethodId} {below : List Frame} {meth : Method} {c : Code} (l : Launch) {b L : Nat} {xs : Nat → Int32} (C0 : lw_At p s m meth c b L xs) {k : Nat} {M : zM} (hrun : zrun (zPr (L, xs)) k (120, 0, [.long 0, .double 0, .double 0, .double 0], [], zM0) = some (some (.int 1), M)) (hn : zn M ≤ 600000) (hz : zz M ≤ 7302250) : W p l e room_1 s m #[Value.ref b] below meth c s.heap [] 0 0 (lw_Z below #[Value.ref b] s) (entryFrame m ([Value.ref b] : List Value).toArray 4) := by
  obtain ⟨hx, hb, hret, hml, hown, hts, hX, hbl, hlocks, hgv⟩ := C0
  have hts' : ∀ w ∈ zWS, w.before #[Value.ref b] s = true := fun w hw => hts w (List.mem_filter.mp hw).1
  have hxs : ∀ w ∈ zXS, va_Nw w s := zXS_of (A := #[Value.ref b]) (fun w hw => hts w (zXS_in w hw))
  obtain ⟨D, CA, hK⟩ := z_known hts' hxs
  have B : zB p room_1 s m #[Value.ref b] meth c D CA s.heap.size b 0 (L, xs) 120 := ⟨hx, hb, hml, hown, ⟨hts', hxs⟩, ⟨hlocks, hret, fun h => absurd h (by decide)⟩, hK, by decide, by decide, rfl, hbl, hX⟩
  have G := z_snd (l := l) (D := D) (CA := CA) hbl k hrun (by decide) p e room_1 s m #[Value.ref b] below meth c 0 0 B ⟨hn, hz⟩
  obtain ⟨ls, hls1, hls2⟩ := z_ent (m := m) (b := s.heap.size) (sc := b) (n := 4) (as := [.long 0]) (by decide) (fun v hv => by rw [List.mem_singleton.mp hv]; rfl)
  have hls1 : entryFrame m ([Value.ref b] : List Value).toArray 4 = F0 m 0 ls [] := hls1
  rw [hls1]
  refine zW_mono (fun t ht => ?_) (G s.heap [] ls 0 0 (fun k q hk => by cases hk) hls2 va_S.rf rfl rfl (fun v hv => by cases hv) (fun a _ => show 25 ≤ 999 by decide))
  obtain ⟨o, h1, h2, ⟨h3, -⟩, L', ⟨h4, h5, h6⟩, h7⟩ := ht
  refine ⟨o, h1, h2, h3, h4, h5, ?_⟩
  have h8 : s.sameButNew ({ t with vm := s.vm } : State) [] (zn M - 0) (zz M - 0) := State.sameButNew.drop_fresh (L := []) (J := L') h6 h7
  exact h8.mono hn hz
end
