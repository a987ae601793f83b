/-! The machine's own state behind the abstract one: object a lies at b + a. -/
def zt (b sc : Nat) (v : Value) : Value := match v with
  | .ref a => .ref (b + a)
  | .long _ => .ref sc
  | v => v
def zE (CA : Nat → ClassId) (b : Nat) (M : zM) (a : Nat) : va_E :=
  if (zk M a).1 < 20 then .inr ((zk M a).1, (List.range (zN (zk M a).1)).map fun j => if zRf (zk M a).1 j = true then va_rf ((zr M a j).map (fun q => b + q)) else .int (zi M a j))
  else if (zk M a).1 < 22 then .inl (CA ((zk M a).1 - 20), (zk M a).2, .inl (zi M a))
  else .inl (CA ((zk M a).1 - 20), (zk M a).2, .inr (.inr (.inr (.inr fun j => (zr M a j).map (fun q => b + q)))))
def zW (CA : Nat → ClassId) (b : Nat) (M : zM) : va_W := (List.range (zn M)).map fun a => (b + a, zE CA b M a)
def zwf (M : zM) : Prop := ∀ a, zn M ≤ a → 25 ≤ (zk M a).1
theorem zW_get {CA : Nat → ClassId} {b : Nat} {M : zM} {a : Nat} (h : a < zn M) : (zW CA b M)[a]? = some (b + a, zE CA b M a) := by
  simp [zW, List.getElem?_map, List.getElem?_range h]
theorem zW_len {CA : Nat → ClassId} {b : Nat} {M : zM} : (zW CA b M).length = zn M := by simp [zW]
theorem zW_at {CA : Nat → ClassId} {b : Nat} {M : zM} {k : Nat} {q : Nat × va_E} (h : (zW CA b M)[k]? = some q) : k < zn M ∧ q = (b + k, zE CA b M k) := by
  have hk : k < zn M := by
    have := (List.getElem?_eq_some_iff.mp h).1
    rwa [zW_len] at this
  rw [zW_get hk] at h
  exact ⟨hk, (Option.some.inj h).symm⟩
theorem zW_set {CA : Nat → ClassId} {b : Nat} {M M' : zM} {a : Nat} (hn : zn M' = zn M) (ho : ∀ k, k ≠ a → zE CA b M' k = zE CA b M k) : (zW CA b M).set a (b + a, zE CA b M' a) = zW CA b M' := by
  apply List.ext_getElem?
  intro k
  by_cases hk : k < zn M
  · rw [zW_get (M := M') (by rw [hn]; exact hk)]
    by_cases hka : k = a
    · subst hka
      rw [List.getElem?_set_self (by rw [zW_len]; exact hk)]
    · rw [List.getElem?_set_ne (Ne.symm hka), zW_get hk, ho k hka]
  · rw [List.getElem?_eq_none (by rw [List.length_set, zW_len]; omega), List.getElem?_eq_none (by rw [zW_len, hn]; omega)]
theorem zW_push {CA : Nat → ClassId} {b : Nat} {M M' : zM} (hn : zn M' = zn M + 1) (ho : ∀ k, k < zn M → zE CA b M' k = zE CA b M k) : zW CA b M ++ [(b + zn M, zE CA b M' (zn M))] = zW CA b M' := by
  unfold zW
  rw [hn, List.range_succ, List.map_append]
  congr 1
  refine List.map_congr_left fun k hk => ?_
  rw [ho k (List.mem_range.mp hk)]
theorem zW_D {CA : Nat → ClassId} {b : Nat} {M : zM} : va_D (fun q => b ≤ q) (zW CA b M) := by
  refine ⟨fun i j x y hi hj hxy => ?_, fun k q hk => ?_⟩
  · obtain ⟨-, e1⟩ := zW_at hi
    obtain ⟨-, e2⟩ := zW_at hj
    subst e1; subst e2
    have : b + i = b + j := hxy
    omega
  · obtain ⟨-, e⟩ := zW_at hk
    subst e
    exact Nat.le_add_right _ _
theorem zt_cat {b sc : Nat} {v : Value} (h : zok v = true) : (zt b sc v).category = 1 := by
  cases v <;> first | rfl | cases h
theorem zt_A {b sc : Nat} {v : Value} (h : zA v = true) : zt b sc v = va_rf ((zq v).map (fun q => b + q)) := by
  cases v <;> first | rfl | cases h
theorem zt_rf {b sc : Nat} {o : Option Nat} : zt b sc (va_rf o) = va_rf (o.map (fun q => b + q)) := by
  cases o <;> rfl
theorem zok_rf {o : Option Nat} : zok (va_rf o) = true := by cases o <;> rfl
theorem zA_rf {o : Option Nat} : zA (va_rf o) = true := by cases o <;> rfl
theorem zAL_rf {o : Option Nat} : zAL (va_rf o) = true := by cases o <;> rfl
theorem zq_rf {o : Option Nat} : zq (va_rf o) = o := by cases o <;> rfl
theorem zok_A {v : Value} (h : zA v = true) : zok v = true := by cases v <;> first | rfl | cases h
theorem zok_AL {v : Value} (h : zAL v = true) : zok v = true := by cases v <;> first | rfl | cases h
/-! the locals -/
def zlv (b sc : Nat) (L : List Value) : List (Nat × Value) := (List.range L.length).filterMap fun k => match L[k]? with
  | some v => if zok v = true then some (k, zt b sc v) else none
  | none => none
def zls (b sc : Nat) (ls : Array Slot) (n : Nat) (L : List Value) : Prop := L.length = n ∧ lv_has ls n (zlv b sc L)
theorem zlv_in {b sc : Nat} {L : List Value} {q : Nat × Value} : q ∈ zlv b sc L ↔ ∃ v, L[q.1]? = some v ∧ zok v = true ∧ q.2 = zt b sc v := by
  unfold zlv
  rw [List.mem_filterMap]
  constructor
  · rintro ⟨k, -, hk⟩
    cases hv : L[k]? with
    | none => rw [hv] at hk; cases hk
    | some v =>
      rw [hv] at hk
      dsimp only at hk
      by_cases ho : zok v = true
      · rw [if_pos ho] at hk
        cases hk
        exact ⟨v, hv, ho, rfl⟩
      · rw [if_neg ho] at hk; cases hk
  · rintro ⟨v, hv, ho, e⟩
    refine ⟨q.1, List.mem_range.mpr (List.getElem?_eq_some_iff.mp hv).1, ?_⟩
    rw [hv]
    dsimp only
    rw [if_pos ho, ← e]
theorem zls_at {b sc : Nat} {ls : Array Slot} {n : Nat} {L : List Value} (h : zls b sc ls n L) {k : Nat} {v : Value} (hv : L[k]? = some v) (ho : zok v = true) : ls[k]? = some (.val (zt b sc v)) :=
  h.2.2.2 (k, zt b sc v) (zlv_in.mpr ⟨v, hv, ho, rfl⟩)
theorem zls_set {b sc : Nat} {ls ls' : Array Slot} {n : Nat} {L : List Value} (h : zls b sc ls n L) {k : Nat} {x : Value} (hk : k < n) (hx : zok x = true)
    (h' : lv_has ls' n ((k, zt b sc x) :: (zlv b sc L).filter (fun q => !(q.1 == k) && !(q.1 + 1 == k && q.2.category == 2)))) : zls b sc ls' n (L.set k x) := by
  refine ⟨by rw [List.length_set]; exact h.1, h'.1, h'.2.1, fun q hq => ?_⟩
  obtain ⟨v, hv, ho, e⟩ := zlv_in.mp hq
  by_cases hqk : q.1 = k
  · rw [hqk, List.getElem?_set_self (by rw [h.1]; exact hk)] at hv
    cases hv
    have := h'.2.2 (k, zt b sc x) List.mem_cons_self
    rw [hqk, e]; exact this
  · rw [List.getElem?_set_ne (Ne.symm hqk)] at hv
    refine h'.2.2 q (List.mem_cons_of_mem _ (List.mem_filter.mpr ⟨zlv_in.mpr ⟨v, hv, ho, e⟩, ?_⟩))
    have : q.2.category = 1 := by rw [e]; exact zt_cat ho
    simp [hqk, this]
/-! The judgement: from this configuration the machine comes to the end r. -/
def zQ (D : va_G) (CA : Nat → ClassId) (b sc : Nat) (r : zR) : Array Value → State → Outcome → State → Prop := fun _ st o t =>
  o = .returned (r.1.map (zt b sc)) ∧ va_P D vwCl (zW CA b r.2) t.heap ∧ va_F (fun q => b ≤ q) st t ∧ zwf r.2 ∧ ∀ v, r.1 = some v → zok v = true
section ZG
variable {p : Program} {l : Launch} {e : Env} {R : Room} {s : State} {m : MethodId} {args : Array Value} {below : List Frame} {meth : Method} {c : Code}
variable {D : va_G} {CA : Nat → ClassId} {b sc n0 z0 : Nat} {sp : Nat × (Nat → Int32)}
/-- what stands fast while method i runs -/
def zB (p : Program) (R : Room) (s : State) (m : MethodId) (args : Array Value) (meth : Method) (c : Code) (D : va_G) (CA : Nat → ClassId) (b sc n0 : Nat) (sp : Nat × (Nat → Int32)) (i : Nat) : Prop :=
  p.tables.exec = Jvm.exec ∧ c.code = zb i ∧ c.maxLocals = znl i ∧ s.vm.findClass (zy i).cls = some m.cls ∧ ((∀ w ∈ zWS, w.before args s = true) ∧ ∀ w ∈ zXS, va_Nw w s) ∧
  (meth.locks = false ∧ meth.sig.returnType = zty i ∧ ((zy i).name = "<init>" → meth.name = "<init>")) ∧ va_K D vwCl (zT CA) s ∧ zrk i ≤ R.frames ∧ 40 * zrk i ≤ R.locals ∧
  (s.heap.size = b + n0 ∧ sc < b ∧ va_X sc sp.1 sp.2 s s.heap)
def zG (p : Program) (l : Launch) (e : Env) (R : Room) (s : State) (m : MethodId) (args : Array Value) (below : List Frame) (meth : Method) (c : Code) (D : va_G) (CA : Nat → ClassId) (b sc n0 z0 : Nat) (cf : zC) (r : zR) : Prop :=
  ∀ (H : Heap) (locs : List Loc) (ls : Array Slot) (cells slots : Nat), va_P D vwCl (zW CA b cf.2.2.2.2) H → zls b sc ls (znl cf.1) cf.2.2.1 → va_S (fun q => b ≤ q) s.heap H locs → cells + n0 = zn cf.2.2.2.2 → slots + z0 = zz cf.2.2.2.2 → (∀ v ∈ cf.2.2.2.1, zok v = true) → zwf cf.2.2.2.2 →
    W p l e R s m args below meth c H locs cells slots (MQ below (zQ D CA b sc r) args s (zn r.2 - n0) (zz r.2 - z0) (fun q => b ≤ q)) (F0 m cf.2.1 ls (cf.2.2.2.1.map (zt b sc)))
theorem zG_i {i pc : Nat} {L st : List Value} {M : zM} {r : zR} (h : ∀ (H : Heap) (locs : List Loc) (ls : Array Slot) (cells slots : Nat), va_P D vwCl (zW CA b M) H → zls b sc ls (znl i) L → va_S (fun q => b ≤ q) s.heap H locs → cells + n0 = zn M → slots + z0 = zz M → (∀ v ∈ st, zok v = true) → zwf M →
    W p l e R s m args below meth c H locs cells slots (MQ below (zQ D CA b sc r) args s (zn r.2 - n0) (zz r.2 - z0) (fun q => b ≤ q)) (F0 m pc ls (st.map (zt b sc)))) : zG p l e R s m args below meth c D CA b sc n0 z0 (i, pc, L, st, M) r := h
/-- the heap's size is known -/
theorem z_sz {H : Heap} {locs : List Loc} {cells slots : Nat} {Q : State → Prop} {g : JFrame} (k : H.size ≤ s.heap.size + cells → W p l e R s m args below meth c H locs cells slots Q g) : W p l e R s m args below meth c H locs cells slots Q g := by
  intro T hT X
  refine k ?_ T hT X
  have h := X.same.2.2.1
  rw [← hT]
  exact h
theorem z_bin {f : Int32 → Int32 → Int32} {i pc : Nat} {L st : List Value} {M : zM} {cf : zC} {r : zR}
    (row : ∀ {H : Heap} {locs : List Loc} {cells slots : Nat} {Q : State → Prop} {ls : Array Slot} {x y : Int32} {t : List Value}, W p l e R s m args below meth c H locs cells slots Q (F0 m (pc + 1) ls (.int (f x y) :: t)) → W p l e R s m args below meth c H locs cells slots Q (F0 m pc ls (.int y :: .int x :: t)))
    (h : zbin f i pc L st M = some (.inl cf)) (k : zG p l e R s m args below meth c D CA b sc n0 z0 cf r) : zG p l e R s m args below meth c D CA b sc n0 z0 (i, pc, L, st, M) r := by
  unfold zbin at h
  split at h
  · cases h
    refine zG_i (fun H locs ls cells slots hP hl hS hc hz hst hw => ?_)
    refine row (k H locs ls cells slots hP hl hS hc hz (fun v hv => ?_) hw)
    rcases List.mem_cons.mp hv with h | h
    · subst h; rfl
    · exact hst v (List.mem_cons_of_mem _ (List.mem_cons_of_mem _ h))
  · cases h
theorem z_const {i pc d : Nat} {v : Value} {L st : List Value} {M : zM} {cf : zC} {r : zR} (hv : zok v = true)
    (row : ∀ {H : Heap} {locs : List Loc} {cells slots : Nat} {Q : State → Prop} {ls : Array Slot} {t : List Value}, W p l e R s m args below meth c H locs cells slots Q (F0 m d ls (zt b sc v :: t)) → W p l e R s m args below meth c H locs cells slots Q (F0 m pc ls t))
    (h : zgo i d L (v :: st) M = some (.inl cf)) (k : zG p l e R s m args below meth c D CA b sc n0 z0 cf r) : zG p l e R s m args below meth c D CA b sc n0 z0 (i, pc, L, st, M) r := by
  cases h
  refine zG_i (fun H locs ls cells slots hP hl hS hc hz hst hw => ?_)
  refine row (k H locs ls cells slots hP hl hS hc hz (fun w hw => ?_) hw)
  rcases List.mem_cons.mp hw with h | h
  · subst h; exact hv
  · exact hst w h
theorem z_ldi {i pc d j : Nat} {L st : List Value} {M : zM} {cf : zC} {r : zR}
    (row : ∀ {H : Heap} {locs : List Loc} {cells slots : Nat} {Q : State → Prop} {ls : Array Slot} {x : Int32} {t : List Value}, ls[j]? = some (.val (.int x)) → W p l e R s m args below meth c H locs cells slots Q (F0 m d ls (.int x :: t)) → W p l e R s m args below meth c H locs cells slots Q (F0 m pc ls t))
    (h : zldi j i d L st M = some (.inl cf)) (k : zG p l e R s m args below meth c D CA b sc n0 z0 cf r) : zG p l e R s m args below meth c D CA b sc n0 z0 (i, pc, L, st, M) r := by
  unfold zldi at h
  split at h
  · rename_i x hx
    cases h
    refine zG_i (fun H locs ls cells slots hP hl hS hc hz hst hw => ?_)
    refine row (x := x) (zls_at hl hx rfl) (k H locs ls cells slots hP hl hS hc hz (fun w hw => ?_) hw)
    rcases List.mem_cons.mp hw with h | h
    · subst h; rfl
    · exact hst w h
  · cases h
theorem z_lda {i pc d j : Nat} {L st : List Value} {M : zM} {cf : zC} {r : zR}
    (row : ∀ {H : Heap} {locs : List Loc} {cells slots : Nat} {Q : State → Prop} {ls : Array Slot} {x : Nat} {t : List Value}, ls[j]? = some (.val (.ref x)) → W p l e R s m args below meth c H locs cells slots Q (F0 m d ls (.ref x :: t)) → W p l e R s m args below meth c H locs cells slots Q (F0 m pc ls t))
    (rowN : ∀ {H : Heap} {locs : List Loc} {cells slots : Nat} {Q : State → Prop} {ls : Array Slot} {t : List Value}, ls[j]? = some (.val .null) → W p l e R s m args below meth c H locs cells slots Q (F0 m d ls (.null :: t)) → W p l e R s m args below meth c H locs cells slots Q (F0 m pc ls t))
    (h : zlda j i d L st M = some (.inl cf)) (k : zG p l e R s m args below meth c D CA b sc n0 z0 cf r) : zG p l e R s m args below meth c D CA b sc n0 z0 (i, pc, L, st, M) r := by
  unfold zlda at h
  split at h
  · rename_i v hx
    split at h
    · rename_i hA
      cases h
      refine zG_i (fun H locs ls cells slots hP hl hS hc hz hst hw => ?_)
      have k' := k H locs ls cells slots hP hl hS hc hz (fun w hw => by
        rcases List.mem_cons.mp hw with h | h
        · subst h; exact zok_AL hA
        · exact hst w h) hw
      have hat := zls_at hl hx (zok_AL hA)
      cases v with
      | ref a => exact row hat k'
      | null => exact rowN hat k'
      | long a => exact row hat k'
      | _ => cases hA
    · cases h
  · cases h
theorem z_sti {i pc d j : Nat} {L st : List Value} {M : zM} {cf : zC} {r : zR}
    (row : ∀ {H : Heap} {locs : List Loc} {cells slots : Nat} {Q : State → Prop} {ls : Array Slot} {x : Int32} {t : List Value} {lv : List (Nat × Value)}, lv_has ls (znl i) lv → j < znl i → (∀ ls' : Array Slot, lv_has ls' (znl i) ((j, Value.int x) :: lv.filter (fun q => !(q.1 == j) && !(q.1 + 1 == j && q.2.category == 2))) → W p l e R s m args below meth c H locs cells slots Q (F0 m d ls' t)) → W p l e R s m args below meth c H locs cells slots Q (F0 m pc ls (.int x :: t)))
    (h : zsti j i d L st M = some (.inl cf)) (k : zG p l e R s m args below meth c D CA b sc n0 z0 cf r) : zG p l e R s m args below meth c D CA b sc n0 z0 (i, pc, L, st, M) r := by
  unfold zsti at h
  split at h
  · rename_i x t
    split at h
    · rename_i hk
      cases h
      refine zG_i (fun H locs ls cells slots hP hl hS hc hz hst hw => ?_)
      have hk' : j < znl i := by rw [← hl.1]; exact hk
      exact row hl.2 hk' fun ls' h' => k H locs ls' cells slots hP (zls_set hl hk' rfl h') hS hc hz (fun w hw => hst w (List.mem_cons_of_mem _ hw)) hw
    · cases h
  · cases h
theorem z_sta {i pc d j : Nat} {L st : List Value} {M : zM} {cf : zC} {r : zR}
    (row : ∀ {H : Heap} {locs : List Loc} {cells slots : Nat} {Q : State → Prop} {ls : Array Slot} {x : Nat} {t : List Value} {lv : List (Nat × Value)}, lv_has ls (znl i) lv → j < znl i → (∀ ls' : Array Slot, lv_has ls' (znl i) ((j, Value.ref x) :: lv.filter (fun q => !(q.1 == j) && !(q.1 + 1 == j && q.2.category == 2))) → W p l e R s m args below meth c H locs cells slots Q (F0 m d ls' t)) → W p l e R s m args below meth c H locs cells slots Q (F0 m pc ls (.ref x :: t)))
    (rowN : ∀ {H : Heap} {locs : List Loc} {cells slots : Nat} {Q : State → Prop} {ls : Array Slot} {t : List Value} {lv : List (Nat × Value)}, lv_has ls (znl i) lv → j < znl i → (∀ ls' : Array Slot, lv_has ls' (znl i) ((j, Value.null) :: lv.filter (fun q => !(q.1 == j) && !(q.1 + 1 == j && q.2.category == 2))) → W p l e R s m args below meth c H locs cells slots Q (F0 m d ls' t)) → W p l e R s m args below meth c H locs cells slots Q (F0 m pc ls (.null :: t)))
    (h : zsta j i d L st M = some (.inl cf)) (k : zG p l e R s m args below meth c D CA b sc n0 z0 cf r) : zG p l e R s m args below meth c D CA b sc n0 z0 (i, pc, L, st, M) r := by
  unfold zsta at h
  split at h
  · rename_i v t
    split at h
    · rename_i hA
      split at h
      · rename_i hk
        cases h
        refine zG_i (fun H locs ls cells slots hP hl hS hc hz hst hw => ?_)
        have hk' : j < znl i := by rw [← hl.1]; exact hk
        have k' := fun ls' h' => k H locs ls' cells slots hP (zls_set hl hk' (zok_A hA) h') hS hc hz (fun w hw => hst w (List.mem_cons_of_mem _ hw)) hw
        cases v with
        | ref a => exact row hl.2 hk' k'
        | null => exact rowN hl.2 hk' k'
        | _ => cases hA
      · cases h
    · cases h
  · cases h
theorem z_x1 {i pc : Nat} {ins : Jvm.ClassFile.Instr} {L st : List Value} {M : zM} {cf : zC} {r : zR} (B : zB p R s m args meth c D CA b sc n0 sp i) (hd : zdc (zb i) pc ins)
    (h : zx1 i pc ins L st M = some (.inl cf)) (k : zG p l e R s m args below meth c D CA b sc n0 z0 cf r) : zG p l e R s m args below meth c D CA b sc n0 z0 (i, pc, L, st, M) r := by
  have hx := B.1
  have hb := B.2.1
  cases ins
  case iconst n => exact z_const (v := .int (Int32.ofInt n)) rfl (fun q => lv_iconst hx hb hd rfl q) h k
  case bipush n => exact z_const (v := .int (Int8.ofInt n).toInt32) rfl (fun q => lv_bipush hx hb hd rfl q) h k
  case sipush n => exact z_const (v := .int (Int16.ofInt n).toInt32) rfl (fun q => lv_sipush hx hb hd rfl q) h k
  case aconst_null => exact z_const (v := .null) rfl (fun q => lv_null hx hb hd q) h k
  case iload_n j => exact z_ldi (fun a q => lv_iload_n hx hb hd rfl a q) h k
  case iload j => exact z_ldi (fun a q => lv_iload hx hb hd a q) h k
  case aload_n j => exact z_lda (fun a q => lv_aload_n hx hb hd rfl a q) (fun a q => lv_aload_nN hx hb hd rfl a q) h k
  case aload j => exact z_lda (fun a q => lv_aload hx hb hd a q) (fun a q => lv_aloadN hx hb hd a q) h k
  case istore_n j => exact z_sti (fun a hj q => lv_istore_n hx hb hd rfl a hj rfl q) h k
  case istore j => exact z_sti (fun a hj q => lv_istore hx hb hd a hj rfl q) h k
  case astore_n j => exact z_sta (fun a hj q => lv_astore_n hx hb hd rfl a hj rfl q) (fun a hj q => lv_astore_nN hx hb hd rfl a hj rfl q) h k
  case astore j => exact z_sta (fun a hj q => lv_astore hx hb hd a hj rfl q) (fun a hj q => lv_astoreN hx hb hd a hj rfl q) h k
  case iadd => exact z_bin (fun q => lv_iadd hx hb hd q) h k
  case isub => exact z_bin (fun q => lv_isub hx hb hd q) h k
  case imul => exact z_bin (fun q => lv_imul hx hb hd q) h k
  case iand => exact z_bin (fun q => lv_iand hx hb hd q) h k
  case ior => exact z_bin (fun q => lv_ior hx hb hd q) h k
  case ishl => exact z_bin (fun q => lv_ishl hx hb hd q) h k
  case ishr => exact z_bin (fun q => lv_ishr hx hb hd q) h k
  case iinc j n =>
    dsimp only [zx1] at h
    split at h
    · rename_i x hL
      cases h
      refine zG_i (fun H locs ls cells slots hP hl hS hc hz hst hw => ?_)
      have hj : j < znl i := by rw [← hl.1]; exact (List.getElem?_eq_some_iff.mp hL).1
      obtain ⟨q0, hq0⟩ := List.getElem?_of_mem (zlv_in.mpr ⟨.int x, hL, rfl, rfl⟩ : (j, zt b sc (.int x)) ∈ zlv b sc L)
      exact lv_iinc hx hb hd hl.2 hq0 rfl hj rfl fun ls' h' => k H locs ls' cells slots hP (zls_set hl hj rfl h') hS hc hz hst hw
    · cases h
  case idiv =>
    dsimp only [zx1] at h
    split at h
    · split at h
      · cases h
      · rename_i hy
        cases h
        refine zG_i (fun H locs ls cells slots hP hl hS hc hz hst hw => ?_)
        refine lv_idiv hx hb hd hy (k H locs ls cells slots hP hl hS hc hz (fun v hv => ?_) hw)
        rcases List.mem_cons.mp hv with h | h
        · subst h; rfl
        · exact hst v (List.mem_cons_of_mem _ (List.mem_cons_of_mem _ h))
    · cases h
  case irem =>
    dsimp only [zx1] at h
    split at h
    · split at h
      · cases h
      · rename_i hy
        cases h
        refine zG_i (fun H locs ls cells slots hP hl hS hc hz hst hw => ?_)
        refine lv_irem hx hb hd hy (k H locs ls cells slots hP hl hS hc hz (fun v hv => ?_) hw)
        rcases List.mem_cons.mp hv with h | h
        · subst h; rfl
        · exact hst v (List.mem_cons_of_mem _ (List.mem_cons_of_mem _ h))
    · cases h
  case dup =>
    dsimp only [zx1] at h
    split at h
    · cases h
      refine zG_i (fun H locs ls cells slots hP hl hS hc hz hst hw => ?_)
      exact lv_dup hx hb hd (zt_cat (hst _ (by simp))) (k H locs ls cells slots hP hl hS hc hz (fun v hv => hst v (by simp at hv ⊢; exact hv)) hw)
    · cases h
  case pop =>
    dsimp only [zx1] at h
    split at h
    · cases h
      refine zG_i (fun H locs ls cells slots hP hl hS hc hz hst hw => ?_)
      exact lv_pop hx hb hd (zt_cat (hst _ (by simp))) (k H locs ls cells slots hP hl hS hc hz (fun v hv => hst v (List.mem_cons_of_mem _ hv)) hw)
    · cases h
  case dup_x1 =>
    dsimp only [zx1] at h
    split at h
    · cases h
      refine zG_i (fun H locs ls cells slots hP hl hS hc hz hst hw => ?_)
      exact lv_dup_x1 hx hb hd (zt_cat (hst _ (by simp))) (zt_cat (hst _ (by simp))) (k H locs ls cells slots hP hl hS hc hz (fun v hv => hst v (by simp at hv ⊢; rcases hv with h | h | h | h <;> simp [h])) hw)
    · cases h
  case dup_x2 =>
    dsimp only [zx1] at h
    split at h
    · cases h
      refine zG_i (fun H locs ls cells slots hP hl hS hc hz hst hw => ?_)
      exact lv_dup_x2 hx hb hd (zt_cat (hst _ (by simp))) (zt_cat (hst _ (by simp))) (zt_cat (hst _ (by simp))) (k H locs ls cells slots hP hl hS hc hz (fun v hv => hst v (by simp at hv ⊢; rcases hv with h | h | h | h | h <;> simp [h])) hw)
    · cases h
  case dup2 =>
    dsimp only [zx1] at h
    split at h
    · cases h
      refine zG_i (fun H locs ls cells slots hP hl hS hc hz hst hw => ?_)
      exact lv_dup2_11 hx hb hd (zt_cat (hst _ (by simp))) (zt_cat (hst _ (by simp))) (k H locs ls cells slots hP hl hS hc hz (fun v hv => hst v (by simp at hv ⊢; rcases hv with h | h | h | h | h <;> simp [h])) hw)
    · cases h
  all_goals (change (none : zO) = _ at h; cases h)
theorem zjT_at {pc : Nat} : ∀ {os : List Int} {t : zI} {k n : Nat} {x : Nat × Nat × Nat}, zjT pc os t k = true → t[n]? = some x → x.1 = k + n ∧ ∃ off, os[n]? = some off ∧ (pc : Int) + off = (x.2.1 : Int)
  | off :: os, y :: t, k, 0, x, h, hx => by
    simp only [zjT, Bool.and_eq_true, decide_eq_true_eq] at h
    cases hx
    exact ⟨h.1.1, off, rfl, h.1.2⟩
  | off :: os, y :: t, k, n + 1, x, h, hx => by
    simp only [zjT, Bool.and_eq_true, decide_eq_true_eq] at h
    obtain ⟨h1, off', h2, h3⟩ := zjT_at (n := n) h.2 hx
    exact ⟨by omega, off', h2, h3⟩
  | [], y :: t, k, n, x, h, hx => by cases h
  | [], [], k, n, x, h, hx => by cases hx
  | _ :: _, [], k, n, x, h, hx => by cases hx
theorem zsw_some {x : Int32} {K : Nat → zO} {d : Nat} {o : zC ⊕ zR ⊕ (zC × Nat × Nat × List Value × List Value)} : ∀ {inf : zI}, zsw inf x K d = some o → (K d = some o ∧ ∀ q ∈ inf, ¬ x = Int32.ofNat q.1) ∨ ∃ (n : Nat) (q : Nat × Nat × Nat), inf[n]? = some q ∧ x = Int32.ofNat q.1 ∧ K q.2.1 = some o
  | [], h => Or.inl ⟨h, fun q hq => by cases hq⟩
  | q :: t, h => by
    rw [zsw] at h
    by_cases hx : x = Int32.ofNat q.1
    · rw [if_pos hx] at h
      exact Or.inr ⟨0, q, rfl, hx, h⟩
    · rw [if_neg hx] at h
      rcases zsw_some h with ⟨h1, h2⟩ | ⟨n, q', h1, h2, h3⟩
      · refine Or.inl ⟨h1, fun q' hq => ?_⟩
        rcases List.mem_cons.mp hq with e | e
        · subst e; exact hx
        · exact h2 q' e
      · exact Or.inr ⟨n + 1, q', h1, h2, h3⟩
theorem z_if {i pc tg : Nat} {q : Prop} [Decidable q] {L t st : List Value} {M : zM} {cf : zC} {r : zR}
    (row : ∀ {H : Heap} {locs : List Loc} {cells slots : Nat} {Q : State → Prop} {ls : Array Slot}, (q → W p l e R s m args below meth c H locs cells slots Q (F0 m tg ls (t.map (zt b sc)))) → (¬ q → W p l e R s m args below meth c H locs cells slots Q (F0 m (pc + 3) ls (t.map (zt b sc)))) → W p l e R s m args below meth c H locs cells slots Q (F0 m pc ls (st.map (zt b sc))))
    (hs : ∀ v ∈ t, v ∈ st) (h : (if q then zgo i tg L t M else zgo i (pc + 3) L t M) = some (.inl cf)) (k : zG p l e R s m args below meth c D CA b sc n0 z0 cf r) : zG p l e R s m args below meth c D CA b sc n0 z0 (i, pc, L, st, M) r := by
  refine zG_i (fun H locs ls cells slots hP hl hS hc hz hst hw => ?_)
  refine row (fun hq => ?_) (fun hq => ?_)
  · rw [if_pos hq] at h
    cases h
    exact k H locs ls cells slots hP hl hS hc hz (fun v hv => hst v (hs v hv)) hw
  · rw [if_neg hq] at h
    cases h
    exact k H locs ls cells slots hP hl hS hc hz (fun v hv => hst v (hs v hv)) hw
theorem z_ifn {i pc tg : Nat} {q : Prop} [Decidable q] {L t st : List Value} {M : zM} {cf : zC} {r : zR}
    (row : ∀ {H : Heap} {locs : List Loc} {cells slots : Nat} {Q : State → Prop} {ls : Array Slot}, (¬ q → W p l e R s m args below meth c H locs cells slots Q (F0 m tg ls (t.map (zt b sc)))) → (q → W p l e R s m args below meth c H locs cells slots Q (F0 m (pc + 3) ls (t.map (zt b sc)))) → W p l e R s m args below meth c H locs cells slots Q (F0 m pc ls (st.map (zt b sc))))
    (hs : ∀ v ∈ t, v ∈ st) (h : (if q then zgo i (pc + 3) L t M else zgo i tg L t M) = some (.inl cf)) (k : zG p l e R s m args below meth c D CA b sc n0 z0 cf r) : zG p l e R s m args below meth c D CA b sc n0 z0 (i, pc, L, st, M) r := by
  refine zG_i (fun H locs ls cells slots hP hl hS hc hz hst hw => ?_)
  refine row (fun hq => ?_) (fun hq => ?_)
  · rw [if_neg hq] at h
    cases h
    exact k H locs ls cells slots hP hl hS hc hz (fun v hv => hst v (hs v hv)) hw
  · rw [if_pos hq] at h
    cases h
    exact k H locs ls cells slots hP hl hS hc hz (fun v hv => hst v (hs v hv)) hw
theorem z_le {x y : Int32} : ¬ x < y ↔ y ≤ x := Int32.not_lt
theorem z_x2 {i pc : Nat} {ins : Jvm.ClassFile.Instr} {inf : zI} {L st : List Value} {M : zM} {cf : zC} {r : zR} (B : zB p R s m args meth c D CA b sc n0 sp i) (hd : zdc (zb i) pc ins) (hj : zjB pc ins inf = true)
    (h : zx2 i pc ins inf L st M = some (.inl cf)) (k : zG p l e R s m args below meth c D CA b sc n0 z0 cf r) : zG p l e R s m args below meth c D CA b sc n0 z0 (i, pc, L, st, M) r := by
  have hx := B.1
  have hb := B.2.1
  cases inf with
  | nil => cases h
  | cons q inf' =>
    cases ins
    case goto off =>
      have ht := of_decide_eq_true hj
      cases h
      refine zG_i (fun H locs ls cells slots hP hl hS hc hz hst hw => ?_)
      exact lv_goto hx hb hd ht (k H locs ls cells slots hP hl hS hc hz hst hw)
    case ifCond cd off =>
      have ht := of_decide_eq_true hj
      dsimp only [zx2] at h
      split at h
      · rename_i x t
        cases cd
        case eq => exact z_if (fun a a' => lv_if_eq hx hb hd ht a a') (fun v hv => List.mem_cons_of_mem _ hv) h k
        case ne => exact z_ifn (fun a a' => lv_if_ne hx hb hd ht a a') (fun v hv => List.mem_cons_of_mem _ hv) h k
        case lt => exact z_if (fun a a' => lv_if_lt hx hb hd ht a a') (fun v hv => List.mem_cons_of_mem _ hv) h k
        case ge => exact z_ifn (fun a a' => lv_if_ge hx hb hd ht (fun w => a (z_le.mpr w)) (fun w => a' (Classical.byContradiction fun z => w (z_le.mp z)))) (fun v hv => List.mem_cons_of_mem _ hv) h k
        case gt => exact z_if (fun a a' => lv_if_gt hx hb hd ht a a') (fun v hv => List.mem_cons_of_mem _ hv) h k
        case le => exact z_ifn (fun a a' => lv_if_le hx hb hd ht (fun w => a (z_le.mpr w)) (fun w => a' (Classical.byContradiction fun z => w (z_le.mp z)))) (fun v hv => List.mem_cons_of_mem _ hv) h k
      · cases h
    case if_icmp cd off =>
      have ht := of_decide_eq_true hj
      dsimp only [zx2] at h
      split at h
      · rename_i y x t
        have hs : ∀ v ∈ t, v ∈ (Value.int y :: Value.int x :: t) := fun v hv => List.mem_cons_of_mem _ (List.mem_cons_of_mem _ hv)
        cases cd
        case eq => exact z_if (fun a a' => lv_icmp_eq hx hb hd ht a a') hs h k
        case ne => exact z_ifn (fun a a' => lv_icmp_ne hx hb hd ht a a') hs h k
        case lt => exact z_if (fun a a' => lv_icmp_lt hx hb hd ht a a') hs h k
        case ge => exact z_ifn (fun a a' => lv_icmp_ge hx hb hd ht (fun w => a (z_le.mpr w)) (fun w => a' (Classical.byContradiction fun z => w (z_le.mp z)))) hs h k
        case gt => exact z_if (fun a a' => lv_icmp_gt hx hb hd ht a a') hs h k
        case le => exact z_ifn (fun a a' => lv_icmp_le hx hb hd ht (fun w => a (z_le.mpr w)) (fun w => a' (Classical.byContradiction fun z => w (z_le.mp z)))) hs h k
      · cases h
    case ifnull off =>
      have ht := of_decide_eq_true hj
      dsimp only [zx2] at h
      split at h
      · rename_i v t
        split at h
        · rename_i hA
          cases v with
          | ref a => exact z_if (fun u u' => lv_ifnull hx hb hd (u' (fun z => by cases z))) (fun v hv => List.mem_cons_of_mem _ hv) h k
          | null => exact z_if (fun u u' => lv_ifnullN hx hb hd ht (u rfl)) (fun v hv => List.mem_cons_of_mem _ hv) h k
          | _ => cases hA
        · cases h
      · cases h
    case ifnonnull off =>
      have ht := of_decide_eq_true hj
      dsimp only [zx2] at h
      split at h
      · rename_i v t
        split at h
        · rename_i hA
          cases v with
          | ref a => exact z_ifn (fun u u' => lv_ifnonnull hx hb hd ht (u (fun z => by cases z))) (fun v hv => List.mem_cons_of_mem _ hv) h k
          | null => exact z_ifn (fun u u' => lv_ifnonnullN hx hb hd (u' rfl)) (fun v hv => List.mem_cons_of_mem _ hv) h k
          | _ => cases hA
        · cases h
      · cases h
    case if_acmp cd off =>
      have ht := of_decide_eq_true hj
      dsimp only [zx2] at h
      split at h
      · rename_i w v t
        split at h
        · rename_i hA
          have hs : ∀ u ∈ t, u ∈ (w :: v :: t) := fun u hv => List.mem_cons_of_mem _ (List.mem_cons_of_mem _ hv)
          have hq : ∀ {x y : Option Nat}, x.map (fun q => b + q) = y.map (fun q => b + q) ↔ x = y := by
            intro x y
            cases x <;> cases y <;> simp
          have e1 : (w :: v :: t).map (zt b sc) = va_rf ((zq w).map (fun q => b + q)) :: va_rf ((zq v).map (fun q => b + q)) :: t.map (zt b sc) := by
            rw [List.map_cons, List.map_cons, zt_A hA.1, zt_A hA.2]
          cases cd
          case eq => exact z_if (fun a a' => by rw [e1]; exact lv_acmp_eq hx hb hd ht (fun z => a (hq.mp z)) (fun z => a' (fun z' => z (hq.mpr z')))) hs h k
          case ne => exact z_ifn (fun a a' => by rw [e1]; exact lv_acmp_ne hx hb hd ht (fun z => a (fun z' => z (hq.mpr z'))) (fun z => a' (hq.mp z))) hs h k
        · cases h
      · cases h
    case tableswitch df lo hi offs =>
      obtain ⟨len, hd⟩ := hd
      dsimp only [zx2] at h
      simp only [zjB, Bool.and_eq_true, decide_eq_true_eq] at hj
      obtain ⟨⟨⟨⟨j1, j2⟩, j3⟩, j4⟩, j5⟩ := hj
      subst j2
      split at h
      · rename_i x t
        rcases zsw_some h with ⟨h1, h2⟩ | ⟨n, q', h1, h2, h3⟩
        · cases h1
          refine zG_i (fun H locs ls cells slots hP hl hS hc hz hst hw => ?_)
          refine lv_tableOut hx hb hd ?_ j1 (k H locs ls cells slots hP hl hS hc hz (fun v hv => hst v (List.mem_cons_of_mem _ hv)) hw)
          refine Classical.byContradiction fun z => ?_
          have z1 : 0 ≤ x.toInt := by omega
          have z2 : x.toInt < inf'.length := by omega
          obtain ⟨q', hq'⟩ : ∃ q', inf'[x.toInt.toNat]? = some q' := ⟨_, List.getElem?_eq_getElem (by omega)⟩
          refine h2 q' (List.mem_of_getElem? hq') ?_
          rw [(zjT_at j5 hq').1]
          apply Int32.toInt_inj.mp
          rw [Nat.zero_add]
          have := nI_toInt (n := x.toInt.toNat) (by omega)
          unfold nI at this
          rw [this]
          omega
        · cases h3
          obtain ⟨g1, off, g2, g3⟩ := zjT_at j5 h1
          have hn : n < inf'.length := (List.getElem?_eq_some_iff.mp h1).1
          have hxn : x.toInt = (n : Int) := by
            rw [h2, g1, Nat.zero_add]
            have := nI_toInt (n := n) (by omega)
            unfold nI at this
            exact this
          refine zG_i (fun H locs ls cells slots hP hl hS hc hz hst hw => ?_)
          refine lv_tableIn hx hb hd (by omega) (by omega) (off := off) ?_ g3 (k H locs ls cells slots hP hl hS hc hz (fun v hv => hst v (List.mem_cons_of_mem _ hv)) hw)
          rw [show (x.toInt - 0).toNat = n by omega]
          simpa using g2
      · cases h
    all_goals (change (none : zO) = _ at h; cases h)
/-! memory -/
theorem zgf_some {x : Nat} {K : Nat → Nat → zO} {o : zC ⊕ zR ⊕ (zC × Nat × Nat × List Value × List Value)} : ∀ {inf : zI}, zgf inf x K = some o → ∃ q ∈ inf, x = q.1 ∧ K q.2.1 q.2.2 = some o
  | [], h => by cases h
  | q :: t, h => by
    rw [zgf] at h
    by_cases hx : x = q.1
    · rw [if_pos hx] at h
      exact ⟨q, List.mem_cons_self, hx, h⟩
    · rw [if_neg hx] at h
      obtain ⟨q', h1, h2⟩ := zgf_some h
      exact ⟨q', List.mem_cons_of_mem _ h1, h2⟩
def zfs (b : Nat) (M : zM) (a ci : Nat) : List Value := (List.range (zN ci)).map fun j => if zRf ci j = true then va_rf ((zr M a j).map (fun q => b + q)) else .int (zi M a j)
theorem zE_obj {CA : Nat → ClassId} {b : Nat} {M : zM} {a ci : Nat} (h : (zk M a).1 = ci) (hc : ci < 20) : zE CA b M a = .inr (ci, zfs b M a ci) := by
  subst h
  unfold zE zfs
  rw [if_pos hc]
theorem zfs_get {b : Nat} {M : zM} {a ci j : Nat} (hj : j < zN ci) : (zfs b M a ci)[j]? = some (if zRf ci j = true then va_rf ((zr M a j).map (fun q => b + q)) else .int (zi M a j)) := by
  simp [zfs, List.getElem?_map, List.getElem?_range hj]
theorem zfs_len {b : Nat} {M : zM} {a ci : Nat} : (zfs b M a ci).length = zN ci := by simp [zfs]
theorem zE_arr {CA : Nat → ClassId} {b : Nat} {M : zM} {a : Nat} (h : 20 ≤ (zk M a).1) (h2 : (zk M a).1 < 22) : zE CA b M a = .inl (CA ((zk M a).1 - 20), (zk M a).2, .inl (zi M a)) := by
  unfold zE
  rw [if_neg (by omega), if_pos h2]
theorem zE_ref {CA : Nat → ClassId} {b : Nat} {M : zM} {a : Nat} (h : 22 ≤ (zk M a).1) : zE CA b M a = .inl (CA ((zk M a).1 - 20), (zk M a).2, .inr (.inr (.inr (.inr fun j => (zr M a j).map (fun q => b + q))))) := by
  unfold zE
  rw [if_neg (by omega), if_neg (by omega)]
theorem zE_wi {CA : Nat → ClassId} {b : Nat} {M : zM} {a j : Nat} {x : Int32} (k : Nat) (hk : k ≠ a) : zE CA b (zwi M a j x) k = zE CA b M k := by
  have h : ∀ j', zi (zwi M a j x) k j' = zi M k j' := fun j' => by
    show (if k = a ∧ j' = j then x else zi M k j') = _
    rw [if_neg (fun z => hk z.1)]
  have h2 : zi (zwi M a j x) k = zi M k := funext h
  have h3 : ∀ k, zk (zwi M a j x) k = zk M k := fun _ => rfl
  have h4 : ∀ k j', zr (zwi M a j x) k j' = zr M k j' := fun _ _ => rfl
  simp only [zE, h2, h3, h4]
theorem zE_wr {CA : Nat → ClassId} {b : Nat} {M : zM} {a j : Nat} {x : Option Nat} (k : Nat) (hk : k ≠ a) : zE CA b (zwr M a j x) k = zE CA b M k := by
  have h : ∀ j', zr (zwr M a j x) k j' = zr M k j' := fun j' => by
    show (if k = a ∧ j' = j then x else zr M k j') = _
    rw [if_neg (fun z => hk z.1)]
  have h3 : ∀ k, zk (zwr M a j x) k = zk M k := fun _ => rfl
  have h4 : ∀ k j', zi (zwr M a j x) k j' = zi M k j' := fun _ _ => rfl
  have h5 : ∀ k, zi (zwr M a j x) k = zi M k := fun _ => rfl
  simp only [zE, h, h3, h4, h5]
theorem zE_al {CA : Nat → ClassId} {b : Nat} {M : zM} {t len n : Nat} (k : Nat) (hk : k < zn M) : zE CA b (zal M t len n) k = zE CA b M k := by
  have hne : ¬ k = M.2.2.2.1 := fun z => by
    have : k < M.2.2.2.1 := hk
    omega
  have h1 : zk (zal M t len n) k = zk M k := by
    show (if k = M.2.2.2.1 then (t, len) else zk M k) = _
    rw [if_neg hne]
  have h2 : ∀ j', zi (zal M t len n) k j' = zi M k j' := fun j' => by
    show (if k = M.2.2.2.1 then 0 else zi M k j') = _
    rw [if_neg hne]
  have h3 : ∀ j', zr (zal M t len n) k j' = zr M k j' := fun j' => by
    show (if k = M.2.2.2.1 then none else zr M k j') = _
    rw [if_neg hne]
  have h4 : zi (zal M t len n) k = zi M k := funext h2
  simp only [zE, h1, h2, h3, h4]
theorem zal_k {M : zM} {t len n : Nat} : zk (zal M t len n) (zn M) = (t, len) := by
  show (if M.2.2.2.1 = M.2.2.2.1 then (t, len) else _) = _
  rw [if_pos rfl]
theorem zal_i {M : zM} {t len n j : Nat} : zi (zal M t len n) (zn M) j = 0 := by
  show (if M.2.2.2.1 = M.2.2.2.1 then (0 : Int32) else _) = _
  rw [if_pos rfl]
theorem zal_r {M : zM} {t len n j : Nat} : zr (zal M t len n) (zn M) j = none := by
  show (if M.2.2.2.1 = M.2.2.2.1 then none else _) = _
  rw [if_pos rfl]
theorem zwf_lt {M : zM} (h : zwf M) {a : Nat} (hk : (zk M a).1 < 25) : a < zn M := Nat.not_le.mp fun z => by
  have := h a z
  omega
theorem zwf_wi {M : zM} (h : zwf M) {a j : Nat} {x : Int32} : zwf (zwi M a j x) := fun a h1 => h a h1
theorem zwf_wr {M : zM} (h : zwf M) {a j : Nat} {x : Option Nat} : zwf (zwr M a j x) := fun a h1 => h a h1
theorem zwf_al {M : zM} (h : zwf M) {t len n : Nat} : zwf (zal M t len n) := fun a h1 => by
  have h1 : M.2.2.2.1 + 1 ≤ a := h1
  show 25 ≤ (if a = M.2.2.2.1 then (t, len) else zk M a).1
  rw [if_neg (by omega)]
  exact h a (show M.2.2.2.1 ≤ a by omega)
theorem zfs_wi {b : Nat} {M : zM} {a ci j : Nat} {x : Int32} (hj : j < zN ci) (hr : zRf ci j = false) : zfs b (zwi M a j x) a ci = (zfs b M a ci).set j (.int x) := by
  apply List.ext_getElem?
  intro k
  by_cases hk : k < zN ci
  · rw [zfs_get hk]
    by_cases hkj : k = j
    · subst hkj
      rw [List.getElem?_set_self (by rw [zfs_len]; exact hk), hr]
      show some (Value.int (if a = a ∧ k = k then x else zi M a k)) = _
      rw [if_pos ⟨rfl, rfl⟩]
    · rw [List.getElem?_set_ne (Ne.symm hkj), zfs_get hk]
      show some (if zRf ci k = true then va_rf ((zr M a k).map _) else Value.int (if a = a ∧ k = j then x else zi M a k)) = _
      rw [if_neg (fun z : a = a ∧ k = j => hkj z.2)]
  · rw [List.getElem?_eq_none (by rw [zfs_len]; omega), List.getElem?_eq_none (by rw [List.length_set, zfs_len]; omega)]
theorem zfs_wr {b : Nat} {M : zM} {a ci j : Nat} {x : Option Nat} (hj : j < zN ci) (hr : zRf ci j = true) : zfs b (zwr M a j x) a ci = (zfs b M a ci).set j (va_rf (x.map (fun q => b + q))) := by
  apply List.ext_getElem?
  intro k
  by_cases hk : k < zN ci
  · rw [zfs_get hk]
    by_cases hkj : k = j
    · subst hkj
      rw [List.getElem?_set_self (by rw [zfs_len]; exact hk), if_pos hr]
      show some (va_rf ((if a = a ∧ k = k then x else zr M a k).map _)) = _
      rw [if_pos ⟨rfl, rfl⟩]
    · rw [List.getElem?_set_ne (Ne.symm hkj), zfs_get hk]
      show some (if zRf ci k = true then va_rf ((if a = a ∧ k = j then x else zr M a k).map _) else Value.int (zi M a k)) = _
      rw [if_neg (fun z : a = a ∧ k = j => hkj z.2)]
  · rw [List.getElem?_eq_none (by rw [zfs_len]; omega), List.getElem?_eq_none (by rw [List.length_set, zfs_len]; omega)]
theorem z_getf {i pc idx : Nat} {inf : zI} {a : Nat} {L t : List Value} {M : zM} {cf : zC} {r : zR} (B : zB p R s m args meth c D CA b sc n0 sp i) (hd : decode (zb i) pc = .ok (.getfield idx, 3)) (hF : ∀ q ∈ inf, zfk (zy i) false idx q)
    (h : zgf inf (zk M a).1 (fun j k => if k = 2 then zgo i (pc + 3) L (va_rf (zr M a j) :: t) M else zgo i (pc + 3) L (.int (zi M a j) :: t) M) = some (.inl cf)) (k : zG p l e R s m args below meth c D CA b sc n0 z0 cf r) : zG p l e R s m args below meth c D CA b sc n0 z0 (i, pc, L, .ref a :: t, M) r := by
  obtain ⟨hx, hb, hml, hown, ⟨hts, hxs⟩, hme, hK, hrest⟩ := B
  obtain ⟨q, hq, e1, h⟩ := zgf_some h
  obtain ⟨C, T, N, ty0, ref, ⟨c1, c2, c3, c4, c5, c6⟩, g1, g2, g3, g4, -⟩ := hF q hq
  subst c3
  have hsame : ∀ x, s.fieldFound? (T q.2.1).1 (T q.2.1).2.1 (T q.2.1).2.2.1 = some x → s.fieldFound? ref (T q.2.1).2.1 (T q.2.1).2.2.1 = some x := by
    intro x hx'
    rcases g3 with g3 | g3
    · rw [g3]; exact hx'
    · exact u_same (hts _ g3) x hx'
  have key : ∀ (v : Value), (if zRf q.1 q.2.1 = true then va_rf ((zr M a q.2.1).map (fun q => b + q)) else Value.int (zi M a q.2.1)) = zt b sc v → zok v = true → zG p l e R s m args below meth c D CA b sc n0 z0 (i, pc + 3, L, v :: t, M) r → zG p l e R s m args below meth c D CA b sc n0 z0 (i, pc, L, .ref a :: t, M) r := by
    intro v hv hvo k
    refine zG_i (fun H locs ls cells slots hP hl hS hc hz hst hw => ?_)
    have ha : a < zn M := zwf_lt hw (by rw [e1]; omega)
    have he : (zW CA b M)[a]? = some (b + a, .inr (q.1, zfs b M a q.1)) := by rw [zW_get ha, zE_obj e1 c2]
    have hvv : (zfs b M a q.1)[q.2.1]? = some (zt b sc v) := by rw [zfs_get g1, hv]
    have kk := k H locs ls cells slots hP hl hS hc hz (fun w hw => by
      rcases List.mem_cons.mp hw with h | h
      · subst h; exact hvo
      · exact hst w (List.mem_cons_of_mem _ h)) hw
    rcases g2 with g2 | ⟨-, host, g2⟩
    · exact va_get hx hb hts c4 hown hK hP a he c1 q.2.1 g1 (hts _ g2) hsame hvv hd kk
    · exact va_getN hx hb hts c4 hown hK hP a he c1 q.2.1 g1 (va_Nw.use rfl (hxs _ g2)) hsame hvv hd kk
  rcases g4 with ⟨k0, k1, -⟩ | ⟨k0, k1, -⟩ | ⟨k0, k1, -⟩
  · rw [k0, if_neg (by decide)] at h
    cases h
    exact key (.int (zi M a q.2.1)) (by rw [k1]; rfl) rfl k
  · rw [k0, if_neg (by decide)] at h
    cases h
    exact key (.int (zi M a q.2.1)) (by rw [k1]; rfl) rfl k
  · rw [k0, if_pos rfl] at h
    cases h
    exact key (va_rf (zr M a q.2.1)) (by rw [k1, zt_rf]; rfl) zok_rf k
theorem z_putf {i pc idx : Nat} {inf : zI} {a : Nat} {v : Value} {L t : List Value} {M : zM} {cf : zC} {r : zR} (B : zB p R s m args meth c D CA b sc n0 sp i) (hd : decode (zb i) pc = .ok (.putfield idx, 3)) (hF : ∀ q ∈ inf, zfk (zy i) true idx q)
    (h : zgf inf (zk M a).1 (fun j k => if k = 2 then (if zA v = true then zgo i (pc + 3) L t (zwr M a j (zq v)) else none) else (match v with
      | .int x => if k = 0 then zgo i (pc + 3) L t (zwi M a j x) else (if x = 0 ∨ x = 1 then zgo i (pc + 3) L t (zwi M a j x) else none)
      | _ => none)) = some (.inl cf)) (k : zG p l e R s m args below meth c D CA b sc n0 z0 cf r) : zG p l e R s m args below meth c D CA b sc n0 z0 (i, pc, L, v :: .ref a :: t, M) r := by
  obtain ⟨hx, hb, hml, hown, ⟨hts, hxs⟩, ⟨hme, hret, hin⟩, hK, hrest⟩ := B
  obtain ⟨q, hq, e1, h⟩ := zgf_some h
  obtain ⟨C, T, N, ty0, ref, ⟨c1, c2, c3, c4, c5, c6⟩, g1, g2, g3, g4, g5⟩ := hF q hq
  subst c3
  have g5 := g5 rfl
  have hsame : ∀ x, s.fieldFound? (T q.2.1).1 (T q.2.1).2.1 (T q.2.1).2.2.1 = some x → s.fieldFound? ref (T q.2.1).2.1 (T q.2.1).2.2.1 = some x := by
    intro x hx'
    rcases g3 with g3 | g3
    · rw [g3]; exact hx'
    · exact u_same (hts _ g3) x hx'
  have key : ∀ (M' : zM), zn M' = zn M → zz M' = zz M → (zwf M → zwf M') → (∀ k, k ≠ a → zE CA b M' k = zE CA b M k) → (zk M' a).1 = q.1 → zfs b M' a q.1 = (zfs b M a q.1).set q.2.1 (zt b sc v) → narrow (ty0 q.2.1) (zt b sc v) = zt b sc v → fits (ty0 q.2.1) (zt b sc v) = true → zG p l e R s m args below meth c D CA b sc n0 z0 (i, pc + 3, L, t, M') r → zG p l e R s m args below meth c D CA b sc n0 z0 (i, pc, L, v :: .ref a :: t, M) r := by
    intro M' m1 m2 m3 m4 m5 m6 hn hf k
    refine zG_i (fun H locs ls cells slots hP hl hS hc hz hst hw => ?_)
    have ha : a < zn M := zwf_lt hw (by rw [e1]; omega)
    have he : (zW CA b M)[a]? = some (b + a, .inr (q.1, zfs b M a q.1)) := by rw [zW_get ha, zE_obj e1 c2]
    have hset : (zW CA b M).set a (b + a, .inr (q.1, (zfs b M a q.1).set q.2.1 (zt b sc v))) = zW CA b M' := by
      rw [← m6, ← zE_obj (CA := CA) m5 c2]
      exact zW_set m1 m4
    have kk : ∀ (H1 : Heap) (locs1 : List Loc), va_P D vwCl ((zW CA b M).set a (b + a, .inr (q.1, (zfs b M a q.1).set q.2.1 (zt b sc v)))) H1 → va_D (fun q => b ≤ q) ((zW CA b M).set a (b + a, .inr (q.1, (zfs b M a q.1).set q.2.1 (zt b sc v)))) → va_S (fun q => b ≤ q) s.heap H1 locs1 → W p l e R s m args below meth c H1 locs1 cells slots (MQ below (zQ D CA b sc r) args s (zn r.2 - n0) (zz r.2 - z0) (fun q => b ≤ q)) (F0 m (pc + 3) ls (t.map (zt b sc))) := by
      intro H1 locs1 hP1 _ hS1
      rw [hset] at hP1
      exact k H1 locs1 ls cells slots hP1 hl hS1 (by rw [hc]; exact m1.symm) (by rw [hz]; exact m2.symm) (fun w hw => hst w (List.mem_cons_of_mem _ (List.mem_cons_of_mem _ hw))) (m3 hw)
    have hlen : q.2.1 < (zfs b M a q.1).length := by rw [zfs_len]; exact g1
    rcases g2 with g2 | ⟨g2', host, g2⟩
    · rcases g5 with g5 | ⟨g5, g6, g7⟩
      · exact va_put hx hb hts c4 ty0 c5 c6 hown hK hP zW_D hS a he c1 q.2.1 g1 (hts _ g2) hsame g5 (c5 _ g1) hn hf hlen hd kk
      · exact va_putF hx hb hts c4 ty0 c5 c6 hown hK hP zW_D hS a he c1 q.2.1 g1 (hts _ g2) hsame g5 (hin g6) g7 (c5 _ g1) hn hf hlen hd kk
    · exact va_putN hx hb hts c4 ty0 c5 c6 hown hK hP zW_D hS a he c1 q.2.1 g1 (va_Nw.use rfl (hxs _ g2)) hsame (g2' rfl) (c5 _ g1) hn hf hlen hd kk
  have b01 : ∀ x : Int32, (x = 0 ∨ x = 1) → narrow .boolean (.int x) = .int x ∧ fits .boolean (.int x) = true := by
    intro x hx
    rcases hx with hx | hx <;> subst hx <;> exact ⟨rfl, rfl⟩
  rcases g4 with ⟨k0, k1, k2⟩ | ⟨k0, k1, k2⟩ | ⟨k0, k1, k2⟩
  · rw [k0, if_neg (by decide)] at h
    cases v with
    | int x =>
      dsimp only at h
      rw [if_pos rfl] at h
      cases h
      exact key (zwi M a q.2.1 x) rfl rfl (fun h => zwf_wi h) zE_wi e1 (zfs_wi g1 k1) (by rw [k2]; rfl) (by rw [k2]; rfl) k
    | _ => cases h
  · rw [k0, if_neg (by decide)] at h
    cases v with
    | int x =>
      dsimp only at h
      rw [if_neg (by decide)] at h
      split at h
      · rename_i hx01
        cases h
        exact key (zwi M a q.2.1 x) rfl rfl (fun h => zwf_wi h) zE_wi e1 (zfs_wi g1 k1) (by rw [k2]; exact (b01 x hx01).1) (by rw [k2]; exact (b01 x hx01).2) k
      · cases h
    | _ => cases h
  · rw [k0, if_pos rfl] at h
    split at h
    · rename_i hA
      cases h
      refine key (zwr M a q.2.1 (zq v)) rfl rfl (fun h => zwf_wr h) zE_wr e1 (by rw [zt_A hA]; exact zfs_wr g1 k1) ?_ ?_ k
      · rcases k2 with ⟨n, k2⟩ | ⟨n, k2⟩ <;> rw [k2] <;> cases v <;> first | rfl | cases hA
      · rcases k2 with ⟨n, k2⟩ | ⟨n, k2⟩ <;> rw [k2] <;> cases v <;> first | rfl | cases hA
    · cases h
theorem zin_vp {k : Int32} {n : Nat} (h : zin k n = true) : vp_in k n := by
  have h := of_decide_eq_true h
  intro z
  rcases z with z | z
  · exact h.1 z
  · omega
theorem z_fresh {D : va_G} {CA : Nat → ClassId} {b : Nat} {M : zM} {q : Nat} {x : va_E} {H1 : Heap} (hP : va_P D vwCl (zW CA b M ++ [(q, x)]) H1) (hD : va_D (fun q => b ≤ q) (zW CA b M ++ [(q, x)])) (hz : H1.size ≤ b + zn M + 1) : q = b + zn M := by
  have g1 : (zW CA b M ++ [(q, x)])[zn M]? = some (q, x) := by
    rw [List.getElem?_append_right (by rw [zW_len]; exact Nat.le_refl _), zW_len, Nat.sub_self]
    rfl
  have h1 : q < H1.size := (hP _ _ g1).lt
  have h2 : b ≤ q := hD.2 _ _ g1
  refine Classical.byContradiction fun hne => ?_
  have hlt : q - b < zn M := by omega
  have g2 : (zW CA b M ++ [(q, x)])[q - b]? = some (b + (q - b), zE CA b M (q - b)) := by
    rw [List.getElem?_append_left (by rw [zW_len]; exact hlt)]
    exact zW_get hlt
  have := hD.1 _ _ _ _ g2 g1 (show b + (q - b) = q by omega)
  omega
theorem zT_get {CA : Nat → ClassId} {t : Nat} (h : 22 ≤ t) (h2 : t < 25) : (zT CA)[t - 20]? = some (CA (t - 20), .object (zel t)) := by
  have : t = 22 ∨ t = 23 ∨ t = 24 := by omega
  rcases this with h | h | h <;> subst h <;> rfl
theorem z_al {i pc d : Nat} {L t st : List Value} {M : zM} {ty len n : Nat} {r : zR} (B : zB p R s m args meth c D CA b sc n0 sp i) (hmn : zn (zal M ty len n) ≤ zn r.2 ∧ zz (zal M ty len n) ≤ zz r.2) (hR : zn r.2 - n0 ≤ R.cells ∧ zz r.2 - z0 ≤ R.slots)
    (row : ∀ {H : Heap} {locs : List Loc} {cells slots : Nat} {Q : State → Prop} {ls : Array Slot}, va_P D vwCl (zW CA b M) H → va_D (fun q => b ≤ q) (zW CA b M) → va_S (fun q => b ≤ q) s.heap H locs → (∀ q, s.heap.size ≤ q → b ≤ q) → cells + 1 ≤ R.cells → slots + n ≤ R.slots → (∀ (q : Nat) (H1 : Heap), va_P D vwCl (zW CA b M ++ [(q, zE CA b (zal M ty len n) (zn M))]) H1 → va_D (fun q => b ≤ q) (zW CA b M ++ [(q, zE CA b (zal M ty len n) (zn M))]) → va_S (fun q => b ≤ q) s.heap H1 locs → W p l e R s m args below meth c H1 locs (cells + 1) (slots + n) Q (F0 m d ls (.ref q :: t.map (zt b sc)))) → W p l e R s m args below meth c H locs cells slots Q (F0 m pc ls (st.map (zt b sc))))
    (hs : ∀ v ∈ t, v ∈ st) (k : zG p l e R s m args below meth c D CA b sc n0 z0 (i, d, L, .ref (zn M) :: t, zal M ty len n) r) : zG p l e R s m args below meth c D CA b sc n0 z0 (i, pc, L, st, M) r := by
  obtain ⟨hx, hb, hml, hown, ⟨hts, hxs⟩, hme, hK, hrf, hrl, hsz, hsc, hX⟩ := B
  refine zG_i (fun H locs ls cells slots hP hl hS hc hz hst hw => ?_)
  have hc : cells + n0 = zn M := hc
  have hz : slots + z0 = zz M := hz
  have hn1 : zn (zal M ty len n) = zn M + 1 := rfl
  have hz1 : zz (zal M ty len n) = zz M + n := rfl
  rw [hn1, hz1] at hmn
  refine row hP zW_D hS (fun q h => by omega) (by omega) (by omega) (fun q H1 hP1 hD1 hS1 => z_sz fun hsz1 => ?_)
  have hq : q = b + zn M := z_fresh hP1 hD1 (by omega)
  subst hq
  rw [zW_push (M' := zal M ty len n) hn1 (fun k hk => zE_al k hk)] at hP1
  refine k H1 locs ls (cells + 1) (slots + n) hP1 hl hS1 (by show cells + 1 + n0 = zn M + 1; omega) (by show slots + n + z0 = zz M + n; omega) (fun v hv => ?_) (zwf_al hw)
  rcases List.mem_cons.mp hv with h | h
  · subst h; rfl
  · exact hst v (hs v h)
theorem z_K {D : va_G} {CA : Nat → ClassId} {U : State} {cA : ClassId} {ty : FieldType} {t : Nat} (hK : va_K D vwCl (zT CA) U) (ht : (zT CA)[t]? = some (CA t, ty)) (hK1 : va_K D vwCl (zT CA ++ [(cA, ty)]) U) : cA = CA t := by
  have g1 := (hK.2 t _ ht).2
  have g2 := (hK1.2 (zT CA).length (cA, ty) (by rw [List.getElem?_append_right (Nat.le_refl _), Nat.sub_self]; rfl)).2
  cases ty with
  | object C =>
    obtain ⟨_, _, -, -, -, g1⟩ := g1
    obtain ⟨_, _, -, -, -, g2⟩ := g2
    exact Option.some.inj (g2.symm.trans g1)
  | _ => exact Option.some.inj (g2.symm.trans g1)
theorem z_x3 {i pc : Nat} {ins : Jvm.ClassFile.Instr} {inf : zI} {L st : List Value} {M : zM} {cf : zC} {r : zR} (B : zB p R s m args meth c D CA b sc n0 sp i) (hd : zdc (zb i) pc ins) (ho : zo3 (zy i) ins inf) (hmn : zn cf.2.2.2.2 ≤ zn r.2 ∧ zz cf.2.2.2.2 ≤ zz r.2) (hR : zn r.2 - n0 ≤ R.cells ∧ zz r.2 - z0 ≤ R.slots)
    (h : zx3 (zPr sp) i pc ins inf L st M = some (.inl cf)) (k : zG p l e R s m args below meth c D CA b sc n0 z0 cf r) : zG p l e R s m args below meth c D CA b sc n0 z0 (i, pc, L, st, M) r := by
  have B0 := B
  obtain ⟨hx, hb, hml, hown, ⟨hts, hxs⟩, hme, hK, hrf, hrl, hsz, hsc, hX⟩ := B0
  cases ins
  case getfield idx =>
    dsimp only [zx3] at h
    split at h
    · exact z_getf B hd ho h k
    · cases h
  case putfield idx =>
    dsimp only [zx3] at h
    split at h
    · exact z_putf B hd ho h k
    · cases h
  case iaload =>
    dsimp only [zx3] at h
    split at h
    · rename_i kx a t
      split at h
      · rename_i h20
        split at h
        · rename_i hin
          cases h
          refine zG_i (fun H locs ls cells slots hP hl hS hc hz hst hw => ?_)
          have ha : a < zn M := zwf_lt hw (by rw [h20]; decide)
          have he := zW_get (CA := CA) (b := b) ha
          rw [zE_arr (by omega) (by omega), h20] at he
          exact va_iald hx hb hK hP a 0 he rfl (zin_vp hin) hd (k H locs ls cells slots hP hl hS hc hz (fun v hv => by
            rcases List.mem_cons.mp hv with h | h
            · subst h; rfl
            · exact hst v (List.mem_cons_of_mem _ (List.mem_cons_of_mem _ h))) hw)
        · cases h
      · cases h
    · rename_i kx a t
      split at h
      · rename_i hin
        cases h
        refine zG_i (fun H locs ls cells slots hP hl hS hc hz hst hw => ?_)
        exact va_sld hx hb hX (by omega) (show ¬ b ≤ sc by omega) hS (zin_vp hin) hd (k H locs ls cells slots hP hl hS hc hz (fun v hv => by
          rcases List.mem_cons.mp hv with h | h
          · subst h; rfl
          · exact hst v (List.mem_cons_of_mem _ (List.mem_cons_of_mem _ h))) hw)
      · cases h
    · cases h
  case baload =>
    dsimp only [zx3] at h
    split at h
    · rename_i kx a t
      split at h
      · rename_i h20
        split at h
        · rename_i hin
          cases h
          refine zG_i (fun H locs ls cells slots hP hl hS hc hz hst hw => ?_)
          have ha : a < zn M := zwf_lt hw (by rw [h20]; decide)
          have he := zW_get (CA := CA) (b := b) ha
          rw [zE_arr (by omega) (by omega), h20] at he
          exact va_zald hx hb hK hP a 1 he rfl (zin_vp hin) hd (k H locs ls cells slots hP hl hS hc hz (fun v hv => by
            rcases List.mem_cons.mp hv with h | h
            · subst h; rfl
            · exact hst v (List.mem_cons_of_mem _ (List.mem_cons_of_mem _ h))) hw)
        · cases h
      · cases h
    · cases h
  case aaload =>
    dsimp only [zx3] at h
    split at h
    · rename_i kx a t
      split at h
      · rename_i h20
        split at h
        · rename_i hin
          cases h
          refine zG_i (fun H locs ls cells slots hP hl hS hc hz hst hw => ?_)
          have ha : a < zn M := zwf_lt hw (by omega)
          have he := zW_get (CA := CA) (b := b) ha
          rw [zE_ref h20.1] at he
          have k' := k H locs ls cells slots hP hl hS hc hz (fun v hv => by
            rcases List.mem_cons.mp hv with h | h
            · subst h; exact zok_rf
            · exact hst v (List.mem_cons_of_mem _ (List.mem_cons_of_mem _ h))) hw
          simp only [List.map_cons, zt_rf] at k'
          exact va_aldq hx hb hK hP a _ he (zT_get h20.1 h20.2) (zin_vp hin) hd k'
        · cases h
      · cases h
    · cases h
  case iastore =>
    dsimp only [zx3] at h
    split at h
    · rename_i x kx a t
      split at h
      · rename_i h20
        split at h
        · rename_i hin
          cases h
          refine zG_i (fun H locs ls cells slots hP hl hS hc hz hst hw => ?_)
          have ha : a < zn M := zwf_lt hw (by rw [h20]; decide)
          have he := zW_get (CA := CA) (b := b) ha
          rw [zE_arr (by omega) (by omega), h20] at he
          refine va_iast hx hb hK hP zW_D hS a 0 he rfl (zin_vp hin) hd (fun H1 locs1 hP1 _ hS1 => ?_)
          have e1 : (b + a, (.inl (CA (20 - 20), (zk M a).2, .inl (upd (zi M a) kx.toNatClampNeg x)) : va_E)) = (b + a, zE CA b (zwi M a kx.toNatClampNeg x) a) := by
            rw [zE_arr (M := zwi M a kx.toNatClampNeg x) (show 20 ≤ (zk M a).1 by omega) (show (zk M a).1 < 22 by omega)]
            show _ = (b + a, (Sum.inl (CA ((zk M a).1 - 20), (zk M a).2, Sum.inl (zi (zwi M a kx.toNatClampNeg x) a)) : va_E))
            rw [h20]
            congr 5
            funext j
            show (if j = kx.toNatClampNeg then x else zi M a j) = (if a = a ∧ j = kx.toNatClampNeg then x else zi M a j)
            by_cases hj : j = kx.toNatClampNeg <;> simp [hj]
          rw [e1, zW_set (M := M) (M' := zwi M a kx.toNatClampNeg x) (a := a) rfl (fun k hk => zE_wi k hk)] at hP1
          exact k H1 locs1 ls cells slots hP1 hl hS1 hc hz (fun v hv => hst v (by simp [hv])) (zwf_wi hw)
        · cases h
      · cases h
    · cases h
  case bastore =>
    dsimp only [zx3] at h
    split at h
    · rename_i x kx a t
      split at h
      · rename_i h20
        split at h
        · rename_i hin
          cases h
          refine zG_i (fun H locs ls cells slots hP hl hS hc hz hst hw => ?_)
          have ha : a < zn M := zwf_lt hw (by rw [h20]; decide)
          have he := zW_get (CA := CA) (b := b) ha
          rw [zE_arr (by omega) (by omega), h20] at he
          refine va_zast hx hb hK hP zW_D hS a 1 he rfl (zin_vp hin) hd (fun H1 locs1 hP1 _ hS1 => ?_)
          have e1 : (b + a, (.inl (CA (21 - 20), (zk M a).2, .inl (upd (zi M a) kx.toNatClampNeg (vp_nar .boolean x))) : va_E)) = (b + a, zE CA b (zwi M a kx.toNatClampNeg (vp_nar .boolean x)) a) := by
            rw [zE_arr (M := zwi M a kx.toNatClampNeg (vp_nar .boolean x)) (show 20 ≤ (zk M a).1 by omega) (show (zk M a).1 < 22 by omega)]
            show _ = (b + a, (Sum.inl (CA ((zk M a).1 - 20), (zk M a).2, Sum.inl (zi (zwi M a kx.toNatClampNeg (vp_nar .boolean x)) a)) : va_E))
            rw [h20]
            congr 5
            funext j
            show (if j = kx.toNatClampNeg then _ else zi M a j) = (if a = a ∧ j = kx.toNatClampNeg then _ else zi M a j)
            by_cases hj : j = kx.toNatClampNeg <;> simp [hj]
          rw [e1, zW_set (M := M) (M' := zwi M a kx.toNatClampNeg (vp_nar .boolean x)) (a := a) rfl (fun k hk => zE_wi k hk)] at hP1
          exact k H1 locs1 ls cells slots hP1 hl hS1 hc hz (fun v hv => hst v (by simp [hv])) (zwf_wi hw)
        · cases h
      · cases h
    · cases h
  case aastore =>
    dsimp only [zx3] at h
    split at h
    · rename_i v kx a t
      obtain ⟨q, hq, e1, h⟩ := zgf_some h
      obtain ⟨o1, o2⟩ := ho q hq
      split at h
      · rename_i hvk
        obtain ⟨hvk, hin⟩ := hvk
        cases h
        obtain ⟨o3, rr, o4, o5⟩ := o2 _ hvk
        refine zG_i (fun H locs ls cells slots hP hl hS hc hz hst hw => ?_)
        have ha : a < zn M := zwf_lt hw (by omega)
        have hv : v < zn M := zwf_lt hw (by omega)
        have he := zW_get (CA := CA) (b := b) ha
        rw [zE_ref (by omega), e1] at he
        have hev := zW_get (CA := CA) (b := b) hv
        rw [zE_obj rfl o3] at hev
        have hr := va_recv hK hP o4 hev
        refine vb_astq (E := zel q.1) hx hb hK hP zW_D hS a _ he (zT_get o1.1 o1.2) hr (fun comp c0 f1 f2 => ?_) (zin_vp hin) hd (fun H1 locs1 hP1 _ hS1 => ?_)
        · rcases o5 with o5 | o5
          · rw [o5] at f2; exact vb_asgS comp c0 f1 f2
          · exact vb_asgC (hxs _ o5) comp c0 f1 f2
        · have e2 : (b + a, (.inl (CA (q.1 - 20), (zk M a).2, .inr (.inr (.inr (.inr (va_up (fun j => (zr M a j).map (fun q => b + q)) kx.toNatClampNeg (some (b + v))))))) : va_E)) = (b + a, zE CA b (zwr M a kx.toNatClampNeg (some v)) a) := by
            rw [zE_ref (M := zwr M a kx.toNatClampNeg (some v)) (show 22 ≤ (zk M a).1 by omega)]
            show _ = (b + a, (Sum.inl (CA ((zk M a).1 - 20), (zk M a).2, Sum.inr (Sum.inr (Sum.inr (Sum.inr (fun j => (zr (zwr M a kx.toNatClampNeg (some v)) a j).map (fun q => b + q)))))) : va_E))
            rw [e1]
            congr 8
            funext j
            show (if j = kx.toNatClampNeg then some (b + v) else (zr M a j).map (fun q => b + q)) = (if a = a ∧ j = kx.toNatClampNeg then some v else zr M a j).map (fun q => b + q)
            by_cases hj : j = kx.toNatClampNeg <;> simp [hj]
          rw [e2, zW_set (M := M) (M' := zwr M a kx.toNatClampNeg (some v)) (a := a) rfl (fun k hk => zE_wr k hk)] at hP1
          exact k H1 locs1 ls cells slots hP1 hl hS1 hc hz (fun w hw => hst w (by simp [hw])) (zwf_wr hw)
      · cases h
    · cases h
  case arraylength =>
    dsimp only [zx3] at h
    split at h
    · rename_i a t
      split at h
      · rename_i h20
        cases h
        refine zG_i (fun H locs ls cells slots hP hl hS hc hz hst hw => ?_)
        have ha : a < zn M := zwf_lt hw (by omega)
        have he := zW_get (CA := CA) (b := b) ha
        have k' := k H locs ls cells slots hP hl hS hc hz (fun v hv => by
          rcases List.mem_cons.mp hv with h | h
          · subst h; rfl
          · exact hst v (List.mem_cons_of_mem _ h)) hw
        by_cases h22 : (zk M a).1 < 22
        · rw [zE_arr h20.1 h22] at he
          have : (zk M a).1 = 20 ∨ (zk M a).1 = 21 := by omega
          rcases this with h | h
          · rw [h] at he
            exact va_alen hx hb hK hP a 0 he rfl rfl hd k'
          · rw [h] at he
            exact va_alen hx hb hK hP a 1 he rfl rfl hd k'
        · rw [zE_ref (by omega)] at he
          exact va_alen hx hb hK hP a _ he (zT_get (by omega) h20.2) rfl hd k'
      · cases h
    · rename_i a t
      cases h
      refine zG_i (fun H locs ls cells slots hP hl hS hc hz hst hw => ?_)
      exact va_slen hx hb hX (by omega) (show ¬ b ≤ sc by omega) hS hd (k H locs ls cells slots hP hl hS hc hz (fun v hv => by
          rcases List.mem_cons.mp hv with h | h
          · subst h; rfl
          · exact hst v (List.mem_cons_of_mem _ h)) hw)
    · cases h
  case newarray at_ =>
    dsimp only [zx3] at h
    split at h
    · rename_i kx t q inf'
      split at h
      · rename_i hin
        cases h
        have hin' := of_decide_eq_true hin
        rcases ho q List.mem_cons_self with ⟨o1, o2, o3⟩ | ⟨o1, o2, o3⟩
        · refine z_al B hmn hR (fun {H} {locs} {cells} {slots} {Q} {ls} hP hD hS hA hc hs kk => ?_) (fun v hv => List.mem_cons_of_mem _ hv) k
          refine va_newa (a0 := (kx.toNatClampNeg, .inl fun _ => 0)) hx hb (by rw [o2]; exact hts _ o3) o2 hK hP hD hS hA (fun cA => rfl) hin'.1 rfl (by show kx.toNatClampNeg * 4 ≤ _; omega) hc hs hd (fun q1 cA H1 hK1 hP1 hD1 hS1 => ?_)
          have hcA : cA = CA 0 := z_K (t := 0) hK rfl hK1
          have e1 : zE CA b (zal M q.1 kx.toNatClampNeg kx.toNatClampNeg) (zn M) = .inl (cA, kx.toNatClampNeg, .inl fun _ => 0) := by
            rw [zE_arr (by rw [zal_k, o1]; decide) (by rw [zal_k, o1]; decide), zal_k, o1, hcA]
            congr 4
            funext j
            exact zal_i
          rw [← e1] at hP1 hD1
          exact kk q1 H1 hP1 hD1 hS1
        · refine z_al B hmn hR (fun {H} {locs} {cells} {slots} {Q} {ls} hP hD hS hA hc hs kk => ?_) (fun v hv => List.mem_cons_of_mem _ hv) k
          refine va_newa (a0 := (kx.toNatClampNeg, .inl fun _ => 0)) hx hb (by rw [o2]; exact hts _ o3) o2 hK hP hD hS hA (fun cA => rfl) hin'.1 rfl (by show kx.toNatClampNeg * 1 ≤ _; omega) hc hs hd (fun q1 cA H1 hK1 hP1 hD1 hS1 => ?_)
          have hcA : cA = CA 1 := z_K (t := 1) hK rfl hK1
          have e1 : zE CA b (zal M q.1 kx.toNatClampNeg kx.toNatClampNeg) (zn M) = .inl (cA, kx.toNatClampNeg, .inl fun _ => 0) := by
            rw [zE_arr (by rw [zal_k, o1]; decide) (by rw [zal_k, o1]; decide), zal_k, o1, hcA]
            congr 4
            funext j
            exact zal_i
          rw [← e1] at hP1 hD1
          exact kk q1 H1 hP1 hD1 hS1
      · cases h
    · cases h
  case anewarray idx =>
    dsimp only [zx3] at h
    split at h
    · rename_i kx t q inf'
      split at h
      · rename_i hin
        cases h
        have hin' := of_decide_eq_true hin
        obtain ⟨o1, o2, o3⟩ := ho q List.mem_cons_self
        refine z_al B hmn hR (fun {H} {locs} {cells} {slots} {Q} {ls} hP hD hS hA hc hs kk => ?_) (fun v hv => List.mem_cons_of_mem _ hv) k
        refine va_newq hx hb hown (hts _ o2) (hxs _ o3) hK hP hD hS hA hin'.1 rfl (by omega) hc hs hd (fun q1 cA H1 hK1 hP1 hD1 hS1 => ?_)
        have hcA : cA = CA (q.1 - 20) := z_K hK (zT_get o1.1 o1.2) hK1
        have e1 : zE CA b (zal M q.1 kx.toNatClampNeg kx.toNatClampNeg) (zn M) = .inl (cA, kx.toNatClampNeg, .inr (.inr (.inr (.inr fun _ => none)))) := by
          rw [zE_ref (by rw [zal_k]; exact o1.1), zal_k, hcA]
          congr 7
          funext j
          rw [zal_r]
          rfl
        rw [← e1] at hP1 hD1
        exact kk q1 H1 hP1 hD1 hS1
      · cases h
    · cases h
  case new idx =>
    dsimp only [zx3] at h
    split at h
    · rename_i q inf'
      cases h
      obtain ⟨C, T, N, ty0, ⟨c1, c2, c3, c4, c5⟩, c6, o1, o2, o3, o4⟩ := ho q List.mem_cons_self
      subst c3
      refine z_al B hmn hR (fun {H} {locs} {cells} {slots} {Q} {ls} hP hD hS hA hc hs kk => ?_) (fun v hv => hv) k
      rw [c6] at hs
      refine va_new (ci := q.1) (fs := zfs b (zal M q.1 0 q.2.1) (zn M) q.1) hx hb hts c4 ty0 c5 hown (hts _ o1) (hts _ o2) (hts _ o3) hK hP hD hS hA c1 (fun j hj => ?_) hc hs hd (fun q1 H1 hP1 hD1 hS1 => ?_)
      · unfold vp_V
        rw [List.getD_eq_getElem?_getD, zfs_get hj, o4 j hj, zal_r, zal_i]
        by_cases hz : zRf q.1 j = true
        · rw [if_pos hz, if_pos hz]; rfl
        · rw [if_neg hz, if_neg hz]; rfl
      · have e1 : zE CA b (zal M q.1 0 q.2.1) (zn M) = .inr (q.1, zfs b (zal M q.1 0 q.2.1) (zn M) q.1) := zE_obj (by rw [zal_k]) c2
        rw [← e1] at hP1 hD1
        have := kk q1 H1 hP1 hD1 hS1
        rw [c6] at this
        exact this
    · cases h
  case instanceof idx =>
    dsimp only [zx3] at h
    split at h
    · rename_i a t
      obtain ⟨q, hq, e1, h⟩ := zgf_some h
      obtain ⟨o1, o2, rr, o3, o4⟩ := ho q hq
      rw [o1] at h
      cases h
      refine zG_i (fun H locs ls cells slots hP hl hS hc hz hst hw => ?_)
      have ha : a < zn M := zwf_lt hw (by omega)
      have he := zW_get (CA := CA) (b := b) ha
      rw [zE_obj e1 o2] at he
      exact va_instS hx hb hown (hts _ o4) (hK.1 q.1 rr o3).2 (va_recv hK hP o3 he) hd (k H locs ls cells slots hP hl hS hc hz (fun v hv => by
          rcases List.mem_cons.mp hv with h | h
          · subst h; rfl
          · exact hst v (List.mem_cons_of_mem _ h)) hw)
    · rename_i t
      cases h
      refine zG_i (fun H locs ls cells slots hP hl hS hc hz hst hw => ?_)
      exact lv_instN hx hb hd (k H locs ls cells slots hP hl hS hc hz (fun v hv => by
          rcases List.mem_cons.mp hv with h | h
          · subst h; rfl
          · exact hst v (List.mem_cons_of_mem _ h)) hw)
    · cases h
  case checkcast idx =>
    dsimp only [zx3] at h
    split at h
    · rename_i a t
      obtain ⟨q, hq, e1, h⟩ := zgf_some h
      obtain ⟨o1, o2, rr, o3, o4⟩ := ho q hq
      rw [o1, if_pos rfl] at h
      cases h
      refine zG_i (fun H locs ls cells slots hP hl hS hc hz hst hw => ?_)
      have ha : a < zn M := zwf_lt hw (by omega)
      have he := zW_get (CA := CA) (b := b) ha
      rw [zE_obj e1 o2] at he
      exact va_castS hx hb hown (hts _ o4) (hK.1 q.1 rr o3).2 (va_recv hK hP o3 he) hd (k H locs ls cells slots hP hl hS hc hz hst hw)
    · rename_i t
      cases h
      refine zG_i (fun H locs ls cells slots hP hl hS hc hz hst hw => ?_)
      exact lv_castN hx hb hd (k H locs ls cells slots hP hl hS hc hz hst hw)
    · cases h
  all_goals (change (none : zO) = _ at h; cases h)
/-! returns and calls -/
theorem z_x4r {i pc : Nat} {ins : Jvm.ClassFile.Instr} {inf : zI} {L st : List Value} {M : zM} {r : zR} (B : zB p R s m args meth c D CA b sc n0 sp i) (hd : zdc (zb i) pc ins) (ho : zo4 i ins inf)
    (h : zx4 (zPr sp) i pc ins inf L st M = some (.inr (.inl r))) : zG p l e R s m args below meth c D CA b sc n0 z0 (i, pc, L, st, M) r := by
  obtain ⟨hx, hb, hml, hown, ⟨hts, hxs⟩, ⟨hme, hret, hin⟩, hK, hrf, hrl, hsz, hsc, hX⟩ := B
  have fin : ∀ {H : Heap} {locs : List Loc} {v : Option Value}, va_P D vwCl (zW CA b M) H → va_S (fun q => b ≤ q) s.heap H locs → zwf M → (∀ w, v = some w → zok w = true) → ∀ t : State, t.heap = H → s.WarmedH t.vm → zQ D CA b sc (v, M) args s (.returned (v.map (zt b sc))) t := by
    intro H locs v hP hS hw hv t ht _
    exact ⟨rfl, by rw [ht]; exact hP, hS.F ht, hw, hv⟩
  cases ins
  case ireturn =>
    dsimp only [zx4] at h
    split at h
    · rename_i x q inf'
      split at h
      · rename_i hq
        cases h
        refine zG_i (fun H locs ls cells slots hP hl hS hc hz hst hw => ?_)
        have hc : cells + n0 = zn M := hc
        have hz : slots + z0 = zz M := hz
        rw [show zn M - n0 = cells by omega, show zz M - z0 = slots by omega]
        rcases ho q List.mem_cons_self with ⟨o1, o2⟩ | ⟨o1, o2⟩
        · exact W.iret (v := x) hx hb (hret.trans o2) (fin (v := some (.int x)) hP hS hw (fun w hw => by cases hw; rfl)) hS.2.2 hd hme
        · have h01 : x = 0 ∨ x = 1 := by
            rcases hq with hq | hq
            · omega
            · exact hq
          exact W.zret (v := x) (ty := .boolean) hx hb (hret.trans o2) (by rcases h01 with h | h <;> subst h <;> rfl) (fin (v := some (.int x)) hP hS hw (fun w hw => by cases hw; rfl)) hS.2.2 hd hme
      · cases h
    · cases h
  case areturn =>
    dsimp only [zx4] at h
    split at h
    · rename_i v
      split at h
      · rename_i hA
        cases h
        refine zG_i (fun H locs ls cells slots hP hl hS hc hz hst hw => ?_)
        have hc : cells + n0 = zn M := hc
        have hz : slots + z0 = zz M := hz
        rw [show zn M - n0 = cells by omega, show zz M - z0 = slots by omega]
        have hv : zt b sc v = .null ∨ ∃ a, zt b sc v = .ref a := by
          cases v <;> first | exact Or.inl rfl | exact Or.inr ⟨_, rfl⟩ | cases hA
        rcases ho with ⟨n, o⟩ | ⟨n, o⟩
        · exact W.aret (v := zt b sc v) hx hb (hret.trans o) (Or.inl ⟨n, rfl⟩) hv (fin (v := some v) hP hS hw (fun w hw => by cases hw; exact zok_A hA)) hS.2.2 hd hme
        · exact W.aret (v := zt b sc v) hx hb (hret.trans o) (Or.inr ⟨n, rfl⟩) hv (fin (v := some v) hP hS hw (fun w hw => by cases hw; exact zok_A hA)) hS.2.2 hd hme
      · cases h
    · cases h
  case return_ =>
    dsimp only [zx4] at h
    split at h
    · cases h
      refine zG_i (fun H locs ls cells slots hP hl hS hc hz hst hw => ?_)
      have hc : cells + n0 = zn M := hc
      have hz : slots + z0 = zz M := hz
      rw [show zn M - n0 = cells by omega, show zz M - z0 = slots by omega]
      exact W.vret hx hb (hret.trans ho) (fin (v := none) hP hS hw (fun w hw => by cases hw)) hS.2.2 hd hme
    · cases h
  case invokestatic idx =>
    dsimp only [zx4] at h
    split at h
    · split at h
      · split at h
        · split at h <;> cases h
        · cases h
      · split at h
        · split at h
          · split at h <;> cases h
          · cases h
        · unfold zcal at h
          split at h <;> cases h
    · cases h
  case invokespecial idx =>
    dsimp only [zx4] at h
    split at h
    · split at h
      · split at h
        · split at h <;> cases h
        · cases h
      · split at h
        · unfold zcal at h
          split at h <;> cases h
        · cases h
    · cases h
  case invokevirtual idx =>
    dsimp only [zx4] at h
    split at h
    · split at h
      · obtain ⟨q, -, -, h⟩ := zgf_some h
        unfold zcal at h
        split at h <;> cases h
      · cases h
    · cases h
  all_goals (change (none : zO) = _ at h; cases h)
theorem z_x4g {i pc : Nat} {ins : Jvm.ClassFile.Instr} {inf : zI} {L st : List Value} {M : zM} {cf : zC} {r : zR} (B : zB p R s m args meth c D CA b sc n0 sp i) (hd : zdc (zb i) pc ins) (ho : zo4 i ins inf) (hmn : zn cf.2.2.2.2 ≤ zn r.2 ∧ zz cf.2.2.2.2 ≤ zz r.2) (hR : zn r.2 - n0 ≤ R.cells ∧ zz r.2 - z0 ≤ R.slots) (hrk : 1 ≤ zrk i)
    (h : zx4 (zPr sp) i pc ins inf L st M = some (.inl cf)) (k : zG p l e R s m args below meth c D CA b sc n0 z0 cf r) : zG p l e R s m args below meth c D CA b sc n0 z0 (i, pc, L, st, M) r := by
  obtain ⟨hx, hb, hml, hown, ⟨hts, hxs⟩, ⟨hme, hret, hin⟩, hK, hrf, hrl, hsz, hsc, hX⟩ := B
  have hcat : ∀ {t : List Value}, (∀ v ∈ t, zok v = true) → ((t.map (zt b sc)).map fun v => v.category).sum = t.length := by
    intro t ht
    induction t with
    | nil => rfl
    | cons v t ih =>
      rw [List.map_cons, List.map_cons, List.sum_cons, ih (fun w hw => ht w (List.mem_cons_of_mem _ hw)), zt_cat (ht v List.mem_cons_self), List.length_cons]
      omega
  cases ins
  case invokestatic idx =>
    dsimp only [zx4] at h
    split at h
    · rename_i q inf'
      split at h
      · rename_i h1
        split at h
        · rename_i y x t
          split at h
          · rename_i ht
            cases h
            refine zG_i (fun H locs ls cells slots hP hl hS hc hz hst hw => ?_)
            have hc : cells + n0 = zn M := hc
            have hz : slots + z0 = zz M := hz
            have hmn : zn M ≤ zn r.2 ∧ zz M ≤ zz r.2 := hmn
            rcases ho q List.mem_cons_self with ⟨-, o⟩ | ⟨o, -⟩ | ⟨o, -⟩
            · refine va_mmax hx hb (hml.trans hl.2.1.symm) hown (hts _ (o _ (by simp))) (hts _ (o _ (by simp))) (hts _ (o _ (by simp))) (hts _ (o _ (by simp))) (by omega) ?_ (by omega) (by omega) hd (k H locs ls cells slots hP hl hS hc hz (fun v hv => ?_) hw)
              · rw [hcat (fun v hv => hst v (by simp [hv]))]
                omega
              · rcases List.mem_cons.mp hv with h | h
                · subst h; rfl
                · exact hst v (by simp [h])
            · omega
            · exact absurd h1 o
          · cases h
        · cases h
      · rename_i h1
        split at h
        · rename_i h2
          split at h
          · rename_i y x t
            split at h
            · rename_i ht
              cases h
              refine zG_i (fun H locs ls cells slots hP hl hS hc hz hst hw => ?_)
              have hc : cells + n0 = zn M := hc
              have hz : slots + z0 = zz M := hz
              have hmn : zn M ≤ zn r.2 ∧ zz M ≤ zz r.2 := hmn
              rcases ho q List.mem_cons_self with ⟨o, -⟩ | ⟨-, o⟩ | ⟨-, o, -⟩
              · exact absurd o h1
              · refine va_mmin hx hb (hml.trans hl.2.1.symm) hown (hts _ (o _ (by simp))) (hts _ (o _ (by simp))) (hts _ (o _ (by simp))) (hts _ (o _ (by simp))) (by omega) ?_ (by omega) (by omega) hd (k H locs ls cells slots hP hl hS hc hz (fun v hv => ?_) hw)
                · rw [hcat (fun v hv => hst v (by simp [hv]))]
                  omega
                · rcases List.mem_cons.mp hv with h | h
                  · subst h; rfl
                  · exact hst v (by simp [h])
              · exact absurd h2 o
            · cases h
          · cases h
        · unfold zcal at h
          split at h <;> cases h
    · cases h
  case invokespecial idx =>
    dsimp only [zx4] at h
    split at h
    · rename_i q inf'
      split at h
      · rename_i h1
        split at h
        · rename_i a t
          split at h
          · rename_i ht
            cases h
            refine zG_i (fun H locs ls cells slots hP hl hS hc hz hst hw => ?_)
            rcases ho q List.mem_cons_self with ⟨-, o⟩ | ⟨o, -⟩
            · refine W.objInit hx hb hown (hts _ (o _ (by simp))) (hts _ (o _ (by simp))) (hts _ (o _ (by simp))) rfl (hl.2.1.trans hml.symm) rfl hd (by omega) ?_ (k H locs ls cells slots hP hl hS hc hz (fun v hv => hst v (by simp [hv])) hw)
              have := lv_room (m := m) (pc := pc) (ls := ls) (rest := ((Value.ref a :: t).map (zt b sc))) (st := t.map (zt b sc)) (by rw [hcat (fun v hv => hst v (by simp [hv]))]; exact ht)
              omega
            · exact absurd h1 o
          · cases h
        · cases h
      · split at h
        · unfold zcal at h
          split at h <;> cases h
        · cases h
    · cases h
  case invokevirtual idx =>
    dsimp only [zx4] at h
    split at h
    · split at h
      · obtain ⟨q, -, -, h⟩ := zgf_some h
        unfold zcal at h
        split at h <;> cases h
      · cases h
    · cases h
  case ireturn =>
    dsimp only [zx4] at h
    split at h
    · split at h <;> cases h
    · cases h
  case areturn =>
    dsimp only [zx4] at h
    split at h
    · split at h <;> cases h
    · cases h
  case return_ =>
    dsimp only [zx4] at h
    split at h <;> cases h
  all_goals (change (none : zO) = _ at h; cases h)
def zmr (i mc ms : Nat) : Room := { frames := zrk i, cells := mc, slots := ms, locals := 40 * zrk i }
def zw (i : Nat) : List Cond := .code (zy i) (zb i) (znl i) (zty i) :: zWS
def zPc (D : va_G) (CA : Nat → ClassId) (b sc : Nat) (sp : Nat × (Nat → Int32)) (as : List Value) (M : zM) : Array Value → State → Prop :=
  va_Pc (as.map (zt b sc)) (fun U => va_P D vwCl (zW CA b M) U.heap ∧ va_K D vwCl (zT CA) U ∧ U.heap.size = b + zn M ∧ va_X sc sp.1 sp.2 U U.heap ∧ ∀ w ∈ zXS, va_Nw w U)
def zMet (l : Launch) (D : va_G) (CA : Nat → ClassId) (b sc : Nat) (sp : Nat × (Nat → Int32)) (i : Nat) (as : List Value) (M : zM) (r : zR) : Prop :=
  Met l (zy i) (zw i) (zmr i (zn r.2 - zn M) (zz r.2 - zz M)) (zPc D CA b sc sp as M) (zQ D CA b sc r) (zn r.2 - zn M) (zz r.2 - zz M) (fun q => b ≤ q)
theorem zPc_blind {as : List Value} {M : zM} : FrameBlind (zPc D CA b sc sp as M) := by
  intro a U g mk h
  obtain ⟨h1, h2, h3, h4, h5, h6⟩ := h
  exact ⟨h1, h2, va_K.moved (u := U) (U := U.calling g mk a) (Vm.Alike.refl U.vm) h3, h4, va_X.moved (u := U) (U := U.calling g mk a) (Vm.Alike.refl U.vm) h5, zXS_same (u := U) rfl h6⟩
/-- behind a call -/
theorem z_cont {r1 : zR} {pc mc ms : Nat} {ls : Array Slot} {rest st0 : List Value} {a : Array Value} {H : Heap} {locs : List Loc} {cells slots : Nat} {Q : State → Prop} (hr : va_Run p l e R s m args below meth c H locs cells slots mc ms (F0 m pc ls st0) rest (zQ D CA b sc r1 a) (fun q => b ≤ q)) (hS : va_S (fun q => b ≤ q) s.heap H locs)
    (kk : ∀ (H1 : Heap) (locs1 : List Loc), va_P D vwCl (zW CA b r1.2) H1 → va_S (fun q => b ≤ q) s.heap H1 locs1 → zwf r1.2 → (∀ v, r1.1 = some v → zok v = true) → W p l e R s m args below meth c H1 locs1 (cells + mc) (slots + ms) Q (F0 m (pc + 3) ls ((r1.1.map (zt b sc)).toList ++ rest))) : W p l e R s m args below meth c H locs cells slots Q (F0 m pc ls st0) := by
  intro T hT X
  obtain ⟨v, st₀, t, T', L, h0, X', hL, e1, e2, ⟨hv, hP, ⟨hz, hk⟩, hw, hok⟩, st⟩ := hr T hT X
  cases hv
  rw [h0] at hz hk
  have hS1 : va_S (fun q => b ≤ q) s.heap T'.heap (locs ++ L) := by
    refine ⟨Nat.le_trans hS.1 (by rw [e1]; exact hz), fun q h1 h2 => ?_, fun q hq => ?_⟩
    · rw [e1, hk q (Nat.lt_of_lt_of_le h1 hS.1) h2]
      exact hS.2.1 q h1 h2
    · rcases List.mem_append.mp hq with h | h
      · exact hS.2.2 q h
      · exact hL q h
  obtain ⟨t2, a1, b1⟩ := kk T'.heap (locs ++ L) (by rw [e1]; exact hP) hS1 hw hok T' rfl X'
  exact ⟨t2, st t2 a1, b1⟩
theorem z_size {M : zM} {H : Heap} (hP : va_P D vwCl (zW CA b M) H) (h1 : b ≤ H.size) (h2 : H.size ≤ b + zn M) : H.size = b + zn M := by
  by_cases hz : zn M = 0
  · omega
  · have := (hP (zn M - 1) _ (zW_get (by omega))).lt
    have h3 : b + (zn M - 1) < H.size := this
    omega
theorem z_good {j : Nat} (hj : j < znm) : GoodIn zWS (zw j) := by
  intro w hw
  rcases List.mem_cons.mp hw with h | h
  · subst h
    exact ⟨zWS_code j hj, Or.inl rfl⟩
  · exact ⟨h, zWS_good w h⟩
theorem z_x4c {i pc : Nat} {ins : Jvm.ClassFile.Instr} {inf : zI} {L st : List Value} {M : zM} {q0 : zC × Nat × Nat × List Value × List Value} {r1 r : zR} (B : zB p R s m args meth c D CA b sc n0 sp i) (hd : zdc (zb i) pc ins) (ho : zo4 i ins inf)
    (hM : ∀ j as, q0.1 = (j, 0, as ++ List.replicate (znl j - as.length) (.double 0), [], M) → as.length ≤ znl j → (∀ v ∈ as, v ∈ st) → zwf M → (∀ v ∈ st, zok v = true) → j < znm → zMet l D CA b sc sp j as M r1)
    (hmn : (zn M ≤ zn r1.2 ∧ zz M ≤ zz r1.2) ∧ (zn r1.2 ≤ zn r.2 ∧ zz r1.2 ≤ zz r.2)) (hR : zn r.2 - n0 ≤ R.cells ∧ zz r.2 - z0 ≤ R.slots)
    (h : zx4 (zPr sp) i pc ins inf L st M = some (.inr (.inr q0))) (k : zG p l e R s m args below meth c D CA b sc n0 z0 (q0.2.1, q0.2.2.1, q0.2.2.2.1, r1.1.toList ++ q0.2.2.2.2, r1.2) r) : zG p l e R s m args below meth c D CA b sc n0 z0 (i, pc, L, st, M) r := by
  obtain ⟨hx, hb, hml, hown, ⟨hts, hxs⟩, ⟨hme, hret, hin⟩, hK, hrf, hrl, hsz, hsc, hX⟩ := B
  have hcat : ∀ {t : List Value}, (∀ v ∈ t, zok v = true) → ((t.map (zt b sc)).map fun v => v.category).sum = t.length := by
    intro t ht
    induction t with
    | nil => rfl
    | cons v t ih =>
      rw [List.map_cons, List.map_cons, List.sum_cons, ih (fun w hw => ht w (List.mem_cons_of_mem _ hw)), zt_cat (ht v List.mem_cons_self), List.length_cons]
      omega
  -- the common part: a run of the callee and what follows
  have key : ∀ (j cnt : Nat), zcal (zPr sp) j cnt i pc L st M = some (.inr (.inr q0)) → j < znm →
      (∀ {H : Heap} {locs : List Loc} {cells slots : Nat} {ls : Array Slot}, va_P D vwCl (zW CA b M) H → zwf M → (∀ v ∈ st, zok v = true) → ls.size = znl i → zrk j < zrk i → cnt ≤ st.length → zMet l D CA b sc sp j (st.take cnt).reverse M r1 → (∀ U : State, U.heap = H → s.WarmedH U.vm → zPc D CA b sc sp (st.take cnt).reverse M ((st.take cnt).reverse.map (zt b sc)).toArray U) → 2 * (F0 m pc ls (st.map (zt b sc))).monitorRoom + (((st.drop cnt).map (zt b sc)).map fun v => v.category).sum ≤ 8 → (cells + (zn r1.2 - zn M) ≤ R.cells ∧ slots + (zz r1.2 - zz M) ≤ R.slots) →
        va_Run p l e R s m args below meth c H locs cells slots (zn r1.2 - zn M) (zz r1.2 - zz M) (F0 m pc ls (st.map (zt b sc))) ((st.drop cnt).map (zt b sc)) (zQ D CA b sc r1 ((st.take cnt).reverse.map (zt b sc)).toArray) (fun q => b ≤ q)) →
      zG p l e R s m args below meth c D CA b sc n0 z0 (i, pc, L, st, M) r := by
    intro j cnt h hj run
    unfold zcal at h
    split at h
    · rename_i hc4
      obtain ⟨c1, c2, c3, c4⟩ := hc4
      cases h
      refine zG_i (fun H locs ls cells slots hP hl hS hc hz hst hw => ?_)
      have hc : cells + n0 = zn M := hc
      have hz : slots + z0 = zz M := hz
      have hlen : (st.take cnt).reverse.length = cnt := by rw [List.length_reverse, List.length_take]; omega
      have hMet := hM j (st.take cnt).reverse (by rw [hlen]; rfl) (by rw [hlen]; exact c3) (fun v hv => List.mem_of_mem_take (List.mem_reverse.mp hv)) hw hst hj
      refine z_sz fun hsz1 => ?_
      have hHs : H.size = b + zn M := z_size hP (by have := hS.1; omega) (by omega)
      refine z_cont (run hP hw hst hl.2.1 c1 c2 hMet (fun U hU hW => ?_) ?_ (by omega)) hS (fun H1 locs1 hP1 hS1 hw1 hok1 => ?_)
      · refine ⟨rfl, by rw [hU]; exact hP, va_K.moved hW.alike hK, ?_, ?_, zXS_warm hW hxs⟩
        · rw [hU]
          exact hHs
        · rw [hU]
          exact va_X.moved hW.alike (hX.kept (hS.2.1 sc (by omega) (show ¬ b ≤ sc by omega)))
      · refine lv_room ?_
        rw [hcat (fun v hv => hst v (List.mem_of_mem_drop hv)), List.length_drop]
        omega
      · have k' := k H1 locs1 ls (cells + (zn r1.2 - zn M)) (slots + (zz r1.2 - zz M)) hP1 hl hS1 (by show _ = zn r1.2; omega) (by show _ = zz r1.2; omega) (fun v hv => ?_) hw1
        · have e1 : (r1.1.toList ++ st.drop cnt).map (zt b sc) = (r1.1.map (zt b sc)).toList ++ (st.drop cnt).map (zt b sc) := by
            rw [List.map_append]
            cases r1.1 <;> rfl
          dsimp only at k'
          rw [e1] at k'
          exact k'
        · rcases List.mem_append.mp hv with hv | hv
          · refine hok1 v ?_
            cases hr1 : r1.1 with
            | none => rw [hr1] at hv; cases hv
            | some w =>
              rw [hr1] at hv
              rw [List.mem_singleton.mp (show v ∈ [w] from hv)]
          · exact hst v (List.mem_of_mem_drop hv)
    · cases h
  have hstk : ∀ cnt : Nat, st.map (zt b sc) = ((st.take cnt).reverse.map (zt b sc)).reverse ++ (st.drop cnt).map (zt b sc) := by
    intro cnt
    rw [List.map_reverse, List.reverse_reverse, ← List.map_append, List.take_append_drop]
  have hrm : ∀ {j : Nat}, zrk j < zrk i → j < znm → ∀ mc ms, (zmr j mc ms).frames + 1 ≤ R.frames ∧ 8 + (znl j + 11) + (zmr j mc ms).locals ≤ R.locals := by
    intro j h1 hj mc ms
    have := znl_le j hj
    refine ⟨show zrk j + 1 ≤ R.frames by omega, show 8 + (znl j + 11) + 40 * zrk j ≤ R.locals by omega⟩
  have htk : ∀ {n a : Nat}, st[n]? = some (.ref a) → (st.take (n + 1)).reverse.map (zt b sc) = .ref (b + a) :: (st.take n).reverse.map (zt b sc) := by
    intro n a hn
    rw [List.take_add_one, hn]
    simp [List.reverse_append, zt]
  have hln : ∀ {n : Nat}, n ≤ st.length → ((st.take n).reverse.map (zt b sc)).length = n := by
    intro n hn
    rw [List.length_map, List.length_reverse, List.length_take]
    omega
  cases ins
  case invokestatic idx =>
    dsimp only [zx4] at h
    split at h
    · rename_i q inf'
      split at h
      · split at h
        · split at h <;> cases h
        · cases h
      · rename_i h1
        split at h
        · split at h
          · split at h <;> cases h
          · cases h
        · rename_i h2
          rcases ho q List.mem_cons_self with ⟨o, -⟩ | ⟨o, -⟩ | ⟨-, -, o1, o2, o3, o4, o5⟩
          · exact absurd o h1
          · exact absurd o h2
          · refine key q.2.1 q.2.2 h o2 (fun {H} {locs} {cells} {slots} {ls} hP hw hst hsize hrk hcnt hMet hPre hW hf => ?_)
            have hmd := zmd q.2.1 o2
            rw [← o1] at hmd
            rcases o5 with o5 | ⟨host, o5⟩
            · exact va_runS (g := F0 m pc ls (st.map (zt b sc))) (n := q.2.2) ⟨hx, hb, hml, hown, hts⟩ hMet ⟨callB_of q.2.2 hts (z_good o2) rfl rfl rfl (hts _ o4) (hts _ o5) hmd (hrm hrk o2 _ _), hts _ o3⟩ ⟨zPc_blind, hPre⟩ rfl (hln hcnt) hsize (hstk _) hW hd hf
            · exact va_runSN (g := F0 m pc ls (st.map (zt b sc))) (n := q.2.2) ⟨hx, hb, hml, hown, hts⟩ hMet ⟨va_cnB q.2.2 hts (z_good o2) rfl rfl rfl (hxs _ o5) (hts _ o4) hmd (hrm hrk o2 _ _), hts _ o3, trivial⟩ ⟨zPc_blind, hPre⟩ rfl (hln hcnt) hsize (hstk _) hW hd hf
    · cases h
  case invokespecial idx =>
    dsimp only [zx4] at h
    split at h
    · rename_i q inf'
      split at h
      · split at h
        · split at h <;> cases h
        · cases h
      · rename_i h1
        split at h
        · rename_i a hn
          rcases ho q List.mem_cons_self with ⟨o, -⟩ | ⟨-, o1, o2, o3, o4, o5, o6, o7⟩
          · exact absurd o h1
          · refine key q.2.1 (q.2.2 + 1) h o2 (fun {H} {locs} {cells} {slots} {ls} hP hw hst hsize hrk hcnt hMet hPre hW hf => ?_)
            have hmd := zmd q.2.1 o2
            rw [← o1] at hmd
            have hsk := hstk (q.2.2 + 1)
            rw [htk hn, List.reverse_cons, List.append_assoc, List.singleton_append] at hsk
            rw [htk hn] at hPre ⊢
            rw [zMet, zw, o3] at hMet
            have hG : GoodIn zWS (Cond.code (zy q.2.1) (zb q.2.1) (znl q.2.1) none :: zWS) := by
              have := z_good o2
              rw [zw, o3] at this
              exact this
            rcases o7 with o7 | ⟨host, o7⟩
            · exact va_runI (g := F0 m pc ls (st.map (zt b sc))) (n := q.2.2) ⟨hx, hb, hml, hown, hts⟩ hMet ⟨callB_of q.2.2 hts hG rfl rfl rfl (hts _ o6) (hts _ o7) hmd (hrm hrk o2 _ _), o4, hts _ o5⟩ ⟨zPc_blind, hPre⟩ rfl (hln (by omega)) hsize hsk hW hd hf
            · exact va_runIN (g := F0 m pc ls (st.map (zt b sc))) (n := q.2.2) ⟨hx, hb, hml, hown, hts⟩ hMet ⟨va_cnB q.2.2 hts hG rfl rfl rfl (hxs _ o7) (hts _ o6) hmd (hrm hrk o2 _ _), o4, hts _ o5⟩ ⟨zPc_blind, hPre⟩ rfl (hln (by omega)) hsize hsk hW hd hf
        · cases h
    · cases h
  case invokevirtual idx =>
    dsimp only [zx4] at h
    split at h
    · rename_i q1 inf'
      split at h
      · rename_i a hn
        obtain ⟨q, hq, e1, h⟩ := zgf_some h
        obtain ⟨o0, o1, o2, o3, rr, o4, o5⟩ := ho q hq
        rw [o0 q1 List.mem_cons_self] at hn
        refine key q.2.1 (q.2.2 + 1) h o2 (fun {H} {locs} {cells} {slots} {ls} hP hw hst hsize hrk hcnt hMet hPre hW hf => ?_)
        have hmd := zmd q.2.1 o2
        rw [← o1] at hmd
        have hsk := hstk (q.2.2 + 1)
        rw [htk hn, List.reverse_cons, List.append_assoc, List.singleton_append] at hsk
        rw [htk hn] at hPre ⊢
        have ha : a < zn M := zwf_lt hw (by omega)
        have he := zW_get (CA := CA) (b := b) ha
        rw [zE_obj e1 o3] at he
        have hrc := va_recv hK hP o4 he
        rcases o5 with ⟨w1, w2, w3, w4⟩ | ⟨host, w1, w2, w3, w4⟩ | ⟨owner, x, w1, w2, w3, w4⟩
        · exact va_runV (g := F0 m pc ls (st.map (zt b sc))) (n := q.2.2) (C := rr.1) ⟨hx, hb, hml, hown, hts⟩ hMet ⟨callB_of q.2.2 hts (z_good o2) rfl rfl rfl (hts _ w4) (hts _ w1) hmd (hrm hrk o2 _ _), hts _ w2, hts _ w3⟩ ⟨zPc_blind, hrc, hPre⟩ rfl (hln (by omega)) hsize hsk hW hd hf
        · exact va_runVN (g := F0 m pc ls (st.map (zt b sc))) (n := q.2.2) (C := rr.1) ⟨hx, hb, hml, hown, hts⟩ hMet ⟨va_cnB q.2.2 hts (z_good o2) rfl rfl rfl (hxs _ w1) (hts _ w4) hmd (hrm hrk o2 _ _), hts _ w2, hts _ w3⟩ ⟨zPc_blind, hrc, hPre⟩ rfl (hln (by omega)) hsize hsk hW hd hf
        · have hcd : (Cond.code (zy q.2.1) (zb q.2.1) (znl q.2.1) (zty q.2.1)).before args s = true := hts _ (zWS_code q.2.1 o2)
          have hR' := hrm hrk o2 (zn r1.2 - zn M) (zz r1.2 - zz M)
          have hlen : ∀ sig, parseMethodDescriptor x.desc = some sig → q.2.2 = sig.parameters.length := by
            intro sig hs
            have h2 := hmd.2.2
            rw [← w4, hs] at h2
            exact (Option.some.inj h2).symm
          have hdecl : va_Decl s ⟨owner, x.name, x.desc⟩ := by
            rcases w2 with w2 | w2
            · rw [← w2]
              exact va_Decl.of (hts _ (w1 _ (by simp))) hcd
            · exact va_Decl.abs (hxs _ w2)
          exact va_runU (g := F0 m pc ls (st.map (zt b sc))) (n := q.2.2) (C := rr.1) (owner := owner) (x := x) ⟨hx, hb, hml, hown, hts⟩ hMet
            ⟨⟨rfl, rfl, hR'.1, hR'.2, pay_in hts (z_good o2), List.mem_cons_self⟩, hcd, hts _ (w1 _ (by simp)), w3, hlen, hts _ (w1 _ (by simp)), hts _ (w1 _ (by simp)), hdecl, hts _ (w1 _ (by simp)), hts _ (w1 _ (by simp))⟩
            ⟨zPc_blind, hrc, hPre⟩ rfl (hln (by omega)) hsize hsk hW hd hf
      · cases h
    · cases h
  case ireturn =>
    dsimp only [zx4] at h
    split at h
    · split at h <;> cases h
    · cases h
  case areturn =>
    dsimp only [zx4] at h
    split at h
    · split at h <;> cases h
    · cases h
  case return_ =>
    dsimp only [zx4] at h
    split at h <;> cases h
  all_goals (change (none : zO) = _ at h; cases h)
end ZG
/-! all of it -/
def zon (i : Nat) (M : zM) (o : zO) : Prop := match o with
  | none => True
  | some (.inl c) => c.1 = i ∧ zn M ≤ zn c.2.2.2.2 ∧ zz M ≤ zz c.2.2.2.2
  | some (.inr _) => False
theorem zon_go {i pc : Nat} {L st : List Value} {M M' : zM} (h1 : zn M ≤ zn M') (h2 : zz M ≤ zz M') : zon i M (zgo i pc L st M') := ⟨rfl, h1, h2⟩
theorem zon_gf {i : Nat} {M : zM} {x : Nat} {K : Nat → Nat → zO} (h : ∀ j k, zon i M (K j k)) : ∀ {inf : zI}, zon i M (zgf inf x K)
  | [] => trivial
  | q :: t => by
    rw [zgf]
    split
    · exact h _ _
    · exact zon_gf h
theorem zon_sw {i : Nat} {M : zM} {x : Int32} {K : Nat → zO} {d : Nat} (h : ∀ j, zon i M (K j)) : ∀ {inf : zI}, zon i M (zsw inf x K d)
  | [] => h d
  | q :: t => by
    rw [zsw]
    split
    · exact h _
    · exact zon_sw h
theorem zon_x1 {i pc : Nat} {ins : Jvm.ClassFile.Instr} {L st : List Value} {M : zM} : zon i M (zx1 i pc ins L st M) := by
  cases ins <;> dsimp only [zx1, zbin, zldi, zlda, zsti, zsta] <;> (repeat' split) <;> first | exact trivial | exact zon_go (Nat.le_refl _) (Nat.le_refl _)
theorem zon_x2 {i pc : Nat} {ins : Jvm.ClassFile.Instr} {inf : zI} {L st : List Value} {M : zM} : zon i M (zx2 i pc ins inf L st M) := by
  cases inf with
  | nil => exact trivial
  | cons q inf' =>
    cases ins <;> dsimp only [zx2] <;> (repeat' split) <;> first | exact trivial | exact zon_go (Nat.le_refl _) (Nat.le_refl _) | exact zon_sw (fun j => zon_go (Nat.le_refl _) (Nat.le_refl _))
theorem zon_al {i pc : Nat} {L st : List Value} {M : zM} {t len k : Nat} : zon i M (zgo i pc L st (zal M t len k)) := zon_go (Nat.le_succ _) (Nat.le_add_right _ _)
theorem zon_x3 {P : zP} {i pc : Nat} {ins : Jvm.ClassFile.Instr} {inf : zI} {L st : List Value} {M : zM} : zon i M (zx3 P i pc ins inf L st M) := by
  cases ins <;> dsimp only [zx3] <;> (repeat' split) <;> first | exact trivial | exact zon_go (Nat.le_refl _) (Nat.le_refl _) | exact zon_al | (refine zon_gf (fun j k => ?_); (repeat' split) <;> first | exact trivial | exact zon_go (Nat.le_refl _) (Nat.le_refl _))
def zop (i : Nat) (M : zM) (o : zO) : Prop := match o with
  | none => True
  | some (.inl c) => c.1 = i ∧ zn M ≤ zn c.2.2.2.2 ∧ zz M ≤ zz c.2.2.2.2
  | some (.inr (.inl r)) => r.2 = M
  | some (.inr (.inr q)) => q.1.2.2.2.2 = M ∧ q.2.1 = i
theorem zop_cal {P : zP} {j cnt i pc : Nat} {L st : List Value} {M : zM} : zop i M (zcal P j cnt i pc L st M) := by
  unfold zcal
  split
  · exact ⟨rfl, rfl⟩
  · exact trivial
theorem zop_gf {i : Nat} {M : zM} {x : Nat} {K : Nat → Nat → zO} (h : ∀ j k, zop i M (K j k)) : ∀ {inf : zI}, zop i M (zgf inf x K)
  | [] => trivial
  | q :: t => by
    rw [zgf]
    split
    · exact h _ _
    · exact zop_gf h
theorem zop_x4 {P : zP} {i pc : Nat} {ins : Jvm.ClassFile.Instr} {inf : zI} {L st : List Value} {M : zM} : zop i M (zx4 P i pc ins inf L st M) := by
  cases ins <;> dsimp only [zx4] <;> (repeat' split) <;> first | exact trivial | exact rfl | exact zop_cal | exact ⟨rfl, Nat.le_refl _, Nat.le_refl _⟩ | exact zop_gf (fun j k => zop_cal)
theorem zex_of {P : zP} {i pc : Nat} {ins : Jvm.ClassFile.Instr} {inf : zI} {L st : List Value} {M : zM} : zex P i pc ins inf L st M = zx1 i pc ins L st M ∨ zex P i pc ins inf L st M = zx2 i pc ins inf L st M ∨ zex P i pc ins inf L st M = zx3 P i pc ins inf L st M ∨ zex P i pc ins inf L st M = zx4 P i pc ins inf L st M := by
  cases ins <;> first | exact Or.inl rfl | exact Or.inr (Or.inl rfl) | exact Or.inr (Or.inr (Or.inl rfl)) | exact Or.inr (Or.inr (Or.inr rfl))
theorem zop_on {i : Nat} {M : zM} {o : zO} (h : zon i M o) : zop i M o := by
  cases o with
  | none => trivial
  | some o => cases o with
    | inl c => exact h
    | inr o => exact absurd h (fun z => z)
theorem zop_st {P : zP} {cf : zC} : zop cf.1 cf.2.2.2.2 (zst P cf) := by
  unfold zst
  split
  · trivial
  · rcases @zex_of P cf.1 cf.2.1 _ _ cf.2.2.1 cf.2.2.2.1 cf.2.2.2.2 with h | h | h | h
    · rw [h]; exact zop_on zon_x1
    · rw [h]; exact zop_on zon_x2
    · rw [h]; exact zop_on zon_x3
    · rw [h]; exact zop_x4
theorem zrun_mn {P : zP} : ∀ {k : Nat} {cf : zC} {r : zR}, zrun P k cf = some r → zn cf.2.2.2.2 ≤ zn r.2 ∧ zz cf.2.2.2.2 ≤ zz r.2
  | 0, cf, r, h => by cases h
  | k + 1, cf, r, h => by
    rw [zrun] at h
    have ho := @zop_st P cf
    cases hs : zst P cf with
    | none => rw [hs] at h; cases h
    | some o =>
      rw [hs] at h ho
      cases o with
      | inl c' =>
        have := zrun_mn (k := k) h
        have ho : c'.1 = cf.1 ∧ zn cf.2.2.2.2 ≤ zn c'.2.2.2.2 ∧ zz cf.2.2.2.2 ≤ zz c'.2.2.2.2 := ho
        omega
      | inr o => cases o with
        | inl r' =>
          cases h
          have ho : r.2 = cf.2.2.2.2 := ho
          rw [ho]
          exact ⟨Nat.le_refl _, Nat.le_refl _⟩
        | inr q =>
          dsimp only at h
          cases h1 : zrun P k q.1 with
          | none => rw [h1] at h; cases h
          | some r1 =>
            rw [h1] at h
            have g1 := zrun_mn (k := k) h1
            have g2 := zrun_mn (k := k) h
            have ho : q.1.2.2.2.2 = cf.2.2.2.2 ∧ q.2.1 = cf.1 := ho
            rw [ho.1] at g1
            dsimp only at g2
            omega
theorem z_met {l : Launch} {D : va_G} {CA : Nat → ClassId} {b sc : Nat} {sp : Nat × (Nat → Int32)} {j : Nat} {as : List Value} {M : zM} {r : zR} (hsc : sc < b) (hj : j < znm) (hl : as.length ≤ znl j) (hok : ∀ v ∈ as, zok v = true) (hw : zwf M)
    (h : ∀ (p : Program) (e : Env) (R : Room) (s : State) (m : MethodId) (args : Array Value) (below : List Frame) (meth : Method) (c : Code), zB p R s m args meth c D CA b sc (zn M) sp j → (zn r.2 - zn M ≤ R.cells ∧ zz r.2 - zz M ≤ R.slots) → zG p l e R s m args below meth c D CA b sc (zn M) (zz M) (j, 0, as ++ List.replicate (znl j - as.length) (.double 0), [], M) r) : zMet l D CA b sc sp j as M r := by
  refine Met.ofW (cc := zb j) (maxL := znl j) (ret := zty j) (zpl j hj) rfl ?_
  intro p e s m args below meth c s₁ B hml hv
  obtain ⟨rfl, hP, hK, hsz, hX, hxs⟩ := hv
  have hts := atoms_spec (ws := zw j) B.pre
  have hvs : ∀ v ∈ as.map (zt b sc), v.category = 1 := by
    intro v hv
    obtain ⟨w, hw1, hw2⟩ := List.mem_map.mp hv
    rw [← hw2]
    exact zt_cat (hok w hw1)
  have hsl : lg_sl (as.map (zt b sc)) = (as.map (zt b sc)).map Slot.val := by
    unfold lg_sl
    have : ∀ vs : List Value, (∀ v ∈ vs, v.category = 1) → (vs.flatMap fun v => if v.category = 2 then [Slot.val v, .second] else [.val v]) = vs.map Slot.val := by
      intro vs hvs
      induction vs with
      | nil => rfl
      | cons v vs ih =>
        rw [List.flatMap_cons, ih (fun w hw => hvs w (List.mem_cons_of_mem _ hw)), if_neg (by rw [hvs v List.mem_cons_self]; decide)]
        rfl
    exact this _ hvs
  have hlen : (lg_sl (as.map (zt b sc))).length = as.length := by rw [hsl, List.length_map, List.length_map]
  have hl0 := lv_entry (as.map (zt b sc)) (n := znl j) (by rw [hlen]; exact hl)
  rw [lg_entry_eq]
  have hls : zls b sc ((lg_sl (as.map (zt b sc)) ++ List.replicate (znl j - (lg_sl (as.map (zt b sc))).length) Slot.unset).toArray) (znl j) (as ++ List.replicate (znl j - as.length) (.double 0)) := by
    refine ⟨by rw [List.length_append, List.length_replicate]; omega, hl0.1, hl0.2.1, fun q hq => ?_⟩
    obtain ⟨v, hv, ho, e1⟩ := zlv_in.mp hq
    by_cases hqa : q.1 < as.length
    · rw [List.getElem?_append_left hqa] at hv
      rw [hsl, List.getElem?_toArray, List.getElem?_append_left (by rw [List.length_map, List.length_map]; exact hqa), List.getElem?_map, List.getElem?_map, hv, e1]
      rfl
    · rw [List.getElem?_append_right (by omega)] at hv
      have := List.mem_of_getElem? hv
      rw [List.eq_of_mem_replicate this] at ho
      cases ho
  exact h p e _ s m _ below meth c ⟨B.exec, B.bytes, hml, findClass_of_methodNamed B.named, ⟨fun w hw => hts w (List.mem_cons_of_mem _ hw), hxs⟩, ⟨B.notSynchronized, B.returns, fun hn => by rw [(name_of_methodNamed B.named B.method).1]; exact hn⟩, hK, Nat.le_refl _, Nat.le_refl _, hsz, hsc, hX⟩ ⟨Nat.le_refl _, Nat.le_refl _⟩ s.heap [] _ 0 0 hP hls ⟨Nat.le_refl _, fun _ _ _ => rfl, fun q hq => by cases hq⟩ (Nat.zero_add _) (Nat.zero_add _) (fun v hv => by cases hv) hw
theorem z_snd {l : Launch} {D : va_G} {CA : Nat → ClassId} {b sc : Nat} {sp : Nat × (Nat → Int32)} (hsc : sc < b) : ∀ (k : Nat) {cf : zC} {r : zR}, zrun (zPr sp) k cf = some r → cf.1 ≤ znm → ∀ (p : Program) (e : Env) (R : Room) (s : State) (m : MethodId) (args : Array Value) (below : List Frame) (meth : Method) (c : Code) (n0 z0 : Nat), zB p R s m args meth c D CA b sc n0 sp cf.1 → (zn r.2 - n0 ≤ R.cells ∧ zz r.2 - z0 ≤ R.slots) → zG p l e R s m args below meth c D CA b sc n0 z0 cf r
  | 0, cf, r, h, _ => by cases h
  | k + 1, (i, pc, L, st, M), r, h, hi => by
    intro p e R s m args below meth c n0 z0 B hR
    rw [zrun] at h
    have ho := @zop_st (zPr sp) (i, pc, L, st, M)
    cases hlk : zlk (zcd i) pc with
    | none =>
      have hs : zst (zPr sp) (i, pc, L, st, M) = none := by
        show (match zlk (zcd i) pc with | none => none | some q => zex (zPr sp) i pc q.1 q.2 L st M) = none
        rw [hlk]
      rw [hs] at h; cases h
    | some q =>
      obtain ⟨ins, inf⟩ := q
      have hs : zst (zPr sp) (i, pc, L, st, M) = zex (zPr sp) i pc ins inf L st M := by
        show (match zlk (zcd i) pc with | none => none | some q => zex (zPr sp) i pc q.1 q.2 L st M) = _
        rw [hlk]
      obtain ⟨t1, t2, t3, t4⟩ := ztab i hi pc ins inf hlk
      rw [hs] at h ho
      cases hx : zex (zPr sp) i pc ins inf L st M with
      | none => rw [hx] at h; cases h
      | some o =>
        rw [hx] at h ho
        cases o with
        | inl c' =>
          have ho : c'.1 = i ∧ zn M ≤ zn c'.2.2.2.2 ∧ zz M ≤ zz c'.2.2.2.2 := ho
          have h : zrun (zPr sp) k c' = some r := h
          have kk := z_snd (l := l) (D := D) (CA := CA) hsc k h (by rw [ho.1]; exact hi) p e R s m args below meth c n0 z0 (by rw [ho.1]; exact B) hR
          have hmn := zrun_mn h
          rcases @zex_of (zPr sp) i pc ins inf L st M with e1 | e1 | e1 | e1
          · rw [e1] at hx; exact z_x1 B t1 hx kk
          · rw [e1] at hx; exact z_x2 B t1 t2 hx kk
          · rw [e1] at hx; exact z_x3 B t1 t3 hmn hR hx kk
          · rw [e1] at hx; exact z_x4g B t1 t4 hmn hR (zrk_1 i hi) hx kk
        | inr o => cases o with
          | inl r' =>
            cases h
            rcases @zex_of (zPr sp) i pc ins inf L st M with e1 | e1 | e1 | e1
            · rw [e1] at hx
              have := @zon_x1 i pc ins L st M
              rw [hx] at this
              exact this.elim
            · rw [e1] at hx
              have := @zon_x2 i pc ins inf L st M
              rw [hx] at this
              exact this.elim
            · rw [e1] at hx
              have := @zon_x3 (zPr sp) i pc ins inf L st M
              rw [hx] at this
              exact this.elim
            · rw [e1] at hx; exact z_x4r B t1 t4 hx
          | inr q =>
            have ho : q.1.2.2.2.2 = M ∧ q.2.1 = i := ho
            dsimp only at h
            cases h1 : zrun (zPr sp) k q.1 with
            | none => rw [h1] at h; cases h
            | some r1 =>
              rw [h1] at h
              have h : zrun (zPr sp) k (q.2.1, q.2.2.1, q.2.2.2.1, r1.1.toList ++ q.2.2.2.2, r1.2) = some r := h
              have g1 := zrun_mn h1
              have g2 := zrun_mn h
              rw [ho.1] at g1
              have kk := z_snd (l := l) (D := D) (CA := CA) hsc k h (by rw [show (q.2.1, q.2.2.1, q.2.2.2.1, r1.1.toList ++ q.2.2.2.2, r1.2).1 = q.2.1 from rfl, ho.2]; exact hi) p e R s m args below meth c n0 z0 (by rw [show (q.2.1, q.2.2.1, q.2.2.2.1, r1.1.toList ++ q.2.2.2.2, r1.2).1 = q.2.1 from rfl, ho.2]; exact B) hR
              rcases @zex_of (zPr sp) i pc ins inf L st M with e1 | e1 | e1 | e1
              · rw [e1] at hx
                have := @zon_x1 i pc ins L st M
                rw [hx] at this
                exact this.elim
              · rw [e1] at hx
                have := @zon_x2 i pc ins inf L st M
                rw [hx] at this
                exact this.elim
              · rw [e1] at hx
                have := @zon_x3 (zPr sp) i pc ins inf L st M
                rw [hx] at this
                exact this.elim
              · rw [e1] at hx
                refine z_x4c B t1 t4 (r1 := r1) (fun j as hq hal hin hwf hst hj => ?_) ⟨g1, g2⟩ hR hx kk
                rw [hq] at h1
                exact z_met hsc hj hal (fun v hv => hst v (hin v hv)) hwf (fun p e R s m args below meth c B' hR' => z_snd (l := l) (D := D) (CA := CA) hsc k h1 (Nat.le_of_lt hj) p e R s m args below meth c (zn M) (zz M) B' hR')
