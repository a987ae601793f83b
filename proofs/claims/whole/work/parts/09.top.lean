def zM0 : zM := (fun _ => (999, 0), fun _ _ => 0, fun _ _ => none, 0, 0)
theorem zXS_of {A : Array Value} {U : State} (h : ∀ w ∈ zXS, w.before A U = true) : ∀ w ∈ zXS, va_Nw w U := List.forall_mem_cons.mpr ⟨va_AO.of (h _ zx_0), List.forall_mem_cons.mpr ⟨va_Nw.of rfl (h _ zx_1), List.forall_mem_cons.mpr ⟨va_Nw.of rfl (h _ zx_2), List.forall_mem_cons.mpr ⟨va_AO.of (h _ zx_3), List.forall_mem_cons.mpr ⟨va_AO.of (h _ zx_4), List.forall_mem_cons.mpr ⟨va_Nw.of rfl (h _ zx_5), List.forall_mem_cons.mpr ⟨va_Nw.of rfl (h _ zx_6), List.forall_mem_cons.mpr ⟨va_Nw.of rfl (h _ zx_7), List.forall_mem_cons.mpr ⟨va_Nw.of rfl (h _ zx_8), List.forall_mem_cons.mpr ⟨va_Nw.of rfl (h _ zx_9), fun w hw => absurd hw List.not_mem_nil⟩⟩⟩⟩⟩⟩⟩⟩⟩⟩
/-! whole_start out of a run of the abstract machine -/
theorem zW_mono {p : Program} {l : Launch} {e : Env} {R : Room} {s : State} {m : MethodId} {args : Array Value} {below : List Frame} {meth : Method} {c : Code} {H : Heap} {locs : List Loc} {cells slots : Nat} {Q Q' : State → Prop} {g : JFrame} (h : ∀ t, Q t → Q' t) (w : W p l e R s m args below meth c H locs cells slots Q g) : W p l e R s m args below meth c H locs cells slots Q' g := fun T hT X => by
  obtain ⟨t, a, b⟩ := w T hT X
  exact ⟨t, a, h t b⟩
theorem z_known {s : State} {args : Array Value} (hts : ∀ w ∈ zWS, w.before args s = true) (hxs : ∀ w ∈ zXS, va_Nw w s) : ∃ (D : va_G) (CA : Nat → ClassId), va_K D vwCl (zT CA) s := by
  obtain ⟨c0, i0, hk0⟩ := u_known hts zc_0.2.2.2.1 (hts _ zq_55)
  obtain ⟨c1, i1, hk1⟩ := u_known hts zc_1.2.2.2.1 (hts _ zq_17)
  obtain ⟨c2, i2, hk2⟩ := u_known hts zc_2.2.2.2.1 (hts _ zq_42)
  obtain ⟨c3, i3, hk3⟩ := u_known hts zc_3.2.2.2.1 (hts _ zq_26)
  obtain ⟨c4, i4, hk4⟩ := u_known hts zc_4.2.2.2.1 (hts _ zq_14)
  obtain ⟨c5, i5, hk5⟩ := u_known hts zc_5.2.2.2.1 (hts _ zq_361)
  obtain ⟨c6, i6, hk6⟩ := u_known hts zc_6.2.2.2.1 (hts _ zq_365)
  obtain ⟨a0, k0, comp0, f0, g0, h0⟩ := Cond.arrayClass_spec (hts _ zq_22)
  obtain ⟨a1, k1, comp1, f1, g1, h1⟩ := Cond.arrayClass_spec (hts _ zq_265)
  obtain ⟨comp2, a2, k2, e2, -, g2, h2, f2⟩ := Cond.arrayOver_spec (hxs _ zx_0)
  obtain ⟨comp3, a3, k3, e3, -, g3, h3, f3⟩ := Cond.arrayOver_spec (hxs _ zx_3)
  obtain ⟨comp4, a4, k4, e4, -, g4, h4, f4⟩ := Cond.arrayOver_spec (hxs _ zx_4)
  refine ⟨(fun i => [c0, c1, c2, c3, c4, c5, c6].getD i 0, fun i => [i0, i1, i2, i3, i4, i5, i6].getD i (fun _ => 0)), fun i => [a0, a1, a2, a3, a4].getD i 0, fun c q hq => ?_, fun k q hq => ?_⟩
  · have hc : c < 7 := (List.getElem?_eq_some_iff.mp hq).1
    have : c = 0 ∨ c = 1 ∨ c = 2 ∨ c = 3 ∨ c = 4 ∨ c = 5 ∨ c = 6 := by omega
    rcases this with h | h | h | h | h | h | h <;> subst h <;> cases hq <;> assumption
  · have hk : k < 5 := (List.getElem?_eq_some_iff.mp hq).1
    have : k = 0 ∨ k = 1 ∨ k = 2 ∨ k = 3 ∨ k = 4 := by omega
    rcases this with h | h | h | h | h <;> subst h <;> cases hq
    · exact ⟨fun n z => ⟨fun k h => (by cases h), k0, g0, comp0, h0⟩, f0⟩
    · exact ⟨fun n z => ⟨fun k h => (by cases h), k1, g1, comp1, h1⟩, f1⟩
    · exact ⟨fun n z => ⟨fun k h => (by cases h), k2, g2, comp2, h2⟩, k2, comp2, g2, h2, e2, f2⟩
    · exact ⟨fun n z => ⟨fun k h => (by cases h), k3, g3, comp3, h3⟩, k3, comp3, g3, h3, e3, f3⟩
    · exact ⟨fun n z => ⟨fun k h => (by cases h), k4, g4, comp4, h4⟩, k4, comp4, g4, h4, e4, f4⟩
theorem z_ent {m : MethodId} {b sc n : Nat} {as : List Value} (hl : as.length ≤ n) (hok : ∀ v ∈ as, zok v = true) : ∃ ls : Array Slot, entryFrame m (as.map (zt b sc)).toArray n = F0 m 0 ls [] ∧ zls b sc ls n (as ++ List.replicate (n - as.length) (.double 0)) := by
  have hvs : ∀ v ∈ as.map (zt b sc), v.category = 1 := by
    intro v hv
    obtain ⟨w, hw1, hw2⟩ := List.mem_map.mp hv
    rw [← hw2]
    exact zt_cat (hok w hw1)
  have hsl : lg_sl (as.map (zt b sc)) = (as.map (zt b sc)).map Slot.val := by
    unfold lg_sl
    have : ∀ vs : List Value, (∀ v ∈ vs, v.category = 1) → (vs.flatMap fun v => if v.category = 2 then [Slot.val v, .second] else [.val v]) = vs.map Slot.val := by
      intro vs hvs
      induction vs with
      | nil => rfl
      | cons v vs ih =>
        rw [List.flatMap_cons, ih (fun w hw => hvs w (List.mem_cons_of_mem _ hw)), if_neg (by rw [hvs v List.mem_cons_self]; decide)]
        rfl
    exact this _ hvs
  have hlen : (lg_sl (as.map (zt b sc))).length = as.length := by rw [hsl, List.length_map, List.length_map]
  have hl0 := lv_entry (as.map (zt b sc)) (n := n) (by rw [hlen]; exact hl)
  refine ⟨_, lg_entry_eq _ _ _, by rw [List.length_append, List.length_replicate]; omega, hl0.1, hl0.2.1, fun q hq => ?_⟩
  obtain ⟨v, hv, ho, e1⟩ := zlv_in.mp hq
  by_cases hqa : q.1 < as.length
  · rw [List.getElem?_append_left hqa] at hv
    rw [hsl, List.getElem?_toArray, List.getElem?_append_left (by rw [List.length_map, List.length_map]; exact hqa), List.getElem?_map, List.getElem?_map, hv, e1]
    rfl
  · rw [List.getElem?_append_right (by omega)] at hv
    have := List.mem_of_getElem? hv
    rw [List.eq_of_mem_replicate this] at ho
    cases ho
theorem z_top {p : Program} {e : Env} {s : State} {m : MethodId} {below : List Frame} {meth : Method} {c : Code} (l : Launch) {b L : Nat} {xs : Nat → Int32} (C0 : lw_At p s m meth c b L xs) {k : Nat} {M : zM} (hrun : zrun (zPr (L, xs)) k (120, 0, [.long 0, .double 0, .double 0, .double 0], [], zM0) = some (some (.int 1), M)) (hn : zn M ≤ 600000) (hz : zz M ≤ 7302250) : W p l e room_1 s m #[Value.ref b] below meth c s.heap [] 0 0 (lw_Z below #[Value.ref b] s) (entryFrame m ([Value.ref b] : List Value).toArray 4) := by
  obtain ⟨hx, hb, hret, hml, hown, hts, hX, hbl, hlocks, hgv⟩ := C0
  have hts' : ∀ w ∈ zWS, w.before #[Value.ref b] s = true := fun w hw => hts w (List.mem_filter.mp hw).1
  have hxs : ∀ w ∈ zXS, va_Nw w s := zXS_of (A := #[Value.ref b]) (fun w hw => hts w (zXS_in w hw))
  obtain ⟨D, CA, hK⟩ := z_known hts' hxs
  have B : zB p room_1 s m #[Value.ref b] meth c D CA s.heap.size b 0 (L, xs) 120 := ⟨hx, hb, hml, hown, ⟨hts', hxs⟩, ⟨hlocks, hret, fun h => absurd h (by decide)⟩, hK, by decide, by decide, rfl, hbl, hX⟩
  have G := z_snd (l := l) (D := D) (CA := CA) hbl k hrun (by decide) p e room_1 s m #[Value.ref b] below meth c 0 0 B ⟨hn, hz⟩
  obtain ⟨ls, hls1, hls2⟩ := z_ent (m := m) (b := s.heap.size) (sc := b) (n := 4) (as := [.long 0]) (by decide) (fun v hv => by rw [List.mem_singleton.mp hv]; rfl)
  have hls1 : entryFrame m ([Value.ref b] : List Value).toArray 4 = F0 m 0 ls [] := hls1
  rw [hls1]
  refine zW_mono (fun t ht => ?_) (G s.heap [] ls 0 0 (fun k q hk => by cases hk) hls2 va_S.rf rfl rfl (fun v hv => by cases hv) (fun a _ => show 25 ≤ 999 by decide))
  obtain ⟨o, h1, h2, ⟨h3, -⟩, L', ⟨h4, h5, h6⟩, h7⟩ := ht
  refine ⟨o, h1, h2, h3, h4, h5, ?_⟩
  have h8 : s.sameButNew ({ t with vm := s.vm } : State) [] (zn M - 0) (zz M - 0) := State.sameButNew.drop_fresh (L := []) (J := L') h6 h7
  exact h8.mono hn hz
