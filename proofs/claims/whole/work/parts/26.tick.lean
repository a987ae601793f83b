/-! Time passes in the class. -/
theorem ynS_ynS {S : yS} {f e m m' : Nat} : ynS (ynS S f e m) f e m' = ynS S f e m' := by
  unfold ynS
  have : (fun f' e' => if f' = f ∧ e' = e then m' else (fun f' e' => if f' = f ∧ e' = e then m else S.2.2.2.2.1 f' e') f' e') = (fun f' e' => if f' = f ∧ e' = e then m' else S.2.2.2.2.1 f' e') := by
    funext f' e'
    by_cases hc : f' = f ∧ e' = e
    · rw [if_pos hc, if_pos hc]
    · rw [if_neg hc, if_neg hc]; exact if_neg hc
  dsimp only at this ⊢
  rw [this]
theorem yFr_3 {k x d : Nat} {y : Int32} (hk : k ≤ 3) (h2 : k ≠ 2) (hd : d < 8) : yFr (k, y, 0, d, 0, 0, 0, 0) := ⟨hk, by show (0 : Nat) < 8; decide, hd, fun z => absurd z h2⟩
theorem yK_ring {n t : Nat} {S : yS} {e : Nat} (h : yK n t S) (he : e < 10) : yK n t (yRing S e) := by
  unfold yRing
  have g := h.1 e he
  by_cases hu : yu S e = true
  · by_cases h3 : yn S 3 e < 3
    · rw [if_pos ⟨hu, h3⟩]
      exact (yK_again (yK_num h (Or.inr (Or.inr ⟨rfl, by omega⟩))) he g.2.1).1
    · rw [if_neg (fun z => h3 z.2), if_pos hu]
      exact yK_post (yK_upF (yK_brk (yK_ep h) he)) (yFr_3 (x := 0) (by decide) (by decide) (by decide))
  · rw [if_neg (fun z => hu z.1), if_neg hu]
    exact yK_post h (yFr_3 (x := 0) (by decide) (by decide) (by decide))
theorem yK_tick1 {n t : Nat} {S : yS} {e : Nat} (h : yK n t S) (he : e < 10) : yK n t (yTick1 S e) := by
  unfold yTick1
  by_cases hc : yu S e = true ∧ yn S 0 e = 0
  · rw [if_pos hc]; exact h
  · rw [if_neg hc]
    split
    · exact yK_clk h (by omega) (fun _ hu hz => absurd ⟨hu, hz⟩ hc)
    · exact yK_ring (yK_clk h (by decide) (fun _ _ _ => rfl)) he
theorem yK_tickN {n t : Nat} {S : yS} (h : yK n t S) : ∀ {m : Nat}, m ≤ 10 → yK n t (yTickN S m)
  | 0, _ => h
  | m + 1, hm => yK_tick1 (yK_tickN h (by omega)) (by omega)
theorem yK_ticks {n t : Nat} {S : yS} (h : yK n t S) : ∀ {m : Nat}, yK n t (yTicks S m)
  | 0 => h
  | _ + 1 => yK_tickN (yK_ticks h) (Nat.le_refl _)
theorem E_ring {sp : Nat × (Nat → Int32)} {M0 M : zM} {S : yS} {e n t : Nat} (h : RC M0 M S) (hK : yK n t S) (hn : n < 2047) (he : e < 10) : ∃ M', zV (zPr sp) (62, 39, [.ref (zEn e)], [], M) = some (none, M') ∧ RC M0 M' (yRing S e) := by
  obtain ⟨k1, k2, k3, k4, k5, k6, k7⟩ := RC_e h he
  have g := hK.1 e he
  have hE := h.2.1 e he
  have z1 : (yb true = 0) = False := by decide
  have z0 : (yb false = 0) = True := by decide
  unfold yRing
  cases hu : yu S e
  · rw [if_neg (fun z => by cases z.1), if_neg (fun z => by cases z)]
    rw [hu] at hE
    have kw := (RC_w h (yo_lt e he)).1
    obtain ⟨M1, r1, r2⟩ := W_add (sp := sp) (x0 := 0) (x1 := ye S e) (x2 := -1) (x3 := -1) (x4 := -1) h (yo_lt e he) (0, ye S e, 0, 0, 0, 0, 0, 0) rfl rfl rfl rfl rfl
    refine ⟨M1, ?_, r2⟩
    simp only [e62_39, e62_40, e62_43, e62_46, e62_47, e62_50, e62_51, e62_54, e62_55, e62_56, e62_59, e62_60, e62_61, e62_64, e62_65, e62_68, e62_69, e62_70, e62_73, e62_76, e62_77, e62_78, e62_81, e62_82, e62_83, e62_86, e62_87, e62_90, e62_91, e62_92, e62_95, e62_96, e62_99, e62_100, e62_101, e62_104, e62_105, e62_106, e62_107, e62_110, zG1, zG3, k1, k3, kw, hE.1, hE.2.1, z0, r1, if_true, Option.bind_some, Option.toList_none, List.nil_append]
  · by_cases h3 : yn S 3 e < 3
    · rw [if_pos ⟨rfl, h3⟩]
      rw [hu] at hE
      have p1 : (nI (yn S 3 e) < 3) = True := eq_true (nI_lt (b := 3) h3 (by decide))
      have a1 : RC M0 (zwi M (zEn e) 10 (nI (yn S 3 e + 1))) (ynS S 3 e (yn S 3 e + 1)) := RC_en (f := 3) (n := yn S 3 e + 1) h he (by decide)
      obtain ⟨M1, r1, r2⟩ := E_again (sp := sp) a1 (yK_num hK (Or.inr (Or.inr ⟨rfl, by omega⟩))) (by omega) he
      rw [yn_nf (by decide)] at r2
      refine ⟨M1, ?_, r2⟩
      simp only [e62_39, e62_40, e62_43, e62_46, e62_47, e62_50, e62_51, e62_54, e62_55, e62_56, e62_59, e62_60, e62_61, e62_64, e62_65, e62_68, e62_69, e62_70, e62_73, e62_76, e62_77, e62_78, e62_81, e62_82, e62_83, e62_86, e62_87, e62_90, e62_91, e62_92, e62_95, e62_96, e62_99, e62_100, e62_101, e62_104, e62_105, e62_106, e62_107, e62_110, zG1, k1, zk_wi, hE.2.1, hE.2.2.2.2.2.1, z1, p1, nI_1, nI_add, r1, if_true, if_false, Option.bind_some, Option.toList_none, List.nil_append]
    · rw [if_neg (fun z => h3 z.2), if_pos rfl]
      rw [hu] at hE
      have p1 : (nI (yn S 3 e) < 3) = False := eq_false (nI_nlt (b := 3) (by omega) (by omega))
      have a1 : RC M0 (zwi M (zEn e) 5 (ye S e + 1)) (yeS S e (ye S e + 1)) := RC_epoch h he
      obtain ⟨M1, q1, q2⟩ := E_brk (sp := sp) a1 (yK_ep hK) hn he
      have a2 : RC M0 (zwi M1 (zEn e) 6 0) (yuS (yBrk (yeS S e (ye S e + 1)) e) e false) := RC_up (b := false) q2 he
      generalize hS1 : yuS (yBrk (yeS S e (ye S e + 1)) e) e false = S1 at a2
      obtain ⟨l1, l2, l3, l4, l5, l6, l7⟩ := RC_e a2 he
      have k1' := (RC_e q2 he).1
      have kw := (RC_w a2 (yo_lt e he)).1
      have hE1 := a2.2.1 e he
      obtain ⟨M2, r1, r2⟩ := W_add (sp := sp) (x0 := 0) (x1 := ye S1 e) (x2 := -1) (x3 := -1) (x4 := -1) a2 (yo_lt e he) (0, ye S1 e, 0, 0, 0, 0, 0, 0) rfl rfl rfl rfl rfl
      refine ⟨M2, ?_, r2⟩
      simp only [e62_39, e62_40, e62_43, e62_46, e62_47, e62_50, e62_51, e62_54, e62_55, e62_56, e62_59, e62_60, e62_61, e62_64, e62_65, e62_68, e62_69, e62_70, e62_73, e62_76, e62_77, e62_78, e62_81, e62_82, e62_83, e62_86, e62_87, e62_90, e62_91, e62_92, e62_95, e62_96, e62_99, e62_100, e62_101, e62_104, e62_105, e62_106, e62_107, e62_110, zG1, zG3, k1, k1', l1, l3, kw, zk_wi, hE.1, hE.2.1, hE.2.2.2.2.2.1, hE1.1, z1, p1, q1, r1, or_true, true_or, if_true, if_false, Option.bind_some, Option.toList_none, List.nil_append]
theorem E_tick {sp : Nat × (Nat → Int32)} {M0 M : zM} {S : yS} {e n t : Nat} (h : RC M0 M S) (hK : yK n t S) (hn : n < 2047) (he : e < 10) : ∃ M', zV (zPr sp) (62, 0, [.ref (zEn e)], [], M) = some (none, M') ∧ RC M0 M' (yTick1 S e) := by
  obtain ⟨k1, k2, k3, k4, k5, k6, k7⟩ := RC_e h he
  have g := hK.1 e he
  have hE := h.2.1 e he
  have z1 : (yb true = 0) = False := by decide
  have z0 : (yb false = 0) = True := by decide
  have tail : ∃ M', zV (zPr sp) (62, 15, [.ref (zEn e)], [], M) = some (none, M') ∧ RC M0 M' (if yn S 4 e + 1 < 4 then ynS S 4 e (yn S 4 e + 1) else yRing (ynS S 4 e 0) e) := by
    have a1 : RC M0 (zwi M (zEn e) 11 (nI (yn S 4 e + 1))) (ynS S 4 e (yn S 4 e + 1)) := RC_en (f := 4) (n := yn S 4 e + 1) h he (by decide)
    have z11 : zi (zwi M (zEn e) 11 (nI (yn S 4 e + 1))) (zEn e) 11 = nI (yn S 4 e + 1) := zi_eq
    by_cases h4 : yn S 4 e + 1 < 4
    · rw [if_pos h4]
      have p1 : (nI (yn S 4 e + 1) < 4) = True := eq_true (nI_lt (b := 4) h4 (by decide))
      refine ⟨_, ?_, a1⟩
      simp only [e62_15, e62_16, e62_17, e62_20, e62_21, e62_22, e62_25, e62_26, e62_29, e62_30, e62_33, zG1, k1, zk_wi, hE.2.2.2.2.2.2, nI_1, nI_add, z11, p1, if_true]
    · rw [if_neg h4]
      have p1 : (nI (yn S 4 e + 1) < 4) = False := eq_false (nI_nlt (b := 4) (by omega) (by omega))
      have a2 : RC M0 (zwi (zwi M (zEn e) 11 (nI (yn S 4 e + 1))) (zEn e) 11 0) (ynS (ynS S 4 e (yn S 4 e + 1)) 4 e 0) := RC_en (f := 4) (n := 0) a1 he (by decide)
      rw [ynS_ynS] at a2
      obtain ⟨M1, r1, r2⟩ := E_ring (sp := sp) a2 (yK_clk hK (by decide) (fun _ _ _ => rfl)) hn he
      refine ⟨M1, ?_, r2⟩
      simp only [e62_15, e62_16, e62_17, e62_20, e62_21, e62_22, e62_25, e62_26, e62_29, e62_30, e62_33, e62_34, e62_35, e62_36, zG1, k1, zk_wi, hE.2.2.2.2.2.2, nI_1, nI_add, z11, p1, if_true, if_false, r1]
  unfold yTick1
  cases hu : yu S e
  · rw [if_neg (fun z => by cases z.1)]
    rw [hu] at hE
    obtain ⟨M1, r1, r2⟩ := tail
    refine ⟨M1, ?_, r2⟩
    simp only [e62_0, e62_1, e62_4, zG1, k1, hE.2.1, z0, if_true, r1]
  · rw [hu] at hE
    by_cases hz : yn S 0 e = 0
    · rw [if_pos ⟨rfl, hz⟩]
      have p1 : (nI (yn S 0 e) = 0) = True := by rw [hz]; decide
      refine ⟨M, ?_, h⟩
      simp only [e62_0, e62_1, e62_4, e62_7, e62_8, e62_11, e62_14, zG1, k1, hE.2.1, hE.2.2.1, z1, p1, if_true, if_false]
    · rw [if_neg (fun z => hz z.2)]
      have p1 : (nI (yn S 0 e) = 0) = False := eq_false (fun z => hz ((nI_eq (by omega) (by decide)).mp z))
      obtain ⟨M1, r1, r2⟩ := tail
      refine ⟨M1, ?_, r2⟩
      simp only [e62_0, e62_1, e62_4, e62_7, e62_8, e62_11, zG1, k1, hE.2.1, hE.2.2.1, z1, p1, if_true, if_false, r1]
theorem RC_0 {M0 M : zM} {S : yS} (h : RC M0 M S) : zk M 0 = (5, 0) ∧ zr M 0 0 = some 1 ∧ zk M 1 = (22, 10) ∧ zr M 0 1 = some 82 ∧ zk M 82 = (24, 12) ∧ (∀ e, e < 10 → zr M 1 e = some (zEn e)) ∧ ∀ p, p < 4 → ∀ c, c < 3 → zr M 82 (3 * p + c) = some (zCh (6 * p + c)) := by
  have hr : ∀ a j, a < 143 → ymut a j = false → zr M a j = yr0 a j := h.1.2.2.1
  refine ⟨by rw [h.1.2.1 _ (by decide)]; decide +kernel, by rw [hr 0 0 (by decide) (by decide +kernel)]; decide +kernel, by rw [h.1.2.1 _ (by decide)]; decide +kernel, by rw [hr 0 1 (by decide) (by decide +kernel)]; decide +kernel, by rw [h.1.2.1 _ (by decide)]; decide +kernel, fun e he => ?_, fun p hp c hc => ?_⟩
  · have t := (by decide +kernel : ∀ e, e < 10 → ymut 1 e = false ∧ yr0 1 e = some (zEn e)) e he
    rw [hr 1 e (by decide) t.1]; exact t.2
  · have t := (by decide +kernel : ∀ p, p < 4 → ∀ c, c < 3 → ymut 82 (3 * p + c) = false ∧ yr0 82 (3 * p + c) = some (zCh (6 * p + c))) p hp c hc
    rw [hr 82 _ (by decide) t.1]; exact t.2
theorem N_in {sp : Nat × (Nat → Int32)} {M0 : zM} {S : yS} {n t : Nat} {x i : Int32} (hK : yK n t S) (hn : n < 2047) : ∀ (m k : Nat) {M : zM}, k + m = 10 → RC M0 M (yTickN S k) → ∃ M', zV (zPr sp) (61, 22, [.ref 0, .int x, .int i, .int (nI k)], [], M) = zV (zPr sp) (61, 15, [.ref 0, .int x, .int (i + 1), .int (nI 10)], [], M') ∧ RC M0 M' (yTickN S 10) := by
  intro m
  induction m with
  | zero =>
    intro k M hk h
    have hk : k = 10 := by omega
    subst hk
    obtain ⟨k1, k2, k3, k4, k5, k6, k7⟩ := RC_0 h
    have p1 : (nI 10 < Int32.ofNat 10) = False := by decide
    refine ⟨M, ?_, h⟩
    simp only [e61_22, e61_23, e61_24, e61_27, e61_28, e61_46, e61_49, zG1, zG3, zG13, k1, k2, k3, p1, if_true, if_false]
  | succ m ih =>
    intro k M hk h
    obtain ⟨k1, k2, k3, k4, k5, k6, k7⟩ := RC_0 h
    have p1 : (nI k < Int32.ofNat 10) = True := eq_true (nI_lt (b := 10) (by omega) (by decide))
    have p2 : zin (nI k) 10 = true := zin_nI (by omega) (by decide)
    have p3 : (nI k).toNatClampNeg = k := nI_clamp (by omega)
    have kr := k6 k (by omega)
    have ke := (RC_e h (show k < 10 by omega)).1
    obtain ⟨M1, r1, r2⟩ := E_tick (sp := sp) h (yK_tickN hK (by omega)) hn (show k < 10 by omega)
    have r2 : RC M0 M1 (yTickN S (k + 1)) := r2
    obtain ⟨M2, q1, q2⟩ := ih (k + 1) (by omega) r2
    refine ⟨M2, ?_, q2⟩
    refine Eq.trans ?_ q1
    refine Eq.trans ?_ e61_43
    simp only [e61_22, e61_23, e61_24, e61_27, e61_28, e61_31, e61_32, e61_35, e61_36, e61_37, e61_40, zG1, zG3, zG11, zG13, k1, k2, k3, kr, ke, p1, p2, p3, r1, nI_1, nI_add, if_true, Option.bind_some, Option.toList_none, List.nil_append]
theorem N_out {sp : Nat × (Nat → Int32)} {M0 : zM} {S : yS} {n t x : Nat} (hK : yK n t S) (hn : n < 2047) (hx : x ≤ 40) : ∀ (m k : Nat) {M : zM} {v : Value}, k + m = x → RC M0 M (yTicks S k) → ∃ M', zV (zPr sp) (61, 15, [.ref 0, .int (nI x), .int (nI k), v], [], M) = some (some (.int 1), M') ∧ RC M0 M' (yTicks S x) := by
  intro m
  induction m with
  | zero =>
    intro k M v hk h
    have hk : k = x := by omega
    subst hk
    have p1 : (nI k < nI k) = False := eq_false (nI_nlt (Nat.le_refl _) (by omega))
    refine ⟨M, ?_, h⟩
    simp only [e61_15, e61_16, e61_17, e61_52, e61_53, p1, or_true, if_true, if_false]
  | succ m ih =>
    intro k M v hk h
    have p1 : (nI k < nI x) = True := eq_true (nI_lt (by omega) (by omega))
    obtain ⟨M1, r1, r2⟩ := N_in (sp := sp) (x := nI x) (i := nI k) (yK_ticks hK) hn 10 0 (by omega) h
    have r1 : zV (zPr sp) (61, 22, [.ref 0, .int (nI x), .int (nI k), .int 0], [], M) = zV (zPr sp) (61, 15, [.ref 0, .int (nI x), .int (nI (k + 1)), .int (nI 10)], [], M1) := by rw [← nI_add]; exact r1
    have r2 : RC M0 M1 (yTicks S (k + 1)) := r2
    obtain ⟨M2, q1, q2⟩ := ih (v := .int (nI 10)) (k + 1) (by omega) r2
    refine ⟨M2, ?_, q2⟩
    rw [← q1, ← r1]
    simp only [e61_15, e61_16, e61_17, e61_20, e61_21, p1, if_true]
/-- tick: what it answers, what it does -/
def yTickA (x : Int32) : Int32 := if x < 1 ∨ 40 < x then 0 else 1
def yTickS (S : yS) (x : Int32) : yS := if x < 1 ∨ 40 < x then S else yTicks S x.toNatClampNeg
theorem N_tick {sp : Nat × (Nat → Int32)} {M0 M : zM} {S : yS} {n t : Nat} {x : Int32} (h : RC M0 M S) (hK : yK n t S) (hn : n < 2047) : ∃ M', zV (zPr sp) (61, 0, [.ref 0, .int x, .double 0, .double 0], [], M) = some (some (.int (yTickA x)), M') ∧ RC M0 M' (yTickS S x) := by
  unfold yTickA yTickS
  by_cases h1 : x < 1
  · rw [if_pos (Or.inl h1), if_pos (Or.inl h1)]
    have p1 : (x < 1) = True := eq_true h1
    refine ⟨M, ?_, h⟩
    simp only [e61_0, e61_1, e61_2, e61_5, e61_6, e61_8, e61_11, e61_12, p1, true_or, or_true, if_true]
  · have p1 : (x < 1) = False := eq_false h1
    by_cases h2 : 40 < x
    · rw [if_pos (Or.inr h2), if_pos (Or.inr h2)]
      have p2 : (40 < x) = True := eq_true h2
      refine ⟨M, ?_, h⟩
      simp only [e61_0, e61_1, e61_2, e61_5, e61_6, e61_8, e61_11, e61_12, p1, p2, true_or, or_true, if_true, if_false]
    · have p2 : (40 < x) = False := eq_false h2
      have hc : ¬ (x < 1 ∨ 40 < x) := fun z => z.elim h1 h2
      rw [if_neg hc, if_neg hc]
      have hx0 : ¬ x < 0 := fun z => h1 (Int32.lt_trans z (by decide))
      obtain ⟨j, hj, hxj⟩ := nI_of hx0
      have hjc : x.toNatClampNeg = j := by rw [hxj]; exact nI_clamp hj
      have hxe : x = nI x.toNatClampNeg := by rw [hjc]; exact hxj
      have hx4 : x.toNatClampNeg ≤ 40 := by
        refine Nat.le_of_not_lt fun z => h2 ?_
        rw [hxj]
        exact nI_lt (a := 40) (by omega) (by omega)
      obtain ⟨M1, r1, r2⟩ := N_out (sp := sp) (v := .double 0) hK hn hx4 x.toNatClampNeg 0 (by omega) h
      rw [← hxe] at r1
      have r1 : zV (zPr sp) (61, 15, [.ref 0, .int x, .int 0, .double 0], [], M) = some (some (.int 1), M1) := r1
      refine ⟨M1, ?_, r2⟩
      simp only [e61_0, e61_1, e61_2, e61_5, e61_6, e61_8, e61_11, e61_12, e61_13, e61_14, p1, p2, if_false, r1]
