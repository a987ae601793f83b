theorem zV_ifg {P : zP} {c c1 c2 : zC} {p : Prop} [Decidable p] (h : zst P c = if p then some (.inl c1) else some (.inl c2)) : zV P c = if p then zV P c1 else zV P c2 := zV_if h
theorem zV_ifn {P : zP} {c c1 : zC} {p : Prop} [Decidable p] (h : zst P c = if p then some (.inl c1) else none) : zV P c = if p then zV P c1 else none := zV_if h
theorem zV_nif {P : zP} {c c1 : zC} {p : Prop} [Decidable p] (h : zst P c = if p then none else some (.inl c1)) : zV P c = if p then none else zV P c1 := zV_if h
theorem zV_ifr {P : zP} {c : zC} {r : zR} {p : Prop} [Decidable p] (h : zst P c = if p then some (.inr (.inl r)) else none) : zV P c = if p then some r else none := zV_if h
theorem zV_ifc {P : zP} {c cc : zC} {i pc : Nat} {L st : List Value} {p : Prop} [Decidable p] (h : zst P c = if p then some (.inr (.inr (cc, i, pc, L, st))) else none) : zV P c = if p then ((zV P cc).bind fun r => zV P (i, pc, L, r.1.toList ++ st, r.2)) else none := zV_if h
theorem zV_if2n {P : zP} {c c1 : zC} {p q : Prop} [Decidable p] [Decidable q] (h : zst P c = if p then (if q then some (.inl c1) else none) else none) : zV P c = if p then (if q then zV P c1 else none) else none := by
  rw [zV_if h, zL_if]; rfl
theorem zV_if2g {P : zP} {c c1 c2 : zC} {p q : Prop} [Decidable p] [Decidable q] (h : zst P c = if p then (if q then some (.inl c1) else some (.inl c2)) else none) : zV P c = if p then (if q then zV P c1 else zV P c2) else none := by
  rw [zV_if h, zL_if]; rfl
theorem zV_if3g {P : zP} {c c1 c2 : zC} {p q : Prop} [Decidable p] [Decidable q] (h : zst P c = if p then some (.inl c1) else (if q then some (.inl c2) else none)) : zV P c = if p then zV P c1 else (if q then zV P c2 else none) := by
  rw [zV_if h, zL_if]; rfl
theorem zV_if3c {P : zP} {c cc cc2 : zC} {i pc i2 pc2 : Nat} {L st L2 st2 : List Value} {p q : Prop} [Decidable p] [Decidable q] (h : zst P c = if p then some (.inr (.inr (cc, i, pc, L, st))) else (if q then some (.inr (.inr (cc2, i2, pc2, L2, st2))) else none)) : zV P c = if p then ((zV P cc).bind fun r => zV P (i, pc, L, r.1.toList ++ st, r.2)) else (if q then ((zV P cc2).bind fun r => zV P (i2, pc2, L2, r.1.toList ++ st2, r.2)) else none) := by
  rw [zV_if h, zL_if]; rfl
theorem zcb_10 : (Int8.ofInt (10)).toInt32 = (10 : Int32) := by decide
theorem zcb_12 : (Int8.ofInt (12)).toInt32 = (12 : Int32) := by decide
theorem zcb_15 : (Int8.ofInt (15)).toInt32 = (15 : Int32) := by decide
theorem zcb_16 : (Int8.ofInt (16)).toInt32 = (16 : Int32) := by decide
theorem zcb_31 : (Int8.ofInt (31)).toInt32 = (31 : Int32) := by decide
theorem zcb_40 : (Int8.ofInt (40)).toInt32 = (40 : Int32) := by decide
theorem zcb_56 : (Int8.ofInt (56)).toInt32 = (56 : Int32) := by decide
theorem zcb_6 : (Int8.ofInt (6)).toInt32 = (6 : Int32) := by decide
theorem zcb_64 : (Int8.ofInt (64)).toInt32 = (64 : Int32) := by decide
theorem zcb_7 : (Int8.ofInt (7)).toInt32 = (7 : Int32) := by decide
theorem zcb_8 : (Int8.ofInt (8)).toInt32 = (8 : Int32) := by decide
theorem zcb_m2 : (Int8.ofInt (-2)).toInt32 = (-2 : Int32) := by decide
theorem zci_0 : Int32.ofInt (0) = (0 : Int32) := by decide
theorem zci_1 : Int32.ofInt (1) = (1 : Int32) := by decide
theorem zci_2 : Int32.ofInt (2) = (2 : Int32) := by decide
theorem zci_3 : Int32.ofInt (3) = (3 : Int32) := by decide
theorem zci_4 : Int32.ofInt (4) = (4 : Int32) := by decide
theorem zci_5 : Int32.ofInt (5) = (5 : Int32) := by decide
theorem zci_m1 : Int32.ofInt (-1) = (-1 : Int32) := by decide
theorem zcs_2048 : (Int16.ofInt (2048)).toInt32 = (2048 : Int32) := by decide
theorem zcs_255 : (Int16.ofInt (255)).toInt32 = (255 : Int32) := by decide
theorem zcs_512 : (Int16.ofInt (512)).toInt32 = (512 : Int32) := by decide
