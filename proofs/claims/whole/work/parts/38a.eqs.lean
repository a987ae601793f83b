/-! Equations of law, a. -/
set_option maxRecDepth 20000 in
theorem e120_0 {sp : Nat × (Nat → Int32)} {M : zM} {v0 v1 v2 v3 : Value} : zV (zPr sp) (120, 0, [v0, v1, v2, v3], [], M) = zV (zPr sp) (120, 3, [v0, v1, v2, v3], [.ref (zn M)], zal M 5 0 2) := zV_go rfl
set_option maxRecDepth 20000 in
theorem e120_3 {sp : Nat × (Nat → Int32)} {M : zM} {w0 v0 v1 v2 v3 : Value} : zV (zPr sp) (120, 3, [v0, v1, v2, v3], [w0], M) = zV (zPr sp) (120, 4, [v0, v1, v2, v3], [w0, w0], M) := zV_go rfl
set_option maxRecDepth 20000 in
theorem e120_4 {sp : Nat × (Nat → Int32)} {M : zM} {w1 v0 v1 v2 v3 : Value} {a : Nat} : zV (zPr sp) (120, 4, [v0, v1, v2, v3], [.ref a, w1], M) = (zV (zPr sp) (0, 0, [.ref a, .double 0, .double 0], [], M)).bind fun r => zV (zPr sp) (120, 7, [v0, v1, v2, v3], r.1.toList ++ [w1], r.2) := zV_call rfl
set_option maxRecDepth 20000 in
theorem e120_7 {sp : Nat × (Nat → Int32)} {M : zM} {w0 v0 v1 v2 v3 : Value} : zV (zPr sp) (120, 7, [v0, v1, v2, v3], [w0], M) = if zA w0 = true then zV (zPr sp) (120, 8, [v0, w0, v2, v3], [], M) else none := zV_ifn rfl
set_option maxRecDepth 20000 in
theorem e120_8 {sp : Nat × (Nat → Int32)} {M : zM} {v0 v1 v2 v3 : Value} : zV (zPr sp) (120, 8, [v0, v1, v2, v3], [], M) = zV (zPr sp) (120, 11, [v0, v1, v2, v3], [.ref (zn M)], zal M 6 0 24) := zV_go rfl
set_option maxRecDepth 20000 in
theorem e120_11 {sp : Nat × (Nat → Int32)} {M : zM} {w0 v0 v1 v2 v3 : Value} : zV (zPr sp) (120, 11, [v0, v1, v2, v3], [w0], M) = zV (zPr sp) (120, 12, [v0, v1, v2, v3], [w0, w0], M) := zV_go rfl
set_option maxRecDepth 20000 in
theorem e120_12 {sp : Nat × (Nat → Int32)} {M : zM} {w1 v0 v1 v2 v3 : Value} {a : Nat} : zV (zPr sp) (120, 12, [v0, v1, v2, v3], [.ref a, w1], M) = (zV (zPr sp) (73, 0, [.ref a], [], M)).bind fun r => zV (zPr sp) (120, 15, [v0, v1, v2, v3], r.1.toList ++ [w1], r.2) := zV_call rfl
set_option maxRecDepth 20000 in
theorem e120_15 {sp : Nat × (Nat → Int32)} {M : zM} {w0 v0 v1 v2 v3 : Value} : zV (zPr sp) (120, 15, [v0, v1, v2, v3], [w0], M) = if zA w0 = true then zV (zPr sp) (120, 16, [v0, v1, w0, v3], [], M) else none := zV_ifn rfl
set_option maxRecDepth 20000 in
theorem e120_16 {sp : Nat × (Nat → Int32)} {M : zM} {v0 v1 v2 v3 : Value} : zV (zPr sp) (120, 16, [v0, v1, v2, v3], [], M) = zV (zPr sp) (120, 17, [v0, v1, v2, v3], [.int (0)], M) := (zV_go rfl).trans (congrArg (fun c => zV (zPr sp) (120, 17, [v0, v1, v2, v3], [.int c], M)) zci_0)
set_option maxRecDepth 20000 in
theorem e120_17 {sp : Nat × (Nat → Int32)} {M : zM} {x0 : Int32} {v0 v1 v2 v3 : Value} : zV (zPr sp) (120, 17, [v0, v1, v2, v3], [.int x0], M) = zV (zPr sp) (120, 18, [v0, v1, v2, .int x0], [], M) := zV_go rfl
set_option maxRecDepth 20000 in
theorem e120_18 {sp : Nat × (Nat → Int32)} {M : zM} {y : Int32} {v0 v1 v2 : Value} : zV (zPr sp) (120, 18, [v0, v1, v2, .int y], [], M) = zV (zPr sp) (120, 19, [v0, v1, v2, .int y], [.int y], M) := zV_go rfl
set_option maxRecDepth 20000 in
theorem e120_19 {sp : Nat × (Nat → Int32)} {M : zM} {x0 : Int32} {v0 v1 v2 v3 : Value} : zV (zPr sp) (120, 19, [v0, v1, v2, v3], [.int x0], M) = if zAL v0 = true then zV (zPr sp) (120, 20, [v0, v1, v2, v3], [v0, .int x0], M) else none := zV_ifn rfl
set_option maxRecDepth 20000 in
theorem e120_20 {sp : Nat × (Nat → Int32)} {M : zM} {x1 : Int32} {v0 v1 v2 v3 : Value} {a : Int64} : zV (zPr sp) (120, 20, [v0, v1, v2, v3], [.long a, .int x1], M) = zV (zPr sp) (120, 21, [v0, v1, v2, v3], [.int (Int32.ofNat sp.1), .int x1], M) := zV_go rfl
set_option maxRecDepth 20000 in
theorem e120_21 {sp : Nat × (Nat → Int32)} {M : zM} {x0 x1 : Int32} {v0 v1 v2 v3 : Value} : zV (zPr sp) (120, 21, [v0, v1, v2, v3], [.int x0, .int x1], M) = zV (zPr sp) (120, 22, [v0, v1, v2, v3], [.int (5), .int x0, .int x1], M) := (zV_go rfl).trans (congrArg (fun c => zV (zPr sp) (120, 22, [v0, v1, v2, v3], [.int c, .int x0, .int x1], M)) zci_5)
set_option maxRecDepth 20000 in
theorem e120_22 {sp : Nat × (Nat → Int32)} {M : zM} {x0 x1 x2 : Int32} {v0 v1 v2 v3 : Value} : zV (zPr sp) (120, 22, [v0, v1, v2, v3], [.int x0, .int x1, .int x2], M) = zV (zPr sp) (120, 23, [v0, v1, v2, v3], [.int (x1 - x0), .int x2], M) := zV_go rfl
set_option maxRecDepth 20000 in
theorem e120_23 {sp : Nat × (Nat → Int32)} {M : zM} {x0 x1 : Int32} {v0 v1 v2 v3 : Value} : zV (zPr sp) (120, 23, [v0, v1, v2, v3], [.int x0, .int x1], M) = if x0 < x1 then zV (zPr sp) (120, 740, [v0, v1, v2, v3], [], M) else zV (zPr sp) (120, 26, [v0, v1, v2, v3], [], M) := zV_ifg rfl
set_option maxRecDepth 20000 in
theorem e120_26 {sp : Nat × (Nat → Int32)} {M : zM} {v0 v1 v2 v3 : Value} : zV (zPr sp) (120, 26, [v0, v1, v2, v3], [], M) = if zAL v0 = true then zV (zPr sp) (120, 27, [v0, v1, v2, v3], [v0], M) else none := zV_ifn rfl
set_option maxRecDepth 20000 in
theorem e120_27 {sp : Nat × (Nat → Int32)} {M : zM} {y : Int32} {w0 v0 v1 v2 : Value} : zV (zPr sp) (120, 27, [v0, v1, v2, .int y], [w0], M) = zV (zPr sp) (120, 28, [v0, v1, v2, .int y], [.int y, w0], M) := zV_go rfl
set_option maxRecDepth 20000 in
theorem e120_28 {sp : Nat × (Nat → Int32)} {M : zM} {x0 : Int32} {v0 v1 v2 v3 : Value} {a : Int64} : zV (zPr sp) (120, 28, [v0, v1, v2, v3], [.int x0, .long a], M) = if zin x0 sp.1 = true then zV (zPr sp) (120, 29, [v0, v1, v2, v3], [.int (sp.2 x0.toNatClampNeg)], M) else none := zV_ifn rfl
set_option maxRecDepth 20000 in
theorem e120_29 {sp : Nat × (Nat → Int32)} {M : zM} {x0 : Int32} {v0 v1 v2 v3 : Value} : zV (zPr sp) (120, 29, [v0, v1, v2, v3], [.int x0], M) = zV (zPr sp) (120, 31, [v0, v1, v2, v3], [.int (31), .int x0], M) := (zV_go rfl).trans (congrArg (fun c => zV (zPr sp) (120, 31, [v0, v1, v2, v3], [.int c, .int x0], M)) zcb_31)
set_option maxRecDepth 20000 in
theorem e120_31 {sp : Nat × (Nat → Int32)} {M : zM} {x0 x1 : Int32} {v0 v1 v2 v3 : Value} : zV (zPr sp) (120, 31, [v0, v1, v2, v3], [.int x0, .int x1], M) = zV (zPr sp) (120, 32, [v0, v1, v2, v3], [.int (x1 &&& x0)], M) := zV_go rfl
set_option maxRecDepth 20000 in
theorem e120_32 {sp : Nat × (Nat → Int32)} {M : zM} {x0 : Int32} {v0 v1 v2 v3 : Value} : zV (zPr sp) (120, 32, [v0, v1, v2, v3], [.int x0], M) = if x0 = Int32.ofNat 0 then zV (zPr sp) (120, 120, [v0, v1, v2, v3], [], M) else if x0 = Int32.ofNat 1 then zV (zPr sp) (120, 153, [v0, v1, v2, v3], [], M) else if x0 = Int32.ofNat 2 then zV (zPr sp) (120, 186, [v0, v1, v2, v3], [], M) else if x0 = Int32.ofNat 3 then zV (zPr sp) (120, 219, [v0, v1, v2, v3], [], M) else if x0 = Int32.ofNat 4 then zV (zPr sp) (120, 252, [v0, v1, v2, v3], [], M) else if x0 = Int32.ofNat 5 then zV (zPr sp) (120, 295, [v0, v1, v2, v3], [], M) else if x0 = Int32.ofNat 6 then zV (zPr sp) (120, 328, [v0, v1, v2, v3], [], M) else if x0 = Int32.ofNat 7 then zV (zPr sp) (120, 361, [v0, v1, v2, v3], [], M) else if x0 = Int32.ofNat 8 then zV (zPr sp) (120, 394, [v0, v1, v2, v3], [], M) else if x0 = Int32.ofNat 9 then zV (zPr sp) (120, 417, [v0, v1, v2, v3], [], M) else if x0 = Int32.ofNat 10 then zV (zPr sp) (120, 450, [v0, v1, v2, v3], [], M) else if x0 = Int32.ofNat 11 then zV (zPr sp) (120, 483, [v0, v1, v2, v3], [], M) else if x0 = Int32.ofNat 12 then zV (zPr sp) (120, 516, [v0, v1, v2, v3], [], M) else if x0 = Int32.ofNat 13 then zV (zPr sp) (120, 549, [v0, v1, v2, v3], [], M) else if x0 = Int32.ofNat 14 then zV (zPr sp) (120, 602, [v0, v1, v2, v3], [], M) else if x0 = Int32.ofNat 15 then zV (zPr sp) (120, 635, [v0, v1, v2, v3], [], M) else if x0 = Int32.ofNat 16 then zV (zPr sp) (120, 668, [v0, v1, v2, v3], [], M) else if x0 = Int32.ofNat 17 then zV (zPr sp) (120, 701, [v0, v1, v2, v3], [], M) else zV (zPr sp) (120, 734, [v0, v1, v2, v3], [], M) := by rw [zV_L (o := zsw [(0, 120, 0), (1, 153, 0), (2, 186, 0), (3, 219, 0), (4, 252, 0), (5, 295, 0), (6, 328, 0), (7, 361, 0), (8, 394, 0), (9, 417, 0), (10, 450, 0), (11, 483, 0), (12, 516, 0), (13, 549, 0), (14, 602, 0), (15, 635, 0), (16, 668, 0), (17, 701, 0)] x0 (fun tg => zgo 120 tg [v0, v1, v2, v3] [] M) 734) rfl]; simp only [zsw, zL_if]; rfl
set_option maxRecDepth 20000 in
theorem e120_120 {sp : Nat × (Nat → Int32)} {M : zM} {v0 v1 v2 v3 : Value} : zV (zPr sp) (120, 120, [v0, v1, v2, v3], [], M) = if zAL v1 = true then zV (zPr sp) (120, 121, [v0, v1, v2, v3], [v1], M) else none := zV_ifn rfl
set_option maxRecDepth 20000 in
theorem e120_121 {sp : Nat × (Nat → Int32)} {M : zM} {w0 v0 v1 v2 v3 : Value} : zV (zPr sp) (120, 121, [v0, v1, v2, v3], [w0], M) = if zAL v0 = true then zV (zPr sp) (120, 122, [v0, v1, v2, v3], [v0, w0], M) else none := zV_ifn rfl
set_option maxRecDepth 20000 in
theorem e120_122 {sp : Nat × (Nat → Int32)} {M : zM} {y : Int32} {w0 w1 v0 v1 v2 : Value} : zV (zPr sp) (120, 122, [v0, v1, v2, .int y], [w0, w1], M) = zV (zPr sp) (120, 123, [v0, v1, v2, .int y], [.int y, w0, w1], M) := zV_go rfl
set_option maxRecDepth 20000 in
theorem e120_123 {sp : Nat × (Nat → Int32)} {M : zM} {x0 : Int32} {w1 w2 v0 v1 v2 v3 : Value} : zV (zPr sp) (120, 123, [v0, v1, v2, v3], [.int x0, w1, w2], M) = zV (zPr sp) (120, 124, [v0, v1, v2, v3], [.int (1), .int x0, w1, w2], M) := (zV_go rfl).trans (congrArg (fun c => zV (zPr sp) (120, 124, [v0, v1, v2, v3], [.int c, .int x0, w1, w2], M)) zci_1)
set_option maxRecDepth 20000 in
theorem e120_124 {sp : Nat × (Nat → Int32)} {M : zM} {x0 x1 : Int32} {w2 w3 v0 v1 v2 v3 : Value} : zV (zPr sp) (120, 124, [v0, v1, v2, v3], [.int x0, .int x1, w2, w3], M) = zV (zPr sp) (120, 125, [v0, v1, v2, v3], [.int (x1 + x0), w2, w3], M) := zV_go rfl
set_option maxRecDepth 20000 in
theorem e120_125 {sp : Nat × (Nat → Int32)} {M : zM} {x0 : Int32} {w2 v0 v1 v2 v3 : Value} {a : Int64} : zV (zPr sp) (120, 125, [v0, v1, v2, v3], [.int x0, .long a, w2], M) = if zin x0 sp.1 = true then zV (zPr sp) (120, 126, [v0, v1, v2, v3], [.int (sp.2 x0.toNatClampNeg), w2], M) else none := zV_ifn rfl
set_option maxRecDepth 20000 in
theorem e120_126 {sp : Nat × (Nat → Int32)} {M : zM} {x0 : Int32} {w1 v0 v1 v2 v3 : Value} : zV (zPr sp) (120, 126, [v0, v1, v2, v3], [.int x0, w1], M) = if zAL v0 = true then zV (zPr sp) (120, 127, [v0, v1, v2, v3], [v0, .int x0, w1], M) else none := zV_ifn rfl
set_option maxRecDepth 20000 in
theorem e120_127 {sp : Nat × (Nat → Int32)} {M : zM} {x1 y : Int32} {w0 w2 v0 v1 v2 : Value} : zV (zPr sp) (120, 127, [v0, v1, v2, .int y], [w0, .int x1, w2], M) = zV (zPr sp) (120, 128, [v0, v1, v2, .int y], [.int y, w0, .int x1, w2], M) := zV_go rfl
set_option maxRecDepth 20000 in
theorem e120_128 {sp : Nat × (Nat → Int32)} {M : zM} {x0 x2 : Int32} {w1 w3 v0 v1 v2 v3 : Value} : zV (zPr sp) (120, 128, [v0, v1, v2, v3], [.int x0, w1, .int x2, w3], M) = zV (zPr sp) (120, 129, [v0, v1, v2, v3], [.int (2), .int x0, w1, .int x2, w3], M) := (zV_go rfl).trans (congrArg (fun c => zV (zPr sp) (120, 129, [v0, v1, v2, v3], [.int c, .int x0, w1, .int x2, w3], M)) zci_2)
set_option maxRecDepth 20000 in
theorem e120_129 {sp : Nat × (Nat → Int32)} {M : zM} {x0 x1 x3 : Int32} {w2 w4 v0 v1 v2 v3 : Value} : zV (zPr sp) (120, 129, [v0, v1, v2, v3], [.int x0, .int x1, w2, .int x3, w4], M) = zV (zPr sp) (120, 130, [v0, v1, v2, v3], [.int (x1 + x0), w2, .int x3, w4], M) := zV_go rfl
set_option maxRecDepth 20000 in
theorem e120_130 {sp : Nat × (Nat → Int32)} {M : zM} {x0 x2 : Int32} {w3 v0 v1 v2 v3 : Value} {a : Int64} : zV (zPr sp) (120, 130, [v0, v1, v2, v3], [.int x0, .long a, .int x2, w3], M) = if zin x0 sp.1 = true then zV (zPr sp) (120, 131, [v0, v1, v2, v3], [.int (sp.2 x0.toNatClampNeg), .int x2, w3], M) else none := zV_ifn rfl
set_option maxRecDepth 20000 in
theorem e120_131 {sp : Nat × (Nat → Int32)} {M : zM} {x0 x1 : Int32} {v0 v1 v2 v3 : Value} {a : Nat} : zV (zPr sp) (120, 131, [v0, v1, v2, v3], [.int x0, .int x1, .ref a], M) = if (zk M a).1 = 5 then ((zV (zPr sp) (11, 0, [.ref a, .int x1, .int x0, .double 0, .double 0], [], M)).bind fun r => zV (zPr sp) (120, 134, [v0, v1, v2, v3], r.1.toList ++ [], r.2)) else none := zV_ifc rfl
set_option maxRecDepth 20000 in
theorem e120_134 {sp : Nat × (Nat → Int32)} {M : zM} {x0 : Int32} {v0 v1 v2 v3 : Value} : zV (zPr sp) (120, 134, [v0, v1, v2, v3], [.int x0], M) = if zAL v2 = true then zV (zPr sp) (120, 135, [v0, v1, v2, v3], [v2, .int x0], M) else none := zV_ifn rfl
set_option maxRecDepth 20000 in
theorem e120_135 {sp : Nat × (Nat → Int32)} {M : zM} {x1 : Int32} {w0 v0 v1 v2 v3 : Value} : zV (zPr sp) (120, 135, [v0, v1, v2, v3], [w0, .int x1], M) = if zAL v0 = true then zV (zPr sp) (120, 136, [v0, v1, v2, v3], [v0, w0, .int x1], M) else none := zV_ifn rfl
set_option maxRecDepth 20000 in
theorem e120_136 {sp : Nat × (Nat → Int32)} {M : zM} {x2 y : Int32} {w0 w1 v0 v1 v2 : Value} : zV (zPr sp) (120, 136, [v0, v1, v2, .int y], [w0, w1, .int x2], M) = zV (zPr sp) (120, 137, [v0, v1, v2, .int y], [.int y, w0, w1, .int x2], M) := zV_go rfl
set_option maxRecDepth 20000 in
theorem e120_137 {sp : Nat × (Nat → Int32)} {M : zM} {x0 x3 : Int32} {w1 w2 v0 v1 v2 v3 : Value} : zV (zPr sp) (120, 137, [v0, v1, v2, v3], [.int x0, w1, w2, .int x3], M) = zV (zPr sp) (120, 138, [v0, v1, v2, v3], [.int (1), .int x0, w1, w2, .int x3], M) := (zV_go rfl).trans (congrArg (fun c => zV (zPr sp) (120, 138, [v0, v1, v2, v3], [.int c, .int x0, w1, w2, .int x3], M)) zci_1)
set_option maxRecDepth 20000 in
theorem e120_138 {sp : Nat × (Nat → Int32)} {M : zM} {x0 x1 x4 : Int32} {w2 w3 v0 v1 v2 v3 : Value} : zV (zPr sp) (120, 138, [v0, v1, v2, v3], [.int x0, .int x1, w2, w3, .int x4], M) = zV (zPr sp) (120, 139, [v0, v1, v2, v3], [.int (x1 + x0), w2, w3, .int x4], M) := zV_go rfl
set_option maxRecDepth 20000 in
theorem e120_139 {sp : Nat × (Nat → Int32)} {M : zM} {x0 x3 : Int32} {w2 v0 v1 v2 v3 : Value} {a : Int64} : zV (zPr sp) (120, 139, [v0, v1, v2, v3], [.int x0, .long a, w2, .int x3], M) = if zin x0 sp.1 = true then zV (zPr sp) (120, 140, [v0, v1, v2, v3], [.int (sp.2 x0.toNatClampNeg), w2, .int x3], M) else none := zV_ifn rfl
set_option maxRecDepth 20000 in
theorem e120_140 {sp : Nat × (Nat → Int32)} {M : zM} {x0 x2 : Int32} {w1 v0 v1 v2 v3 : Value} : zV (zPr sp) (120, 140, [v0, v1, v2, v3], [.int x0, w1, .int x2], M) = if zAL v0 = true then zV (zPr sp) (120, 141, [v0, v1, v2, v3], [v0, .int x0, w1, .int x2], M) else none := zV_ifn rfl
set_option maxRecDepth 20000 in
theorem e120_141 {sp : Nat × (Nat → Int32)} {M : zM} {x1 x3 y : Int32} {w0 w2 v0 v1 v2 : Value} : zV (zPr sp) (120, 141, [v0, v1, v2, .int y], [w0, .int x1, w2, .int x3], M) = zV (zPr sp) (120, 142, [v0, v1, v2, .int y], [.int y, w0, .int x1, w2, .int x3], M) := zV_go rfl
set_option maxRecDepth 20000 in
theorem e120_142 {sp : Nat × (Nat → Int32)} {M : zM} {x0 x2 x4 : Int32} {w1 w3 v0 v1 v2 v3 : Value} : zV (zPr sp) (120, 142, [v0, v1, v2, v3], [.int x0, w1, .int x2, w3, .int x4], M) = zV (zPr sp) (120, 143, [v0, v1, v2, v3], [.int (2), .int x0, w1, .int x2, w3, .int x4], M) := (zV_go rfl).trans (congrArg (fun c => zV (zPr sp) (120, 143, [v0, v1, v2, v3], [.int c, .int x0, w1, .int x2, w3, .int x4], M)) zci_2)
set_option maxRecDepth 20000 in
theorem e120_143 {sp : Nat × (Nat → Int32)} {M : zM} {x0 x1 x3 x5 : Int32} {w2 w4 v0 v1 v2 v3 : Value} : zV (zPr sp) (120, 143, [v0, v1, v2, v3], [.int x0, .int x1, w2, .int x3, w4, .int x5], M) = zV (zPr sp) (120, 144, [v0, v1, v2, v3], [.int (x1 + x0), w2, .int x3, w4, .int x5], M) := zV_go rfl
set_option maxRecDepth 20000 in
theorem e120_144 {sp : Nat × (Nat → Int32)} {M : zM} {x0 x2 x4 : Int32} {w3 v0 v1 v2 v3 : Value} {a : Int64} : zV (zPr sp) (120, 144, [v0, v1, v2, v3], [.int x0, .long a, .int x2, w3, .int x4], M) = if zin x0 sp.1 = true then zV (zPr sp) (120, 145, [v0, v1, v2, v3], [.int (sp.2 x0.toNatClampNeg), .int x2, w3, .int x4], M) else none := zV_ifn rfl
set_option maxRecDepth 20000 in
theorem e120_145 {sp : Nat × (Nat → Int32)} {M : zM} {x0 x1 x3 : Int32} {v0 v1 v2 v3 : Value} {a : Nat} : zV (zPr sp) (120, 145, [v0, v1, v2, v3], [.int x0, .int x1, .ref a, .int x3], M) = if (zk M a).1 = 6 then ((zV (zPr sp) (103, 0, [.ref a, .int x1, .int x0, .double 0], [], M)).bind fun r => zV (zPr sp) (120, 148, [v0, v1, v2, v3], r.1.toList ++ [.int x3], r.2)) else none := zV_ifc rfl
set_option maxRecDepth 20000 in
theorem e120_148 {sp : Nat × (Nat → Int32)} {M : zM} {x0 x1 : Int32} {v0 v1 v2 v3 : Value} : zV (zPr sp) (120, 148, [v0, v1, v2, v3], [.int x0, .int x1], M) = if x1 = x0 then zV (zPr sp) (120, 734, [v0, v1, v2, v3], [], M) else zV (zPr sp) (120, 151, [v0, v1, v2, v3], [], M) := zV_ifg rfl
set_option maxRecDepth 20000 in
theorem e120_151 {sp : Nat × (Nat → Int32)} {M : zM} {v0 v1 v2 v3 : Value} : zV (zPr sp) (120, 151, [v0, v1, v2, v3], [], M) = zV (zPr sp) (120, 152, [v0, v1, v2, v3], [.int (0)], M) := (zV_go rfl).trans (congrArg (fun c => zV (zPr sp) (120, 152, [v0, v1, v2, v3], [.int c], M)) zci_0)
set_option maxRecDepth 20000 in
theorem e120_152 {sp : Nat × (Nat → Int32)} {M : zM} {x0 : Int32} {v0 v1 v2 v3 : Value} : zV (zPr sp) (120, 152, [v0, v1, v2, v3], [.int x0], M) = if (1 = 0 ∨ x0 = 0 ∨ x0 = 1) then some (some (.int x0), M) else none := zV_ifr rfl
set_option maxRecDepth 20000 in
theorem e120_153 {sp : Nat × (Nat → Int32)} {M : zM} {v0 v1 v2 v3 : Value} : zV (zPr sp) (120, 153, [v0, v1, v2, v3], [], M) = if zAL v1 = true then zV (zPr sp) (120, 154, [v0, v1, v2, v3], [v1], M) else none := zV_ifn rfl
set_option maxRecDepth 20000 in
theorem e120_154 {sp : Nat × (Nat → Int32)} {M : zM} {w0 v0 v1 v2 v3 : Value} : zV (zPr sp) (120, 154, [v0, v1, v2, v3], [w0], M) = if zAL v0 = true then zV (zPr sp) (120, 155, [v0, v1, v2, v3], [v0, w0], M) else none := zV_ifn rfl
set_option maxRecDepth 20000 in
theorem e120_155 {sp : Nat × (Nat → Int32)} {M : zM} {y : Int32} {w0 w1 v0 v1 v2 : Value} : zV (zPr sp) (120, 155, [v0, v1, v2, .int y], [w0, w1], M) = zV (zPr sp) (120, 156, [v0, v1, v2, .int y], [.int y, w0, w1], M) := zV_go rfl
set_option maxRecDepth 20000 in
theorem e120_156 {sp : Nat × (Nat → Int32)} {M : zM} {x0 : Int32} {w1 w2 v0 v1 v2 v3 : Value} : zV (zPr sp) (120, 156, [v0, v1, v2, v3], [.int x0, w1, w2], M) = zV (zPr sp) (120, 157, [v0, v1, v2, v3], [.int (1), .int x0, w1, w2], M) := (zV_go rfl).trans (congrArg (fun c => zV (zPr sp) (120, 157, [v0, v1, v2, v3], [.int c, .int x0, w1, w2], M)) zci_1)
set_option maxRecDepth 20000 in
theorem e120_157 {sp : Nat × (Nat → Int32)} {M : zM} {x0 x1 : Int32} {w2 w3 v0 v1 v2 v3 : Value} : zV (zPr sp) (120, 157, [v0, v1, v2, v3], [.int x0, .int x1, w2, w3], M) = zV (zPr sp) (120, 158, [v0, v1, v2, v3], [.int (x1 + x0), w2, w3], M) := zV_go rfl
set_option maxRecDepth 20000 in
theorem e120_158 {sp : Nat × (Nat → Int32)} {M : zM} {x0 : Int32} {w2 v0 v1 v2 v3 : Value} {a : Int64} : zV (zPr sp) (120, 158, [v0, v1, v2, v3], [.int x0, .long a, w2], M) = if zin x0 sp.1 = true then zV (zPr sp) (120, 159, [v0, v1, v2, v3], [.int (sp.2 x0.toNatClampNeg), w2], M) else none := zV_ifn rfl
set_option maxRecDepth 20000 in
theorem e120_159 {sp : Nat × (Nat → Int32)} {M : zM} {x0 : Int32} {w1 v0 v1 v2 v3 : Value} : zV (zPr sp) (120, 159, [v0, v1, v2, v3], [.int x0, w1], M) = if zAL v0 = true then zV (zPr sp) (120, 160, [v0, v1, v2, v3], [v0, .int x0, w1], M) else none := zV_ifn rfl
set_option maxRecDepth 20000 in
theorem e120_160 {sp : Nat × (Nat → Int32)} {M : zM} {x1 y : Int32} {w0 w2 v0 v1 v2 : Value} : zV (zPr sp) (120, 160, [v0, v1, v2, .int y], [w0, .int x1, w2], M) = zV (zPr sp) (120, 161, [v0, v1, v2, .int y], [.int y, w0, .int x1, w2], M) := zV_go rfl
set_option maxRecDepth 20000 in
theorem e120_161 {sp : Nat × (Nat → Int32)} {M : zM} {x0 x2 : Int32} {w1 w3 v0 v1 v2 v3 : Value} : zV (zPr sp) (120, 161, [v0, v1, v2, v3], [.int x0, w1, .int x2, w3], M) = zV (zPr sp) (120, 162, [v0, v1, v2, v3], [.int (2), .int x0, w1, .int x2, w3], M) := (zV_go rfl).trans (congrArg (fun c => zV (zPr sp) (120, 162, [v0, v1, v2, v3], [.int c, .int x0, w1, .int x2, w3], M)) zci_2)
set_option maxRecDepth 20000 in
theorem e120_162 {sp : Nat × (Nat → Int32)} {M : zM} {x0 x1 x3 : Int32} {w2 w4 v0 v1 v2 v3 : Value} : zV (zPr sp) (120, 162, [v0, v1, v2, v3], [.int x0, .int x1, w2, .int x3, w4], M) = zV (zPr sp) (120, 163, [v0, v1, v2, v3], [.int (x1 + x0), w2, .int x3, w4], M) := zV_go rfl
set_option maxRecDepth 20000 in
theorem e120_163 {sp : Nat × (Nat → Int32)} {M : zM} {x0 x2 : Int32} {w3 v0 v1 v2 v3 : Value} {a : Int64} : zV (zPr sp) (120, 163, [v0, v1, v2, v3], [.int x0, .long a, .int x2, w3], M) = if zin x0 sp.1 = true then zV (zPr sp) (120, 164, [v0, v1, v2, v3], [.int (sp.2 x0.toNatClampNeg), .int x2, w3], M) else none := zV_ifn rfl
set_option maxRecDepth 20000 in
theorem e120_164 {sp : Nat × (Nat → Int32)} {M : zM} {x0 x1 : Int32} {v0 v1 v2 v3 : Value} {a : Nat} : zV (zPr sp) (120, 164, [v0, v1, v2, v3], [.int x0, .int x1, .ref a], M) = if (zk M a).1 = 5 then ((zV (zPr sp) (25, 0, [.ref a, .int x1, .int x0, .double 0], [], M)).bind fun r => zV (zPr sp) (120, 167, [v0, v1, v2, v3], r.1.toList ++ [], r.2)) else none := zV_ifc rfl
set_option maxRecDepth 20000 in
theorem e120_167 {sp : Nat × (Nat → Int32)} {M : zM} {x0 : Int32} {v0 v1 v2 v3 : Value} : zV (zPr sp) (120, 167, [v0, v1, v2, v3], [.int x0], M) = if zAL v2 = true then zV (zPr sp) (120, 168, [v0, v1, v2, v3], [v2, .int x0], M) else none := zV_ifn rfl
set_option maxRecDepth 20000 in
theorem e120_168 {sp : Nat × (Nat → Int32)} {M : zM} {x1 : Int32} {w0 v0 v1 v2 v3 : Value} : zV (zPr sp) (120, 168, [v0, v1, v2, v3], [w0, .int x1], M) = if zAL v0 = true then zV (zPr sp) (120, 169, [v0, v1, v2, v3], [v0, w0, .int x1], M) else none := zV_ifn rfl
set_option maxRecDepth 20000 in
theorem e120_169 {sp : Nat × (Nat → Int32)} {M : zM} {x2 y : Int32} {w0 w1 v0 v1 v2 : Value} : zV (zPr sp) (120, 169, [v0, v1, v2, .int y], [w0, w1, .int x2], M) = zV (zPr sp) (120, 170, [v0, v1, v2, .int y], [.int y, w0, w1, .int x2], M) := zV_go rfl
set_option maxRecDepth 20000 in
theorem e120_170 {sp : Nat × (Nat → Int32)} {M : zM} {x0 x3 : Int32} {w1 w2 v0 v1 v2 v3 : Value} : zV (zPr sp) (120, 170, [v0, v1, v2, v3], [.int x0, w1, w2, .int x3], M) = zV (zPr sp) (120, 171, [v0, v1, v2, v3], [.int (1), .int x0, w1, w2, .int x3], M) := (zV_go rfl).trans (congrArg (fun c => zV (zPr sp) (120, 171, [v0, v1, v2, v3], [.int c, .int x0, w1, w2, .int x3], M)) zci_1)
set_option maxRecDepth 20000 in
theorem e120_171 {sp : Nat × (Nat → Int32)} {M : zM} {x0 x1 x4 : Int32} {w2 w3 v0 v1 v2 v3 : Value} : zV (zPr sp) (120, 171, [v0, v1, v2, v3], [.int x0, .int x1, w2, w3, .int x4], M) = zV (zPr sp) (120, 172, [v0, v1, v2, v3], [.int (x1 + x0), w2, w3, .int x4], M) := zV_go rfl
set_option maxRecDepth 20000 in
theorem e120_172 {sp : Nat × (Nat → Int32)} {M : zM} {x0 x3 : Int32} {w2 v0 v1 v2 v3 : Value} {a : Int64} : zV (zPr sp) (120, 172, [v0, v1, v2, v3], [.int x0, .long a, w2, .int x3], M) = if zin x0 sp.1 = true then zV (zPr sp) (120, 173, [v0, v1, v2, v3], [.int (sp.2 x0.toNatClampNeg), w2, .int x3], M) else none := zV_ifn rfl
set_option maxRecDepth 20000 in
theorem e120_173 {sp : Nat × (Nat → Int32)} {M : zM} {x0 x2 : Int32} {w1 v0 v1 v2 v3 : Value} : zV (zPr sp) (120, 173, [v0, v1, v2, v3], [.int x0, w1, .int x2], M) = if zAL v0 = true then zV (zPr sp) (120, 174, [v0, v1, v2, v3], [v0, .int x0, w1, .int x2], M) else none := zV_ifn rfl
set_option maxRecDepth 20000 in
theorem e120_174 {sp : Nat × (Nat → Int32)} {M : zM} {x1 x3 y : Int32} {w0 w2 v0 v1 v2 : Value} : zV (zPr sp) (120, 174, [v0, v1, v2, .int y], [w0, .int x1, w2, .int x3], M) = zV (zPr sp) (120, 175, [v0, v1, v2, .int y], [.int y, w0, .int x1, w2, .int x3], M) := zV_go rfl
set_option maxRecDepth 20000 in
theorem e120_175 {sp : Nat × (Nat → Int32)} {M : zM} {x0 x2 x4 : Int32} {w1 w3 v0 v1 v2 v3 : Value} : zV (zPr sp) (120, 175, [v0, v1, v2, v3], [.int x0, w1, .int x2, w3, .int x4], M) = zV (zPr sp) (120, 176, [v0, v1, v2, v3], [.int (2), .int x0, w1, .int x2, w3, .int x4], M) := (zV_go rfl).trans (congrArg (fun c => zV (zPr sp) (120, 176, [v0, v1, v2, v3], [.int c, .int x0, w1, .int x2, w3, .int x4], M)) zci_2)
set_option maxRecDepth 20000 in
theorem e120_176 {sp : Nat × (Nat → Int32)} {M : zM} {x0 x1 x3 x5 : Int32} {w2 w4 v0 v1 v2 v3 : Value} : zV (zPr sp) (120, 176, [v0, v1, v2, v3], [.int x0, .int x1, w2, .int x3, w4, .int x5], M) = zV (zPr sp) (120, 177, [v0, v1, v2, v3], [.int (x1 + x0), w2, .int x3, w4, .int x5], M) := zV_go rfl
set_option maxRecDepth 20000 in
theorem e120_177 {sp : Nat × (Nat → Int32)} {M : zM} {x0 x2 x4 : Int32} {w3 v0 v1 v2 v3 : Value} {a : Int64} : zV (zPr sp) (120, 177, [v0, v1, v2, v3], [.int x0, .long a, .int x2, w3, .int x4], M) = if zin x0 sp.1 = true then zV (zPr sp) (120, 178, [v0, v1, v2, v3], [.int (sp.2 x0.toNatClampNeg), .int x2, w3, .int x4], M) else none := zV_ifn rfl
set_option maxRecDepth 20000 in
theorem e120_178 {sp : Nat × (Nat → Int32)} {M : zM} {x0 x1 x3 : Int32} {v0 v1 v2 v3 : Value} {a : Nat} : zV (zPr sp) (120, 178, [v0, v1, v2, v3], [.int x0, .int x1, .ref a, .int x3], M) = if (zk M a).1 = 6 then ((zV (zPr sp) (104, 0, [.ref a, .int x1, .int x0], [], M)).bind fun r => zV (zPr sp) (120, 181, [v0, v1, v2, v3], r.1.toList ++ [.int x3], r.2)) else none := zV_ifc rfl
set_option maxRecDepth 20000 in
theorem e120_181 {sp : Nat × (Nat → Int32)} {M : zM} {x0 x1 : Int32} {v0 v1 v2 v3 : Value} : zV (zPr sp) (120, 181, [v0, v1, v2, v3], [.int x0, .int x1], M) = if x1 = x0 then zV (zPr sp) (120, 734, [v0, v1, v2, v3], [], M) else zV (zPr sp) (120, 184, [v0, v1, v2, v3], [], M) := zV_ifg rfl
set_option maxRecDepth 20000 in
theorem e120_184 {sp : Nat × (Nat → Int32)} {M : zM} {v0 v1 v2 v3 : Value} : zV (zPr sp) (120, 184, [v0, v1, v2, v3], [], M) = zV (zPr sp) (120, 185, [v0, v1, v2, v3], [.int (0)], M) := (zV_go rfl).trans (congrArg (fun c => zV (zPr sp) (120, 185, [v0, v1, v2, v3], [.int c], M)) zci_0)
set_option maxRecDepth 20000 in
theorem e120_185 {sp : Nat × (Nat → Int32)} {M : zM} {x0 : Int32} {v0 v1 v2 v3 : Value} : zV (zPr sp) (120, 185, [v0, v1, v2, v3], [.int x0], M) = if (1 = 0 ∨ x0 = 0 ∨ x0 = 1) then some (some (.int x0), M) else none := zV_ifr rfl
set_option maxRecDepth 20000 in
theorem e120_186 {sp : Nat × (Nat → Int32)} {M : zM} {v0 v1 v2 v3 : Value} : zV (zPr sp) (120, 186, [v0, v1, v2, v3], [], M) = if zAL v1 = true then zV (zPr sp) (120, 187, [v0, v1, v2, v3], [v1], M) else none := zV_ifn rfl
set_option maxRecDepth 20000 in
theorem e120_187 {sp : Nat × (Nat → Int32)} {M : zM} {w0 v0 v1 v2 v3 : Value} : zV (zPr sp) (120, 187, [v0, v1, v2, v3], [w0], M) = if zAL v0 = true then zV (zPr sp) (120, 188, [v0, v1, v2, v3], [v0, w0], M) else none := zV_ifn rfl
set_option maxRecDepth 20000 in
theorem e120_188 {sp : Nat × (Nat → Int32)} {M : zM} {y : Int32} {w0 w1 v0 v1 v2 : Value} : zV (zPr sp) (120, 188, [v0, v1, v2, .int y], [w0, w1], M) = zV (zPr sp) (120, 189, [v0, v1, v2, .int y], [.int y, w0, w1], M) := zV_go rfl
set_option maxRecDepth 20000 in
theorem e120_189 {sp : Nat × (Nat → Int32)} {M : zM} {x0 : Int32} {w1 w2 v0 v1 v2 v3 : Value} : zV (zPr sp) (120, 189, [v0, v1, v2, v3], [.int x0, w1, w2], M) = zV (zPr sp) (120, 190, [v0, v1, v2, v3], [.int (1), .int x0, w1, w2], M) := (zV_go rfl).trans (congrArg (fun c => zV (zPr sp) (120, 190, [v0, v1, v2, v3], [.int c, .int x0, w1, w2], M)) zci_1)
set_option maxRecDepth 20000 in
theorem e120_190 {sp : Nat × (Nat → Int32)} {M : zM} {x0 x1 : Int32} {w2 w3 v0 v1 v2 v3 : Value} : zV (zPr sp) (120, 190, [v0, v1, v2, v3], [.int x0, .int x1, w2, w3], M) = zV (zPr sp) (120, 191, [v0, v1, v2, v3], [.int (x1 + x0), w2, w3], M) := zV_go rfl
set_option maxRecDepth 20000 in
theorem e120_191 {sp : Nat × (Nat → Int32)} {M : zM} {x0 : Int32} {w2 v0 v1 v2 v3 : Value} {a : Int64} : zV (zPr sp) (120, 191, [v0, v1, v2, v3], [.int x0, .long a, w2], M) = if zin x0 sp.1 = true then zV (zPr sp) (120, 192, [v0, v1, v2, v3], [.int (sp.2 x0.toNatClampNeg), w2], M) else none := zV_ifn rfl
set_option maxRecDepth 20000 in
theorem e120_192 {sp : Nat × (Nat → Int32)} {M : zM} {x0 : Int32} {w1 v0 v1 v2 v3 : Value} : zV (zPr sp) (120, 192, [v0, v1, v2, v3], [.int x0, w1], M) = if zAL v0 = true then zV (zPr sp) (120, 193, [v0, v1, v2, v3], [v0, .int x0, w1], M) else none := zV_ifn rfl
set_option maxRecDepth 20000 in
theorem e120_193 {sp : Nat × (Nat → Int32)} {M : zM} {x1 y : Int32} {w0 w2 v0 v1 v2 : Value} : zV (zPr sp) (120, 193, [v0, v1, v2, .int y], [w0, .int x1, w2], M) = zV (zPr sp) (120, 194, [v0, v1, v2, .int y], [.int y, w0, .int x1, w2], M) := zV_go rfl
set_option maxRecDepth 20000 in
theorem e120_194 {sp : Nat × (Nat → Int32)} {M : zM} {x0 x2 : Int32} {w1 w3 v0 v1 v2 v3 : Value} : zV (zPr sp) (120, 194, [v0, v1, v2, v3], [.int x0, w1, .int x2, w3], M) = zV (zPr sp) (120, 195, [v0, v1, v2, v3], [.int (2), .int x0, w1, .int x2, w3], M) := (zV_go rfl).trans (congrArg (fun c => zV (zPr sp) (120, 195, [v0, v1, v2, v3], [.int c, .int x0, w1, .int x2, w3], M)) zci_2)
set_option maxRecDepth 20000 in
theorem e120_195 {sp : Nat × (Nat → Int32)} {M : zM} {x0 x1 x3 : Int32} {w2 w4 v0 v1 v2 v3 : Value} : zV (zPr sp) (120, 195, [v0, v1, v2, v3], [.int x0, .int x1, w2, .int x3, w4], M) = zV (zPr sp) (120, 196, [v0, v1, v2, v3], [.int (x1 + x0), w2, .int x3, w4], M) := zV_go rfl
set_option maxRecDepth 20000 in
theorem e120_196 {sp : Nat × (Nat → Int32)} {M : zM} {x0 x2 : Int32} {w3 v0 v1 v2 v3 : Value} {a : Int64} : zV (zPr sp) (120, 196, [v0, v1, v2, v3], [.int x0, .long a, .int x2, w3], M) = if zin x0 sp.1 = true then zV (zPr sp) (120, 197, [v0, v1, v2, v3], [.int (sp.2 x0.toNatClampNeg), .int x2, w3], M) else none := zV_ifn rfl
set_option maxRecDepth 20000 in
theorem e120_197 {sp : Nat × (Nat → Int32)} {M : zM} {x0 x1 : Int32} {v0 v1 v2 v3 : Value} {a : Nat} : zV (zPr sp) (120, 197, [v0, v1, v2, v3], [.int x0, .int x1, .ref a], M) = if (zk M a).1 = 5 then ((zV (zPr sp) (26, 0, [.ref a, .int x1, .int x0, .double 0], [], M)).bind fun r => zV (zPr sp) (120, 200, [v0, v1, v2, v3], r.1.toList ++ [], r.2)) else none := zV_ifc rfl
set_option maxRecDepth 20000 in
theorem e120_200 {sp : Nat × (Nat → Int32)} {M : zM} {x0 : Int32} {v0 v1 v2 v3 : Value} : zV (zPr sp) (120, 200, [v0, v1, v2, v3], [.int x0], M) = if zAL v2 = true then zV (zPr sp) (120, 201, [v0, v1, v2, v3], [v2, .int x0], M) else none := zV_ifn rfl
set_option maxRecDepth 20000 in
theorem e120_201 {sp : Nat × (Nat → Int32)} {M : zM} {x1 : Int32} {w0 v0 v1 v2 v3 : Value} : zV (zPr sp) (120, 201, [v0, v1, v2, v3], [w0, .int x1], M) = if zAL v0 = true then zV (zPr sp) (120, 202, [v0, v1, v2, v3], [v0, w0, .int x1], M) else none := zV_ifn rfl
set_option maxRecDepth 20000 in
theorem e120_202 {sp : Nat × (Nat → Int32)} {M : zM} {x2 y : Int32} {w0 w1 v0 v1 v2 : Value} : zV (zPr sp) (120, 202, [v0, v1, v2, .int y], [w0, w1, .int x2], M) = zV (zPr sp) (120, 203, [v0, v1, v2, .int y], [.int y, w0, w1, .int x2], M) := zV_go rfl
set_option maxRecDepth 20000 in
theorem e120_203 {sp : Nat × (Nat → Int32)} {M : zM} {x0 x3 : Int32} {w1 w2 v0 v1 v2 v3 : Value} : zV (zPr sp) (120, 203, [v0, v1, v2, v3], [.int x0, w1, w2, .int x3], M) = zV (zPr sp) (120, 204, [v0, v1, v2, v3], [.int (1), .int x0, w1, w2, .int x3], M) := (zV_go rfl).trans (congrArg (fun c => zV (zPr sp) (120, 204, [v0, v1, v2, v3], [.int c, .int x0, w1, w2, .int x3], M)) zci_1)
set_option maxRecDepth 20000 in
theorem e120_204 {sp : Nat × (Nat → Int32)} {M : zM} {x0 x1 x4 : Int32} {w2 w3 v0 v1 v2 v3 : Value} : zV (zPr sp) (120, 204, [v0, v1, v2, v3], [.int x0, .int x1, w2, w3, .int x4], M) = zV (zPr sp) (120, 205, [v0, v1, v2, v3], [.int (x1 + x0), w2, w3, .int x4], M) := zV_go rfl
set_option maxRecDepth 20000 in
theorem e120_205 {sp : Nat × (Nat → Int32)} {M : zM} {x0 x3 : Int32} {w2 v0 v1 v2 v3 : Value} {a : Int64} : zV (zPr sp) (120, 205, [v0, v1, v2, v3], [.int x0, .long a, w2, .int x3], M) = if zin x0 sp.1 = true then zV (zPr sp) (120, 206, [v0, v1, v2, v3], [.int (sp.2 x0.toNatClampNeg), w2, .int x3], M) else none := zV_ifn rfl
set_option maxRecDepth 20000 in
theorem e120_206 {sp : Nat × (Nat → Int32)} {M : zM} {x0 x2 : Int32} {w1 v0 v1 v2 v3 : Value} : zV (zPr sp) (120, 206, [v0, v1, v2, v3], [.int x0, w1, .int x2], M) = if zAL v0 = true then zV (zPr sp) (120, 207, [v0, v1, v2, v3], [v0, .int x0, w1, .int x2], M) else none := zV_ifn rfl
set_option maxRecDepth 20000 in
theorem e120_207 {sp : Nat × (Nat → Int32)} {M : zM} {x1 x3 y : Int32} {w0 w2 v0 v1 v2 : Value} : zV (zPr sp) (120, 207, [v0, v1, v2, .int y], [w0, .int x1, w2, .int x3], M) = zV (zPr sp) (120, 208, [v0, v1, v2, .int y], [.int y, w0, .int x1, w2, .int x3], M) := zV_go rfl
set_option maxRecDepth 20000 in
theorem e120_208 {sp : Nat × (Nat → Int32)} {M : zM} {x0 x2 x4 : Int32} {w1 w3 v0 v1 v2 v3 : Value} : zV (zPr sp) (120, 208, [v0, v1, v2, v3], [.int x0, w1, .int x2, w3, .int x4], M) = zV (zPr sp) (120, 209, [v0, v1, v2, v3], [.int (2), .int x0, w1, .int x2, w3, .int x4], M) := (zV_go rfl).trans (congrArg (fun c => zV (zPr sp) (120, 209, [v0, v1, v2, v3], [.int c, .int x0, w1, .int x2, w3, .int x4], M)) zci_2)
set_option maxRecDepth 20000 in
theorem e120_209 {sp : Nat × (Nat → Int32)} {M : zM} {x0 x1 x3 x5 : Int32} {w2 w4 v0 v1 v2 v3 : Value} : zV (zPr sp) (120, 209, [v0, v1, v2, v3], [.int x0, .int x1, w2, .int x3, w4, .int x5], M) = zV (zPr sp) (120, 210, [v0, v1, v2, v3], [.int (x1 + x0), w2, .int x3, w4, .int x5], M) := zV_go rfl
set_option maxRecDepth 20000 in
theorem e120_210 {sp : Nat × (Nat → Int32)} {M : zM} {x0 x2 x4 : Int32} {w3 v0 v1 v2 v3 : Value} {a : Int64} : zV (zPr sp) (120, 210, [v0, v1, v2, v3], [.int x0, .long a, .int x2, w3, .int x4], M) = if zin x0 sp.1 = true then zV (zPr sp) (120, 211, [v0, v1, v2, v3], [.int (sp.2 x0.toNatClampNeg), .int x2, w3, .int x4], M) else none := zV_ifn rfl
set_option maxRecDepth 20000 in
theorem e120_211 {sp : Nat × (Nat → Int32)} {M : zM} {x0 x1 x3 : Int32} {v0 v1 v2 v3 : Value} {a : Nat} : zV (zPr sp) (120, 211, [v0, v1, v2, v3], [.int x0, .int x1, .ref a, .int x3], M) = if (zk M a).1 = 6 then ((zV (zPr sp) (107, 0, [.ref a, .int x1, .int x0], [], M)).bind fun r => zV (zPr sp) (120, 214, [v0, v1, v2, v3], r.1.toList ++ [.int x3], r.2)) else none := zV_ifc rfl
set_option maxRecDepth 20000 in
theorem e120_214 {sp : Nat × (Nat → Int32)} {M : zM} {x0 x1 : Int32} {v0 v1 v2 v3 : Value} : zV (zPr sp) (120, 214, [v0, v1, v2, v3], [.int x0, .int x1], M) = if x1 = x0 then zV (zPr sp) (120, 734, [v0, v1, v2, v3], [], M) else zV (zPr sp) (120, 217, [v0, v1, v2, v3], [], M) := zV_ifg rfl
set_option maxRecDepth 20000 in
theorem e120_217 {sp : Nat × (Nat → Int32)} {M : zM} {v0 v1 v2 v3 : Value} : zV (zPr sp) (120, 217, [v0, v1, v2, v3], [], M) = zV (zPr sp) (120, 218, [v0, v1, v2, v3], [.int (0)], M) := (zV_go rfl).trans (congrArg (fun c => zV (zPr sp) (120, 218, [v0, v1, v2, v3], [.int c], M)) zci_0)
set_option maxRecDepth 20000 in
theorem e120_218 {sp : Nat × (Nat → Int32)} {M : zM} {x0 : Int32} {v0 v1 v2 v3 : Value} : zV (zPr sp) (120, 218, [v0, v1, v2, v3], [.int x0], M) = if (1 = 0 ∨ x0 = 0 ∨ x0 = 1) then some (some (.int x0), M) else none := zV_ifr rfl
set_option maxRecDepth 20000 in
theorem e120_219 {sp : Nat × (Nat → Int32)} {M : zM} {v0 v1 v2 v3 : Value} : zV (zPr sp) (120, 219, [v0, v1, v2, v3], [], M) = if zAL v1 = true then zV (zPr sp) (120, 220, [v0, v1, v2, v3], [v1], M) else none := zV_ifn rfl
set_option maxRecDepth 20000 in
theorem e120_220 {sp : Nat × (Nat → Int32)} {M : zM} {w0 v0 v1 v2 v3 : Value} : zV (zPr sp) (120, 220, [v0, v1, v2, v3], [w0], M) = if zAL v0 = true then zV (zPr sp) (120, 221, [v0, v1, v2, v3], [v0, w0], M) else none := zV_ifn rfl
set_option maxRecDepth 20000 in
theorem e120_221 {sp : Nat × (Nat → Int32)} {M : zM} {y : Int32} {w0 w1 v0 v1 v2 : Value} : zV (zPr sp) (120, 221, [v0, v1, v2, .int y], [w0, w1], M) = zV (zPr sp) (120, 222, [v0, v1, v2, .int y], [.int y, w0, w1], M) := zV_go rfl
set_option maxRecDepth 20000 in
theorem e120_222 {sp : Nat × (Nat → Int32)} {M : zM} {x0 : Int32} {w1 w2 v0 v1 v2 v3 : Value} : zV (zPr sp) (120, 222, [v0, v1, v2, v3], [.int x0, w1, w2], M) = zV (zPr sp) (120, 223, [v0, v1, v2, v3], [.int (1), .int x0, w1, w2], M) := (zV_go rfl).trans (congrArg (fun c => zV (zPr sp) (120, 223, [v0, v1, v2, v3], [.int c, .int x0, w1, w2], M)) zci_1)
set_option maxRecDepth 20000 in
theorem e120_223 {sp : Nat × (Nat → Int32)} {M : zM} {x0 x1 : Int32} {w2 w3 v0 v1 v2 v3 : Value} : zV (zPr sp) (120, 223, [v0, v1, v2, v3], [.int x0, .int x1, w2, w3], M) = zV (zPr sp) (120, 224, [v0, v1, v2, v3], [.int (x1 + x0), w2, w3], M) := zV_go rfl
set_option maxRecDepth 20000 in
theorem e120_224 {sp : Nat × (Nat → Int32)} {M : zM} {x0 : Int32} {w2 v0 v1 v2 v3 : Value} {a : Int64} : zV (zPr sp) (120, 224, [v0, v1, v2, v3], [.int x0, .long a, w2], M) = if zin x0 sp.1 = true then zV (zPr sp) (120, 225, [v0, v1, v2, v3], [.int (sp.2 x0.toNatClampNeg), w2], M) else none := zV_ifn rfl
set_option maxRecDepth 20000 in
theorem e120_225 {sp : Nat × (Nat → Int32)} {M : zM} {x0 : Int32} {w1 v0 v1 v2 v3 : Value} : zV (zPr sp) (120, 225, [v0, v1, v2, v3], [.int x0, w1], M) = if zAL v0 = true then zV (zPr sp) (120, 226, [v0, v1, v2, v3], [v0, .int x0, w1], M) else none := zV_ifn rfl
set_option maxRecDepth 20000 in
theorem e120_226 {sp : Nat × (Nat → Int32)} {M : zM} {x1 y : Int32} {w0 w2 v0 v1 v2 : Value} : zV (zPr sp) (120, 226, [v0, v1, v2, .int y], [w0, .int x1, w2], M) = zV (zPr sp) (120, 227, [v0, v1, v2, .int y], [.int y, w0, .int x1, w2], M) := zV_go rfl
set_option maxRecDepth 20000 in
theorem e120_227 {sp : Nat × (Nat → Int32)} {M : zM} {x0 x2 : Int32} {w1 w3 v0 v1 v2 v3 : Value} : zV (zPr sp) (120, 227, [v0, v1, v2, v3], [.int x0, w1, .int x2, w3], M) = zV (zPr sp) (120, 228, [v0, v1, v2, v3], [.int (2), .int x0, w1, .int x2, w3], M) := (zV_go rfl).trans (congrArg (fun c => zV (zPr sp) (120, 228, [v0, v1, v2, v3], [.int c, .int x0, w1, .int x2, w3], M)) zci_2)
set_option maxRecDepth 20000 in
theorem e120_228 {sp : Nat × (Nat → Int32)} {M : zM} {x0 x1 x3 : Int32} {w2 w4 v0 v1 v2 v3 : Value} : zV (zPr sp) (120, 228, [v0, v1, v2, v3], [.int x0, .int x1, w2, .int x3, w4], M) = zV (zPr sp) (120, 229, [v0, v1, v2, v3], [.int (x1 + x0), w2, .int x3, w4], M) := zV_go rfl
set_option maxRecDepth 20000 in
theorem e120_229 {sp : Nat × (Nat → Int32)} {M : zM} {x0 x2 : Int32} {w3 v0 v1 v2 v3 : Value} {a : Int64} : zV (zPr sp) (120, 229, [v0, v1, v2, v3], [.int x0, .long a, .int x2, w3], M) = if zin x0 sp.1 = true then zV (zPr sp) (120, 230, [v0, v1, v2, v3], [.int (sp.2 x0.toNatClampNeg), .int x2, w3], M) else none := zV_ifn rfl
set_option maxRecDepth 20000 in
theorem e120_230 {sp : Nat × (Nat → Int32)} {M : zM} {x0 x1 : Int32} {v0 v1 v2 v3 : Value} {a : Nat} : zV (zPr sp) (120, 230, [v0, v1, v2, v3], [.int x0, .int x1, .ref a], M) = if (zk M a).1 = 5 then ((zV (zPr sp) (29, 0, [.ref a, .int x1, .int x0, .double 0], [], M)).bind fun r => zV (zPr sp) (120, 233, [v0, v1, v2, v3], r.1.toList ++ [], r.2)) else none := zV_ifc rfl
set_option maxRecDepth 20000 in
theorem e120_233 {sp : Nat × (Nat → Int32)} {M : zM} {x0 : Int32} {v0 v1 v2 v3 : Value} : zV (zPr sp) (120, 233, [v0, v1, v2, v3], [.int x0], M) = if zAL v2 = true then zV (zPr sp) (120, 234, [v0, v1, v2, v3], [v2, .int x0], M) else none := zV_ifn rfl
set_option maxRecDepth 20000 in
theorem e120_234 {sp : Nat × (Nat → Int32)} {M : zM} {x1 : Int32} {w0 v0 v1 v2 v3 : Value} : zV (zPr sp) (120, 234, [v0, v1, v2, v3], [w0, .int x1], M) = if zAL v0 = true then zV (zPr sp) (120, 235, [v0, v1, v2, v3], [v0, w0, .int x1], M) else none := zV_ifn rfl
set_option maxRecDepth 20000 in
theorem e120_235 {sp : Nat × (Nat → Int32)} {M : zM} {x2 y : Int32} {w0 w1 v0 v1 v2 : Value} : zV (zPr sp) (120, 235, [v0, v1, v2, .int y], [w0, w1, .int x2], M) = zV (zPr sp) (120, 236, [v0, v1, v2, .int y], [.int y, w0, w1, .int x2], M) := zV_go rfl
set_option maxRecDepth 20000 in
theorem e120_236 {sp : Nat × (Nat → Int32)} {M : zM} {x0 x3 : Int32} {w1 w2 v0 v1 v2 v3 : Value} : zV (zPr sp) (120, 236, [v0, v1, v2, v3], [.int x0, w1, w2, .int x3], M) = zV (zPr sp) (120, 237, [v0, v1, v2, v3], [.int (1), .int x0, w1, w2, .int x3], M) := (zV_go rfl).trans (congrArg (fun c => zV (zPr sp) (120, 237, [v0, v1, v2, v3], [.int c, .int x0, w1, w2, .int x3], M)) zci_1)
set_option maxRecDepth 20000 in
theorem e120_237 {sp : Nat × (Nat → Int32)} {M : zM} {x0 x1 x4 : Int32} {w2 w3 v0 v1 v2 v3 : Value} : zV (zPr sp) (120, 237, [v0, v1, v2, v3], [.int x0, .int x1, w2, w3, .int x4], M) = zV (zPr sp) (120, 238, [v0, v1, v2, v3], [.int (x1 + x0), w2, w3, .int x4], M) := zV_go rfl
set_option maxRecDepth 20000 in
theorem e120_238 {sp : Nat × (Nat → Int32)} {M : zM} {x0 x3 : Int32} {w2 v0 v1 v2 v3 : Value} {a : Int64} : zV (zPr sp) (120, 238, [v0, v1, v2, v3], [.int x0, .long a, w2, .int x3], M) = if zin x0 sp.1 = true then zV (zPr sp) (120, 239, [v0, v1, v2, v3], [.int (sp.2 x0.toNatClampNeg), w2, .int x3], M) else none := zV_ifn rfl
set_option maxRecDepth 20000 in
theorem e120_239 {sp : Nat × (Nat → Int32)} {M : zM} {x0 x2 : Int32} {w1 v0 v1 v2 v3 : Value} : zV (zPr sp) (120, 239, [v0, v1, v2, v3], [.int x0, w1, .int x2], M) = if zAL v0 = true then zV (zPr sp) (120, 240, [v0, v1, v2, v3], [v0, .int x0, w1, .int x2], M) else none := zV_ifn rfl
set_option maxRecDepth 20000 in
theorem e120_240 {sp : Nat × (Nat → Int32)} {M : zM} {x1 x3 y : Int32} {w0 w2 v0 v1 v2 : Value} : zV (zPr sp) (120, 240, [v0, v1, v2, .int y], [w0, .int x1, w2, .int x3], M) = zV (zPr sp) (120, 241, [v0, v1, v2, .int y], [.int y, w0, .int x1, w2, .int x3], M) := zV_go rfl
set_option maxRecDepth 20000 in
theorem e120_241 {sp : Nat × (Nat → Int32)} {M : zM} {x0 x2 x4 : Int32} {w1 w3 v0 v1 v2 v3 : Value} : zV (zPr sp) (120, 241, [v0, v1, v2, v3], [.int x0, w1, .int x2, w3, .int x4], M) = zV (zPr sp) (120, 242, [v0, v1, v2, v3], [.int (2), .int x0, w1, .int x2, w3, .int x4], M) := (zV_go rfl).trans (congrArg (fun c => zV (zPr sp) (120, 242, [v0, v1, v2, v3], [.int c, .int x0, w1, .int x2, w3, .int x4], M)) zci_2)
set_option maxRecDepth 20000 in
theorem e120_242 {sp : Nat × (Nat → Int32)} {M : zM} {x0 x1 x3 x5 : Int32} {w2 w4 v0 v1 v2 v3 : Value} : zV (zPr sp) (120, 242, [v0, v1, v2, v3], [.int x0, .int x1, w2, .int x3, w4, .int x5], M) = zV (zPr sp) (120, 243, [v0, v1, v2, v3], [.int (x1 + x0), w2, .int x3, w4, .int x5], M) := zV_go rfl
set_option maxRecDepth 20000 in
theorem e120_243 {sp : Nat × (Nat → Int32)} {M : zM} {x0 x2 x4 : Int32} {w3 v0 v1 v2 v3 : Value} {a : Int64} : zV (zPr sp) (120, 243, [v0, v1, v2, v3], [.int x0, .long a, .int x2, w3, .int x4], M) = if zin x0 sp.1 = true then zV (zPr sp) (120, 244, [v0, v1, v2, v3], [.int (sp.2 x0.toNatClampNeg), .int x2, w3, .int x4], M) else none := zV_ifn rfl
set_option maxRecDepth 20000 in
theorem e120_244 {sp : Nat × (Nat → Int32)} {M : zM} {x0 x1 x3 : Int32} {v0 v1 v2 v3 : Value} {a : Nat} : zV (zPr sp) (120, 244, [v0, v1, v2, v3], [.int x0, .int x1, .ref a, .int x3], M) = if (zk M a).1 = 6 then ((zV (zPr sp) (108, 0, [.ref a, .int x1, .int x0, .double 0], [], M)).bind fun r => zV (zPr sp) (120, 247, [v0, v1, v2, v3], r.1.toList ++ [.int x3], r.2)) else none := zV_ifc rfl
set_option maxRecDepth 20000 in
theorem e120_247 {sp : Nat × (Nat → Int32)} {M : zM} {x0 x1 : Int32} {v0 v1 v2 v3 : Value} : zV (zPr sp) (120, 247, [v0, v1, v2, v3], [.int x0, .int x1], M) = if x1 = x0 then zV (zPr sp) (120, 734, [v0, v1, v2, v3], [], M) else zV (zPr sp) (120, 250, [v0, v1, v2, v3], [], M) := zV_ifg rfl
set_option maxRecDepth 20000 in
theorem e120_250 {sp : Nat × (Nat → Int32)} {M : zM} {v0 v1 v2 v3 : Value} : zV (zPr sp) (120, 250, [v0, v1, v2, v3], [], M) = zV (zPr sp) (120, 251, [v0, v1, v2, v3], [.int (0)], M) := (zV_go rfl).trans (congrArg (fun c => zV (zPr sp) (120, 251, [v0, v1, v2, v3], [.int c], M)) zci_0)
set_option maxRecDepth 20000 in
theorem e120_251 {sp : Nat × (Nat → Int32)} {M : zM} {x0 : Int32} {v0 v1 v2 v3 : Value} : zV (zPr sp) (120, 251, [v0, v1, v2, v3], [.int x0], M) = if (1 = 0 ∨ x0 = 0 ∨ x0 = 1) then some (some (.int x0), M) else none := zV_ifr rfl
set_option maxRecDepth 20000 in
theorem e120_252 {sp : Nat × (Nat → Int32)} {M : zM} {v0 v1 v2 v3 : Value} : zV (zPr sp) (120, 252, [v0, v1, v2, v3], [], M) = if zAL v1 = true then zV (zPr sp) (120, 253, [v0, v1, v2, v3], [v1], M) else none := zV_ifn rfl
set_option maxRecDepth 20000 in
theorem e120_253 {sp : Nat × (Nat → Int32)} {M : zM} {w0 v0 v1 v2 v3 : Value} : zV (zPr sp) (120, 253, [v0, v1, v2, v3], [w0], M) = if zAL v0 = true then zV (zPr sp) (120, 254, [v0, v1, v2, v3], [v0, w0], M) else none := zV_ifn rfl
set_option maxRecDepth 20000 in
theorem e120_254 {sp : Nat × (Nat → Int32)} {M : zM} {y : Int32} {w0 w1 v0 v1 v2 : Value} : zV (zPr sp) (120, 254, [v0, v1, v2, .int y], [w0, w1], M) = zV (zPr sp) (120, 255, [v0, v1, v2, .int y], [.int y, w0, w1], M) := zV_go rfl
