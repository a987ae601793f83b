/-! Equations of law, d. -/
set_option maxRecDepth 20000 in
theorem e120_577 {sp : Nat × (Nat → Int32)} {M : zM} {x0 x1 x4 : Int32} {w2 w3 v0 v1 v2 v3 : Value} : zV (zPr sp) (120, 577, [v0, v1, v2, v3], [.int x0, .int x1, w2, w3, .int x4], M) = zV (zPr sp) (120, 578, [v0, v1, v2, v3], [.int (x1 + x0), w2, w3, .int x4], M) := zV_go rfl
set_option maxRecDepth 20000 in
theorem e120_578 {sp : Nat × (Nat → Int32)} {M : zM} {x0 x3 : Int32} {w2 v0 v1 v2 v3 : Value} {a : Int64} : zV (zPr sp) (120, 578, [v0, v1, v2, v3], [.int x0, .long a, w2, .int x3], M) = if zin x0 sp.1 = true then zV (zPr sp) (120, 579, [v0, v1, v2, v3], [.int (sp.2 x0.toNatClampNeg), w2, .int x3], M) else none := zV_ifn rfl
set_option maxRecDepth 20000 in
theorem e120_579 {sp : Nat × (Nat → Int32)} {M : zM} {x0 x2 : Int32} {w1 v0 v1 v2 v3 : Value} : zV (zPr sp) (120, 579, [v0, v1, v2, v3], [.int x0, w1, .int x2], M) = if zAL v0 = true then zV (zPr sp) (120, 580, [v0, v1, v2, v3], [v0, .int x0, w1, .int x2], M) else none := zV_ifn rfl
set_option maxRecDepth 20000 in
theorem e120_580 {sp : Nat × (Nat → Int32)} {M : zM} {x1 x3 y : Int32} {w0 w2 v0 v1 v2 : Value} : zV (zPr sp) (120, 580, [v0, v1, v2, .int y], [w0, .int x1, w2, .int x3], M) = zV (zPr sp) (120, 581, [v0, v1, v2, .int y], [.int y, w0, .int x1, w2, .int x3], M) := zV_go rfl
set_option maxRecDepth 20000 in
theorem e120_581 {sp : Nat × (Nat → Int32)} {M : zM} {x0 x2 x4 : Int32} {w1 w3 v0 v1 v2 v3 : Value} : zV (zPr sp) (120, 581, [v0, v1, v2, v3], [.int x0, w1, .int x2, w3, .int x4], M) = zV (zPr sp) (120, 582, [v0, v1, v2, v3], [.int (2), .int x0, w1, .int x2, w3, .int x4], M) := (zV_go rfl).trans (congrArg (fun c => zV (zPr sp) (120, 582, [v0, v1, v2, v3], [.int c, .int x0, w1, .int x2, w3, .int x4], M)) zci_2)
set_option maxRecDepth 20000 in
theorem e120_582 {sp : Nat × (Nat → Int32)} {M : zM} {x0 x1 x3 x5 : Int32} {w2 w4 v0 v1 v2 v3 : Value} : zV (zPr sp) (120, 582, [v0, v1, v2, v3], [.int x0, .int x1, w2, .int x3, w4, .int x5], M) = zV (zPr sp) (120, 583, [v0, v1, v2, v3], [.int (x1 + x0), w2, .int x3, w4, .int x5], M) := zV_go rfl
set_option maxRecDepth 20000 in
theorem e120_583 {sp : Nat × (Nat → Int32)} {M : zM} {x0 x2 x4 : Int32} {w3 v0 v1 v2 v3 : Value} {a : Int64} : zV (zPr sp) (120, 583, [v0, v1, v2, v3], [.int x0, .long a, .int x2, w3, .int x4], M) = if zin x0 sp.1 = true then zV (zPr sp) (120, 584, [v0, v1, v2, v3], [.int (sp.2 x0.toNatClampNeg), .int x2, w3, .int x4], M) else none := zV_ifn rfl
set_option maxRecDepth 20000 in
theorem e120_584 {sp : Nat × (Nat → Int32)} {M : zM} {x0 x1 x3 : Int32} {w2 v0 v1 v2 v3 : Value} : zV (zPr sp) (120, 584, [v0, v1, v2, v3], [.int x0, .int x1, w2, .int x3], M) = if zAL v0 = true then zV (zPr sp) (120, 585, [v0, v1, v2, v3], [v0, .int x0, .int x1, w2, .int x3], M) else none := zV_ifn rfl
set_option maxRecDepth 20000 in
theorem e120_585 {sp : Nat × (Nat → Int32)} {M : zM} {x1 x2 x4 y : Int32} {w0 w3 v0 v1 v2 : Value} : zV (zPr sp) (120, 585, [v0, v1, v2, .int y], [w0, .int x1, .int x2, w3, .int x4], M) = zV (zPr sp) (120, 586, [v0, v1, v2, .int y], [.int y, w0, .int x1, .int x2, w3, .int x4], M) := zV_go rfl
set_option maxRecDepth 20000 in
theorem e120_586 {sp : Nat × (Nat → Int32)} {M : zM} {x0 x2 x3 x5 : Int32} {w1 w4 v0 v1 v2 v3 : Value} : zV (zPr sp) (120, 586, [v0, v1, v2, v3], [.int x0, w1, .int x2, .int x3, w4, .int x5], M) = zV (zPr sp) (120, 587, [v0, v1, v2, v3], [.int (3), .int x0, w1, .int x2, .int x3, w4, .int x5], M) := (zV_go rfl).trans (congrArg (fun c => zV (zPr sp) (120, 587, [v0, v1, v2, v3], [.int c, .int x0, w1, .int x2, .int x3, w4, .int x5], M)) zci_3)
set_option maxRecDepth 20000 in
theorem e120_587 {sp : Nat × (Nat → Int32)} {M : zM} {x0 x1 x3 x4 x6 : Int32} {w2 w5 v0 v1 v2 v3 : Value} : zV (zPr sp) (120, 587, [v0, v1, v2, v3], [.int x0, .int x1, w2, .int x3, .int x4, w5, .int x6], M) = zV (zPr sp) (120, 588, [v0, v1, v2, v3], [.int (x1 + x0), w2, .int x3, .int x4, w5, .int x6], M) := zV_go rfl
set_option maxRecDepth 20000 in
theorem e120_588 {sp : Nat × (Nat → Int32)} {M : zM} {x0 x2 x3 x5 : Int32} {w4 v0 v1 v2 v3 : Value} {a : Int64} : zV (zPr sp) (120, 588, [v0, v1, v2, v3], [.int x0, .long a, .int x2, .int x3, w4, .int x5], M) = if zin x0 sp.1 = true then zV (zPr sp) (120, 589, [v0, v1, v2, v3], [.int (sp.2 x0.toNatClampNeg), .int x2, .int x3, w4, .int x5], M) else none := zV_ifn rfl
set_option maxRecDepth 20000 in
theorem e120_589 {sp : Nat × (Nat → Int32)} {M : zM} {x0 x1 x2 x4 : Int32} {w3 v0 v1 v2 v3 : Value} : zV (zPr sp) (120, 589, [v0, v1, v2, v3], [.int x0, .int x1, .int x2, w3, .int x4], M) = if zAL v0 = true then zV (zPr sp) (120, 590, [v0, v1, v2, v3], [v0, .int x0, .int x1, .int x2, w3, .int x4], M) else none := zV_ifn rfl
set_option maxRecDepth 20000 in
theorem e120_590 {sp : Nat × (Nat → Int32)} {M : zM} {x1 x2 x3 x5 y : Int32} {w0 w4 v0 v1 v2 : Value} : zV (zPr sp) (120, 590, [v0, v1, v2, .int y], [w0, .int x1, .int x2, .int x3, w4, .int x5], M) = zV (zPr sp) (120, 591, [v0, v1, v2, .int y], [.int y, w0, .int x1, .int x2, .int x3, w4, .int x5], M) := zV_go rfl
set_option maxRecDepth 20000 in
theorem e120_591 {sp : Nat × (Nat → Int32)} {M : zM} {x0 x2 x3 x4 x6 : Int32} {w1 w5 v0 v1 v2 v3 : Value} : zV (zPr sp) (120, 591, [v0, v1, v2, v3], [.int x0, w1, .int x2, .int x3, .int x4, w5, .int x6], M) = zV (zPr sp) (120, 592, [v0, v1, v2, v3], [.int (4), .int x0, w1, .int x2, .int x3, .int x4, w5, .int x6], M) := (zV_go rfl).trans (congrArg (fun c => zV (zPr sp) (120, 592, [v0, v1, v2, v3], [.int c, .int x0, w1, .int x2, .int x3, .int x4, w5, .int x6], M)) zci_4)
set_option maxRecDepth 20000 in
theorem e120_592 {sp : Nat × (Nat → Int32)} {M : zM} {x0 x1 x3 x4 x5 x7 : Int32} {w2 w6 v0 v1 v2 v3 : Value} : zV (zPr sp) (120, 592, [v0, v1, v2, v3], [.int x0, .int x1, w2, .int x3, .int x4, .int x5, w6, .int x7], M) = zV (zPr sp) (120, 593, [v0, v1, v2, v3], [.int (x1 + x0), w2, .int x3, .int x4, .int x5, w6, .int x7], M) := zV_go rfl
set_option maxRecDepth 20000 in
theorem e120_593 {sp : Nat × (Nat → Int32)} {M : zM} {x0 x2 x3 x4 x6 : Int32} {w5 v0 v1 v2 v3 : Value} {a : Int64} : zV (zPr sp) (120, 593, [v0, v1, v2, v3], [.int x0, .long a, .int x2, .int x3, .int x4, w5, .int x6], M) = if zin x0 sp.1 = true then zV (zPr sp) (120, 594, [v0, v1, v2, v3], [.int (sp.2 x0.toNatClampNeg), .int x2, .int x3, .int x4, w5, .int x6], M) else none := zV_ifn rfl
set_option maxRecDepth 20000 in
theorem e120_594 {sp : Nat × (Nat → Int32)} {M : zM} {x0 x1 x2 x3 x5 : Int32} {v0 v1 v2 v3 : Value} {a : Nat} : zV (zPr sp) (120, 594, [v0, v1, v2, v3], [.int x0, .int x1, .int x2, .int x3, .ref a, .int x5], M) = if (zk M a).1 = 6 then ((zV (zPr sp) (115, 0, [.ref a, .int x3, .int x2, .int x1, .int x0, .double 0, .double 0, .double 0], [], M)).bind fun r => zV (zPr sp) (120, 597, [v0, v1, v2, v3], r.1.toList ++ [.int x5], r.2)) else none := zV_ifc rfl
set_option maxRecDepth 20000 in
theorem e120_597 {sp : Nat × (Nat → Int32)} {M : zM} {x0 x1 : Int32} {v0 v1 v2 v3 : Value} : zV (zPr sp) (120, 597, [v0, v1, v2, v3], [.int x0, .int x1], M) = if x1 = x0 then zV (zPr sp) (120, 734, [v0, v1, v2, v3], [], M) else zV (zPr sp) (120, 600, [v0, v1, v2, v3], [], M) := zV_ifg rfl
set_option maxRecDepth 20000 in
theorem e120_600 {sp : Nat × (Nat → Int32)} {M : zM} {v0 v1 v2 v3 : Value} : zV (zPr sp) (120, 600, [v0, v1, v2, v3], [], M) = zV (zPr sp) (120, 601, [v0, v1, v2, v3], [.int (0)], M) := (zV_go rfl).trans (congrArg (fun c => zV (zPr sp) (120, 601, [v0, v1, v2, v3], [.int c], M)) zci_0)
set_option maxRecDepth 20000 in
theorem e120_601 {sp : Nat × (Nat → Int32)} {M : zM} {x0 : Int32} {v0 v1 v2 v3 : Value} : zV (zPr sp) (120, 601, [v0, v1, v2, v3], [.int x0], M) = if (1 = 0 ∨ x0 = 0 ∨ x0 = 1) then some (some (.int x0), M) else none := zV_ifr rfl
set_option maxRecDepth 20000 in
theorem e120_602 {sp : Nat × (Nat → Int32)} {M : zM} {v0 v1 v2 v3 : Value} : zV (zPr sp) (120, 602, [v0, v1, v2, v3], [], M) = if zAL v1 = true then zV (zPr sp) (120, 603, [v0, v1, v2, v3], [v1], M) else none := zV_ifn rfl
set_option maxRecDepth 20000 in
theorem e120_603 {sp : Nat × (Nat → Int32)} {M : zM} {w0 v0 v1 v2 v3 : Value} : zV (zPr sp) (120, 603, [v0, v1, v2, v3], [w0], M) = if zAL v0 = true then zV (zPr sp) (120, 604, [v0, v1, v2, v3], [v0, w0], M) else none := zV_ifn rfl
set_option maxRecDepth 20000 in
theorem e120_604 {sp : Nat × (Nat → Int32)} {M : zM} {y : Int32} {w0 w1 v0 v1 v2 : Value} : zV (zPr sp) (120, 604, [v0, v1, v2, .int y], [w0, w1], M) = zV (zPr sp) (120, 605, [v0, v1, v2, .int y], [.int y, w0, w1], M) := zV_go rfl
set_option maxRecDepth 20000 in
theorem e120_605 {sp : Nat × (Nat → Int32)} {M : zM} {x0 : Int32} {w1 w2 v0 v1 v2 v3 : Value} : zV (zPr sp) (120, 605, [v0, v1, v2, v3], [.int x0, w1, w2], M) = zV (zPr sp) (120, 606, [v0, v1, v2, v3], [.int (1), .int x0, w1, w2], M) := (zV_go rfl).trans (congrArg (fun c => zV (zPr sp) (120, 606, [v0, v1, v2, v3], [.int c, .int x0, w1, w2], M)) zci_1)
set_option maxRecDepth 20000 in
theorem e120_606 {sp : Nat × (Nat → Int32)} {M : zM} {x0 x1 : Int32} {w2 w3 v0 v1 v2 v3 : Value} : zV (zPr sp) (120, 606, [v0, v1, v2, v3], [.int x0, .int x1, w2, w3], M) = zV (zPr sp) (120, 607, [v0, v1, v2, v3], [.int (x1 + x0), w2, w3], M) := zV_go rfl
set_option maxRecDepth 20000 in
theorem e120_607 {sp : Nat × (Nat → Int32)} {M : zM} {x0 : Int32} {w2 v0 v1 v2 v3 : Value} {a : Int64} : zV (zPr sp) (120, 607, [v0, v1, v2, v3], [.int x0, .long a, w2], M) = if zin x0 sp.1 = true then zV (zPr sp) (120, 608, [v0, v1, v2, v3], [.int (sp.2 x0.toNatClampNeg), w2], M) else none := zV_ifn rfl
set_option maxRecDepth 20000 in
theorem e120_608 {sp : Nat × (Nat → Int32)} {M : zM} {x0 : Int32} {w1 v0 v1 v2 v3 : Value} : zV (zPr sp) (120, 608, [v0, v1, v2, v3], [.int x0, w1], M) = if zAL v0 = true then zV (zPr sp) (120, 609, [v0, v1, v2, v3], [v0, .int x0, w1], M) else none := zV_ifn rfl
set_option maxRecDepth 20000 in
theorem e120_609 {sp : Nat × (Nat → Int32)} {M : zM} {x1 y : Int32} {w0 w2 v0 v1 v2 : Value} : zV (zPr sp) (120, 609, [v0, v1, v2, .int y], [w0, .int x1, w2], M) = zV (zPr sp) (120, 610, [v0, v1, v2, .int y], [.int y, w0, .int x1, w2], M) := zV_go rfl
set_option maxRecDepth 20000 in
theorem e120_610 {sp : Nat × (Nat → Int32)} {M : zM} {x0 x2 : Int32} {w1 w3 v0 v1 v2 v3 : Value} : zV (zPr sp) (120, 610, [v0, v1, v2, v3], [.int x0, w1, .int x2, w3], M) = zV (zPr sp) (120, 611, [v0, v1, v2, v3], [.int (2), .int x0, w1, .int x2, w3], M) := (zV_go rfl).trans (congrArg (fun c => zV (zPr sp) (120, 611, [v0, v1, v2, v3], [.int c, .int x0, w1, .int x2, w3], M)) zci_2)
set_option maxRecDepth 20000 in
theorem e120_611 {sp : Nat × (Nat → Int32)} {M : zM} {x0 x1 x3 : Int32} {w2 w4 v0 v1 v2 v3 : Value} : zV (zPr sp) (120, 611, [v0, v1, v2, v3], [.int x0, .int x1, w2, .int x3, w4], M) = zV (zPr sp) (120, 612, [v0, v1, v2, v3], [.int (x1 + x0), w2, .int x3, w4], M) := zV_go rfl
set_option maxRecDepth 20000 in
theorem e120_612 {sp : Nat × (Nat → Int32)} {M : zM} {x0 x2 : Int32} {w3 v0 v1 v2 v3 : Value} {a : Int64} : zV (zPr sp) (120, 612, [v0, v1, v2, v3], [.int x0, .long a, .int x2, w3], M) = if zin x0 sp.1 = true then zV (zPr sp) (120, 613, [v0, v1, v2, v3], [.int (sp.2 x0.toNatClampNeg), .int x2, w3], M) else none := zV_ifn rfl
set_option maxRecDepth 20000 in
theorem e120_613 {sp : Nat × (Nat → Int32)} {M : zM} {x0 x1 : Int32} {v0 v1 v2 v3 : Value} {a : Nat} : zV (zPr sp) (120, 613, [v0, v1, v2, v3], [.int x0, .int x1, .ref a], M) = if (zk M a).1 = 5 then ((zV (zPr sp) (69, 0, [.ref a, .int x1, .int x0, .double 0], [], M)).bind fun r => zV (zPr sp) (120, 616, [v0, v1, v2, v3], r.1.toList ++ [], r.2)) else none := zV_ifc rfl
set_option maxRecDepth 20000 in
theorem e120_616 {sp : Nat × (Nat → Int32)} {M : zM} {x0 : Int32} {v0 v1 v2 v3 : Value} : zV (zPr sp) (120, 616, [v0, v1, v2, v3], [.int x0], M) = if zAL v2 = true then zV (zPr sp) (120, 617, [v0, v1, v2, v3], [v2, .int x0], M) else none := zV_ifn rfl
set_option maxRecDepth 20000 in
theorem e120_617 {sp : Nat × (Nat → Int32)} {M : zM} {x1 : Int32} {w0 v0 v1 v2 v3 : Value} : zV (zPr sp) (120, 617, [v0, v1, v2, v3], [w0, .int x1], M) = if zAL v0 = true then zV (zPr sp) (120, 618, [v0, v1, v2, v3], [v0, w0, .int x1], M) else none := zV_ifn rfl
set_option maxRecDepth 20000 in
theorem e120_618 {sp : Nat × (Nat → Int32)} {M : zM} {x2 y : Int32} {w0 w1 v0 v1 v2 : Value} : zV (zPr sp) (120, 618, [v0, v1, v2, .int y], [w0, w1, .int x2], M) = zV (zPr sp) (120, 619, [v0, v1, v2, .int y], [.int y, w0, w1, .int x2], M) := zV_go rfl
set_option maxRecDepth 20000 in
theorem e120_619 {sp : Nat × (Nat → Int32)} {M : zM} {x0 x3 : Int32} {w1 w2 v0 v1 v2 v3 : Value} : zV (zPr sp) (120, 619, [v0, v1, v2, v3], [.int x0, w1, w2, .int x3], M) = zV (zPr sp) (120, 620, [v0, v1, v2, v3], [.int (1), .int x0, w1, w2, .int x3], M) := (zV_go rfl).trans (congrArg (fun c => zV (zPr sp) (120, 620, [v0, v1, v2, v3], [.int c, .int x0, w1, w2, .int x3], M)) zci_1)
set_option maxRecDepth 20000 in
theorem e120_620 {sp : Nat × (Nat → Int32)} {M : zM} {x0 x1 x4 : Int32} {w2 w3 v0 v1 v2 v3 : Value} : zV (zPr sp) (120, 620, [v0, v1, v2, v3], [.int x0, .int x1, w2, w3, .int x4], M) = zV (zPr sp) (120, 621, [v0, v1, v2, v3], [.int (x1 + x0), w2, w3, .int x4], M) := zV_go rfl
set_option maxRecDepth 20000 in
theorem e120_621 {sp : Nat × (Nat → Int32)} {M : zM} {x0 x3 : Int32} {w2 v0 v1 v2 v3 : Value} {a : Int64} : zV (zPr sp) (120, 621, [v0, v1, v2, v3], [.int x0, .long a, w2, .int x3], M) = if zin x0 sp.1 = true then zV (zPr sp) (120, 622, [v0, v1, v2, v3], [.int (sp.2 x0.toNatClampNeg), w2, .int x3], M) else none := zV_ifn rfl
set_option maxRecDepth 20000 in
theorem e120_622 {sp : Nat × (Nat → Int32)} {M : zM} {x0 x2 : Int32} {w1 v0 v1 v2 v3 : Value} : zV (zPr sp) (120, 622, [v0, v1, v2, v3], [.int x0, w1, .int x2], M) = if zAL v0 = true then zV (zPr sp) (120, 623, [v0, v1, v2, v3], [v0, .int x0, w1, .int x2], M) else none := zV_ifn rfl
set_option maxRecDepth 20000 in
theorem e120_623 {sp : Nat × (Nat → Int32)} {M : zM} {x1 x3 y : Int32} {w0 w2 v0 v1 v2 : Value} : zV (zPr sp) (120, 623, [v0, v1, v2, .int y], [w0, .int x1, w2, .int x3], M) = zV (zPr sp) (120, 624, [v0, v1, v2, .int y], [.int y, w0, .int x1, w2, .int x3], M) := zV_go rfl
set_option maxRecDepth 20000 in
theorem e120_624 {sp : Nat × (Nat → Int32)} {M : zM} {x0 x2 x4 : Int32} {w1 w3 v0 v1 v2 v3 : Value} : zV (zPr sp) (120, 624, [v0, v1, v2, v3], [.int x0, w1, .int x2, w3, .int x4], M) = zV (zPr sp) (120, 625, [v0, v1, v2, v3], [.int (2), .int x0, w1, .int x2, w3, .int x4], M) := (zV_go rfl).trans (congrArg (fun c => zV (zPr sp) (120, 625, [v0, v1, v2, v3], [.int c, .int x0, w1, .int x2, w3, .int x4], M)) zci_2)
set_option maxRecDepth 20000 in
theorem e120_625 {sp : Nat × (Nat → Int32)} {M : zM} {x0 x1 x3 x5 : Int32} {w2 w4 v0 v1 v2 v3 : Value} : zV (zPr sp) (120, 625, [v0, v1, v2, v3], [.int x0, .int x1, w2, .int x3, w4, .int x5], M) = zV (zPr sp) (120, 626, [v0, v1, v2, v3], [.int (x1 + x0), w2, .int x3, w4, .int x5], M) := zV_go rfl
set_option maxRecDepth 20000 in
theorem e120_626 {sp : Nat × (Nat → Int32)} {M : zM} {x0 x2 x4 : Int32} {w3 v0 v1 v2 v3 : Value} {a : Int64} : zV (zPr sp) (120, 626, [v0, v1, v2, v3], [.int x0, .long a, .int x2, w3, .int x4], M) = if zin x0 sp.1 = true then zV (zPr sp) (120, 627, [v0, v1, v2, v3], [.int (sp.2 x0.toNatClampNeg), .int x2, w3, .int x4], M) else none := zV_ifn rfl
set_option maxRecDepth 20000 in
theorem e120_627 {sp : Nat × (Nat → Int32)} {M : zM} {x0 x1 x3 : Int32} {v0 v1 v2 v3 : Value} {a : Nat} : zV (zPr sp) (120, 627, [v0, v1, v2, v3], [.int x0, .int x1, .ref a, .int x3], M) = if (zk M a).1 = 6 then ((zV (zPr sp) (116, 0, [.ref a, .int x1, .int x0], [], M)).bind fun r => zV (zPr sp) (120, 630, [v0, v1, v2, v3], r.1.toList ++ [.int x3], r.2)) else none := zV_ifc rfl
set_option maxRecDepth 20000 in
theorem e120_630 {sp : Nat × (Nat → Int32)} {M : zM} {x0 x1 : Int32} {v0 v1 v2 v3 : Value} : zV (zPr sp) (120, 630, [v0, v1, v2, v3], [.int x0, .int x1], M) = if x1 = x0 then zV (zPr sp) (120, 734, [v0, v1, v2, v3], [], M) else zV (zPr sp) (120, 633, [v0, v1, v2, v3], [], M) := zV_ifg rfl
set_option maxRecDepth 20000 in
theorem e120_633 {sp : Nat × (Nat → Int32)} {M : zM} {v0 v1 v2 v3 : Value} : zV (zPr sp) (120, 633, [v0, v1, v2, v3], [], M) = zV (zPr sp) (120, 634, [v0, v1, v2, v3], [.int (0)], M) := (zV_go rfl).trans (congrArg (fun c => zV (zPr sp) (120, 634, [v0, v1, v2, v3], [.int c], M)) zci_0)
set_option maxRecDepth 20000 in
theorem e120_634 {sp : Nat × (Nat → Int32)} {M : zM} {x0 : Int32} {v0 v1 v2 v3 : Value} : zV (zPr sp) (120, 634, [v0, v1, v2, v3], [.int x0], M) = if (1 = 0 ∨ x0 = 0 ∨ x0 = 1) then some (some (.int x0), M) else none := zV_ifr rfl
set_option maxRecDepth 20000 in
theorem e120_635 {sp : Nat × (Nat → Int32)} {M : zM} {v0 v1 v2 v3 : Value} : zV (zPr sp) (120, 635, [v0, v1, v2, v3], [], M) = if zAL v1 = true then zV (zPr sp) (120, 636, [v0, v1, v2, v3], [v1], M) else none := zV_ifn rfl
set_option maxRecDepth 20000 in
theorem e120_636 {sp : Nat × (Nat → Int32)} {M : zM} {w0 v0 v1 v2 v3 : Value} : zV (zPr sp) (120, 636, [v0, v1, v2, v3], [w0], M) = if zAL v0 = true then zV (zPr sp) (120, 637, [v0, v1, v2, v3], [v0, w0], M) else none := zV_ifn rfl
set_option maxRecDepth 20000 in
theorem e120_637 {sp : Nat × (Nat → Int32)} {M : zM} {y : Int32} {w0 w1 v0 v1 v2 : Value} : zV (zPr sp) (120, 637, [v0, v1, v2, .int y], [w0, w1], M) = zV (zPr sp) (120, 638, [v0, v1, v2, .int y], [.int y, w0, w1], M) := zV_go rfl
set_option maxRecDepth 20000 in
theorem e120_638 {sp : Nat × (Nat → Int32)} {M : zM} {x0 : Int32} {w1 w2 v0 v1 v2 v3 : Value} : zV (zPr sp) (120, 638, [v0, v1, v2, v3], [.int x0, w1, w2], M) = zV (zPr sp) (120, 639, [v0, v1, v2, v3], [.int (1), .int x0, w1, w2], M) := (zV_go rfl).trans (congrArg (fun c => zV (zPr sp) (120, 639, [v0, v1, v2, v3], [.int c, .int x0, w1, w2], M)) zci_1)
set_option maxRecDepth 20000 in
theorem e120_639 {sp : Nat × (Nat → Int32)} {M : zM} {x0 x1 : Int32} {w2 w3 v0 v1 v2 v3 : Value} : zV (zPr sp) (120, 639, [v0, v1, v2, v3], [.int x0, .int x1, w2, w3], M) = zV (zPr sp) (120, 640, [v0, v1, v2, v3], [.int (x1 + x0), w2, w3], M) := zV_go rfl
set_option maxRecDepth 20000 in
theorem e120_640 {sp : Nat × (Nat → Int32)} {M : zM} {x0 : Int32} {w2 v0 v1 v2 v3 : Value} {a : Int64} : zV (zPr sp) (120, 640, [v0, v1, v2, v3], [.int x0, .long a, w2], M) = if zin x0 sp.1 = true then zV (zPr sp) (120, 641, [v0, v1, v2, v3], [.int (sp.2 x0.toNatClampNeg), w2], M) else none := zV_ifn rfl
set_option maxRecDepth 20000 in
theorem e120_641 {sp : Nat × (Nat → Int32)} {M : zM} {x0 : Int32} {w1 v0 v1 v2 v3 : Value} : zV (zPr sp) (120, 641, [v0, v1, v2, v3], [.int x0, w1], M) = if zAL v0 = true then zV (zPr sp) (120, 642, [v0, v1, v2, v3], [v0, .int x0, w1], M) else none := zV_ifn rfl
set_option maxRecDepth 20000 in
theorem e120_642 {sp : Nat × (Nat → Int32)} {M : zM} {x1 y : Int32} {w0 w2 v0 v1 v2 : Value} : zV (zPr sp) (120, 642, [v0, v1, v2, .int y], [w0, .int x1, w2], M) = zV (zPr sp) (120, 643, [v0, v1, v2, .int y], [.int y, w0, .int x1, w2], M) := zV_go rfl
set_option maxRecDepth 20000 in
theorem e120_643 {sp : Nat × (Nat → Int32)} {M : zM} {x0 x2 : Int32} {w1 w3 v0 v1 v2 v3 : Value} : zV (zPr sp) (120, 643, [v0, v1, v2, v3], [.int x0, w1, .int x2, w3], M) = zV (zPr sp) (120, 644, [v0, v1, v2, v3], [.int (2), .int x0, w1, .int x2, w3], M) := (zV_go rfl).trans (congrArg (fun c => zV (zPr sp) (120, 644, [v0, v1, v2, v3], [.int c, .int x0, w1, .int x2, w3], M)) zci_2)
set_option maxRecDepth 20000 in
theorem e120_644 {sp : Nat × (Nat → Int32)} {M : zM} {x0 x1 x3 : Int32} {w2 w4 v0 v1 v2 v3 : Value} : zV (zPr sp) (120, 644, [v0, v1, v2, v3], [.int x0, .int x1, w2, .int x3, w4], M) = zV (zPr sp) (120, 645, [v0, v1, v2, v3], [.int (x1 + x0), w2, .int x3, w4], M) := zV_go rfl
set_option maxRecDepth 20000 in
theorem e120_645 {sp : Nat × (Nat → Int32)} {M : zM} {x0 x2 : Int32} {w3 v0 v1 v2 v3 : Value} {a : Int64} : zV (zPr sp) (120, 645, [v0, v1, v2, v3], [.int x0, .long a, .int x2, w3], M) = if zin x0 sp.1 = true then zV (zPr sp) (120, 646, [v0, v1, v2, v3], [.int (sp.2 x0.toNatClampNeg), .int x2, w3], M) else none := zV_ifn rfl
set_option maxRecDepth 20000 in
theorem e120_646 {sp : Nat × (Nat → Int32)} {M : zM} {x0 x1 : Int32} {v0 v1 v2 v3 : Value} {a : Nat} : zV (zPr sp) (120, 646, [v0, v1, v2, v3], [.int x0, .int x1, .ref a], M) = if (zk M a).1 = 5 then ((zV (zPr sp) (70, 0, [.ref a, .int x1, .int x0, .double 0], [], M)).bind fun r => zV (zPr sp) (120, 649, [v0, v1, v2, v3], r.1.toList ++ [], r.2)) else none := zV_ifc rfl
set_option maxRecDepth 20000 in
theorem e120_649 {sp : Nat × (Nat → Int32)} {M : zM} {x0 : Int32} {v0 v1 v2 v3 : Value} : zV (zPr sp) (120, 649, [v0, v1, v2, v3], [.int x0], M) = if zAL v2 = true then zV (zPr sp) (120, 650, [v0, v1, v2, v3], [v2, .int x0], M) else none := zV_ifn rfl
set_option maxRecDepth 20000 in
theorem e120_650 {sp : Nat × (Nat → Int32)} {M : zM} {x1 : Int32} {w0 v0 v1 v2 v3 : Value} : zV (zPr sp) (120, 650, [v0, v1, v2, v3], [w0, .int x1], M) = if zAL v0 = true then zV (zPr sp) (120, 651, [v0, v1, v2, v3], [v0, w0, .int x1], M) else none := zV_ifn rfl
set_option maxRecDepth 20000 in
theorem e120_651 {sp : Nat × (Nat → Int32)} {M : zM} {x2 y : Int32} {w0 w1 v0 v1 v2 : Value} : zV (zPr sp) (120, 651, [v0, v1, v2, .int y], [w0, w1, .int x2], M) = zV (zPr sp) (120, 652, [v0, v1, v2, .int y], [.int y, w0, w1, .int x2], M) := zV_go rfl
set_option maxRecDepth 20000 in
theorem e120_652 {sp : Nat × (Nat → Int32)} {M : zM} {x0 x3 : Int32} {w1 w2 v0 v1 v2 v3 : Value} : zV (zPr sp) (120, 652, [v0, v1, v2, v3], [.int x0, w1, w2, .int x3], M) = zV (zPr sp) (120, 653, [v0, v1, v2, v3], [.int (1), .int x0, w1, w2, .int x3], M) := (zV_go rfl).trans (congrArg (fun c => zV (zPr sp) (120, 653, [v0, v1, v2, v3], [.int c, .int x0, w1, w2, .int x3], M)) zci_1)
set_option maxRecDepth 20000 in
theorem e120_653 {sp : Nat × (Nat → Int32)} {M : zM} {x0 x1 x4 : Int32} {w2 w3 v0 v1 v2 v3 : Value} : zV (zPr sp) (120, 653, [v0, v1, v2, v3], [.int x0, .int x1, w2, w3, .int x4], M) = zV (zPr sp) (120, 654, [v0, v1, v2, v3], [.int (x1 + x0), w2, w3, .int x4], M) := zV_go rfl
set_option maxRecDepth 20000 in
theorem e120_654 {sp : Nat × (Nat → Int32)} {M : zM} {x0 x3 : Int32} {w2 v0 v1 v2 v3 : Value} {a : Int64} : zV (zPr sp) (120, 654, [v0, v1, v2, v3], [.int x0, .long a, w2, .int x3], M) = if zin x0 sp.1 = true then zV (zPr sp) (120, 655, [v0, v1, v2, v3], [.int (sp.2 x0.toNatClampNeg), w2, .int x3], M) else none := zV_ifn rfl
set_option maxRecDepth 20000 in
theorem e120_655 {sp : Nat × (Nat → Int32)} {M : zM} {x0 x2 : Int32} {w1 v0 v1 v2 v3 : Value} : zV (zPr sp) (120, 655, [v0, v1, v2, v3], [.int x0, w1, .int x2], M) = if zAL v0 = true then zV (zPr sp) (120, 656, [v0, v1, v2, v3], [v0, .int x0, w1, .int x2], M) else none := zV_ifn rfl
set_option maxRecDepth 20000 in
theorem e120_656 {sp : Nat × (Nat → Int32)} {M : zM} {x1 x3 y : Int32} {w0 w2 v0 v1 v2 : Value} : zV (zPr sp) (120, 656, [v0, v1, v2, .int y], [w0, .int x1, w2, .int x3], M) = zV (zPr sp) (120, 657, [v0, v1, v2, .int y], [.int y, w0, .int x1, w2, .int x3], M) := zV_go rfl
set_option maxRecDepth 20000 in
theorem e120_657 {sp : Nat × (Nat → Int32)} {M : zM} {x0 x2 x4 : Int32} {w1 w3 v0 v1 v2 v3 : Value} : zV (zPr sp) (120, 657, [v0, v1, v2, v3], [.int x0, w1, .int x2, w3, .int x4], M) = zV (zPr sp) (120, 658, [v0, v1, v2, v3], [.int (2), .int x0, w1, .int x2, w3, .int x4], M) := (zV_go rfl).trans (congrArg (fun c => zV (zPr sp) (120, 658, [v0, v1, v2, v3], [.int c, .int x0, w1, .int x2, w3, .int x4], M)) zci_2)
set_option maxRecDepth 20000 in
theorem e120_658 {sp : Nat × (Nat → Int32)} {M : zM} {x0 x1 x3 x5 : Int32} {w2 w4 v0 v1 v2 v3 : Value} : zV (zPr sp) (120, 658, [v0, v1, v2, v3], [.int x0, .int x1, w2, .int x3, w4, .int x5], M) = zV (zPr sp) (120, 659, [v0, v1, v2, v3], [.int (x1 + x0), w2, .int x3, w4, .int x5], M) := zV_go rfl
set_option maxRecDepth 20000 in
theorem e120_659 {sp : Nat × (Nat → Int32)} {M : zM} {x0 x2 x4 : Int32} {w3 v0 v1 v2 v3 : Value} {a : Int64} : zV (zPr sp) (120, 659, [v0, v1, v2, v3], [.int x0, .long a, .int x2, w3, .int x4], M) = if zin x0 sp.1 = true then zV (zPr sp) (120, 660, [v0, v1, v2, v3], [.int (sp.2 x0.toNatClampNeg), .int x2, w3, .int x4], M) else none := zV_ifn rfl
set_option maxRecDepth 20000 in
theorem e120_660 {sp : Nat × (Nat → Int32)} {M : zM} {x0 x1 x3 : Int32} {v0 v1 v2 v3 : Value} {a : Nat} : zV (zPr sp) (120, 660, [v0, v1, v2, v3], [.int x0, .int x1, .ref a, .int x3], M) = if (zk M a).1 = 6 then ((zV (zPr sp) (117, 0, [.ref a, .int x1, .int x0], [], M)).bind fun r => zV (zPr sp) (120, 663, [v0, v1, v2, v3], r.1.toList ++ [.int x3], r.2)) else none := zV_ifc rfl
set_option maxRecDepth 20000 in
theorem e120_663 {sp : Nat × (Nat → Int32)} {M : zM} {x0 x1 : Int32} {v0 v1 v2 v3 : Value} : zV (zPr sp) (120, 663, [v0, v1, v2, v3], [.int x0, .int x1], M) = if x1 = x0 then zV (zPr sp) (120, 734, [v0, v1, v2, v3], [], M) else zV (zPr sp) (120, 666, [v0, v1, v2, v3], [], M) := zV_ifg rfl
set_option maxRecDepth 20000 in
theorem e120_666 {sp : Nat × (Nat → Int32)} {M : zM} {v0 v1 v2 v3 : Value} : zV (zPr sp) (120, 666, [v0, v1, v2, v3], [], M) = zV (zPr sp) (120, 667, [v0, v1, v2, v3], [.int (0)], M) := (zV_go rfl).trans (congrArg (fun c => zV (zPr sp) (120, 667, [v0, v1, v2, v3], [.int c], M)) zci_0)
set_option maxRecDepth 20000 in
theorem e120_667 {sp : Nat × (Nat → Int32)} {M : zM} {x0 : Int32} {v0 v1 v2 v3 : Value} : zV (zPr sp) (120, 667, [v0, v1, v2, v3], [.int x0], M) = if (1 = 0 ∨ x0 = 0 ∨ x0 = 1) then some (some (.int x0), M) else none := zV_ifr rfl
set_option maxRecDepth 20000 in
theorem e120_668 {sp : Nat × (Nat → Int32)} {M : zM} {v0 v1 v2 v3 : Value} : zV (zPr sp) (120, 668, [v0, v1, v2, v3], [], M) = if zAL v1 = true then zV (zPr sp) (120, 669, [v0, v1, v2, v3], [v1], M) else none := zV_ifn rfl
set_option maxRecDepth 20000 in
theorem e120_669 {sp : Nat × (Nat → Int32)} {M : zM} {w0 v0 v1 v2 v3 : Value} : zV (zPr sp) (120, 669, [v0, v1, v2, v3], [w0], M) = if zAL v0 = true then zV (zPr sp) (120, 670, [v0, v1, v2, v3], [v0, w0], M) else none := zV_ifn rfl
set_option maxRecDepth 20000 in
theorem e120_670 {sp : Nat × (Nat → Int32)} {M : zM} {y : Int32} {w0 w1 v0 v1 v2 : Value} : zV (zPr sp) (120, 670, [v0, v1, v2, .int y], [w0, w1], M) = zV (zPr sp) (120, 671, [v0, v1, v2, .int y], [.int y, w0, w1], M) := zV_go rfl
set_option maxRecDepth 20000 in
theorem e120_671 {sp : Nat × (Nat → Int32)} {M : zM} {x0 : Int32} {w1 w2 v0 v1 v2 v3 : Value} : zV (zPr sp) (120, 671, [v0, v1, v2, v3], [.int x0, w1, w2], M) = zV (zPr sp) (120, 672, [v0, v1, v2, v3], [.int (1), .int x0, w1, w2], M) := (zV_go rfl).trans (congrArg (fun c => zV (zPr sp) (120, 672, [v0, v1, v2, v3], [.int c, .int x0, w1, w2], M)) zci_1)
set_option maxRecDepth 20000 in
theorem e120_672 {sp : Nat × (Nat → Int32)} {M : zM} {x0 x1 : Int32} {w2 w3 v0 v1 v2 v3 : Value} : zV (zPr sp) (120, 672, [v0, v1, v2, v3], [.int x0, .int x1, w2, w3], M) = zV (zPr sp) (120, 673, [v0, v1, v2, v3], [.int (x1 + x0), w2, w3], M) := zV_go rfl
set_option maxRecDepth 20000 in
theorem e120_673 {sp : Nat × (Nat → Int32)} {M : zM} {x0 : Int32} {w2 v0 v1 v2 v3 : Value} {a : Int64} : zV (zPr sp) (120, 673, [v0, v1, v2, v3], [.int x0, .long a, w2], M) = if zin x0 sp.1 = true then zV (zPr sp) (120, 674, [v0, v1, v2, v3], [.int (sp.2 x0.toNatClampNeg), w2], M) else none := zV_ifn rfl
set_option maxRecDepth 20000 in
theorem e120_674 {sp : Nat × (Nat → Int32)} {M : zM} {x0 : Int32} {w1 v0 v1 v2 v3 : Value} : zV (zPr sp) (120, 674, [v0, v1, v2, v3], [.int x0, w1], M) = if zAL v0 = true then zV (zPr sp) (120, 675, [v0, v1, v2, v3], [v0, .int x0, w1], M) else none := zV_ifn rfl
set_option maxRecDepth 20000 in
theorem e120_675 {sp : Nat × (Nat → Int32)} {M : zM} {x1 y : Int32} {w0 w2 v0 v1 v2 : Value} : zV (zPr sp) (120, 675, [v0, v1, v2, .int y], [w0, .int x1, w2], M) = zV (zPr sp) (120, 676, [v0, v1, v2, .int y], [.int y, w0, .int x1, w2], M) := zV_go rfl
set_option maxRecDepth 20000 in
theorem e120_676 {sp : Nat × (Nat → Int32)} {M : zM} {x0 x2 : Int32} {w1 w3 v0 v1 v2 v3 : Value} : zV (zPr sp) (120, 676, [v0, v1, v2, v3], [.int x0, w1, .int x2, w3], M) = zV (zPr sp) (120, 677, [v0, v1, v2, v3], [.int (2), .int x0, w1, .int x2, w3], M) := (zV_go rfl).trans (congrArg (fun c => zV (zPr sp) (120, 677, [v0, v1, v2, v3], [.int c, .int x0, w1, .int x2, w3], M)) zci_2)
set_option maxRecDepth 20000 in
theorem e120_677 {sp : Nat × (Nat → Int32)} {M : zM} {x0 x1 x3 : Int32} {w2 w4 v0 v1 v2 v3 : Value} : zV (zPr sp) (120, 677, [v0, v1, v2, v3], [.int x0, .int x1, w2, .int x3, w4], M) = zV (zPr sp) (120, 678, [v0, v1, v2, v3], [.int (x1 + x0), w2, .int x3, w4], M) := zV_go rfl
set_option maxRecDepth 20000 in
theorem e120_678 {sp : Nat × (Nat → Int32)} {M : zM} {x0 x2 : Int32} {w3 v0 v1 v2 v3 : Value} {a : Int64} : zV (zPr sp) (120, 678, [v0, v1, v2, v3], [.int x0, .long a, .int x2, w3], M) = if zin x0 sp.1 = true then zV (zPr sp) (120, 679, [v0, v1, v2, v3], [.int (sp.2 x0.toNatClampNeg), .int x2, w3], M) else none := zV_ifn rfl
set_option maxRecDepth 20000 in
theorem e120_679 {sp : Nat × (Nat → Int32)} {M : zM} {x0 x1 : Int32} {v0 v1 v2 v3 : Value} {a : Nat} : zV (zPr sp) (120, 679, [v0, v1, v2, v3], [.int x0, .int x1, .ref a], M) = if (zk M a).1 = 5 then ((zV (zPr sp) (71, 0, [.ref a, .int x1, .int x0, .double 0], [], M)).bind fun r => zV (zPr sp) (120, 682, [v0, v1, v2, v3], r.1.toList ++ [], r.2)) else none := zV_ifc rfl
set_option maxRecDepth 20000 in
theorem e120_682 {sp : Nat × (Nat → Int32)} {M : zM} {x0 : Int32} {v0 v1 v2 v3 : Value} : zV (zPr sp) (120, 682, [v0, v1, v2, v3], [.int x0], M) = if zAL v2 = true then zV (zPr sp) (120, 683, [v0, v1, v2, v3], [v2, .int x0], M) else none := zV_ifn rfl
set_option maxRecDepth 20000 in
theorem e120_683 {sp : Nat × (Nat → Int32)} {M : zM} {x1 : Int32} {w0 v0 v1 v2 v3 : Value} : zV (zPr sp) (120, 683, [v0, v1, v2, v3], [w0, .int x1], M) = if zAL v0 = true then zV (zPr sp) (120, 684, [v0, v1, v2, v3], [v0, w0, .int x1], M) else none := zV_ifn rfl
set_option maxRecDepth 20000 in
theorem e120_684 {sp : Nat × (Nat → Int32)} {M : zM} {x2 y : Int32} {w0 w1 v0 v1 v2 : Value} : zV (zPr sp) (120, 684, [v0, v1, v2, .int y], [w0, w1, .int x2], M) = zV (zPr sp) (120, 685, [v0, v1, v2, .int y], [.int y, w0, w1, .int x2], M) := zV_go rfl
set_option maxRecDepth 20000 in
theorem e120_685 {sp : Nat × (Nat → Int32)} {M : zM} {x0 x3 : Int32} {w1 w2 v0 v1 v2 v3 : Value} : zV (zPr sp) (120, 685, [v0, v1, v2, v3], [.int x0, w1, w2, .int x3], M) = zV (zPr sp) (120, 686, [v0, v1, v2, v3], [.int (1), .int x0, w1, w2, .int x3], M) := (zV_go rfl).trans (congrArg (fun c => zV (zPr sp) (120, 686, [v0, v1, v2, v3], [.int c, .int x0, w1, w2, .int x3], M)) zci_1)
set_option maxRecDepth 20000 in
theorem e120_686 {sp : Nat × (Nat → Int32)} {M : zM} {x0 x1 x4 : Int32} {w2 w3 v0 v1 v2 v3 : Value} : zV (zPr sp) (120, 686, [v0, v1, v2, v3], [.int x0, .int x1, w2, w3, .int x4], M) = zV (zPr sp) (120, 687, [v0, v1, v2, v3], [.int (x1 + x0), w2, w3, .int x4], M) := zV_go rfl
set_option maxRecDepth 20000 in
theorem e120_687 {sp : Nat × (Nat → Int32)} {M : zM} {x0 x3 : Int32} {w2 v0 v1 v2 v3 : Value} {a : Int64} : zV (zPr sp) (120, 687, [v0, v1, v2, v3], [.int x0, .long a, w2, .int x3], M) = if zin x0 sp.1 = true then zV (zPr sp) (120, 688, [v0, v1, v2, v3], [.int (sp.2 x0.toNatClampNeg), w2, .int x3], M) else none := zV_ifn rfl
set_option maxRecDepth 20000 in
theorem e120_688 {sp : Nat × (Nat → Int32)} {M : zM} {x0 x2 : Int32} {w1 v0 v1 v2 v3 : Value} : zV (zPr sp) (120, 688, [v0, v1, v2, v3], [.int x0, w1, .int x2], M) = if zAL v0 = true then zV (zPr sp) (120, 689, [v0, v1, v2, v3], [v0, .int x0, w1, .int x2], M) else none := zV_ifn rfl
set_option maxRecDepth 20000 in
theorem e120_689 {sp : Nat × (Nat → Int32)} {M : zM} {x1 x3 y : Int32} {w0 w2 v0 v1 v2 : Value} : zV (zPr sp) (120, 689, [v0, v1, v2, .int y], [w0, .int x1, w2, .int x3], M) = zV (zPr sp) (120, 690, [v0, v1, v2, .int y], [.int y, w0, .int x1, w2, .int x3], M) := zV_go rfl
set_option maxRecDepth 20000 in
theorem e120_690 {sp : Nat × (Nat → Int32)} {M : zM} {x0 x2 x4 : Int32} {w1 w3 v0 v1 v2 v3 : Value} : zV (zPr sp) (120, 690, [v0, v1, v2, v3], [.int x0, w1, .int x2, w3, .int x4], M) = zV (zPr sp) (120, 691, [v0, v1, v2, v3], [.int (2), .int x0, w1, .int x2, w3, .int x4], M) := (zV_go rfl).trans (congrArg (fun c => zV (zPr sp) (120, 691, [v0, v1, v2, v3], [.int c, .int x0, w1, .int x2, w3, .int x4], M)) zci_2)
set_option maxRecDepth 20000 in
theorem e120_691 {sp : Nat × (Nat → Int32)} {M : zM} {x0 x1 x3 x5 : Int32} {w2 w4 v0 v1 v2 v3 : Value} : zV (zPr sp) (120, 691, [v0, v1, v2, v3], [.int x0, .int x1, w2, .int x3, w4, .int x5], M) = zV (zPr sp) (120, 692, [v0, v1, v2, v3], [.int (x1 + x0), w2, .int x3, w4, .int x5], M) := zV_go rfl
set_option maxRecDepth 20000 in
theorem e120_692 {sp : Nat × (Nat → Int32)} {M : zM} {x0 x2 x4 : Int32} {w3 v0 v1 v2 v3 : Value} {a : Int64} : zV (zPr sp) (120, 692, [v0, v1, v2, v3], [.int x0, .long a, .int x2, w3, .int x4], M) = if zin x0 sp.1 = true then zV (zPr sp) (120, 693, [v0, v1, v2, v3], [.int (sp.2 x0.toNatClampNeg), .int x2, w3, .int x4], M) else none := zV_ifn rfl
set_option maxRecDepth 20000 in
theorem e120_693 {sp : Nat × (Nat → Int32)} {M : zM} {x0 x1 x3 : Int32} {v0 v1 v2 v3 : Value} {a : Nat} : zV (zPr sp) (120, 693, [v0, v1, v2, v3], [.int x0, .int x1, .ref a, .int x3], M) = if (zk M a).1 = 6 then ((zV (zPr sp) (118, 0, [.ref a, .int x1, .int x0], [], M)).bind fun r => zV (zPr sp) (120, 696, [v0, v1, v2, v3], r.1.toList ++ [.int x3], r.2)) else none := zV_ifc rfl
set_option maxRecDepth 20000 in
theorem e120_696 {sp : Nat × (Nat → Int32)} {M : zM} {x0 x1 : Int32} {v0 v1 v2 v3 : Value} : zV (zPr sp) (120, 696, [v0, v1, v2, v3], [.int x0, .int x1], M) = if x1 = x0 then zV (zPr sp) (120, 734, [v0, v1, v2, v3], [], M) else zV (zPr sp) (120, 699, [v0, v1, v2, v3], [], M) := zV_ifg rfl
set_option maxRecDepth 20000 in
theorem e120_699 {sp : Nat × (Nat → Int32)} {M : zM} {v0 v1 v2 v3 : Value} : zV (zPr sp) (120, 699, [v0, v1, v2, v3], [], M) = zV (zPr sp) (120, 700, [v0, v1, v2, v3], [.int (0)], M) := (zV_go rfl).trans (congrArg (fun c => zV (zPr sp) (120, 700, [v0, v1, v2, v3], [.int c], M)) zci_0)
set_option maxRecDepth 20000 in
theorem e120_700 {sp : Nat × (Nat → Int32)} {M : zM} {x0 : Int32} {v0 v1 v2 v3 : Value} : zV (zPr sp) (120, 700, [v0, v1, v2, v3], [.int x0], M) = if (1 = 0 ∨ x0 = 0 ∨ x0 = 1) then some (some (.int x0), M) else none := zV_ifr rfl
set_option maxRecDepth 20000 in
theorem e120_701 {sp : Nat × (Nat → Int32)} {M : zM} {v0 v1 v2 v3 : Value} : zV (zPr sp) (120, 701, [v0, v1, v2, v3], [], M) = if zAL v1 = true then zV (zPr sp) (120, 702, [v0, v1, v2, v3], [v1], M) else none := zV_ifn rfl
set_option maxRecDepth 20000 in
theorem e120_702 {sp : Nat × (Nat → Int32)} {M : zM} {w0 v0 v1 v2 v3 : Value} : zV (zPr sp) (120, 702, [v0, v1, v2, v3], [w0], M) = if zAL v0 = true then zV (zPr sp) (120, 703, [v0, v1, v2, v3], [v0, w0], M) else none := zV_ifn rfl
set_option maxRecDepth 20000 in
theorem e120_703 {sp : Nat × (Nat → Int32)} {M : zM} {y : Int32} {w0 w1 v0 v1 v2 : Value} : zV (zPr sp) (120, 703, [v0, v1, v2, .int y], [w0, w1], M) = zV (zPr sp) (120, 704, [v0, v1, v2, .int y], [.int y, w0, w1], M) := zV_go rfl
set_option maxRecDepth 20000 in
theorem e120_704 {sp : Nat × (Nat → Int32)} {M : zM} {x0 : Int32} {w1 w2 v0 v1 v2 v3 : Value} : zV (zPr sp) (120, 704, [v0, v1, v2, v3], [.int x0, w1, w2], M) = zV (zPr sp) (120, 705, [v0, v1, v2, v3], [.int (1), .int x0, w1, w2], M) := (zV_go rfl).trans (congrArg (fun c => zV (zPr sp) (120, 705, [v0, v1, v2, v3], [.int c, .int x0, w1, w2], M)) zci_1)
set_option maxRecDepth 20000 in
theorem e120_705 {sp : Nat × (Nat → Int32)} {M : zM} {x0 x1 : Int32} {w2 w3 v0 v1 v2 v3 : Value} : zV (zPr sp) (120, 705, [v0, v1, v2, v3], [.int x0, .int x1, w2, w3], M) = zV (zPr sp) (120, 706, [v0, v1, v2, v3], [.int (x1 + x0), w2, w3], M) := zV_go rfl
set_option maxRecDepth 20000 in
theorem e120_706 {sp : Nat × (Nat → Int32)} {M : zM} {x0 : Int32} {w2 v0 v1 v2 v3 : Value} {a : Int64} : zV (zPr sp) (120, 706, [v0, v1, v2, v3], [.int x0, .long a, w2], M) = if zin x0 sp.1 = true then zV (zPr sp) (120, 707, [v0, v1, v2, v3], [.int (sp.2 x0.toNatClampNeg), w2], M) else none := zV_ifn rfl
set_option maxRecDepth 20000 in
theorem e120_707 {sp : Nat × (Nat → Int32)} {M : zM} {x0 : Int32} {w1 v0 v1 v2 v3 : Value} : zV (zPr sp) (120, 707, [v0, v1, v2, v3], [.int x0, w1], M) = if zAL v0 = true then zV (zPr sp) (120, 708, [v0, v1, v2, v3], [v0, .int x0, w1], M) else none := zV_ifn rfl
set_option maxRecDepth 20000 in
theorem e120_708 {sp : Nat × (Nat → Int32)} {M : zM} {x1 y : Int32} {w0 w2 v0 v1 v2 : Value} : zV (zPr sp) (120, 708, [v0, v1, v2, .int y], [w0, .int x1, w2], M) = zV (zPr sp) (120, 709, [v0, v1, v2, .int y], [.int y, w0, .int x1, w2], M) := zV_go rfl
set_option maxRecDepth 20000 in
theorem e120_709 {sp : Nat × (Nat → Int32)} {M : zM} {x0 x2 : Int32} {w1 w3 v0 v1 v2 v3 : Value} : zV (zPr sp) (120, 709, [v0, v1, v2, v3], [.int x0, w1, .int x2, w3], M) = zV (zPr sp) (120, 710, [v0, v1, v2, v3], [.int (2), .int x0, w1, .int x2, w3], M) := (zV_go rfl).trans (congrArg (fun c => zV (zPr sp) (120, 710, [v0, v1, v2, v3], [.int c, .int x0, w1, .int x2, w3], M)) zci_2)
set_option maxRecDepth 20000 in
theorem e120_710 {sp : Nat × (Nat → Int32)} {M : zM} {x0 x1 x3 : Int32} {w2 w4 v0 v1 v2 v3 : Value} : zV (zPr sp) (120, 710, [v0, v1, v2, v3], [.int x0, .int x1, w2, .int x3, w4], M) = zV (zPr sp) (120, 711, [v0, v1, v2, v3], [.int (x1 + x0), w2, .int x3, w4], M) := zV_go rfl
set_option maxRecDepth 20000 in
theorem e120_711 {sp : Nat × (Nat → Int32)} {M : zM} {x0 x2 : Int32} {w3 v0 v1 v2 v3 : Value} {a : Int64} : zV (zPr sp) (120, 711, [v0, v1, v2, v3], [.int x0, .long a, .int x2, w3], M) = if zin x0 sp.1 = true then zV (zPr sp) (120, 712, [v0, v1, v2, v3], [.int (sp.2 x0.toNatClampNeg), .int x2, w3], M) else none := zV_ifn rfl
set_option maxRecDepth 20000 in
theorem e120_712 {sp : Nat × (Nat → Int32)} {M : zM} {x0 x1 : Int32} {v0 v1 v2 v3 : Value} {a : Nat} : zV (zPr sp) (120, 712, [v0, v1, v2, v3], [.int x0, .int x1, .ref a], M) = if (zk M a).1 = 5 then ((zV (zPr sp) (72, 0, [.ref a, .int x1, .int x0, .double 0, .double 0, .double 0], [], M)).bind fun r => zV (zPr sp) (120, 715, [v0, v1, v2, v3], r.1.toList ++ [], r.2)) else none := zV_ifc rfl
set_option maxRecDepth 20000 in
theorem e120_715 {sp : Nat × (Nat → Int32)} {M : zM} {x0 : Int32} {v0 v1 v2 v3 : Value} : zV (zPr sp) (120, 715, [v0, v1, v2, v3], [.int x0], M) = if zAL v2 = true then zV (zPr sp) (120, 716, [v0, v1, v2, v3], [v2, .int x0], M) else none := zV_ifn rfl
set_option maxRecDepth 20000 in
theorem e120_716 {sp : Nat × (Nat → Int32)} {M : zM} {x1 : Int32} {w0 v0 v1 v2 v3 : Value} : zV (zPr sp) (120, 716, [v0, v1, v2, v3], [w0, .int x1], M) = if zAL v0 = true then zV (zPr sp) (120, 717, [v0, v1, v2, v3], [v0, w0, .int x1], M) else none := zV_ifn rfl
set_option maxRecDepth 20000 in
theorem e120_717 {sp : Nat × (Nat → Int32)} {M : zM} {x2 y : Int32} {w0 w1 v0 v1 v2 : Value} : zV (zPr sp) (120, 717, [v0, v1, v2, .int y], [w0, w1, .int x2], M) = zV (zPr sp) (120, 718, [v0, v1, v2, .int y], [.int y, w0, w1, .int x2], M) := zV_go rfl
set_option maxRecDepth 20000 in
theorem e120_718 {sp : Nat × (Nat → Int32)} {M : zM} {x0 x3 : Int32} {w1 w2 v0 v1 v2 v3 : Value} : zV (zPr sp) (120, 718, [v0, v1, v2, v3], [.int x0, w1, w2, .int x3], M) = zV (zPr sp) (120, 719, [v0, v1, v2, v3], [.int (1), .int x0, w1, w2, .int x3], M) := (zV_go rfl).trans (congrArg (fun c => zV (zPr sp) (120, 719, [v0, v1, v2, v3], [.int c, .int x0, w1, w2, .int x3], M)) zci_1)
set_option maxRecDepth 20000 in
theorem e120_719 {sp : Nat × (Nat → Int32)} {M : zM} {x0 x1 x4 : Int32} {w2 w3 v0 v1 v2 v3 : Value} : zV (zPr sp) (120, 719, [v0, v1, v2, v3], [.int x0, .int x1, w2, w3, .int x4], M) = zV (zPr sp) (120, 720, [v0, v1, v2, v3], [.int (x1 + x0), w2, w3, .int x4], M) := zV_go rfl
set_option maxRecDepth 20000 in
theorem e120_720 {sp : Nat × (Nat → Int32)} {M : zM} {x0 x3 : Int32} {w2 v0 v1 v2 v3 : Value} {a : Int64} : zV (zPr sp) (120, 720, [v0, v1, v2, v3], [.int x0, .long a, w2, .int x3], M) = if zin x0 sp.1 = true then zV (zPr sp) (120, 721, [v0, v1, v2, v3], [.int (sp.2 x0.toNatClampNeg), w2, .int x3], M) else none := zV_ifn rfl
set_option maxRecDepth 20000 in
theorem e120_721 {sp : Nat × (Nat → Int32)} {M : zM} {x0 x2 : Int32} {w1 v0 v1 v2 v3 : Value} : zV (zPr sp) (120, 721, [v0, v1, v2, v3], [.int x0, w1, .int x2], M) = if zAL v0 = true then zV (zPr sp) (120, 722, [v0, v1, v2, v3], [v0, .int x0, w1, .int x2], M) else none := zV_ifn rfl
set_option maxRecDepth 20000 in
theorem e120_722 {sp : Nat × (Nat → Int32)} {M : zM} {x1 x3 y : Int32} {w0 w2 v0 v1 v2 : Value} : zV (zPr sp) (120, 722, [v0, v1, v2, .int y], [w0, .int x1, w2, .int x3], M) = zV (zPr sp) (120, 723, [v0, v1, v2, .int y], [.int y, w0, .int x1, w2, .int x3], M) := zV_go rfl
set_option maxRecDepth 20000 in
theorem e120_723 {sp : Nat × (Nat → Int32)} {M : zM} {x0 x2 x4 : Int32} {w1 w3 v0 v1 v2 v3 : Value} : zV (zPr sp) (120, 723, [v0, v1, v2, v3], [.int x0, w1, .int x2, w3, .int x4], M) = zV (zPr sp) (120, 724, [v0, v1, v2, v3], [.int (2), .int x0, w1, .int x2, w3, .int x4], M) := (zV_go rfl).trans (congrArg (fun c => zV (zPr sp) (120, 724, [v0, v1, v2, v3], [.int c, .int x0, w1, .int x2, w3, .int x4], M)) zci_2)
set_option maxRecDepth 20000 in
theorem e120_724 {sp : Nat × (Nat → Int32)} {M : zM} {x0 x1 x3 x5 : Int32} {w2 w4 v0 v1 v2 v3 : Value} : zV (zPr sp) (120, 724, [v0, v1, v2, v3], [.int x0, .int x1, w2, .int x3, w4, .int x5], M) = zV (zPr sp) (120, 725, [v0, v1, v2, v3], [.int (x1 + x0), w2, .int x3, w4, .int x5], M) := zV_go rfl
set_option maxRecDepth 20000 in
theorem e120_725 {sp : Nat × (Nat → Int32)} {M : zM} {x0 x2 x4 : Int32} {w3 v0 v1 v2 v3 : Value} {a : Int64} : zV (zPr sp) (120, 725, [v0, v1, v2, v3], [.int x0, .long a, .int x2, w3, .int x4], M) = if zin x0 sp.1 = true then zV (zPr sp) (120, 726, [v0, v1, v2, v3], [.int (sp.2 x0.toNatClampNeg), .int x2, w3, .int x4], M) else none := zV_ifn rfl
set_option maxRecDepth 20000 in
theorem e120_726 {sp : Nat × (Nat → Int32)} {M : zM} {x0 x1 x3 : Int32} {v0 v1 v2 v3 : Value} {a : Nat} : zV (zPr sp) (120, 726, [v0, v1, v2, v3], [.int x0, .int x1, .ref a, .int x3], M) = if (zk M a).1 = 6 then ((zV (zPr sp) (119, 0, [.ref a, .int x1, .int x0, .double 0, .double 0, .double 0], [], M)).bind fun r => zV (zPr sp) (120, 729, [v0, v1, v2, v3], r.1.toList ++ [.int x3], r.2)) else none := zV_ifc rfl
set_option maxRecDepth 20000 in
theorem e120_729 {sp : Nat × (Nat → Int32)} {M : zM} {x0 x1 : Int32} {v0 v1 v2 v3 : Value} : zV (zPr sp) (120, 729, [v0, v1, v2, v3], [.int x0, .int x1], M) = if x1 = x0 then zV (zPr sp) (120, 734, [v0, v1, v2, v3], [], M) else zV (zPr sp) (120, 732, [v0, v1, v2, v3], [], M) := zV_ifg rfl
set_option maxRecDepth 20000 in
theorem e120_732 {sp : Nat × (Nat → Int32)} {M : zM} {v0 v1 v2 v3 : Value} : zV (zPr sp) (120, 732, [v0, v1, v2, v3], [], M) = zV (zPr sp) (120, 733, [v0, v1, v2, v3], [.int (0)], M) := (zV_go rfl).trans (congrArg (fun c => zV (zPr sp) (120, 733, [v0, v1, v2, v3], [.int c], M)) zci_0)
set_option maxRecDepth 20000 in
theorem e120_733 {sp : Nat × (Nat → Int32)} {M : zM} {x0 : Int32} {v0 v1 v2 v3 : Value} : zV (zPr sp) (120, 733, [v0, v1, v2, v3], [.int x0], M) = if (1 = 0 ∨ x0 = 0 ∨ x0 = 1) then some (some (.int x0), M) else none := zV_ifr rfl
set_option maxRecDepth 20000 in
theorem e120_734 {sp : Nat × (Nat → Int32)} {M : zM} {y : Int32} {v0 v1 v2 : Value} : zV (zPr sp) (120, 734, [v0, v1, v2, .int y], [], M) = zV (zPr sp) (120, 737, [v0, v1, v2, .int (y + (5))], [], M) := (zV_go rfl).trans (congrArg (fun c => zV (zPr sp) (120, 737, [v0, v1, v2, .int (y + c)], [], M)) zci_5)
set_option maxRecDepth 20000 in
theorem e120_737 {sp : Nat × (Nat → Int32)} {M : zM} {v0 v1 v2 v3 : Value} : zV (zPr sp) (120, 737, [v0, v1, v2, v3], [], M) = zV (zPr sp) (120, 18, [v0, v1, v2, v3], [], M) := zV_go rfl
set_option maxRecDepth 20000 in
theorem e120_740 {sp : Nat × (Nat → Int32)} {M : zM} {v0 v1 v2 v3 : Value} : zV (zPr sp) (120, 740, [v0, v1, v2, v3], [], M) = zV (zPr sp) (120, 741, [v0, v1, v2, v3], [.int (1)], M) := (zV_go rfl).trans (congrArg (fun c => zV (zPr sp) (120, 741, [v0, v1, v2, v3], [.int c], M)) zci_1)
set_option maxRecDepth 20000 in
theorem e120_741 {sp : Nat × (Nat → Int32)} {M : zM} {x0 : Int32} {v0 v1 v2 v3 : Value} : zV (zPr sp) (120, 741, [v0, v1, v2, v3], [.int x0], M) = if (1 = 0 ∨ x0 = 0 ∨ x0 = 1) then some (some (.int x0), M) else none := zV_ifr rfl
