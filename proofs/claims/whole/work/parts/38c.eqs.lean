/-! Equations of law, c. -/
set_option maxRecDepth 20000 in
theorem e120_418 {sp : Nat × (Nat → Int32)} {M : zM} {w0 v0 v1 v2 v3 : Value} : zV (zPr sp) (120, 418, [v0, v1, v2, v3], [w0], M) = if zAL v0 = true then zV (zPr sp) (120, 419, [v0, v1, v2, v3], [v0, w0], M) else none := zV_ifn rfl
set_option maxRecDepth 20000 in
theorem e120_419 {sp : Nat × (Nat → Int32)} {M : zM} {y : Int32} {w0 w1 v0 v1 v2 : Value} : zV (zPr sp) (120, 419, [v0, v1, v2, .int y], [w0, w1], M) = zV (zPr sp) (120, 420, [v0, v1, v2, .int y], [.int y, w0, w1], M) := zV_go rfl
set_option maxRecDepth 20000 in
theorem e120_420 {sp : Nat × (Nat → Int32)} {M : zM} {x0 : Int32} {w1 w2 v0 v1 v2 v3 : Value} : zV (zPr sp) (120, 420, [v0, v1, v2, v3], [.int x0, w1, w2], M) = zV (zPr sp) (120, 421, [v0, v1, v2, v3], [.int (1), .int x0, w1, w2], M) := (zV_go rfl).trans (congrArg (fun c => zV (zPr sp) (120, 421, [v0, v1, v2, v3], [.int c, .int x0, w1, w2], M)) zci_1)
set_option maxRecDepth 20000 in
theorem e120_421 {sp : Nat × (Nat → Int32)} {M : zM} {x0 x1 : Int32} {w2 w3 v0 v1 v2 v3 : Value} : zV (zPr sp) (120, 421, [v0, v1, v2, v3], [.int x0, .int x1, w2, w3], M) = zV (zPr sp) (120, 422, [v0, v1, v2, v3], [.int (x1 + x0), w2, w3], M) := zV_go rfl
set_option maxRecDepth 20000 in
theorem e120_422 {sp : Nat × (Nat → Int32)} {M : zM} {x0 : Int32} {w2 v0 v1 v2 v3 : Value} {a : Int64} : zV (zPr sp) (120, 422, [v0, v1, v2, v3], [.int x0, .long a, w2], M) = if zin x0 sp.1 = true then zV (zPr sp) (120, 423, [v0, v1, v2, v3], [.int (sp.2 x0.toNatClampNeg), w2], M) else none := zV_ifn rfl
set_option maxRecDepth 20000 in
theorem e120_423 {sp : Nat × (Nat → Int32)} {M : zM} {x0 : Int32} {w1 v0 v1 v2 v3 : Value} : zV (zPr sp) (120, 423, [v0, v1, v2, v3], [.int x0, w1], M) = if zAL v0 = true then zV (zPr sp) (120, 424, [v0, v1, v2, v3], [v0, .int x0, w1], M) else none := zV_ifn rfl
set_option maxRecDepth 20000 in
theorem e120_424 {sp : Nat × (Nat → Int32)} {M : zM} {x1 y : Int32} {w0 w2 v0 v1 v2 : Value} : zV (zPr sp) (120, 424, [v0, v1, v2, .int y], [w0, .int x1, w2], M) = zV (zPr sp) (120, 425, [v0, v1, v2, .int y], [.int y, w0, .int x1, w2], M) := zV_go rfl
set_option maxRecDepth 20000 in
theorem e120_425 {sp : Nat × (Nat → Int32)} {M : zM} {x0 x2 : Int32} {w1 w3 v0 v1 v2 v3 : Value} : zV (zPr sp) (120, 425, [v0, v1, v2, v3], [.int x0, w1, .int x2, w3], M) = zV (zPr sp) (120, 426, [v0, v1, v2, v3], [.int (2), .int x0, w1, .int x2, w3], M) := (zV_go rfl).trans (congrArg (fun c => zV (zPr sp) (120, 426, [v0, v1, v2, v3], [.int c, .int x0, w1, .int x2, w3], M)) zci_2)
set_option maxRecDepth 20000 in
theorem e120_426 {sp : Nat × (Nat → Int32)} {M : zM} {x0 x1 x3 : Int32} {w2 w4 v0 v1 v2 v3 : Value} : zV (zPr sp) (120, 426, [v0, v1, v2, v3], [.int x0, .int x1, w2, .int x3, w4], M) = zV (zPr sp) (120, 427, [v0, v1, v2, v3], [.int (x1 + x0), w2, .int x3, w4], M) := zV_go rfl
set_option maxRecDepth 20000 in
theorem e120_427 {sp : Nat × (Nat → Int32)} {M : zM} {x0 x2 : Int32} {w3 v0 v1 v2 v3 : Value} {a : Int64} : zV (zPr sp) (120, 427, [v0, v1, v2, v3], [.int x0, .long a, .int x2, w3], M) = if zin x0 sp.1 = true then zV (zPr sp) (120, 428, [v0, v1, v2, v3], [.int (sp.2 x0.toNatClampNeg), .int x2, w3], M) else none := zV_ifn rfl
set_option maxRecDepth 20000 in
theorem e120_428 {sp : Nat × (Nat → Int32)} {M : zM} {x0 x1 : Int32} {v0 v1 v2 v3 : Value} {a : Nat} : zV (zPr sp) (120, 428, [v0, v1, v2, v3], [.int x0, .int x1, .ref a], M) = if (zk M a).1 = 5 then ((zV (zPr sp) (64, 0, [.ref a, .int x1, .int x0, .double 0], [], M)).bind fun r => zV (zPr sp) (120, 431, [v0, v1, v2, v3], r.1.toList ++ [], r.2)) else none := zV_ifc rfl
set_option maxRecDepth 20000 in
theorem e120_431 {sp : Nat × (Nat → Int32)} {M : zM} {x0 : Int32} {v0 v1 v2 v3 : Value} : zV (zPr sp) (120, 431, [v0, v1, v2, v3], [.int x0], M) = if zAL v2 = true then zV (zPr sp) (120, 432, [v0, v1, v2, v3], [v2, .int x0], M) else none := zV_ifn rfl
set_option maxRecDepth 20000 in
theorem e120_432 {sp : Nat × (Nat → Int32)} {M : zM} {x1 : Int32} {w0 v0 v1 v2 v3 : Value} : zV (zPr sp) (120, 432, [v0, v1, v2, v3], [w0, .int x1], M) = if zAL v0 = true then zV (zPr sp) (120, 433, [v0, v1, v2, v3], [v0, w0, .int x1], M) else none := zV_ifn rfl
set_option maxRecDepth 20000 in
theorem e120_433 {sp : Nat × (Nat → Int32)} {M : zM} {x2 y : Int32} {w0 w1 v0 v1 v2 : Value} : zV (zPr sp) (120, 433, [v0, v1, v2, .int y], [w0, w1, .int x2], M) = zV (zPr sp) (120, 434, [v0, v1, v2, .int y], [.int y, w0, w1, .int x2], M) := zV_go rfl
set_option maxRecDepth 20000 in
theorem e120_434 {sp : Nat × (Nat → Int32)} {M : zM} {x0 x3 : Int32} {w1 w2 v0 v1 v2 v3 : Value} : zV (zPr sp) (120, 434, [v0, v1, v2, v3], [.int x0, w1, w2, .int x3], M) = zV (zPr sp) (120, 435, [v0, v1, v2, v3], [.int (1), .int x0, w1, w2, .int x3], M) := (zV_go rfl).trans (congrArg (fun c => zV (zPr sp) (120, 435, [v0, v1, v2, v3], [.int c, .int x0, w1, w2, .int x3], M)) zci_1)
set_option maxRecDepth 20000 in
theorem e120_435 {sp : Nat × (Nat → Int32)} {M : zM} {x0 x1 x4 : Int32} {w2 w3 v0 v1 v2 v3 : Value} : zV (zPr sp) (120, 435, [v0, v1, v2, v3], [.int x0, .int x1, w2, w3, .int x4], M) = zV (zPr sp) (120, 436, [v0, v1, v2, v3], [.int (x1 + x0), w2, w3, .int x4], M) := zV_go rfl
set_option maxRecDepth 20000 in
theorem e120_436 {sp : Nat × (Nat → Int32)} {M : zM} {x0 x3 : Int32} {w2 v0 v1 v2 v3 : Value} {a : Int64} : zV (zPr sp) (120, 436, [v0, v1, v2, v3], [.int x0, .long a, w2, .int x3], M) = if zin x0 sp.1 = true then zV (zPr sp) (120, 437, [v0, v1, v2, v3], [.int (sp.2 x0.toNatClampNeg), w2, .int x3], M) else none := zV_ifn rfl
set_option maxRecDepth 20000 in
theorem e120_437 {sp : Nat × (Nat → Int32)} {M : zM} {x0 x2 : Int32} {w1 v0 v1 v2 v3 : Value} : zV (zPr sp) (120, 437, [v0, v1, v2, v3], [.int x0, w1, .int x2], M) = if zAL v0 = true then zV (zPr sp) (120, 438, [v0, v1, v2, v3], [v0, .int x0, w1, .int x2], M) else none := zV_ifn rfl
set_option maxRecDepth 20000 in
theorem e120_438 {sp : Nat × (Nat → Int32)} {M : zM} {x1 x3 y : Int32} {w0 w2 v0 v1 v2 : Value} : zV (zPr sp) (120, 438, [v0, v1, v2, .int y], [w0, .int x1, w2, .int x3], M) = zV (zPr sp) (120, 439, [v0, v1, v2, .int y], [.int y, w0, .int x1, w2, .int x3], M) := zV_go rfl
set_option maxRecDepth 20000 in
theorem e120_439 {sp : Nat × (Nat → Int32)} {M : zM} {x0 x2 x4 : Int32} {w1 w3 v0 v1 v2 v3 : Value} : zV (zPr sp) (120, 439, [v0, v1, v2, v3], [.int x0, w1, .int x2, w3, .int x4], M) = zV (zPr sp) (120, 440, [v0, v1, v2, v3], [.int (2), .int x0, w1, .int x2, w3, .int x4], M) := (zV_go rfl).trans (congrArg (fun c => zV (zPr sp) (120, 440, [v0, v1, v2, v3], [.int c, .int x0, w1, .int x2, w3, .int x4], M)) zci_2)
set_option maxRecDepth 20000 in
theorem e120_440 {sp : Nat × (Nat → Int32)} {M : zM} {x0 x1 x3 x5 : Int32} {w2 w4 v0 v1 v2 v3 : Value} : zV (zPr sp) (120, 440, [v0, v1, v2, v3], [.int x0, .int x1, w2, .int x3, w4, .int x5], M) = zV (zPr sp) (120, 441, [v0, v1, v2, v3], [.int (x1 + x0), w2, .int x3, w4, .int x5], M) := zV_go rfl
set_option maxRecDepth 20000 in
theorem e120_441 {sp : Nat × (Nat → Int32)} {M : zM} {x0 x2 x4 : Int32} {w3 v0 v1 v2 v3 : Value} {a : Int64} : zV (zPr sp) (120, 441, [v0, v1, v2, v3], [.int x0, .long a, .int x2, w3, .int x4], M) = if zin x0 sp.1 = true then zV (zPr sp) (120, 442, [v0, v1, v2, v3], [.int (sp.2 x0.toNatClampNeg), .int x2, w3, .int x4], M) else none := zV_ifn rfl
set_option maxRecDepth 20000 in
theorem e120_442 {sp : Nat × (Nat → Int32)} {M : zM} {x0 x1 x3 : Int32} {v0 v1 v2 v3 : Value} {a : Nat} : zV (zPr sp) (120, 442, [v0, v1, v2, v3], [.int x0, .int x1, .ref a, .int x3], M) = if (zk M a).1 = 6 then ((zV (zPr sp) (111, 0, [.ref a, .int x1, .int x0], [], M)).bind fun r => zV (zPr sp) (120, 445, [v0, v1, v2, v3], r.1.toList ++ [.int x3], r.2)) else none := zV_ifc rfl
set_option maxRecDepth 20000 in
theorem e120_445 {sp : Nat × (Nat → Int32)} {M : zM} {x0 x1 : Int32} {v0 v1 v2 v3 : Value} : zV (zPr sp) (120, 445, [v0, v1, v2, v3], [.int x0, .int x1], M) = if x1 = x0 then zV (zPr sp) (120, 734, [v0, v1, v2, v3], [], M) else zV (zPr sp) (120, 448, [v0, v1, v2, v3], [], M) := zV_ifg rfl
set_option maxRecDepth 20000 in
theorem e120_448 {sp : Nat × (Nat → Int32)} {M : zM} {v0 v1 v2 v3 : Value} : zV (zPr sp) (120, 448, [v0, v1, v2, v3], [], M) = zV (zPr sp) (120, 449, [v0, v1, v2, v3], [.int (0)], M) := (zV_go rfl).trans (congrArg (fun c => zV (zPr sp) (120, 449, [v0, v1, v2, v3], [.int c], M)) zci_0)
set_option maxRecDepth 20000 in
theorem e120_449 {sp : Nat × (Nat → Int32)} {M : zM} {x0 : Int32} {v0 v1 v2 v3 : Value} : zV (zPr sp) (120, 449, [v0, v1, v2, v3], [.int x0], M) = if (1 = 0 ∨ x0 = 0 ∨ x0 = 1) then some (some (.int x0), M) else none := zV_ifr rfl
set_option maxRecDepth 20000 in
theorem e120_450 {sp : Nat × (Nat → Int32)} {M : zM} {v0 v1 v2 v3 : Value} : zV (zPr sp) (120, 450, [v0, v1, v2, v3], [], M) = if zAL v1 = true then zV (zPr sp) (120, 451, [v0, v1, v2, v3], [v1], M) else none := zV_ifn rfl
set_option maxRecDepth 20000 in
theorem e120_451 {sp : Nat × (Nat → Int32)} {M : zM} {w0 v0 v1 v2 v3 : Value} : zV (zPr sp) (120, 451, [v0, v1, v2, v3], [w0], M) = if zAL v0 = true then zV (zPr sp) (120, 452, [v0, v1, v2, v3], [v0, w0], M) else none := zV_ifn rfl
set_option maxRecDepth 20000 in
theorem e120_452 {sp : Nat × (Nat → Int32)} {M : zM} {y : Int32} {w0 w1 v0 v1 v2 : Value} : zV (zPr sp) (120, 452, [v0, v1, v2, .int y], [w0, w1], M) = zV (zPr sp) (120, 453, [v0, v1, v2, .int y], [.int y, w0, w1], M) := zV_go rfl
set_option maxRecDepth 20000 in
theorem e120_453 {sp : Nat × (Nat → Int32)} {M : zM} {x0 : Int32} {w1 w2 v0 v1 v2 v3 : Value} : zV (zPr sp) (120, 453, [v0, v1, v2, v3], [.int x0, w1, w2], M) = zV (zPr sp) (120, 454, [v0, v1, v2, v3], [.int (1), .int x0, w1, w2], M) := (zV_go rfl).trans (congrArg (fun c => zV (zPr sp) (120, 454, [v0, v1, v2, v3], [.int c, .int x0, w1, w2], M)) zci_1)
set_option maxRecDepth 20000 in
theorem e120_454 {sp : Nat × (Nat → Int32)} {M : zM} {x0 x1 : Int32} {w2 w3 v0 v1 v2 v3 : Value} : zV (zPr sp) (120, 454, [v0, v1, v2, v3], [.int x0, .int x1, w2, w3], M) = zV (zPr sp) (120, 455, [v0, v1, v2, v3], [.int (x1 + x0), w2, w3], M) := zV_go rfl
set_option maxRecDepth 20000 in
theorem e120_455 {sp : Nat × (Nat → Int32)} {M : zM} {x0 : Int32} {w2 v0 v1 v2 v3 : Value} {a : Int64} : zV (zPr sp) (120, 455, [v0, v1, v2, v3], [.int x0, .long a, w2], M) = if zin x0 sp.1 = true then zV (zPr sp) (120, 456, [v0, v1, v2, v3], [.int (sp.2 x0.toNatClampNeg), w2], M) else none := zV_ifn rfl
set_option maxRecDepth 20000 in
theorem e120_456 {sp : Nat × (Nat → Int32)} {M : zM} {x0 : Int32} {w1 v0 v1 v2 v3 : Value} : zV (zPr sp) (120, 456, [v0, v1, v2, v3], [.int x0, w1], M) = if zAL v0 = true then zV (zPr sp) (120, 457, [v0, v1, v2, v3], [v0, .int x0, w1], M) else none := zV_ifn rfl
set_option maxRecDepth 20000 in
theorem e120_457 {sp : Nat × (Nat → Int32)} {M : zM} {x1 y : Int32} {w0 w2 v0 v1 v2 : Value} : zV (zPr sp) (120, 457, [v0, v1, v2, .int y], [w0, .int x1, w2], M) = zV (zPr sp) (120, 458, [v0, v1, v2, .int y], [.int y, w0, .int x1, w2], M) := zV_go rfl
set_option maxRecDepth 20000 in
theorem e120_458 {sp : Nat × (Nat → Int32)} {M : zM} {x0 x2 : Int32} {w1 w3 v0 v1 v2 v3 : Value} : zV (zPr sp) (120, 458, [v0, v1, v2, v3], [.int x0, w1, .int x2, w3], M) = zV (zPr sp) (120, 459, [v0, v1, v2, v3], [.int (2), .int x0, w1, .int x2, w3], M) := (zV_go rfl).trans (congrArg (fun c => zV (zPr sp) (120, 459, [v0, v1, v2, v3], [.int c, .int x0, w1, .int x2, w3], M)) zci_2)
set_option maxRecDepth 20000 in
theorem e120_459 {sp : Nat × (Nat → Int32)} {M : zM} {x0 x1 x3 : Int32} {w2 w4 v0 v1 v2 v3 : Value} : zV (zPr sp) (120, 459, [v0, v1, v2, v3], [.int x0, .int x1, w2, .int x3, w4], M) = zV (zPr sp) (120, 460, [v0, v1, v2, v3], [.int (x1 + x0), w2, .int x3, w4], M) := zV_go rfl
set_option maxRecDepth 20000 in
theorem e120_460 {sp : Nat × (Nat → Int32)} {M : zM} {x0 x2 : Int32} {w3 v0 v1 v2 v3 : Value} {a : Int64} : zV (zPr sp) (120, 460, [v0, v1, v2, v3], [.int x0, .long a, .int x2, w3], M) = if zin x0 sp.1 = true then zV (zPr sp) (120, 461, [v0, v1, v2, v3], [.int (sp.2 x0.toNatClampNeg), .int x2, w3], M) else none := zV_ifn rfl
set_option maxRecDepth 20000 in
theorem e120_461 {sp : Nat × (Nat → Int32)} {M : zM} {x0 x1 : Int32} {v0 v1 v2 v3 : Value} {a : Nat} : zV (zPr sp) (120, 461, [v0, v1, v2, v3], [.int x0, .int x1, .ref a], M) = if (zk M a).1 = 5 then ((zV (zPr sp) (65, 0, [.ref a, .int x1, .int x0, .double 0], [], M)).bind fun r => zV (zPr sp) (120, 464, [v0, v1, v2, v3], r.1.toList ++ [], r.2)) else none := zV_ifc rfl
set_option maxRecDepth 20000 in
theorem e120_464 {sp : Nat × (Nat → Int32)} {M : zM} {x0 : Int32} {v0 v1 v2 v3 : Value} : zV (zPr sp) (120, 464, [v0, v1, v2, v3], [.int x0], M) = if zAL v2 = true then zV (zPr sp) (120, 465, [v0, v1, v2, v3], [v2, .int x0], M) else none := zV_ifn rfl
set_option maxRecDepth 20000 in
theorem e120_465 {sp : Nat × (Nat → Int32)} {M : zM} {x1 : Int32} {w0 v0 v1 v2 v3 : Value} : zV (zPr sp) (120, 465, [v0, v1, v2, v3], [w0, .int x1], M) = if zAL v0 = true then zV (zPr sp) (120, 466, [v0, v1, v2, v3], [v0, w0, .int x1], M) else none := zV_ifn rfl
set_option maxRecDepth 20000 in
theorem e120_466 {sp : Nat × (Nat → Int32)} {M : zM} {x2 y : Int32} {w0 w1 v0 v1 v2 : Value} : zV (zPr sp) (120, 466, [v0, v1, v2, .int y], [w0, w1, .int x2], M) = zV (zPr sp) (120, 467, [v0, v1, v2, .int y], [.int y, w0, w1, .int x2], M) := zV_go rfl
set_option maxRecDepth 20000 in
theorem e120_467 {sp : Nat × (Nat → Int32)} {M : zM} {x0 x3 : Int32} {w1 w2 v0 v1 v2 v3 : Value} : zV (zPr sp) (120, 467, [v0, v1, v2, v3], [.int x0, w1, w2, .int x3], M) = zV (zPr sp) (120, 468, [v0, v1, v2, v3], [.int (1), .int x0, w1, w2, .int x3], M) := (zV_go rfl).trans (congrArg (fun c => zV (zPr sp) (120, 468, [v0, v1, v2, v3], [.int c, .int x0, w1, w2, .int x3], M)) zci_1)
set_option maxRecDepth 20000 in
theorem e120_468 {sp : Nat × (Nat → Int32)} {M : zM} {x0 x1 x4 : Int32} {w2 w3 v0 v1 v2 v3 : Value} : zV (zPr sp) (120, 468, [v0, v1, v2, v3], [.int x0, .int x1, w2, w3, .int x4], M) = zV (zPr sp) (120, 469, [v0, v1, v2, v3], [.int (x1 + x0), w2, w3, .int x4], M) := zV_go rfl
set_option maxRecDepth 20000 in
theorem e120_469 {sp : Nat × (Nat → Int32)} {M : zM} {x0 x3 : Int32} {w2 v0 v1 v2 v3 : Value} {a : Int64} : zV (zPr sp) (120, 469, [v0, v1, v2, v3], [.int x0, .long a, w2, .int x3], M) = if zin x0 sp.1 = true then zV (zPr sp) (120, 470, [v0, v1, v2, v3], [.int (sp.2 x0.toNatClampNeg), w2, .int x3], M) else none := zV_ifn rfl
set_option maxRecDepth 20000 in
theorem e120_470 {sp : Nat × (Nat → Int32)} {M : zM} {x0 x2 : Int32} {w1 v0 v1 v2 v3 : Value} : zV (zPr sp) (120, 470, [v0, v1, v2, v3], [.int x0, w1, .int x2], M) = if zAL v0 = true then zV (zPr sp) (120, 471, [v0, v1, v2, v3], [v0, .int x0, w1, .int x2], M) else none := zV_ifn rfl
set_option maxRecDepth 20000 in
theorem e120_471 {sp : Nat × (Nat → Int32)} {M : zM} {x1 x3 y : Int32} {w0 w2 v0 v1 v2 : Value} : zV (zPr sp) (120, 471, [v0, v1, v2, .int y], [w0, .int x1, w2, .int x3], M) = zV (zPr sp) (120, 472, [v0, v1, v2, .int y], [.int y, w0, .int x1, w2, .int x3], M) := zV_go rfl
set_option maxRecDepth 20000 in
theorem e120_472 {sp : Nat × (Nat → Int32)} {M : zM} {x0 x2 x4 : Int32} {w1 w3 v0 v1 v2 v3 : Value} : zV (zPr sp) (120, 472, [v0, v1, v2, v3], [.int x0, w1, .int x2, w3, .int x4], M) = zV (zPr sp) (120, 473, [v0, v1, v2, v3], [.int (2), .int x0, w1, .int x2, w3, .int x4], M) := (zV_go rfl).trans (congrArg (fun c => zV (zPr sp) (120, 473, [v0, v1, v2, v3], [.int c, .int x0, w1, .int x2, w3, .int x4], M)) zci_2)
set_option maxRecDepth 20000 in
theorem e120_473 {sp : Nat × (Nat → Int32)} {M : zM} {x0 x1 x3 x5 : Int32} {w2 w4 v0 v1 v2 v3 : Value} : zV (zPr sp) (120, 473, [v0, v1, v2, v3], [.int x0, .int x1, w2, .int x3, w4, .int x5], M) = zV (zPr sp) (120, 474, [v0, v1, v2, v3], [.int (x1 + x0), w2, .int x3, w4, .int x5], M) := zV_go rfl
set_option maxRecDepth 20000 in
theorem e120_474 {sp : Nat × (Nat → Int32)} {M : zM} {x0 x2 x4 : Int32} {w3 v0 v1 v2 v3 : Value} {a : Int64} : zV (zPr sp) (120, 474, [v0, v1, v2, v3], [.int x0, .long a, .int x2, w3, .int x4], M) = if zin x0 sp.1 = true then zV (zPr sp) (120, 475, [v0, v1, v2, v3], [.int (sp.2 x0.toNatClampNeg), .int x2, w3, .int x4], M) else none := zV_ifn rfl
set_option maxRecDepth 20000 in
theorem e120_475 {sp : Nat × (Nat → Int32)} {M : zM} {x0 x1 x3 : Int32} {v0 v1 v2 v3 : Value} {a : Nat} : zV (zPr sp) (120, 475, [v0, v1, v2, v3], [.int x0, .int x1, .ref a, .int x3], M) = if (zk M a).1 = 6 then ((zV (zPr sp) (112, 0, [.ref a, .int x1, .int x0], [], M)).bind fun r => zV (zPr sp) (120, 478, [v0, v1, v2, v3], r.1.toList ++ [.int x3], r.2)) else none := zV_ifc rfl
set_option maxRecDepth 20000 in
theorem e120_478 {sp : Nat × (Nat → Int32)} {M : zM} {x0 x1 : Int32} {v0 v1 v2 v3 : Value} : zV (zPr sp) (120, 478, [v0, v1, v2, v3], [.int x0, .int x1], M) = if x1 = x0 then zV (zPr sp) (120, 734, [v0, v1, v2, v3], [], M) else zV (zPr sp) (120, 481, [v0, v1, v2, v3], [], M) := zV_ifg rfl
set_option maxRecDepth 20000 in
theorem e120_481 {sp : Nat × (Nat → Int32)} {M : zM} {v0 v1 v2 v3 : Value} : zV (zPr sp) (120, 481, [v0, v1, v2, v3], [], M) = zV (zPr sp) (120, 482, [v0, v1, v2, v3], [.int (0)], M) := (zV_go rfl).trans (congrArg (fun c => zV (zPr sp) (120, 482, [v0, v1, v2, v3], [.int c], M)) zci_0)
set_option maxRecDepth 20000 in
theorem e120_482 {sp : Nat × (Nat → Int32)} {M : zM} {x0 : Int32} {v0 v1 v2 v3 : Value} : zV (zPr sp) (120, 482, [v0, v1, v2, v3], [.int x0], M) = if (1 = 0 ∨ x0 = 0 ∨ x0 = 1) then some (some (.int x0), M) else none := zV_ifr rfl
set_option maxRecDepth 20000 in
theorem e120_483 {sp : Nat × (Nat → Int32)} {M : zM} {v0 v1 v2 v3 : Value} : zV (zPr sp) (120, 483, [v0, v1, v2, v3], [], M) = if zAL v1 = true then zV (zPr sp) (120, 484, [v0, v1, v2, v3], [v1], M) else none := zV_ifn rfl
set_option maxRecDepth 20000 in
theorem e120_484 {sp : Nat × (Nat → Int32)} {M : zM} {w0 v0 v1 v2 v3 : Value} : zV (zPr sp) (120, 484, [v0, v1, v2, v3], [w0], M) = if zAL v0 = true then zV (zPr sp) (120, 485, [v0, v1, v2, v3], [v0, w0], M) else none := zV_ifn rfl
set_option maxRecDepth 20000 in
theorem e120_485 {sp : Nat × (Nat → Int32)} {M : zM} {y : Int32} {w0 w1 v0 v1 v2 : Value} : zV (zPr sp) (120, 485, [v0, v1, v2, .int y], [w0, w1], M) = zV (zPr sp) (120, 486, [v0, v1, v2, .int y], [.int y, w0, w1], M) := zV_go rfl
set_option maxRecDepth 20000 in
theorem e120_486 {sp : Nat × (Nat → Int32)} {M : zM} {x0 : Int32} {w1 w2 v0 v1 v2 v3 : Value} : zV (zPr sp) (120, 486, [v0, v1, v2, v3], [.int x0, w1, w2], M) = zV (zPr sp) (120, 487, [v0, v1, v2, v3], [.int (1), .int x0, w1, w2], M) := (zV_go rfl).trans (congrArg (fun c => zV (zPr sp) (120, 487, [v0, v1, v2, v3], [.int c, .int x0, w1, w2], M)) zci_1)
set_option maxRecDepth 20000 in
theorem e120_487 {sp : Nat × (Nat → Int32)} {M : zM} {x0 x1 : Int32} {w2 w3 v0 v1 v2 v3 : Value} : zV (zPr sp) (120, 487, [v0, v1, v2, v3], [.int x0, .int x1, w2, w3], M) = zV (zPr sp) (120, 488, [v0, v1, v2, v3], [.int (x1 + x0), w2, w3], M) := zV_go rfl
set_option maxRecDepth 20000 in
theorem e120_488 {sp : Nat × (Nat → Int32)} {M : zM} {x0 : Int32} {w2 v0 v1 v2 v3 : Value} {a : Int64} : zV (zPr sp) (120, 488, [v0, v1, v2, v3], [.int x0, .long a, w2], M) = if zin x0 sp.1 = true then zV (zPr sp) (120, 489, [v0, v1, v2, v3], [.int (sp.2 x0.toNatClampNeg), w2], M) else none := zV_ifn rfl
set_option maxRecDepth 20000 in
theorem e120_489 {sp : Nat × (Nat → Int32)} {M : zM} {x0 : Int32} {w1 v0 v1 v2 v3 : Value} : zV (zPr sp) (120, 489, [v0, v1, v2, v3], [.int x0, w1], M) = if zAL v0 = true then zV (zPr sp) (120, 490, [v0, v1, v2, v3], [v0, .int x0, w1], M) else none := zV_ifn rfl
set_option maxRecDepth 20000 in
theorem e120_490 {sp : Nat × (Nat → Int32)} {M : zM} {x1 y : Int32} {w0 w2 v0 v1 v2 : Value} : zV (zPr sp) (120, 490, [v0, v1, v2, .int y], [w0, .int x1, w2], M) = zV (zPr sp) (120, 491, [v0, v1, v2, .int y], [.int y, w0, .int x1, w2], M) := zV_go rfl
set_option maxRecDepth 20000 in
theorem e120_491 {sp : Nat × (Nat → Int32)} {M : zM} {x0 x2 : Int32} {w1 w3 v0 v1 v2 v3 : Value} : zV (zPr sp) (120, 491, [v0, v1, v2, v3], [.int x0, w1, .int x2, w3], M) = zV (zPr sp) (120, 492, [v0, v1, v2, v3], [.int (2), .int x0, w1, .int x2, w3], M) := (zV_go rfl).trans (congrArg (fun c => zV (zPr sp) (120, 492, [v0, v1, v2, v3], [.int c, .int x0, w1, .int x2, w3], M)) zci_2)
set_option maxRecDepth 20000 in
theorem e120_492 {sp : Nat × (Nat → Int32)} {M : zM} {x0 x1 x3 : Int32} {w2 w4 v0 v1 v2 v3 : Value} : zV (zPr sp) (120, 492, [v0, v1, v2, v3], [.int x0, .int x1, w2, .int x3, w4], M) = zV (zPr sp) (120, 493, [v0, v1, v2, v3], [.int (x1 + x0), w2, .int x3, w4], M) := zV_go rfl
set_option maxRecDepth 20000 in
theorem e120_493 {sp : Nat × (Nat → Int32)} {M : zM} {x0 x2 : Int32} {w3 v0 v1 v2 v3 : Value} {a : Int64} : zV (zPr sp) (120, 493, [v0, v1, v2, v3], [.int x0, .long a, .int x2, w3], M) = if zin x0 sp.1 = true then zV (zPr sp) (120, 494, [v0, v1, v2, v3], [.int (sp.2 x0.toNatClampNeg), .int x2, w3], M) else none := zV_ifn rfl
set_option maxRecDepth 20000 in
theorem e120_494 {sp : Nat × (Nat → Int32)} {M : zM} {x0 x1 : Int32} {v0 v1 v2 v3 : Value} {a : Nat} : zV (zPr sp) (120, 494, [v0, v1, v2, v3], [.int x0, .int x1, .ref a], M) = if (zk M a).1 = 5 then ((zV (zPr sp) (66, 0, [.ref a, .int x1, .int x0, .double 0], [], M)).bind fun r => zV (zPr sp) (120, 497, [v0, v1, v2, v3], r.1.toList ++ [], r.2)) else none := zV_ifc rfl
set_option maxRecDepth 20000 in
theorem e120_497 {sp : Nat × (Nat → Int32)} {M : zM} {x0 : Int32} {v0 v1 v2 v3 : Value} : zV (zPr sp) (120, 497, [v0, v1, v2, v3], [.int x0], M) = if zAL v2 = true then zV (zPr sp) (120, 498, [v0, v1, v2, v3], [v2, .int x0], M) else none := zV_ifn rfl
set_option maxRecDepth 20000 in
theorem e120_498 {sp : Nat × (Nat → Int32)} {M : zM} {x1 : Int32} {w0 v0 v1 v2 v3 : Value} : zV (zPr sp) (120, 498, [v0, v1, v2, v3], [w0, .int x1], M) = if zAL v0 = true then zV (zPr sp) (120, 499, [v0, v1, v2, v3], [v0, w0, .int x1], M) else none := zV_ifn rfl
set_option maxRecDepth 20000 in
theorem e120_499 {sp : Nat × (Nat → Int32)} {M : zM} {x2 y : Int32} {w0 w1 v0 v1 v2 : Value} : zV (zPr sp) (120, 499, [v0, v1, v2, .int y], [w0, w1, .int x2], M) = zV (zPr sp) (120, 500, [v0, v1, v2, .int y], [.int y, w0, w1, .int x2], M) := zV_go rfl
set_option maxRecDepth 20000 in
theorem e120_500 {sp : Nat × (Nat → Int32)} {M : zM} {x0 x3 : Int32} {w1 w2 v0 v1 v2 v3 : Value} : zV (zPr sp) (120, 500, [v0, v1, v2, v3], [.int x0, w1, w2, .int x3], M) = zV (zPr sp) (120, 501, [v0, v1, v2, v3], [.int (1), .int x0, w1, w2, .int x3], M) := (zV_go rfl).trans (congrArg (fun c => zV (zPr sp) (120, 501, [v0, v1, v2, v3], [.int c, .int x0, w1, w2, .int x3], M)) zci_1)
set_option maxRecDepth 20000 in
theorem e120_501 {sp : Nat × (Nat → Int32)} {M : zM} {x0 x1 x4 : Int32} {w2 w3 v0 v1 v2 v3 : Value} : zV (zPr sp) (120, 501, [v0, v1, v2, v3], [.int x0, .int x1, w2, w3, .int x4], M) = zV (zPr sp) (120, 502, [v0, v1, v2, v3], [.int (x1 + x0), w2, w3, .int x4], M) := zV_go rfl
set_option maxRecDepth 20000 in
theorem e120_502 {sp : Nat × (Nat → Int32)} {M : zM} {x0 x3 : Int32} {w2 v0 v1 v2 v3 : Value} {a : Int64} : zV (zPr sp) (120, 502, [v0, v1, v2, v3], [.int x0, .long a, w2, .int x3], M) = if zin x0 sp.1 = true then zV (zPr sp) (120, 503, [v0, v1, v2, v3], [.int (sp.2 x0.toNatClampNeg), w2, .int x3], M) else none := zV_ifn rfl
set_option maxRecDepth 20000 in
theorem e120_503 {sp : Nat × (Nat → Int32)} {M : zM} {x0 x2 : Int32} {w1 v0 v1 v2 v3 : Value} : zV (zPr sp) (120, 503, [v0, v1, v2, v3], [.int x0, w1, .int x2], M) = if zAL v0 = true then zV (zPr sp) (120, 504, [v0, v1, v2, v3], [v0, .int x0, w1, .int x2], M) else none := zV_ifn rfl
set_option maxRecDepth 20000 in
theorem e120_504 {sp : Nat × (Nat → Int32)} {M : zM} {x1 x3 y : Int32} {w0 w2 v0 v1 v2 : Value} : zV (zPr sp) (120, 504, [v0, v1, v2, .int y], [w0, .int x1, w2, .int x3], M) = zV (zPr sp) (120, 505, [v0, v1, v2, .int y], [.int y, w0, .int x1, w2, .int x3], M) := zV_go rfl
set_option maxRecDepth 20000 in
theorem e120_505 {sp : Nat × (Nat → Int32)} {M : zM} {x0 x2 x4 : Int32} {w1 w3 v0 v1 v2 v3 : Value} : zV (zPr sp) (120, 505, [v0, v1, v2, v3], [.int x0, w1, .int x2, w3, .int x4], M) = zV (zPr sp) (120, 506, [v0, v1, v2, v3], [.int (2), .int x0, w1, .int x2, w3, .int x4], M) := (zV_go rfl).trans (congrArg (fun c => zV (zPr sp) (120, 506, [v0, v1, v2, v3], [.int c, .int x0, w1, .int x2, w3, .int x4], M)) zci_2)
set_option maxRecDepth 20000 in
theorem e120_506 {sp : Nat × (Nat → Int32)} {M : zM} {x0 x1 x3 x5 : Int32} {w2 w4 v0 v1 v2 v3 : Value} : zV (zPr sp) (120, 506, [v0, v1, v2, v3], [.int x0, .int x1, w2, .int x3, w4, .int x5], M) = zV (zPr sp) (120, 507, [v0, v1, v2, v3], [.int (x1 + x0), w2, .int x3, w4, .int x5], M) := zV_go rfl
set_option maxRecDepth 20000 in
theorem e120_507 {sp : Nat × (Nat → Int32)} {M : zM} {x0 x2 x4 : Int32} {w3 v0 v1 v2 v3 : Value} {a : Int64} : zV (zPr sp) (120, 507, [v0, v1, v2, v3], [.int x0, .long a, .int x2, w3, .int x4], M) = if zin x0 sp.1 = true then zV (zPr sp) (120, 508, [v0, v1, v2, v3], [.int (sp.2 x0.toNatClampNeg), .int x2, w3, .int x4], M) else none := zV_ifn rfl
set_option maxRecDepth 20000 in
theorem e120_508 {sp : Nat × (Nat → Int32)} {M : zM} {x0 x1 x3 : Int32} {v0 v1 v2 v3 : Value} {a : Nat} : zV (zPr sp) (120, 508, [v0, v1, v2, v3], [.int x0, .int x1, .ref a, .int x3], M) = if (zk M a).1 = 6 then ((zV (zPr sp) (113, 0, [.ref a, .int x1, .int x0, .double 0], [], M)).bind fun r => zV (zPr sp) (120, 511, [v0, v1, v2, v3], r.1.toList ++ [.int x3], r.2)) else none := zV_ifc rfl
set_option maxRecDepth 20000 in
theorem e120_511 {sp : Nat × (Nat → Int32)} {M : zM} {x0 x1 : Int32} {v0 v1 v2 v3 : Value} : zV (zPr sp) (120, 511, [v0, v1, v2, v3], [.int x0, .int x1], M) = if x1 = x0 then zV (zPr sp) (120, 734, [v0, v1, v2, v3], [], M) else zV (zPr sp) (120, 514, [v0, v1, v2, v3], [], M) := zV_ifg rfl
set_option maxRecDepth 20000 in
theorem e120_514 {sp : Nat × (Nat → Int32)} {M : zM} {v0 v1 v2 v3 : Value} : zV (zPr sp) (120, 514, [v0, v1, v2, v3], [], M) = zV (zPr sp) (120, 515, [v0, v1, v2, v3], [.int (0)], M) := (zV_go rfl).trans (congrArg (fun c => zV (zPr sp) (120, 515, [v0, v1, v2, v3], [.int c], M)) zci_0)
set_option maxRecDepth 20000 in
theorem e120_515 {sp : Nat × (Nat → Int32)} {M : zM} {x0 : Int32} {v0 v1 v2 v3 : Value} : zV (zPr sp) (120, 515, [v0, v1, v2, v3], [.int x0], M) = if (1 = 0 ∨ x0 = 0 ∨ x0 = 1) then some (some (.int x0), M) else none := zV_ifr rfl
set_option maxRecDepth 20000 in
theorem e120_516 {sp : Nat × (Nat → Int32)} {M : zM} {v0 v1 v2 v3 : Value} : zV (zPr sp) (120, 516, [v0, v1, v2, v3], [], M) = if zAL v1 = true then zV (zPr sp) (120, 517, [v0, v1, v2, v3], [v1], M) else none := zV_ifn rfl
set_option maxRecDepth 20000 in
theorem e120_517 {sp : Nat × (Nat → Int32)} {M : zM} {w0 v0 v1 v2 v3 : Value} : zV (zPr sp) (120, 517, [v0, v1, v2, v3], [w0], M) = if zAL v0 = true then zV (zPr sp) (120, 518, [v0, v1, v2, v3], [v0, w0], M) else none := zV_ifn rfl
set_option maxRecDepth 20000 in
theorem e120_518 {sp : Nat × (Nat → Int32)} {M : zM} {y : Int32} {w0 w1 v0 v1 v2 : Value} : zV (zPr sp) (120, 518, [v0, v1, v2, .int y], [w0, w1], M) = zV (zPr sp) (120, 519, [v0, v1, v2, .int y], [.int y, w0, w1], M) := zV_go rfl
set_option maxRecDepth 20000 in
theorem e120_519 {sp : Nat × (Nat → Int32)} {M : zM} {x0 : Int32} {w1 w2 v0 v1 v2 v3 : Value} : zV (zPr sp) (120, 519, [v0, v1, v2, v3], [.int x0, w1, w2], M) = zV (zPr sp) (120, 520, [v0, v1, v2, v3], [.int (1), .int x0, w1, w2], M) := (zV_go rfl).trans (congrArg (fun c => zV (zPr sp) (120, 520, [v0, v1, v2, v3], [.int c, .int x0, w1, w2], M)) zci_1)
set_option maxRecDepth 20000 in
theorem e120_520 {sp : Nat × (Nat → Int32)} {M : zM} {x0 x1 : Int32} {w2 w3 v0 v1 v2 v3 : Value} : zV (zPr sp) (120, 520, [v0, v1, v2, v3], [.int x0, .int x1, w2, w3], M) = zV (zPr sp) (120, 521, [v0, v1, v2, v3], [.int (x1 + x0), w2, w3], M) := zV_go rfl
set_option maxRecDepth 20000 in
theorem e120_521 {sp : Nat × (Nat → Int32)} {M : zM} {x0 : Int32} {w2 v0 v1 v2 v3 : Value} {a : Int64} : zV (zPr sp) (120, 521, [v0, v1, v2, v3], [.int x0, .long a, w2], M) = if zin x0 sp.1 = true then zV (zPr sp) (120, 522, [v0, v1, v2, v3], [.int (sp.2 x0.toNatClampNeg), w2], M) else none := zV_ifn rfl
set_option maxRecDepth 20000 in
theorem e120_522 {sp : Nat × (Nat → Int32)} {M : zM} {x0 : Int32} {w1 v0 v1 v2 v3 : Value} : zV (zPr sp) (120, 522, [v0, v1, v2, v3], [.int x0, w1], M) = if zAL v0 = true then zV (zPr sp) (120, 523, [v0, v1, v2, v3], [v0, .int x0, w1], M) else none := zV_ifn rfl
set_option maxRecDepth 20000 in
theorem e120_523 {sp : Nat × (Nat → Int32)} {M : zM} {x1 y : Int32} {w0 w2 v0 v1 v2 : Value} : zV (zPr sp) (120, 523, [v0, v1, v2, .int y], [w0, .int x1, w2], M) = zV (zPr sp) (120, 524, [v0, v1, v2, .int y], [.int y, w0, .int x1, w2], M) := zV_go rfl
set_option maxRecDepth 20000 in
theorem e120_524 {sp : Nat × (Nat → Int32)} {M : zM} {x0 x2 : Int32} {w1 w3 v0 v1 v2 v3 : Value} : zV (zPr sp) (120, 524, [v0, v1, v2, v3], [.int x0, w1, .int x2, w3], M) = zV (zPr sp) (120, 525, [v0, v1, v2, v3], [.int (2), .int x0, w1, .int x2, w3], M) := (zV_go rfl).trans (congrArg (fun c => zV (zPr sp) (120, 525, [v0, v1, v2, v3], [.int c, .int x0, w1, .int x2, w3], M)) zci_2)
set_option maxRecDepth 20000 in
theorem e120_525 {sp : Nat × (Nat → Int32)} {M : zM} {x0 x1 x3 : Int32} {w2 w4 v0 v1 v2 v3 : Value} : zV (zPr sp) (120, 525, [v0, v1, v2, v3], [.int x0, .int x1, w2, .int x3, w4], M) = zV (zPr sp) (120, 526, [v0, v1, v2, v3], [.int (x1 + x0), w2, .int x3, w4], M) := zV_go rfl
set_option maxRecDepth 20000 in
theorem e120_526 {sp : Nat × (Nat → Int32)} {M : zM} {x0 x2 : Int32} {w3 v0 v1 v2 v3 : Value} {a : Int64} : zV (zPr sp) (120, 526, [v0, v1, v2, v3], [.int x0, .long a, .int x2, w3], M) = if zin x0 sp.1 = true then zV (zPr sp) (120, 527, [v0, v1, v2, v3], [.int (sp.2 x0.toNatClampNeg), .int x2, w3], M) else none := zV_ifn rfl
set_option maxRecDepth 20000 in
theorem e120_527 {sp : Nat × (Nat → Int32)} {M : zM} {x0 x1 : Int32} {v0 v1 v2 v3 : Value} {a : Nat} : zV (zPr sp) (120, 527, [v0, v1, v2, v3], [.int x0, .int x1, .ref a], M) = if (zk M a).1 = 5 then ((zV (zPr sp) (67, 0, [.ref a, .int x1, .int x0, .double 0], [], M)).bind fun r => zV (zPr sp) (120, 530, [v0, v1, v2, v3], r.1.toList ++ [], r.2)) else none := zV_ifc rfl
set_option maxRecDepth 20000 in
theorem e120_530 {sp : Nat × (Nat → Int32)} {M : zM} {x0 : Int32} {v0 v1 v2 v3 : Value} : zV (zPr sp) (120, 530, [v0, v1, v2, v3], [.int x0], M) = if zAL v2 = true then zV (zPr sp) (120, 531, [v0, v1, v2, v3], [v2, .int x0], M) else none := zV_ifn rfl
set_option maxRecDepth 20000 in
theorem e120_531 {sp : Nat × (Nat → Int32)} {M : zM} {x1 : Int32} {w0 v0 v1 v2 v3 : Value} : zV (zPr sp) (120, 531, [v0, v1, v2, v3], [w0, .int x1], M) = if zAL v0 = true then zV (zPr sp) (120, 532, [v0, v1, v2, v3], [v0, w0, .int x1], M) else none := zV_ifn rfl
set_option maxRecDepth 20000 in
theorem e120_532 {sp : Nat × (Nat → Int32)} {M : zM} {x2 y : Int32} {w0 w1 v0 v1 v2 : Value} : zV (zPr sp) (120, 532, [v0, v1, v2, .int y], [w0, w1, .int x2], M) = zV (zPr sp) (120, 533, [v0, v1, v2, .int y], [.int y, w0, w1, .int x2], M) := zV_go rfl
set_option maxRecDepth 20000 in
theorem e120_533 {sp : Nat × (Nat → Int32)} {M : zM} {x0 x3 : Int32} {w1 w2 v0 v1 v2 v3 : Value} : zV (zPr sp) (120, 533, [v0, v1, v2, v3], [.int x0, w1, w2, .int x3], M) = zV (zPr sp) (120, 534, [v0, v1, v2, v3], [.int (1), .int x0, w1, w2, .int x3], M) := (zV_go rfl).trans (congrArg (fun c => zV (zPr sp) (120, 534, [v0, v1, v2, v3], [.int c, .int x0, w1, w2, .int x3], M)) zci_1)
set_option maxRecDepth 20000 in
theorem e120_534 {sp : Nat × (Nat → Int32)} {M : zM} {x0 x1 x4 : Int32} {w2 w3 v0 v1 v2 v3 : Value} : zV (zPr sp) (120, 534, [v0, v1, v2, v3], [.int x0, .int x1, w2, w3, .int x4], M) = zV (zPr sp) (120, 535, [v0, v1, v2, v3], [.int (x1 + x0), w2, w3, .int x4], M) := zV_go rfl
set_option maxRecDepth 20000 in
theorem e120_535 {sp : Nat × (Nat → Int32)} {M : zM} {x0 x3 : Int32} {w2 v0 v1 v2 v3 : Value} {a : Int64} : zV (zPr sp) (120, 535, [v0, v1, v2, v3], [.int x0, .long a, w2, .int x3], M) = if zin x0 sp.1 = true then zV (zPr sp) (120, 536, [v0, v1, v2, v3], [.int (sp.2 x0.toNatClampNeg), w2, .int x3], M) else none := zV_ifn rfl
set_option maxRecDepth 20000 in
theorem e120_536 {sp : Nat × (Nat → Int32)} {M : zM} {x0 x2 : Int32} {w1 v0 v1 v2 v3 : Value} : zV (zPr sp) (120, 536, [v0, v1, v2, v3], [.int x0, w1, .int x2], M) = if zAL v0 = true then zV (zPr sp) (120, 537, [v0, v1, v2, v3], [v0, .int x0, w1, .int x2], M) else none := zV_ifn rfl
set_option maxRecDepth 20000 in
theorem e120_537 {sp : Nat × (Nat → Int32)} {M : zM} {x1 x3 y : Int32} {w0 w2 v0 v1 v2 : Value} : zV (zPr sp) (120, 537, [v0, v1, v2, .int y], [w0, .int x1, w2, .int x3], M) = zV (zPr sp) (120, 538, [v0, v1, v2, .int y], [.int y, w0, .int x1, w2, .int x3], M) := zV_go rfl
set_option maxRecDepth 20000 in
theorem e120_538 {sp : Nat × (Nat → Int32)} {M : zM} {x0 x2 x4 : Int32} {w1 w3 v0 v1 v2 v3 : Value} : zV (zPr sp) (120, 538, [v0, v1, v2, v3], [.int x0, w1, .int x2, w3, .int x4], M) = zV (zPr sp) (120, 539, [v0, v1, v2, v3], [.int (2), .int x0, w1, .int x2, w3, .int x4], M) := (zV_go rfl).trans (congrArg (fun c => zV (zPr sp) (120, 539, [v0, v1, v2, v3], [.int c, .int x0, w1, .int x2, w3, .int x4], M)) zci_2)
set_option maxRecDepth 20000 in
theorem e120_539 {sp : Nat × (Nat → Int32)} {M : zM} {x0 x1 x3 x5 : Int32} {w2 w4 v0 v1 v2 v3 : Value} : zV (zPr sp) (120, 539, [v0, v1, v2, v3], [.int x0, .int x1, w2, .int x3, w4, .int x5], M) = zV (zPr sp) (120, 540, [v0, v1, v2, v3], [.int (x1 + x0), w2, .int x3, w4, .int x5], M) := zV_go rfl
set_option maxRecDepth 20000 in
theorem e120_540 {sp : Nat × (Nat → Int32)} {M : zM} {x0 x2 x4 : Int32} {w3 v0 v1 v2 v3 : Value} {a : Int64} : zV (zPr sp) (120, 540, [v0, v1, v2, v3], [.int x0, .long a, .int x2, w3, .int x4], M) = if zin x0 sp.1 = true then zV (zPr sp) (120, 541, [v0, v1, v2, v3], [.int (sp.2 x0.toNatClampNeg), .int x2, w3, .int x4], M) else none := zV_ifn rfl
set_option maxRecDepth 20000 in
theorem e120_541 {sp : Nat × (Nat → Int32)} {M : zM} {x0 x1 x3 : Int32} {v0 v1 v2 v3 : Value} {a : Nat} : zV (zPr sp) (120, 541, [v0, v1, v2, v3], [.int x0, .int x1, .ref a, .int x3], M) = if (zk M a).1 = 6 then ((zV (zPr sp) (114, 0, [.ref a, .int x1, .int x0], [], M)).bind fun r => zV (zPr sp) (120, 544, [v0, v1, v2, v3], r.1.toList ++ [.int x3], r.2)) else none := zV_ifc rfl
set_option maxRecDepth 20000 in
theorem e120_544 {sp : Nat × (Nat → Int32)} {M : zM} {x0 x1 : Int32} {v0 v1 v2 v3 : Value} : zV (zPr sp) (120, 544, [v0, v1, v2, v3], [.int x0, .int x1], M) = if x1 = x0 then zV (zPr sp) (120, 734, [v0, v1, v2, v3], [], M) else zV (zPr sp) (120, 547, [v0, v1, v2, v3], [], M) := zV_ifg rfl
set_option maxRecDepth 20000 in
theorem e120_547 {sp : Nat × (Nat → Int32)} {M : zM} {v0 v1 v2 v3 : Value} : zV (zPr sp) (120, 547, [v0, v1, v2, v3], [], M) = zV (zPr sp) (120, 548, [v0, v1, v2, v3], [.int (0)], M) := (zV_go rfl).trans (congrArg (fun c => zV (zPr sp) (120, 548, [v0, v1, v2, v3], [.int c], M)) zci_0)
set_option maxRecDepth 20000 in
theorem e120_548 {sp : Nat × (Nat → Int32)} {M : zM} {x0 : Int32} {v0 v1 v2 v3 : Value} : zV (zPr sp) (120, 548, [v0, v1, v2, v3], [.int x0], M) = if (1 = 0 ∨ x0 = 0 ∨ x0 = 1) then some (some (.int x0), M) else none := zV_ifr rfl
set_option maxRecDepth 20000 in
theorem e120_549 {sp : Nat × (Nat → Int32)} {M : zM} {v0 v1 v2 v3 : Value} : zV (zPr sp) (120, 549, [v0, v1, v2, v3], [], M) = if zAL v1 = true then zV (zPr sp) (120, 550, [v0, v1, v2, v3], [v1], M) else none := zV_ifn rfl
set_option maxRecDepth 20000 in
theorem e120_550 {sp : Nat × (Nat → Int32)} {M : zM} {w0 v0 v1 v2 v3 : Value} : zV (zPr sp) (120, 550, [v0, v1, v2, v3], [w0], M) = if zAL v0 = true then zV (zPr sp) (120, 551, [v0, v1, v2, v3], [v0, w0], M) else none := zV_ifn rfl
set_option maxRecDepth 20000 in
theorem e120_551 {sp : Nat × (Nat → Int32)} {M : zM} {y : Int32} {w0 w1 v0 v1 v2 : Value} : zV (zPr sp) (120, 551, [v0, v1, v2, .int y], [w0, w1], M) = zV (zPr sp) (120, 552, [v0, v1, v2, .int y], [.int y, w0, w1], M) := zV_go rfl
set_option maxRecDepth 20000 in
theorem e120_552 {sp : Nat × (Nat → Int32)} {M : zM} {x0 : Int32} {w1 w2 v0 v1 v2 v3 : Value} : zV (zPr sp) (120, 552, [v0, v1, v2, v3], [.int x0, w1, w2], M) = zV (zPr sp) (120, 553, [v0, v1, v2, v3], [.int (1), .int x0, w1, w2], M) := (zV_go rfl).trans (congrArg (fun c => zV (zPr sp) (120, 553, [v0, v1, v2, v3], [.int c, .int x0, w1, w2], M)) zci_1)
set_option maxRecDepth 20000 in
theorem e120_553 {sp : Nat × (Nat → Int32)} {M : zM} {x0 x1 : Int32} {w2 w3 v0 v1 v2 v3 : Value} : zV (zPr sp) (120, 553, [v0, v1, v2, v3], [.int x0, .int x1, w2, w3], M) = zV (zPr sp) (120, 554, [v0, v1, v2, v3], [.int (x1 + x0), w2, w3], M) := zV_go rfl
set_option maxRecDepth 20000 in
theorem e120_554 {sp : Nat × (Nat → Int32)} {M : zM} {x0 : Int32} {w2 v0 v1 v2 v3 : Value} {a : Int64} : zV (zPr sp) (120, 554, [v0, v1, v2, v3], [.int x0, .long a, w2], M) = if zin x0 sp.1 = true then zV (zPr sp) (120, 555, [v0, v1, v2, v3], [.int (sp.2 x0.toNatClampNeg), w2], M) else none := zV_ifn rfl
set_option maxRecDepth 20000 in
theorem e120_555 {sp : Nat × (Nat → Int32)} {M : zM} {x0 : Int32} {w1 v0 v1 v2 v3 : Value} : zV (zPr sp) (120, 555, [v0, v1, v2, v3], [.int x0, w1], M) = if zAL v0 = true then zV (zPr sp) (120, 556, [v0, v1, v2, v3], [v0, .int x0, w1], M) else none := zV_ifn rfl
set_option maxRecDepth 20000 in
theorem e120_556 {sp : Nat × (Nat → Int32)} {M : zM} {x1 y : Int32} {w0 w2 v0 v1 v2 : Value} : zV (zPr sp) (120, 556, [v0, v1, v2, .int y], [w0, .int x1, w2], M) = zV (zPr sp) (120, 557, [v0, v1, v2, .int y], [.int y, w0, .int x1, w2], M) := zV_go rfl
set_option maxRecDepth 20000 in
theorem e120_557 {sp : Nat × (Nat → Int32)} {M : zM} {x0 x2 : Int32} {w1 w3 v0 v1 v2 v3 : Value} : zV (zPr sp) (120, 557, [v0, v1, v2, v3], [.int x0, w1, .int x2, w3], M) = zV (zPr sp) (120, 558, [v0, v1, v2, v3], [.int (2), .int x0, w1, .int x2, w3], M) := (zV_go rfl).trans (congrArg (fun c => zV (zPr sp) (120, 558, [v0, v1, v2, v3], [.int c, .int x0, w1, .int x2, w3], M)) zci_2)
set_option maxRecDepth 20000 in
theorem e120_558 {sp : Nat × (Nat → Int32)} {M : zM} {x0 x1 x3 : Int32} {w2 w4 v0 v1 v2 v3 : Value} : zV (zPr sp) (120, 558, [v0, v1, v2, v3], [.int x0, .int x1, w2, .int x3, w4], M) = zV (zPr sp) (120, 559, [v0, v1, v2, v3], [.int (x1 + x0), w2, .int x3, w4], M) := zV_go rfl
set_option maxRecDepth 20000 in
theorem e120_559 {sp : Nat × (Nat → Int32)} {M : zM} {x0 x2 : Int32} {w3 v0 v1 v2 v3 : Value} {a : Int64} : zV (zPr sp) (120, 559, [v0, v1, v2, v3], [.int x0, .long a, .int x2, w3], M) = if zin x0 sp.1 = true then zV (zPr sp) (120, 560, [v0, v1, v2, v3], [.int (sp.2 x0.toNatClampNeg), .int x2, w3], M) else none := zV_ifn rfl
set_option maxRecDepth 20000 in
theorem e120_560 {sp : Nat × (Nat → Int32)} {M : zM} {x0 x1 : Int32} {w2 v0 v1 v2 v3 : Value} : zV (zPr sp) (120, 560, [v0, v1, v2, v3], [.int x0, .int x1, w2], M) = if zAL v0 = true then zV (zPr sp) (120, 561, [v0, v1, v2, v3], [v0, .int x0, .int x1, w2], M) else none := zV_ifn rfl
set_option maxRecDepth 20000 in
theorem e120_561 {sp : Nat × (Nat → Int32)} {M : zM} {x1 x2 y : Int32} {w0 w3 v0 v1 v2 : Value} : zV (zPr sp) (120, 561, [v0, v1, v2, .int y], [w0, .int x1, .int x2, w3], M) = zV (zPr sp) (120, 562, [v0, v1, v2, .int y], [.int y, w0, .int x1, .int x2, w3], M) := zV_go rfl
set_option maxRecDepth 20000 in
theorem e120_562 {sp : Nat × (Nat → Int32)} {M : zM} {x0 x2 x3 : Int32} {w1 w4 v0 v1 v2 v3 : Value} : zV (zPr sp) (120, 562, [v0, v1, v2, v3], [.int x0, w1, .int x2, .int x3, w4], M) = zV (zPr sp) (120, 563, [v0, v1, v2, v3], [.int (3), .int x0, w1, .int x2, .int x3, w4], M) := (zV_go rfl).trans (congrArg (fun c => zV (zPr sp) (120, 563, [v0, v1, v2, v3], [.int c, .int x0, w1, .int x2, .int x3, w4], M)) zci_3)
set_option maxRecDepth 20000 in
theorem e120_563 {sp : Nat × (Nat → Int32)} {M : zM} {x0 x1 x3 x4 : Int32} {w2 w5 v0 v1 v2 v3 : Value} : zV (zPr sp) (120, 563, [v0, v1, v2, v3], [.int x0, .int x1, w2, .int x3, .int x4, w5], M) = zV (zPr sp) (120, 564, [v0, v1, v2, v3], [.int (x1 + x0), w2, .int x3, .int x4, w5], M) := zV_go rfl
set_option maxRecDepth 20000 in
theorem e120_564 {sp : Nat × (Nat → Int32)} {M : zM} {x0 x2 x3 : Int32} {w4 v0 v1 v2 v3 : Value} {a : Int64} : zV (zPr sp) (120, 564, [v0, v1, v2, v3], [.int x0, .long a, .int x2, .int x3, w4], M) = if zin x0 sp.1 = true then zV (zPr sp) (120, 565, [v0, v1, v2, v3], [.int (sp.2 x0.toNatClampNeg), .int x2, .int x3, w4], M) else none := zV_ifn rfl
set_option maxRecDepth 20000 in
theorem e120_565 {sp : Nat × (Nat → Int32)} {M : zM} {x0 x1 x2 : Int32} {w3 v0 v1 v2 v3 : Value} : zV (zPr sp) (120, 565, [v0, v1, v2, v3], [.int x0, .int x1, .int x2, w3], M) = if zAL v0 = true then zV (zPr sp) (120, 566, [v0, v1, v2, v3], [v0, .int x0, .int x1, .int x2, w3], M) else none := zV_ifn rfl
set_option maxRecDepth 20000 in
theorem e120_566 {sp : Nat × (Nat → Int32)} {M : zM} {x1 x2 x3 y : Int32} {w0 w4 v0 v1 v2 : Value} : zV (zPr sp) (120, 566, [v0, v1, v2, .int y], [w0, .int x1, .int x2, .int x3, w4], M) = zV (zPr sp) (120, 567, [v0, v1, v2, .int y], [.int y, w0, .int x1, .int x2, .int x3, w4], M) := zV_go rfl
set_option maxRecDepth 20000 in
theorem e120_567 {sp : Nat × (Nat → Int32)} {M : zM} {x0 x2 x3 x4 : Int32} {w1 w5 v0 v1 v2 v3 : Value} : zV (zPr sp) (120, 567, [v0, v1, v2, v3], [.int x0, w1, .int x2, .int x3, .int x4, w5], M) = zV (zPr sp) (120, 568, [v0, v1, v2, v3], [.int (4), .int x0, w1, .int x2, .int x3, .int x4, w5], M) := (zV_go rfl).trans (congrArg (fun c => zV (zPr sp) (120, 568, [v0, v1, v2, v3], [.int c, .int x0, w1, .int x2, .int x3, .int x4, w5], M)) zci_4)
set_option maxRecDepth 20000 in
theorem e120_568 {sp : Nat × (Nat → Int32)} {M : zM} {x0 x1 x3 x4 x5 : Int32} {w2 w6 v0 v1 v2 v3 : Value} : zV (zPr sp) (120, 568, [v0, v1, v2, v3], [.int x0, .int x1, w2, .int x3, .int x4, .int x5, w6], M) = zV (zPr sp) (120, 569, [v0, v1, v2, v3], [.int (x1 + x0), w2, .int x3, .int x4, .int x5, w6], M) := zV_go rfl
set_option maxRecDepth 20000 in
theorem e120_569 {sp : Nat × (Nat → Int32)} {M : zM} {x0 x2 x3 x4 : Int32} {w5 v0 v1 v2 v3 : Value} {a : Int64} : zV (zPr sp) (120, 569, [v0, v1, v2, v3], [.int x0, .long a, .int x2, .int x3, .int x4, w5], M) = if zin x0 sp.1 = true then zV (zPr sp) (120, 570, [v0, v1, v2, v3], [.int (sp.2 x0.toNatClampNeg), .int x2, .int x3, .int x4, w5], M) else none := zV_ifn rfl
set_option maxRecDepth 20000 in
theorem e120_570 {sp : Nat × (Nat → Int32)} {M : zM} {x0 x1 x2 x3 : Int32} {v0 v1 v2 v3 : Value} {a : Nat} : zV (zPr sp) (120, 570, [v0, v1, v2, v3], [.int x0, .int x1, .int x2, .int x3, .ref a], M) = if (zk M a).1 = 5 then ((zV (zPr sp) (68, 0, [.ref a, .int x3, .int x2, .int x1, .int x0, .double 0, .double 0], [], M)).bind fun r => zV (zPr sp) (120, 573, [v0, v1, v2, v3], r.1.toList ++ [], r.2)) else none := zV_ifc rfl
set_option maxRecDepth 20000 in
theorem e120_573 {sp : Nat × (Nat → Int32)} {M : zM} {x0 : Int32} {v0 v1 v2 v3 : Value} : zV (zPr sp) (120, 573, [v0, v1, v2, v3], [.int x0], M) = if zAL v2 = true then zV (zPr sp) (120, 574, [v0, v1, v2, v3], [v2, .int x0], M) else none := zV_ifn rfl
set_option maxRecDepth 20000 in
theorem e120_574 {sp : Nat × (Nat → Int32)} {M : zM} {x1 : Int32} {w0 v0 v1 v2 v3 : Value} : zV (zPr sp) (120, 574, [v0, v1, v2, v3], [w0, .int x1], M) = if zAL v0 = true then zV (zPr sp) (120, 575, [v0, v1, v2, v3], [v0, w0, .int x1], M) else none := zV_ifn rfl
set_option maxRecDepth 20000 in
theorem e120_575 {sp : Nat × (Nat → Int32)} {M : zM} {x2 y : Int32} {w0 w1 v0 v1 v2 : Value} : zV (zPr sp) (120, 575, [v0, v1, v2, .int y], [w0, w1, .int x2], M) = zV (zPr sp) (120, 576, [v0, v1, v2, .int y], [.int y, w0, w1, .int x2], M) := zV_go rfl
set_option maxRecDepth 20000 in
theorem e120_576 {sp : Nat × (Nat → Int32)} {M : zM} {x0 x3 : Int32} {w1 w2 v0 v1 v2 v3 : Value} : zV (zPr sp) (120, 576, [v0, v1, v2, v3], [.int x0, w1, w2, .int x3], M) = zV (zPr sp) (120, 577, [v0, v1, v2, v3], [.int (1), .int x0, w1, w2, .int x3], M) := (zV_go rfl).trans (congrArg (fun c => zV (zPr sp) (120, 577, [v0, v1, v2, v3], [.int c, .int x0, w1, w2, .int x3], M)) zci_1)
