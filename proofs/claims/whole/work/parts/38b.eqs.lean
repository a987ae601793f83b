/-! Equations of law, b. -/
set_option maxRecDepth 20000 in
theorem e120_255 {sp : Nat × (Nat → Int32)} {M : zM} {x0 : Int32} {w1 w2 v0 v1 v2 v3 : Value} : zV (zPr sp) (120, 255, [v0, v1, v2, v3], [.int x0, w1, w2], M) = zV (zPr sp) (120, 256, [v0, v1, v2, v3], [.int (1), .int x0, w1, w2], M) := (zV_go rfl).trans (congrArg (fun c => zV (zPr sp) (120, 256, [v0, v1, v2, v3], [.int c, .int x0, w1, w2], M)) zci_1)
set_option maxRecDepth 20000 in
theorem e120_256 {sp : Nat × (Nat → Int32)} {M : zM} {x0 x1 : Int32} {w2 w3 v0 v1 v2 v3 : Value} : zV (zPr sp) (120, 256, [v0, v1, v2, v3], [.int x0, .int x1, w2, w3], M) = zV (zPr sp) (120, 257, [v0, v1, v2, v3], [.int (x1 + x0), w2, w3], M) := zV_go rfl
set_option maxRecDepth 20000 in
theorem e120_257 {sp : Nat × (Nat → Int32)} {M : zM} {x0 : Int32} {w2 v0 v1 v2 v3 : Value} {a : Int64} : zV (zPr sp) (120, 257, [v0, v1, v2, v3], [.int x0, .long a, w2], M) = if zin x0 sp.1 = true then zV (zPr sp) (120, 258, [v0, v1, v2, v3], [.int (sp.2 x0.toNatClampNeg), w2], M) else none := zV_ifn rfl
set_option maxRecDepth 20000 in
theorem e120_258 {sp : Nat × (Nat → Int32)} {M : zM} {x0 : Int32} {w1 v0 v1 v2 v3 : Value} : zV (zPr sp) (120, 258, [v0, v1, v2, v3], [.int x0, w1], M) = if zAL v0 = true then zV (zPr sp) (120, 259, [v0, v1, v2, v3], [v0, .int x0, w1], M) else none := zV_ifn rfl
set_option maxRecDepth 20000 in
theorem e120_259 {sp : Nat × (Nat → Int32)} {M : zM} {x1 y : Int32} {w0 w2 v0 v1 v2 : Value} : zV (zPr sp) (120, 259, [v0, v1, v2, .int y], [w0, .int x1, w2], M) = zV (zPr sp) (120, 260, [v0, v1, v2, .int y], [.int y, w0, .int x1, w2], M) := zV_go rfl
set_option maxRecDepth 20000 in
theorem e120_260 {sp : Nat × (Nat → Int32)} {M : zM} {x0 x2 : Int32} {w1 w3 v0 v1 v2 v3 : Value} : zV (zPr sp) (120, 260, [v0, v1, v2, v3], [.int x0, w1, .int x2, w3], M) = zV (zPr sp) (120, 261, [v0, v1, v2, v3], [.int (2), .int x0, w1, .int x2, w3], M) := (zV_go rfl).trans (congrArg (fun c => zV (zPr sp) (120, 261, [v0, v1, v2, v3], [.int c, .int x0, w1, .int x2, w3], M)) zci_2)
set_option maxRecDepth 20000 in
theorem e120_261 {sp : Nat × (Nat → Int32)} {M : zM} {x0 x1 x3 : Int32} {w2 w4 v0 v1 v2 v3 : Value} : zV (zPr sp) (120, 261, [v0, v1, v2, v3], [.int x0, .int x1, w2, .int x3, w4], M) = zV (zPr sp) (120, 262, [v0, v1, v2, v3], [.int (x1 + x0), w2, .int x3, w4], M) := zV_go rfl
set_option maxRecDepth 20000 in
theorem e120_262 {sp : Nat × (Nat → Int32)} {M : zM} {x0 x2 : Int32} {w3 v0 v1 v2 v3 : Value} {a : Int64} : zV (zPr sp) (120, 262, [v0, v1, v2, v3], [.int x0, .long a, .int x2, w3], M) = if zin x0 sp.1 = true then zV (zPr sp) (120, 263, [v0, v1, v2, v3], [.int (sp.2 x0.toNatClampNeg), .int x2, w3], M) else none := zV_ifn rfl
set_option maxRecDepth 20000 in
theorem e120_263 {sp : Nat × (Nat → Int32)} {M : zM} {x0 x1 : Int32} {w2 v0 v1 v2 v3 : Value} : zV (zPr sp) (120, 263, [v0, v1, v2, v3], [.int x0, .int x1, w2], M) = if zAL v0 = true then zV (zPr sp) (120, 264, [v0, v1, v2, v3], [v0, .int x0, .int x1, w2], M) else none := zV_ifn rfl
set_option maxRecDepth 20000 in
theorem e120_264 {sp : Nat × (Nat → Int32)} {M : zM} {x1 x2 y : Int32} {w0 w3 v0 v1 v2 : Value} : zV (zPr sp) (120, 264, [v0, v1, v2, .int y], [w0, .int x1, .int x2, w3], M) = zV (zPr sp) (120, 265, [v0, v1, v2, .int y], [.int y, w0, .int x1, .int x2, w3], M) := zV_go rfl
set_option maxRecDepth 20000 in
theorem e120_265 {sp : Nat × (Nat → Int32)} {M : zM} {x0 x2 x3 : Int32} {w1 w4 v0 v1 v2 v3 : Value} : zV (zPr sp) (120, 265, [v0, v1, v2, v3], [.int x0, w1, .int x2, .int x3, w4], M) = zV (zPr sp) (120, 266, [v0, v1, v2, v3], [.int (3), .int x0, w1, .int x2, .int x3, w4], M) := (zV_go rfl).trans (congrArg (fun c => zV (zPr sp) (120, 266, [v0, v1, v2, v3], [.int c, .int x0, w1, .int x2, .int x3, w4], M)) zci_3)
set_option maxRecDepth 20000 in
theorem e120_266 {sp : Nat × (Nat → Int32)} {M : zM} {x0 x1 x3 x4 : Int32} {w2 w5 v0 v1 v2 v3 : Value} : zV (zPr sp) (120, 266, [v0, v1, v2, v3], [.int x0, .int x1, w2, .int x3, .int x4, w5], M) = zV (zPr sp) (120, 267, [v0, v1, v2, v3], [.int (x1 + x0), w2, .int x3, .int x4, w5], M) := zV_go rfl
set_option maxRecDepth 20000 in
theorem e120_267 {sp : Nat × (Nat → Int32)} {M : zM} {x0 x2 x3 : Int32} {w4 v0 v1 v2 v3 : Value} {a : Int64} : zV (zPr sp) (120, 267, [v0, v1, v2, v3], [.int x0, .long a, .int x2, .int x3, w4], M) = if zin x0 sp.1 = true then zV (zPr sp) (120, 268, [v0, v1, v2, v3], [.int (sp.2 x0.toNatClampNeg), .int x2, .int x3, w4], M) else none := zV_ifn rfl
set_option maxRecDepth 20000 in
theorem e120_268 {sp : Nat × (Nat → Int32)} {M : zM} {x0 x1 x2 : Int32} {v0 v1 v2 v3 : Value} {a : Nat} : zV (zPr sp) (120, 268, [v0, v1, v2, v3], [.int x0, .int x1, .int x2, .ref a], M) = if (zk M a).1 = 5 then ((zV (zPr sp) (30, 0, [.ref a, .int x2, .int x1, .int x0, .double 0], [], M)).bind fun r => zV (zPr sp) (120, 271, [v0, v1, v2, v3], r.1.toList ++ [], r.2)) else none := zV_ifc rfl
set_option maxRecDepth 20000 in
theorem e120_271 {sp : Nat × (Nat → Int32)} {M : zM} {x0 : Int32} {v0 v1 v2 v3 : Value} : zV (zPr sp) (120, 271, [v0, v1, v2, v3], [.int x0], M) = if zAL v2 = true then zV (zPr sp) (120, 272, [v0, v1, v2, v3], [v2, .int x0], M) else none := zV_ifn rfl
set_option maxRecDepth 20000 in
theorem e120_272 {sp : Nat × (Nat → Int32)} {M : zM} {x1 : Int32} {w0 v0 v1 v2 v3 : Value} : zV (zPr sp) (120, 272, [v0, v1, v2, v3], [w0, .int x1], M) = if zAL v0 = true then zV (zPr sp) (120, 273, [v0, v1, v2, v3], [v0, w0, .int x1], M) else none := zV_ifn rfl
set_option maxRecDepth 20000 in
theorem e120_273 {sp : Nat × (Nat → Int32)} {M : zM} {x2 y : Int32} {w0 w1 v0 v1 v2 : Value} : zV (zPr sp) (120, 273, [v0, v1, v2, .int y], [w0, w1, .int x2], M) = zV (zPr sp) (120, 274, [v0, v1, v2, .int y], [.int y, w0, w1, .int x2], M) := zV_go rfl
set_option maxRecDepth 20000 in
theorem e120_274 {sp : Nat × (Nat → Int32)} {M : zM} {x0 x3 : Int32} {w1 w2 v0 v1 v2 v3 : Value} : zV (zPr sp) (120, 274, [v0, v1, v2, v3], [.int x0, w1, w2, .int x3], M) = zV (zPr sp) (120, 275, [v0, v1, v2, v3], [.int (1), .int x0, w1, w2, .int x3], M) := (zV_go rfl).trans (congrArg (fun c => zV (zPr sp) (120, 275, [v0, v1, v2, v3], [.int c, .int x0, w1, w2, .int x3], M)) zci_1)
set_option maxRecDepth 20000 in
theorem e120_275 {sp : Nat × (Nat → Int32)} {M : zM} {x0 x1 x4 : Int32} {w2 w3 v0 v1 v2 v3 : Value} : zV (zPr sp) (120, 275, [v0, v1, v2, v3], [.int x0, .int x1, w2, w3, .int x4], M) = zV (zPr sp) (120, 276, [v0, v1, v2, v3], [.int (x1 + x0), w2, w3, .int x4], M) := zV_go rfl
set_option maxRecDepth 20000 in
theorem e120_276 {sp : Nat × (Nat → Int32)} {M : zM} {x0 x3 : Int32} {w2 v0 v1 v2 v3 : Value} {a : Int64} : zV (zPr sp) (120, 276, [v0, v1, v2, v3], [.int x0, .long a, w2, .int x3], M) = if zin x0 sp.1 = true then zV (zPr sp) (120, 277, [v0, v1, v2, v3], [.int (sp.2 x0.toNatClampNeg), w2, .int x3], M) else none := zV_ifn rfl
set_option maxRecDepth 20000 in
theorem e120_277 {sp : Nat × (Nat → Int32)} {M : zM} {x0 x2 : Int32} {w1 v0 v1 v2 v3 : Value} : zV (zPr sp) (120, 277, [v0, v1, v2, v3], [.int x0, w1, .int x2], M) = if zAL v0 = true then zV (zPr sp) (120, 278, [v0, v1, v2, v3], [v0, .int x0, w1, .int x2], M) else none := zV_ifn rfl
set_option maxRecDepth 20000 in
theorem e120_278 {sp : Nat × (Nat → Int32)} {M : zM} {x1 x3 y : Int32} {w0 w2 v0 v1 v2 : Value} : zV (zPr sp) (120, 278, [v0, v1, v2, .int y], [w0, .int x1, w2, .int x3], M) = zV (zPr sp) (120, 279, [v0, v1, v2, .int y], [.int y, w0, .int x1, w2, .int x3], M) := zV_go rfl
set_option maxRecDepth 20000 in
theorem e120_279 {sp : Nat × (Nat → Int32)} {M : zM} {x0 x2 x4 : Int32} {w1 w3 v0 v1 v2 v3 : Value} : zV (zPr sp) (120, 279, [v0, v1, v2, v3], [.int x0, w1, .int x2, w3, .int x4], M) = zV (zPr sp) (120, 280, [v0, v1, v2, v3], [.int (2), .int x0, w1, .int x2, w3, .int x4], M) := (zV_go rfl).trans (congrArg (fun c => zV (zPr sp) (120, 280, [v0, v1, v2, v3], [.int c, .int x0, w1, .int x2, w3, .int x4], M)) zci_2)
set_option maxRecDepth 20000 in
theorem e120_280 {sp : Nat × (Nat → Int32)} {M : zM} {x0 x1 x3 x5 : Int32} {w2 w4 v0 v1 v2 v3 : Value} : zV (zPr sp) (120, 280, [v0, v1, v2, v3], [.int x0, .int x1, w2, .int x3, w4, .int x5], M) = zV (zPr sp) (120, 281, [v0, v1, v2, v3], [.int (x1 + x0), w2, .int x3, w4, .int x5], M) := zV_go rfl
set_option maxRecDepth 20000 in
theorem e120_281 {sp : Nat × (Nat → Int32)} {M : zM} {x0 x2 x4 : Int32} {w3 v0 v1 v2 v3 : Value} {a : Int64} : zV (zPr sp) (120, 281, [v0, v1, v2, v3], [.int x0, .long a, .int x2, w3, .int x4], M) = if zin x0 sp.1 = true then zV (zPr sp) (120, 282, [v0, v1, v2, v3], [.int (sp.2 x0.toNatClampNeg), .int x2, w3, .int x4], M) else none := zV_ifn rfl
set_option maxRecDepth 20000 in
theorem e120_282 {sp : Nat × (Nat → Int32)} {M : zM} {x0 x1 x3 : Int32} {w2 v0 v1 v2 v3 : Value} : zV (zPr sp) (120, 282, [v0, v1, v2, v3], [.int x0, .int x1, w2, .int x3], M) = if zAL v0 = true then zV (zPr sp) (120, 283, [v0, v1, v2, v3], [v0, .int x0, .int x1, w2, .int x3], M) else none := zV_ifn rfl
set_option maxRecDepth 20000 in
theorem e120_283 {sp : Nat × (Nat → Int32)} {M : zM} {x1 x2 x4 y : Int32} {w0 w3 v0 v1 v2 : Value} : zV (zPr sp) (120, 283, [v0, v1, v2, .int y], [w0, .int x1, .int x2, w3, .int x4], M) = zV (zPr sp) (120, 284, [v0, v1, v2, .int y], [.int y, w0, .int x1, .int x2, w3, .int x4], M) := zV_go rfl
set_option maxRecDepth 20000 in
theorem e120_284 {sp : Nat × (Nat → Int32)} {M : zM} {x0 x2 x3 x5 : Int32} {w1 w4 v0 v1 v2 v3 : Value} : zV (zPr sp) (120, 284, [v0, v1, v2, v3], [.int x0, w1, .int x2, .int x3, w4, .int x5], M) = zV (zPr sp) (120, 285, [v0, v1, v2, v3], [.int (3), .int x0, w1, .int x2, .int x3, w4, .int x5], M) := (zV_go rfl).trans (congrArg (fun c => zV (zPr sp) (120, 285, [v0, v1, v2, v3], [.int c, .int x0, w1, .int x2, .int x3, w4, .int x5], M)) zci_3)
set_option maxRecDepth 20000 in
theorem e120_285 {sp : Nat × (Nat → Int32)} {M : zM} {x0 x1 x3 x4 x6 : Int32} {w2 w5 v0 v1 v2 v3 : Value} : zV (zPr sp) (120, 285, [v0, v1, v2, v3], [.int x0, .int x1, w2, .int x3, .int x4, w5, .int x6], M) = zV (zPr sp) (120, 286, [v0, v1, v2, v3], [.int (x1 + x0), w2, .int x3, .int x4, w5, .int x6], M) := zV_go rfl
set_option maxRecDepth 20000 in
theorem e120_286 {sp : Nat × (Nat → Int32)} {M : zM} {x0 x2 x3 x5 : Int32} {w4 v0 v1 v2 v3 : Value} {a : Int64} : zV (zPr sp) (120, 286, [v0, v1, v2, v3], [.int x0, .long a, .int x2, .int x3, w4, .int x5], M) = if zin x0 sp.1 = true then zV (zPr sp) (120, 287, [v0, v1, v2, v3], [.int (sp.2 x0.toNatClampNeg), .int x2, .int x3, w4, .int x5], M) else none := zV_ifn rfl
set_option maxRecDepth 20000 in
theorem e120_287 {sp : Nat × (Nat → Int32)} {M : zM} {x0 x1 x2 x4 : Int32} {v0 v1 v2 v3 : Value} {a : Nat} : zV (zPr sp) (120, 287, [v0, v1, v2, v3], [.int x0, .int x1, .int x2, .ref a, .int x4], M) = if (zk M a).1 = 6 then ((zV (zPr sp) (109, 0, [.ref a, .int x2, .int x1, .int x0, .double 0, .double 0], [], M)).bind fun r => zV (zPr sp) (120, 290, [v0, v1, v2, v3], r.1.toList ++ [.int x4], r.2)) else none := zV_ifc rfl
set_option maxRecDepth 20000 in
theorem e120_290 {sp : Nat × (Nat → Int32)} {M : zM} {x0 x1 : Int32} {v0 v1 v2 v3 : Value} : zV (zPr sp) (120, 290, [v0, v1, v2, v3], [.int x0, .int x1], M) = if x1 = x0 then zV (zPr sp) (120, 734, [v0, v1, v2, v3], [], M) else zV (zPr sp) (120, 293, [v0, v1, v2, v3], [], M) := zV_ifg rfl
set_option maxRecDepth 20000 in
theorem e120_293 {sp : Nat × (Nat → Int32)} {M : zM} {v0 v1 v2 v3 : Value} : zV (zPr sp) (120, 293, [v0, v1, v2, v3], [], M) = zV (zPr sp) (120, 294, [v0, v1, v2, v3], [.int (0)], M) := (zV_go rfl).trans (congrArg (fun c => zV (zPr sp) (120, 294, [v0, v1, v2, v3], [.int c], M)) zci_0)
set_option maxRecDepth 20000 in
theorem e120_294 {sp : Nat × (Nat → Int32)} {M : zM} {x0 : Int32} {v0 v1 v2 v3 : Value} : zV (zPr sp) (120, 294, [v0, v1, v2, v3], [.int x0], M) = if (1 = 0 ∨ x0 = 0 ∨ x0 = 1) then some (some (.int x0), M) else none := zV_ifr rfl
set_option maxRecDepth 20000 in
theorem e120_295 {sp : Nat × (Nat → Int32)} {M : zM} {v0 v1 v2 v3 : Value} : zV (zPr sp) (120, 295, [v0, v1, v2, v3], [], M) = if zAL v1 = true then zV (zPr sp) (120, 296, [v0, v1, v2, v3], [v1], M) else none := zV_ifn rfl
set_option maxRecDepth 20000 in
theorem e120_296 {sp : Nat × (Nat → Int32)} {M : zM} {w0 v0 v1 v2 v3 : Value} : zV (zPr sp) (120, 296, [v0, v1, v2, v3], [w0], M) = if zAL v0 = true then zV (zPr sp) (120, 297, [v0, v1, v2, v3], [v0, w0], M) else none := zV_ifn rfl
set_option maxRecDepth 20000 in
theorem e120_297 {sp : Nat × (Nat → Int32)} {M : zM} {y : Int32} {w0 w1 v0 v1 v2 : Value} : zV (zPr sp) (120, 297, [v0, v1, v2, .int y], [w0, w1], M) = zV (zPr sp) (120, 298, [v0, v1, v2, .int y], [.int y, w0, w1], M) := zV_go rfl
set_option maxRecDepth 20000 in
theorem e120_298 {sp : Nat × (Nat → Int32)} {M : zM} {x0 : Int32} {w1 w2 v0 v1 v2 v3 : Value} : zV (zPr sp) (120, 298, [v0, v1, v2, v3], [.int x0, w1, w2], M) = zV (zPr sp) (120, 299, [v0, v1, v2, v3], [.int (1), .int x0, w1, w2], M) := (zV_go rfl).trans (congrArg (fun c => zV (zPr sp) (120, 299, [v0, v1, v2, v3], [.int c, .int x0, w1, w2], M)) zci_1)
set_option maxRecDepth 20000 in
theorem e120_299 {sp : Nat × (Nat → Int32)} {M : zM} {x0 x1 : Int32} {w2 w3 v0 v1 v2 v3 : Value} : zV (zPr sp) (120, 299, [v0, v1, v2, v3], [.int x0, .int x1, w2, w3], M) = zV (zPr sp) (120, 300, [v0, v1, v2, v3], [.int (x1 + x0), w2, w3], M) := zV_go rfl
set_option maxRecDepth 20000 in
theorem e120_300 {sp : Nat × (Nat → Int32)} {M : zM} {x0 : Int32} {w2 v0 v1 v2 v3 : Value} {a : Int64} : zV (zPr sp) (120, 300, [v0, v1, v2, v3], [.int x0, .long a, w2], M) = if zin x0 sp.1 = true then zV (zPr sp) (120, 301, [v0, v1, v2, v3], [.int (sp.2 x0.toNatClampNeg), w2], M) else none := zV_ifn rfl
set_option maxRecDepth 20000 in
theorem e120_301 {sp : Nat × (Nat → Int32)} {M : zM} {x0 : Int32} {w1 v0 v1 v2 v3 : Value} : zV (zPr sp) (120, 301, [v0, v1, v2, v3], [.int x0, w1], M) = if zAL v0 = true then zV (zPr sp) (120, 302, [v0, v1, v2, v3], [v0, .int x0, w1], M) else none := zV_ifn rfl
set_option maxRecDepth 20000 in
theorem e120_302 {sp : Nat × (Nat → Int32)} {M : zM} {x1 y : Int32} {w0 w2 v0 v1 v2 : Value} : zV (zPr sp) (120, 302, [v0, v1, v2, .int y], [w0, .int x1, w2], M) = zV (zPr sp) (120, 303, [v0, v1, v2, .int y], [.int y, w0, .int x1, w2], M) := zV_go rfl
set_option maxRecDepth 20000 in
theorem e120_303 {sp : Nat × (Nat → Int32)} {M : zM} {x0 x2 : Int32} {w1 w3 v0 v1 v2 v3 : Value} : zV (zPr sp) (120, 303, [v0, v1, v2, v3], [.int x0, w1, .int x2, w3], M) = zV (zPr sp) (120, 304, [v0, v1, v2, v3], [.int (2), .int x0, w1, .int x2, w3], M) := (zV_go rfl).trans (congrArg (fun c => zV (zPr sp) (120, 304, [v0, v1, v2, v3], [.int c, .int x0, w1, .int x2, w3], M)) zci_2)
set_option maxRecDepth 20000 in
theorem e120_304 {sp : Nat × (Nat → Int32)} {M : zM} {x0 x1 x3 : Int32} {w2 w4 v0 v1 v2 v3 : Value} : zV (zPr sp) (120, 304, [v0, v1, v2, v3], [.int x0, .int x1, w2, .int x3, w4], M) = zV (zPr sp) (120, 305, [v0, v1, v2, v3], [.int (x1 + x0), w2, .int x3, w4], M) := zV_go rfl
set_option maxRecDepth 20000 in
theorem e120_305 {sp : Nat × (Nat → Int32)} {M : zM} {x0 x2 : Int32} {w3 v0 v1 v2 v3 : Value} {a : Int64} : zV (zPr sp) (120, 305, [v0, v1, v2, v3], [.int x0, .long a, .int x2, w3], M) = if zin x0 sp.1 = true then zV (zPr sp) (120, 306, [v0, v1, v2, v3], [.int (sp.2 x0.toNatClampNeg), .int x2, w3], M) else none := zV_ifn rfl
set_option maxRecDepth 20000 in
theorem e120_306 {sp : Nat × (Nat → Int32)} {M : zM} {x0 x1 : Int32} {v0 v1 v2 v3 : Value} {a : Nat} : zV (zPr sp) (120, 306, [v0, v1, v2, v3], [.int x0, .int x1, .ref a], M) = if (zk M a).1 = 5 then ((zV (zPr sp) (33, 0, [.ref a, .int x1, .int x0, .double 0], [], M)).bind fun r => zV (zPr sp) (120, 309, [v0, v1, v2, v3], r.1.toList ++ [], r.2)) else none := zV_ifc rfl
set_option maxRecDepth 20000 in
theorem e120_309 {sp : Nat × (Nat → Int32)} {M : zM} {x0 : Int32} {v0 v1 v2 v3 : Value} : zV (zPr sp) (120, 309, [v0, v1, v2, v3], [.int x0], M) = if zAL v2 = true then zV (zPr sp) (120, 310, [v0, v1, v2, v3], [v2, .int x0], M) else none := zV_ifn rfl
set_option maxRecDepth 20000 in
theorem e120_310 {sp : Nat × (Nat → Int32)} {M : zM} {x1 : Int32} {w0 v0 v1 v2 v3 : Value} : zV (zPr sp) (120, 310, [v0, v1, v2, v3], [w0, .int x1], M) = if zAL v0 = true then zV (zPr sp) (120, 311, [v0, v1, v2, v3], [v0, w0, .int x1], M) else none := zV_ifn rfl
set_option maxRecDepth 20000 in
theorem e120_311 {sp : Nat × (Nat → Int32)} {M : zM} {x2 y : Int32} {w0 w1 v0 v1 v2 : Value} : zV (zPr sp) (120, 311, [v0, v1, v2, .int y], [w0, w1, .int x2], M) = zV (zPr sp) (120, 312, [v0, v1, v2, .int y], [.int y, w0, w1, .int x2], M) := zV_go rfl
set_option maxRecDepth 20000 in
theorem e120_312 {sp : Nat × (Nat → Int32)} {M : zM} {x0 x3 : Int32} {w1 w2 v0 v1 v2 v3 : Value} : zV (zPr sp) (120, 312, [v0, v1, v2, v3], [.int x0, w1, w2, .int x3], M) = zV (zPr sp) (120, 313, [v0, v1, v2, v3], [.int (1), .int x0, w1, w2, .int x3], M) := (zV_go rfl).trans (congrArg (fun c => zV (zPr sp) (120, 313, [v0, v1, v2, v3], [.int c, .int x0, w1, w2, .int x3], M)) zci_1)
set_option maxRecDepth 20000 in
theorem e120_313 {sp : Nat × (Nat → Int32)} {M : zM} {x0 x1 x4 : Int32} {w2 w3 v0 v1 v2 v3 : Value} : zV (zPr sp) (120, 313, [v0, v1, v2, v3], [.int x0, .int x1, w2, w3, .int x4], M) = zV (zPr sp) (120, 314, [v0, v1, v2, v3], [.int (x1 + x0), w2, w3, .int x4], M) := zV_go rfl
set_option maxRecDepth 20000 in
theorem e120_314 {sp : Nat × (Nat → Int32)} {M : zM} {x0 x3 : Int32} {w2 v0 v1 v2 v3 : Value} {a : Int64} : zV (zPr sp) (120, 314, [v0, v1, v2, v3], [.int x0, .long a, w2, .int x3], M) = if zin x0 sp.1 = true then zV (zPr sp) (120, 315, [v0, v1, v2, v3], [.int (sp.2 x0.toNatClampNeg), w2, .int x3], M) else none := zV_ifn rfl
set_option maxRecDepth 20000 in
theorem e120_315 {sp : Nat × (Nat → Int32)} {M : zM} {x0 x2 : Int32} {w1 v0 v1 v2 v3 : Value} : zV (zPr sp) (120, 315, [v0, v1, v2, v3], [.int x0, w1, .int x2], M) = if zAL v0 = true then zV (zPr sp) (120, 316, [v0, v1, v2, v3], [v0, .int x0, w1, .int x2], M) else none := zV_ifn rfl
set_option maxRecDepth 20000 in
theorem e120_316 {sp : Nat × (Nat → Int32)} {M : zM} {x1 x3 y : Int32} {w0 w2 v0 v1 v2 : Value} : zV (zPr sp) (120, 316, [v0, v1, v2, .int y], [w0, .int x1, w2, .int x3], M) = zV (zPr sp) (120, 317, [v0, v1, v2, .int y], [.int y, w0, .int x1, w2, .int x3], M) := zV_go rfl
set_option maxRecDepth 20000 in
theorem e120_317 {sp : Nat × (Nat → Int32)} {M : zM} {x0 x2 x4 : Int32} {w1 w3 v0 v1 v2 v3 : Value} : zV (zPr sp) (120, 317, [v0, v1, v2, v3], [.int x0, w1, .int x2, w3, .int x4], M) = zV (zPr sp) (120, 318, [v0, v1, v2, v3], [.int (2), .int x0, w1, .int x2, w3, .int x4], M) := (zV_go rfl).trans (congrArg (fun c => zV (zPr sp) (120, 318, [v0, v1, v2, v3], [.int c, .int x0, w1, .int x2, w3, .int x4], M)) zci_2)
set_option maxRecDepth 20000 in
theorem e120_318 {sp : Nat × (Nat → Int32)} {M : zM} {x0 x1 x3 x5 : Int32} {w2 w4 v0 v1 v2 v3 : Value} : zV (zPr sp) (120, 318, [v0, v1, v2, v3], [.int x0, .int x1, w2, .int x3, w4, .int x5], M) = zV (zPr sp) (120, 319, [v0, v1, v2, v3], [.int (x1 + x0), w2, .int x3, w4, .int x5], M) := zV_go rfl
set_option maxRecDepth 20000 in
theorem e120_319 {sp : Nat × (Nat → Int32)} {M : zM} {x0 x2 x4 : Int32} {w3 v0 v1 v2 v3 : Value} {a : Int64} : zV (zPr sp) (120, 319, [v0, v1, v2, v3], [.int x0, .long a, .int x2, w3, .int x4], M) = if zin x0 sp.1 = true then zV (zPr sp) (120, 320, [v0, v1, v2, v3], [.int (sp.2 x0.toNatClampNeg), .int x2, w3, .int x4], M) else none := zV_ifn rfl
set_option maxRecDepth 20000 in
theorem e120_320 {sp : Nat × (Nat → Int32)} {M : zM} {x0 x1 x3 : Int32} {v0 v1 v2 v3 : Value} {a : Nat} : zV (zPr sp) (120, 320, [v0, v1, v2, v3], [.int x0, .int x1, .ref a, .int x3], M) = if (zk M a).1 = 6 then ((zV (zPr sp) (110, 0, [.ref a, .int x1, .int x0, .double 0, .double 0, .double 0, .double 0], [], M)).bind fun r => zV (zPr sp) (120, 323, [v0, v1, v2, v3], r.1.toList ++ [.int x3], r.2)) else none := zV_ifc rfl
set_option maxRecDepth 20000 in
theorem e120_323 {sp : Nat × (Nat → Int32)} {M : zM} {x0 x1 : Int32} {v0 v1 v2 v3 : Value} : zV (zPr sp) (120, 323, [v0, v1, v2, v3], [.int x0, .int x1], M) = if x1 = x0 then zV (zPr sp) (120, 734, [v0, v1, v2, v3], [], M) else zV (zPr sp) (120, 326, [v0, v1, v2, v3], [], M) := zV_ifg rfl
set_option maxRecDepth 20000 in
theorem e120_326 {sp : Nat × (Nat → Int32)} {M : zM} {v0 v1 v2 v3 : Value} : zV (zPr sp) (120, 326, [v0, v1, v2, v3], [], M) = zV (zPr sp) (120, 327, [v0, v1, v2, v3], [.int (0)], M) := (zV_go rfl).trans (congrArg (fun c => zV (zPr sp) (120, 327, [v0, v1, v2, v3], [.int c], M)) zci_0)
set_option maxRecDepth 20000 in
theorem e120_327 {sp : Nat × (Nat → Int32)} {M : zM} {x0 : Int32} {v0 v1 v2 v3 : Value} : zV (zPr sp) (120, 327, [v0, v1, v2, v3], [.int x0], M) = if (1 = 0 ∨ x0 = 0 ∨ x0 = 1) then some (some (.int x0), M) else none := zV_ifr rfl
set_option maxRecDepth 20000 in
theorem e120_328 {sp : Nat × (Nat → Int32)} {M : zM} {v0 v1 v2 v3 : Value} : zV (zPr sp) (120, 328, [v0, v1, v2, v3], [], M) = if zAL v1 = true then zV (zPr sp) (120, 329, [v0, v1, v2, v3], [v1], M) else none := zV_ifn rfl
set_option maxRecDepth 20000 in
theorem e120_329 {sp : Nat × (Nat → Int32)} {M : zM} {w0 v0 v1 v2 v3 : Value} : zV (zPr sp) (120, 329, [v0, v1, v2, v3], [w0], M) = if zAL v0 = true then zV (zPr sp) (120, 330, [v0, v1, v2, v3], [v0, w0], M) else none := zV_ifn rfl
set_option maxRecDepth 20000 in
theorem e120_330 {sp : Nat × (Nat → Int32)} {M : zM} {y : Int32} {w0 w1 v0 v1 v2 : Value} : zV (zPr sp) (120, 330, [v0, v1, v2, .int y], [w0, w1], M) = zV (zPr sp) (120, 331, [v0, v1, v2, .int y], [.int y, w0, w1], M) := zV_go rfl
set_option maxRecDepth 20000 in
theorem e120_331 {sp : Nat × (Nat → Int32)} {M : zM} {x0 : Int32} {w1 w2 v0 v1 v2 v3 : Value} : zV (zPr sp) (120, 331, [v0, v1, v2, v3], [.int x0, w1, w2], M) = zV (zPr sp) (120, 332, [v0, v1, v2, v3], [.int (1), .int x0, w1, w2], M) := (zV_go rfl).trans (congrArg (fun c => zV (zPr sp) (120, 332, [v0, v1, v2, v3], [.int c, .int x0, w1, w2], M)) zci_1)
set_option maxRecDepth 20000 in
theorem e120_332 {sp : Nat × (Nat → Int32)} {M : zM} {x0 x1 : Int32} {w2 w3 v0 v1 v2 v3 : Value} : zV (zPr sp) (120, 332, [v0, v1, v2, v3], [.int x0, .int x1, w2, w3], M) = zV (zPr sp) (120, 333, [v0, v1, v2, v3], [.int (x1 + x0), w2, w3], M) := zV_go rfl
set_option maxRecDepth 20000 in
theorem e120_333 {sp : Nat × (Nat → Int32)} {M : zM} {x0 : Int32} {w2 v0 v1 v2 v3 : Value} {a : Int64} : zV (zPr sp) (120, 333, [v0, v1, v2, v3], [.int x0, .long a, w2], M) = if zin x0 sp.1 = true then zV (zPr sp) (120, 334, [v0, v1, v2, v3], [.int (sp.2 x0.toNatClampNeg), w2], M) else none := zV_ifn rfl
set_option maxRecDepth 20000 in
theorem e120_334 {sp : Nat × (Nat → Int32)} {M : zM} {x0 : Int32} {w1 v0 v1 v2 v3 : Value} : zV (zPr sp) (120, 334, [v0, v1, v2, v3], [.int x0, w1], M) = if zAL v0 = true then zV (zPr sp) (120, 335, [v0, v1, v2, v3], [v0, .int x0, w1], M) else none := zV_ifn rfl
set_option maxRecDepth 20000 in
theorem e120_335 {sp : Nat × (Nat → Int32)} {M : zM} {x1 y : Int32} {w0 w2 v0 v1 v2 : Value} : zV (zPr sp) (120, 335, [v0, v1, v2, .int y], [w0, .int x1, w2], M) = zV (zPr sp) (120, 336, [v0, v1, v2, .int y], [.int y, w0, .int x1, w2], M) := zV_go rfl
set_option maxRecDepth 20000 in
theorem e120_336 {sp : Nat × (Nat → Int32)} {M : zM} {x0 x2 : Int32} {w1 w3 v0 v1 v2 v3 : Value} : zV (zPr sp) (120, 336, [v0, v1, v2, v3], [.int x0, w1, .int x2, w3], M) = zV (zPr sp) (120, 337, [v0, v1, v2, v3], [.int (2), .int x0, w1, .int x2, w3], M) := (zV_go rfl).trans (congrArg (fun c => zV (zPr sp) (120, 337, [v0, v1, v2, v3], [.int c, .int x0, w1, .int x2, w3], M)) zci_2)
set_option maxRecDepth 20000 in
theorem e120_337 {sp : Nat × (Nat → Int32)} {M : zM} {x0 x1 x3 : Int32} {w2 w4 v0 v1 v2 v3 : Value} : zV (zPr sp) (120, 337, [v0, v1, v2, v3], [.int x0, .int x1, w2, .int x3, w4], M) = zV (zPr sp) (120, 338, [v0, v1, v2, v3], [.int (x1 + x0), w2, .int x3, w4], M) := zV_go rfl
set_option maxRecDepth 20000 in
theorem e120_338 {sp : Nat × (Nat → Int32)} {M : zM} {x0 x2 : Int32} {w3 v0 v1 v2 v3 : Value} {a : Int64} : zV (zPr sp) (120, 338, [v0, v1, v2, v3], [.int x0, .long a, .int x2, w3], M) = if zin x0 sp.1 = true then zV (zPr sp) (120, 339, [v0, v1, v2, v3], [.int (sp.2 x0.toNatClampNeg), .int x2, w3], M) else none := zV_ifn rfl
set_option maxRecDepth 20000 in
theorem e120_339 {sp : Nat × (Nat → Int32)} {M : zM} {x0 x1 : Int32} {v0 v1 v2 v3 : Value} {a : Nat} : zV (zPr sp) (120, 339, [v0, v1, v2, v3], [.int x0, .int x1, .ref a], M) = if (zk M a).1 = 5 then ((zV (zPr sp) (35, 0, [.ref a, .int x1, .int x0, .double 0, .double 0, .double 0, .double 0, .double 0, .double 0, .double 0], [], M)).bind fun r => zV (zPr sp) (120, 342, [v0, v1, v2, v3], r.1.toList ++ [], r.2)) else none := zV_ifc rfl
set_option maxRecDepth 20000 in
theorem e120_342 {sp : Nat × (Nat → Int32)} {M : zM} {x0 : Int32} {v0 v1 v2 v3 : Value} : zV (zPr sp) (120, 342, [v0, v1, v2, v3], [.int x0], M) = if zAL v2 = true then zV (zPr sp) (120, 343, [v0, v1, v2, v3], [v2, .int x0], M) else none := zV_ifn rfl
set_option maxRecDepth 20000 in
theorem e120_343 {sp : Nat × (Nat → Int32)} {M : zM} {x1 : Int32} {w0 v0 v1 v2 v3 : Value} : zV (zPr sp) (120, 343, [v0, v1, v2, v3], [w0, .int x1], M) = if zAL v0 = true then zV (zPr sp) (120, 344, [v0, v1, v2, v3], [v0, w0, .int x1], M) else none := zV_ifn rfl
set_option maxRecDepth 20000 in
theorem e120_344 {sp : Nat × (Nat → Int32)} {M : zM} {x2 y : Int32} {w0 w1 v0 v1 v2 : Value} : zV (zPr sp) (120, 344, [v0, v1, v2, .int y], [w0, w1, .int x2], M) = zV (zPr sp) (120, 345, [v0, v1, v2, .int y], [.int y, w0, w1, .int x2], M) := zV_go rfl
set_option maxRecDepth 20000 in
theorem e120_345 {sp : Nat × (Nat → Int32)} {M : zM} {x0 x3 : Int32} {w1 w2 v0 v1 v2 v3 : Value} : zV (zPr sp) (120, 345, [v0, v1, v2, v3], [.int x0, w1, w2, .int x3], M) = zV (zPr sp) (120, 346, [v0, v1, v2, v3], [.int (1), .int x0, w1, w2, .int x3], M) := (zV_go rfl).trans (congrArg (fun c => zV (zPr sp) (120, 346, [v0, v1, v2, v3], [.int c, .int x0, w1, w2, .int x3], M)) zci_1)
set_option maxRecDepth 20000 in
theorem e120_346 {sp : Nat × (Nat → Int32)} {M : zM} {x0 x1 x4 : Int32} {w2 w3 v0 v1 v2 v3 : Value} : zV (zPr sp) (120, 346, [v0, v1, v2, v3], [.int x0, .int x1, w2, w3, .int x4], M) = zV (zPr sp) (120, 347, [v0, v1, v2, v3], [.int (x1 + x0), w2, w3, .int x4], M) := zV_go rfl
set_option maxRecDepth 20000 in
theorem e120_347 {sp : Nat × (Nat → Int32)} {M : zM} {x0 x3 : Int32} {w2 v0 v1 v2 v3 : Value} {a : Int64} : zV (zPr sp) (120, 347, [v0, v1, v2, v3], [.int x0, .long a, w2, .int x3], M) = if zin x0 sp.1 = true then zV (zPr sp) (120, 348, [v0, v1, v2, v3], [.int (sp.2 x0.toNatClampNeg), w2, .int x3], M) else none := zV_ifn rfl
set_option maxRecDepth 20000 in
theorem e120_348 {sp : Nat × (Nat → Int32)} {M : zM} {x0 x2 : Int32} {w1 v0 v1 v2 v3 : Value} : zV (zPr sp) (120, 348, [v0, v1, v2, v3], [.int x0, w1, .int x2], M) = if zAL v0 = true then zV (zPr sp) (120, 349, [v0, v1, v2, v3], [v0, .int x0, w1, .int x2], M) else none := zV_ifn rfl
set_option maxRecDepth 20000 in
theorem e120_349 {sp : Nat × (Nat → Int32)} {M : zM} {x1 x3 y : Int32} {w0 w2 v0 v1 v2 : Value} : zV (zPr sp) (120, 349, [v0, v1, v2, .int y], [w0, .int x1, w2, .int x3], M) = zV (zPr sp) (120, 350, [v0, v1, v2, .int y], [.int y, w0, .int x1, w2, .int x3], M) := zV_go rfl
set_option maxRecDepth 20000 in
theorem e120_350 {sp : Nat × (Nat → Int32)} {M : zM} {x0 x2 x4 : Int32} {w1 w3 v0 v1 v2 v3 : Value} : zV (zPr sp) (120, 350, [v0, v1, v2, v3], [.int x0, w1, .int x2, w3, .int x4], M) = zV (zPr sp) (120, 351, [v0, v1, v2, v3], [.int (2), .int x0, w1, .int x2, w3, .int x4], M) := (zV_go rfl).trans (congrArg (fun c => zV (zPr sp) (120, 351, [v0, v1, v2, v3], [.int c, .int x0, w1, .int x2, w3, .int x4], M)) zci_2)
set_option maxRecDepth 20000 in
theorem e120_351 {sp : Nat × (Nat → Int32)} {M : zM} {x0 x1 x3 x5 : Int32} {w2 w4 v0 v1 v2 v3 : Value} : zV (zPr sp) (120, 351, [v0, v1, v2, v3], [.int x0, .int x1, w2, .int x3, w4, .int x5], M) = zV (zPr sp) (120, 352, [v0, v1, v2, v3], [.int (x1 + x0), w2, .int x3, w4, .int x5], M) := zV_go rfl
set_option maxRecDepth 20000 in
theorem e120_352 {sp : Nat × (Nat → Int32)} {M : zM} {x0 x2 x4 : Int32} {w3 v0 v1 v2 v3 : Value} {a : Int64} : zV (zPr sp) (120, 352, [v0, v1, v2, v3], [.int x0, .long a, .int x2, w3, .int x4], M) = if zin x0 sp.1 = true then zV (zPr sp) (120, 353, [v0, v1, v2, v3], [.int (sp.2 x0.toNatClampNeg), .int x2, w3, .int x4], M) else none := zV_ifn rfl
set_option maxRecDepth 20000 in
theorem e120_353 {sp : Nat × (Nat → Int32)} {M : zM} {x0 x1 x3 : Int32} {v0 v1 v2 v3 : Value} {a : Nat} : zV (zPr sp) (120, 353, [v0, v1, v2, v3], [.int x0, .int x1, .ref a, .int x3], M) = if (zk M a).1 = 6 then ((zV (zPr sp) (89, 0, [.ref a, .int x1, .int x0, .double 0, .double 0, .double 0, .double 0, .double 0, .double 0, .double 0, .double 0, .double 0, .double 0, .double 0], [], M)).bind fun r => zV (zPr sp) (120, 356, [v0, v1, v2, v3], r.1.toList ++ [.int x3], r.2)) else none := zV_ifc rfl
set_option maxRecDepth 20000 in
theorem e120_356 {sp : Nat × (Nat → Int32)} {M : zM} {x0 x1 : Int32} {v0 v1 v2 v3 : Value} : zV (zPr sp) (120, 356, [v0, v1, v2, v3], [.int x0, .int x1], M) = if x1 = x0 then zV (zPr sp) (120, 734, [v0, v1, v2, v3], [], M) else zV (zPr sp) (120, 359, [v0, v1, v2, v3], [], M) := zV_ifg rfl
set_option maxRecDepth 20000 in
theorem e120_359 {sp : Nat × (Nat → Int32)} {M : zM} {v0 v1 v2 v3 : Value} : zV (zPr sp) (120, 359, [v0, v1, v2, v3], [], M) = zV (zPr sp) (120, 360, [v0, v1, v2, v3], [.int (0)], M) := (zV_go rfl).trans (congrArg (fun c => zV (zPr sp) (120, 360, [v0, v1, v2, v3], [.int c], M)) zci_0)
set_option maxRecDepth 20000 in
theorem e120_360 {sp : Nat × (Nat → Int32)} {M : zM} {x0 : Int32} {v0 v1 v2 v3 : Value} : zV (zPr sp) (120, 360, [v0, v1, v2, v3], [.int x0], M) = if (1 = 0 ∨ x0 = 0 ∨ x0 = 1) then some (some (.int x0), M) else none := zV_ifr rfl
set_option maxRecDepth 20000 in
theorem e120_361 {sp : Nat × (Nat → Int32)} {M : zM} {v0 v1 v2 v3 : Value} : zV (zPr sp) (120, 361, [v0, v1, v2, v3], [], M) = if zAL v1 = true then zV (zPr sp) (120, 362, [v0, v1, v2, v3], [v1], M) else none := zV_ifn rfl
set_option maxRecDepth 20000 in
theorem e120_362 {sp : Nat × (Nat → Int32)} {M : zM} {w0 v0 v1 v2 v3 : Value} : zV (zPr sp) (120, 362, [v0, v1, v2, v3], [w0], M) = if zAL v0 = true then zV (zPr sp) (120, 363, [v0, v1, v2, v3], [v0, w0], M) else none := zV_ifn rfl
set_option maxRecDepth 20000 in
theorem e120_363 {sp : Nat × (Nat → Int32)} {M : zM} {y : Int32} {w0 w1 v0 v1 v2 : Value} : zV (zPr sp) (120, 363, [v0, v1, v2, .int y], [w0, w1], M) = zV (zPr sp) (120, 364, [v0, v1, v2, .int y], [.int y, w0, w1], M) := zV_go rfl
set_option maxRecDepth 20000 in
theorem e120_364 {sp : Nat × (Nat → Int32)} {M : zM} {x0 : Int32} {w1 w2 v0 v1 v2 v3 : Value} : zV (zPr sp) (120, 364, [v0, v1, v2, v3], [.int x0, w1, w2], M) = zV (zPr sp) (120, 365, [v0, v1, v2, v3], [.int (1), .int x0, w1, w2], M) := (zV_go rfl).trans (congrArg (fun c => zV (zPr sp) (120, 365, [v0, v1, v2, v3], [.int c, .int x0, w1, w2], M)) zci_1)
set_option maxRecDepth 20000 in
theorem e120_365 {sp : Nat × (Nat → Int32)} {M : zM} {x0 x1 : Int32} {w2 w3 v0 v1 v2 v3 : Value} : zV (zPr sp) (120, 365, [v0, v1, v2, v3], [.int x0, .int x1, w2, w3], M) = zV (zPr sp) (120, 366, [v0, v1, v2, v3], [.int (x1 + x0), w2, w3], M) := zV_go rfl
set_option maxRecDepth 20000 in
theorem e120_366 {sp : Nat × (Nat → Int32)} {M : zM} {x0 : Int32} {w2 v0 v1 v2 v3 : Value} {a : Int64} : zV (zPr sp) (120, 366, [v0, v1, v2, v3], [.int x0, .long a, w2], M) = if zin x0 sp.1 = true then zV (zPr sp) (120, 367, [v0, v1, v2, v3], [.int (sp.2 x0.toNatClampNeg), w2], M) else none := zV_ifn rfl
set_option maxRecDepth 20000 in
theorem e120_367 {sp : Nat × (Nat → Int32)} {M : zM} {x0 : Int32} {w1 v0 v1 v2 v3 : Value} : zV (zPr sp) (120, 367, [v0, v1, v2, v3], [.int x0, w1], M) = if zAL v0 = true then zV (zPr sp) (120, 368, [v0, v1, v2, v3], [v0, .int x0, w1], M) else none := zV_ifn rfl
set_option maxRecDepth 20000 in
theorem e120_368 {sp : Nat × (Nat → Int32)} {M : zM} {x1 y : Int32} {w0 w2 v0 v1 v2 : Value} : zV (zPr sp) (120, 368, [v0, v1, v2, .int y], [w0, .int x1, w2], M) = zV (zPr sp) (120, 369, [v0, v1, v2, .int y], [.int y, w0, .int x1, w2], M) := zV_go rfl
set_option maxRecDepth 20000 in
theorem e120_369 {sp : Nat × (Nat → Int32)} {M : zM} {x0 x2 : Int32} {w1 w3 v0 v1 v2 v3 : Value} : zV (zPr sp) (120, 369, [v0, v1, v2, v3], [.int x0, w1, .int x2, w3], M) = zV (zPr sp) (120, 370, [v0, v1, v2, v3], [.int (2), .int x0, w1, .int x2, w3], M) := (zV_go rfl).trans (congrArg (fun c => zV (zPr sp) (120, 370, [v0, v1, v2, v3], [.int c, .int x0, w1, .int x2, w3], M)) zci_2)
set_option maxRecDepth 20000 in
theorem e120_370 {sp : Nat × (Nat → Int32)} {M : zM} {x0 x1 x3 : Int32} {w2 w4 v0 v1 v2 v3 : Value} : zV (zPr sp) (120, 370, [v0, v1, v2, v3], [.int x0, .int x1, w2, .int x3, w4], M) = zV (zPr sp) (120, 371, [v0, v1, v2, v3], [.int (x1 + x0), w2, .int x3, w4], M) := zV_go rfl
set_option maxRecDepth 20000 in
theorem e120_371 {sp : Nat × (Nat → Int32)} {M : zM} {x0 x2 : Int32} {w3 v0 v1 v2 v3 : Value} {a : Int64} : zV (zPr sp) (120, 371, [v0, v1, v2, v3], [.int x0, .long a, .int x2, w3], M) = if zin x0 sp.1 = true then zV (zPr sp) (120, 372, [v0, v1, v2, v3], [.int (sp.2 x0.toNatClampNeg), .int x2, w3], M) else none := zV_ifn rfl
set_option maxRecDepth 20000 in
theorem e120_372 {sp : Nat × (Nat → Int32)} {M : zM} {x0 x1 : Int32} {v0 v1 v2 v3 : Value} {a : Nat} : zV (zPr sp) (120, 372, [v0, v1, v2, v3], [.int x0, .int x1, .ref a], M) = if (zk M a).1 = 5 then ((zV (zPr sp) (60, 0, [.ref a, .int x1, .int x0, .double 0], [], M)).bind fun r => zV (zPr sp) (120, 375, [v0, v1, v2, v3], r.1.toList ++ [], r.2)) else none := zV_ifc rfl
set_option maxRecDepth 20000 in
theorem e120_375 {sp : Nat × (Nat → Int32)} {M : zM} {x0 : Int32} {v0 v1 v2 v3 : Value} : zV (zPr sp) (120, 375, [v0, v1, v2, v3], [.int x0], M) = if zAL v2 = true then zV (zPr sp) (120, 376, [v0, v1, v2, v3], [v2, .int x0], M) else none := zV_ifn rfl
set_option maxRecDepth 20000 in
theorem e120_376 {sp : Nat × (Nat → Int32)} {M : zM} {x1 : Int32} {w0 v0 v1 v2 v3 : Value} : zV (zPr sp) (120, 376, [v0, v1, v2, v3], [w0, .int x1], M) = if zAL v0 = true then zV (zPr sp) (120, 377, [v0, v1, v2, v3], [v0, w0, .int x1], M) else none := zV_ifn rfl
set_option maxRecDepth 20000 in
theorem e120_377 {sp : Nat × (Nat → Int32)} {M : zM} {x2 y : Int32} {w0 w1 v0 v1 v2 : Value} : zV (zPr sp) (120, 377, [v0, v1, v2, .int y], [w0, w1, .int x2], M) = zV (zPr sp) (120, 378, [v0, v1, v2, .int y], [.int y, w0, w1, .int x2], M) := zV_go rfl
set_option maxRecDepth 20000 in
theorem e120_378 {sp : Nat × (Nat → Int32)} {M : zM} {x0 x3 : Int32} {w1 w2 v0 v1 v2 v3 : Value} : zV (zPr sp) (120, 378, [v0, v1, v2, v3], [.int x0, w1, w2, .int x3], M) = zV (zPr sp) (120, 379, [v0, v1, v2, v3], [.int (1), .int x0, w1, w2, .int x3], M) := (zV_go rfl).trans (congrArg (fun c => zV (zPr sp) (120, 379, [v0, v1, v2, v3], [.int c, .int x0, w1, w2, .int x3], M)) zci_1)
set_option maxRecDepth 20000 in
theorem e120_379 {sp : Nat × (Nat → Int32)} {M : zM} {x0 x1 x4 : Int32} {w2 w3 v0 v1 v2 v3 : Value} : zV (zPr sp) (120, 379, [v0, v1, v2, v3], [.int x0, .int x1, w2, w3, .int x4], M) = zV (zPr sp) (120, 380, [v0, v1, v2, v3], [.int (x1 + x0), w2, w3, .int x4], M) := zV_go rfl
set_option maxRecDepth 20000 in
theorem e120_380 {sp : Nat × (Nat → Int32)} {M : zM} {x0 x3 : Int32} {w2 v0 v1 v2 v3 : Value} {a : Int64} : zV (zPr sp) (120, 380, [v0, v1, v2, v3], [.int x0, .long a, w2, .int x3], M) = if zin x0 sp.1 = true then zV (zPr sp) (120, 381, [v0, v1, v2, v3], [.int (sp.2 x0.toNatClampNeg), w2, .int x3], M) else none := zV_ifn rfl
set_option maxRecDepth 20000 in
theorem e120_381 {sp : Nat × (Nat → Int32)} {M : zM} {x0 x2 : Int32} {w1 v0 v1 v2 v3 : Value} : zV (zPr sp) (120, 381, [v0, v1, v2, v3], [.int x0, w1, .int x2], M) = if zAL v0 = true then zV (zPr sp) (120, 382, [v0, v1, v2, v3], [v0, .int x0, w1, .int x2], M) else none := zV_ifn rfl
set_option maxRecDepth 20000 in
theorem e120_382 {sp : Nat × (Nat → Int32)} {M : zM} {x1 x3 y : Int32} {w0 w2 v0 v1 v2 : Value} : zV (zPr sp) (120, 382, [v0, v1, v2, .int y], [w0, .int x1, w2, .int x3], M) = zV (zPr sp) (120, 383, [v0, v1, v2, .int y], [.int y, w0, .int x1, w2, .int x3], M) := zV_go rfl
set_option maxRecDepth 20000 in
theorem e120_383 {sp : Nat × (Nat → Int32)} {M : zM} {x0 x2 x4 : Int32} {w1 w3 v0 v1 v2 v3 : Value} : zV (zPr sp) (120, 383, [v0, v1, v2, v3], [.int x0, w1, .int x2, w3, .int x4], M) = zV (zPr sp) (120, 384, [v0, v1, v2, v3], [.int (2), .int x0, w1, .int x2, w3, .int x4], M) := (zV_go rfl).trans (congrArg (fun c => zV (zPr sp) (120, 384, [v0, v1, v2, v3], [.int c, .int x0, w1, .int x2, w3, .int x4], M)) zci_2)
set_option maxRecDepth 20000 in
theorem e120_384 {sp : Nat × (Nat → Int32)} {M : zM} {x0 x1 x3 x5 : Int32} {w2 w4 v0 v1 v2 v3 : Value} : zV (zPr sp) (120, 384, [v0, v1, v2, v3], [.int x0, .int x1, w2, .int x3, w4, .int x5], M) = zV (zPr sp) (120, 385, [v0, v1, v2, v3], [.int (x1 + x0), w2, .int x3, w4, .int x5], M) := zV_go rfl
set_option maxRecDepth 20000 in
theorem e120_385 {sp : Nat × (Nat → Int32)} {M : zM} {x0 x2 x4 : Int32} {w3 v0 v1 v2 v3 : Value} {a : Int64} : zV (zPr sp) (120, 385, [v0, v1, v2, v3], [.int x0, .long a, .int x2, w3, .int x4], M) = if zin x0 sp.1 = true then zV (zPr sp) (120, 386, [v0, v1, v2, v3], [.int (sp.2 x0.toNatClampNeg), .int x2, w3, .int x4], M) else none := zV_ifn rfl
set_option maxRecDepth 20000 in
theorem e120_386 {sp : Nat × (Nat → Int32)} {M : zM} {x0 x1 x3 : Int32} {v0 v1 v2 v3 : Value} {a : Nat} : zV (zPr sp) (120, 386, [v0, v1, v2, v3], [.int x0, .int x1, .ref a, .int x3], M) = if (zk M a).1 = 6 then ((zV (zPr sp) (102, 0, [.ref a, .int x1, .int x0], [], M)).bind fun r => zV (zPr sp) (120, 389, [v0, v1, v2, v3], r.1.toList ++ [.int x3], r.2)) else none := zV_ifc rfl
set_option maxRecDepth 20000 in
theorem e120_389 {sp : Nat × (Nat → Int32)} {M : zM} {x0 x1 : Int32} {v0 v1 v2 v3 : Value} : zV (zPr sp) (120, 389, [v0, v1, v2, v3], [.int x0, .int x1], M) = if x1 = x0 then zV (zPr sp) (120, 734, [v0, v1, v2, v3], [], M) else zV (zPr sp) (120, 392, [v0, v1, v2, v3], [], M) := zV_ifg rfl
set_option maxRecDepth 20000 in
theorem e120_392 {sp : Nat × (Nat → Int32)} {M : zM} {v0 v1 v2 v3 : Value} : zV (zPr sp) (120, 392, [v0, v1, v2, v3], [], M) = zV (zPr sp) (120, 393, [v0, v1, v2, v3], [.int (0)], M) := (zV_go rfl).trans (congrArg (fun c => zV (zPr sp) (120, 393, [v0, v1, v2, v3], [.int c], M)) zci_0)
set_option maxRecDepth 20000 in
theorem e120_393 {sp : Nat × (Nat → Int32)} {M : zM} {x0 : Int32} {v0 v1 v2 v3 : Value} : zV (zPr sp) (120, 393, [v0, v1, v2, v3], [.int x0], M) = if (1 = 0 ∨ x0 = 0 ∨ x0 = 1) then some (some (.int x0), M) else none := zV_ifr rfl
set_option maxRecDepth 20000 in
theorem e120_394 {sp : Nat × (Nat → Int32)} {M : zM} {v0 v1 v2 v3 : Value} : zV (zPr sp) (120, 394, [v0, v1, v2, v3], [], M) = if zAL v1 = true then zV (zPr sp) (120, 395, [v0, v1, v2, v3], [v1], M) else none := zV_ifn rfl
set_option maxRecDepth 20000 in
theorem e120_395 {sp : Nat × (Nat → Int32)} {M : zM} {w0 v0 v1 v2 v3 : Value} : zV (zPr sp) (120, 395, [v0, v1, v2, v3], [w0], M) = if zAL v0 = true then zV (zPr sp) (120, 396, [v0, v1, v2, v3], [v0, w0], M) else none := zV_ifn rfl
set_option maxRecDepth 20000 in
theorem e120_396 {sp : Nat × (Nat → Int32)} {M : zM} {y : Int32} {w0 w1 v0 v1 v2 : Value} : zV (zPr sp) (120, 396, [v0, v1, v2, .int y], [w0, w1], M) = zV (zPr sp) (120, 397, [v0, v1, v2, .int y], [.int y, w0, w1], M) := zV_go rfl
set_option maxRecDepth 20000 in
theorem e120_397 {sp : Nat × (Nat → Int32)} {M : zM} {x0 : Int32} {w1 w2 v0 v1 v2 v3 : Value} : zV (zPr sp) (120, 397, [v0, v1, v2, v3], [.int x0, w1, w2], M) = zV (zPr sp) (120, 398, [v0, v1, v2, v3], [.int (1), .int x0, w1, w2], M) := (zV_go rfl).trans (congrArg (fun c => zV (zPr sp) (120, 398, [v0, v1, v2, v3], [.int c, .int x0, w1, w2], M)) zci_1)
set_option maxRecDepth 20000 in
theorem e120_398 {sp : Nat × (Nat → Int32)} {M : zM} {x0 x1 : Int32} {w2 w3 v0 v1 v2 v3 : Value} : zV (zPr sp) (120, 398, [v0, v1, v2, v3], [.int x0, .int x1, w2, w3], M) = zV (zPr sp) (120, 399, [v0, v1, v2, v3], [.int (x1 + x0), w2, w3], M) := zV_go rfl
set_option maxRecDepth 20000 in
theorem e120_399 {sp : Nat × (Nat → Int32)} {M : zM} {x0 : Int32} {w2 v0 v1 v2 v3 : Value} {a : Int64} : zV (zPr sp) (120, 399, [v0, v1, v2, v3], [.int x0, .long a, w2], M) = if zin x0 sp.1 = true then zV (zPr sp) (120, 400, [v0, v1, v2, v3], [.int (sp.2 x0.toNatClampNeg), w2], M) else none := zV_ifn rfl
set_option maxRecDepth 20000 in
theorem e120_400 {sp : Nat × (Nat → Int32)} {M : zM} {x0 : Int32} {v0 v1 v2 v3 : Value} {a : Nat} : zV (zPr sp) (120, 400, [v0, v1, v2, v3], [.int x0, .ref a], M) = if (zk M a).1 = 5 then ((zV (zPr sp) (61, 0, [.ref a, .int x0, .double 0, .double 0], [], M)).bind fun r => zV (zPr sp) (120, 403, [v0, v1, v2, v3], r.1.toList ++ [], r.2)) else none := zV_ifc rfl
set_option maxRecDepth 20000 in
theorem e120_403 {sp : Nat × (Nat → Int32)} {M : zM} {x0 : Int32} {v0 v1 v2 v3 : Value} : zV (zPr sp) (120, 403, [v0, v1, v2, v3], [.int x0], M) = if zAL v2 = true then zV (zPr sp) (120, 404, [v0, v1, v2, v3], [v2, .int x0], M) else none := zV_ifn rfl
set_option maxRecDepth 20000 in
theorem e120_404 {sp : Nat × (Nat → Int32)} {M : zM} {x1 : Int32} {w0 v0 v1 v2 v3 : Value} : zV (zPr sp) (120, 404, [v0, v1, v2, v3], [w0, .int x1], M) = if zAL v0 = true then zV (zPr sp) (120, 405, [v0, v1, v2, v3], [v0, w0, .int x1], M) else none := zV_ifn rfl
set_option maxRecDepth 20000 in
theorem e120_405 {sp : Nat × (Nat → Int32)} {M : zM} {x2 y : Int32} {w0 w1 v0 v1 v2 : Value} : zV (zPr sp) (120, 405, [v0, v1, v2, .int y], [w0, w1, .int x2], M) = zV (zPr sp) (120, 406, [v0, v1, v2, .int y], [.int y, w0, w1, .int x2], M) := zV_go rfl
set_option maxRecDepth 20000 in
theorem e120_406 {sp : Nat × (Nat → Int32)} {M : zM} {x0 x3 : Int32} {w1 w2 v0 v1 v2 v3 : Value} : zV (zPr sp) (120, 406, [v0, v1, v2, v3], [.int x0, w1, w2, .int x3], M) = zV (zPr sp) (120, 407, [v0, v1, v2, v3], [.int (1), .int x0, w1, w2, .int x3], M) := (zV_go rfl).trans (congrArg (fun c => zV (zPr sp) (120, 407, [v0, v1, v2, v3], [.int c, .int x0, w1, w2, .int x3], M)) zci_1)
set_option maxRecDepth 20000 in
theorem e120_407 {sp : Nat × (Nat → Int32)} {M : zM} {x0 x1 x4 : Int32} {w2 w3 v0 v1 v2 v3 : Value} : zV (zPr sp) (120, 407, [v0, v1, v2, v3], [.int x0, .int x1, w2, w3, .int x4], M) = zV (zPr sp) (120, 408, [v0, v1, v2, v3], [.int (x1 + x0), w2, w3, .int x4], M) := zV_go rfl
set_option maxRecDepth 20000 in
theorem e120_408 {sp : Nat × (Nat → Int32)} {M : zM} {x0 x3 : Int32} {w2 v0 v1 v2 v3 : Value} {a : Int64} : zV (zPr sp) (120, 408, [v0, v1, v2, v3], [.int x0, .long a, w2, .int x3], M) = if zin x0 sp.1 = true then zV (zPr sp) (120, 409, [v0, v1, v2, v3], [.int (sp.2 x0.toNatClampNeg), w2, .int x3], M) else none := zV_ifn rfl
set_option maxRecDepth 20000 in
theorem e120_409 {sp : Nat × (Nat → Int32)} {M : zM} {x0 x2 : Int32} {v0 v1 v2 v3 : Value} {a : Nat} : zV (zPr sp) (120, 409, [v0, v1, v2, v3], [.int x0, .ref a, .int x2], M) = if (zk M a).1 = 6 then ((zV (zPr sp) (74, 0, [.ref a, .int x0, .double 0, .double 0], [], M)).bind fun r => zV (zPr sp) (120, 412, [v0, v1, v2, v3], r.1.toList ++ [.int x2], r.2)) else none := zV_ifc rfl
set_option maxRecDepth 20000 in
theorem e120_412 {sp : Nat × (Nat → Int32)} {M : zM} {x0 x1 : Int32} {v0 v1 v2 v3 : Value} : zV (zPr sp) (120, 412, [v0, v1, v2, v3], [.int x0, .int x1], M) = if x1 = x0 then zV (zPr sp) (120, 734, [v0, v1, v2, v3], [], M) else zV (zPr sp) (120, 415, [v0, v1, v2, v3], [], M) := zV_ifg rfl
set_option maxRecDepth 20000 in
theorem e120_415 {sp : Nat × (Nat → Int32)} {M : zM} {v0 v1 v2 v3 : Value} : zV (zPr sp) (120, 415, [v0, v1, v2, v3], [], M) = zV (zPr sp) (120, 416, [v0, v1, v2, v3], [.int (0)], M) := (zV_go rfl).trans (congrArg (fun c => zV (zPr sp) (120, 416, [v0, v1, v2, v3], [.int c], M)) zci_0)
set_option maxRecDepth 20000 in
theorem e120_416 {sp : Nat × (Nat → Int32)} {M : zM} {x0 : Int32} {v0 v1 v2 v3 : Value} : zV (zPr sp) (120, 416, [v0, v1, v2, v3], [.int x0], M) = if (1 = 0 ∨ x0 = 0 ∨ x0 = 1) then some (some (.int x0), M) else none := zV_ifr rfl
set_option maxRecDepth 20000 in
theorem e120_417 {sp : Nat × (Nat → Int32)} {M : zM} {v0 v1 v2 v3 : Value} : zV (zPr sp) (120, 417, [v0, v1, v2, v3], [], M) = if zAL v1 = true then zV (zPr sp) (120, 418, [v0, v1, v2, v3], [v1], M) else none := zV_ifn rfl
