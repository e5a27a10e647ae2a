/-! ===== the law, piece by piece ===== -/
set_option maxRecDepth 100000 in
theorem x_hd (h : xH) (L : Nat) (xs : Nat → Int32) (i : Int32) {P : Option Value × xH × Nat × Nat → Prop} (k1 : Int32.ofNat L - 6 < i → x_R x_mt (some (L, xs)) 10 M_law (2374, [(3, .int i), (2, .ref 75), (1, .ref 0), (0, .ref x_scr)], [], h, 98, 10728) P) (k2 : ¬ Int32.ofNat L - 6 < i → x_R x_mt (some (L, xs)) 10 M_law (27, [(3, .int i), (2, .ref 75), (1, .ref 0), (0, .ref x_scr)], [], h, 98, 10728) P) : x_R x_mt (some (L, xs)) 10 M_law (18, [(3, .int i), (2, .ref 75), (1, .ref 0), (0, .ref x_scr)], [], h, 98, 10728) P := by
  refine x_R.steps 5 (c' := (24, [(3, .int i), (2, .ref 75), (1, .ref 0), (0, .ref x_scr)], [.int (Int32.ofNat L - 6), .int i], h, 98, 10728)) rfl ?_
  exact x_R.ite (p := Int32.ofNat L - 6 < i) (c1 := (2374, [(3, .int i), (2, .ref 75), (1, .ref 0), (0, .ref x_scr)], [], h, 98, 10728)) (c2 := (27, [(3, .int i), (2, .ref 75), (1, .ref 0), (0, .ref x_scr)], [], h, 98, 10728)) rfl k1 k2

set_option maxRecDepth 100000 in
theorem x_sw (h : xH) (L : Nat) (xs : Nat → Int32) (i : Int32) (h0 : ¬ (i < 0 ∨ L ≤ (i).toNatClampNeg)) (h1 : ¬ (i + 1 < 0 ∨ L ≤ (i + 1).toNatClampNeg)) (h2 : ¬ (i + 2 < 0 ∨ L ≤ (i + 2).toNatClampNeg)) (h3 : ¬ (i + 3 < 0 ∨ L ≤ (i + 3).toNatClampNeg)) (h4 : ¬ (i + 4 < 0 ∨ L ≤ (i + 4).toNatClampNeg)) (h5 : ¬ (i + 5 < 0 ∨ L ≤ (i + 5).toNatClampNeg)) {P : Option Value × xH × Nat × Nat → Prop} (kk : x_R x_mt (some (L, xs)) 10 M_law (33, [(3, .int i), (2, .ref 75), (1, .ref 0), (0, .ref x_scr)], [.int ((xs (i).toNatClampNeg) &&& 127)], h, 98, 10728) P) : x_R x_mt (some (L, xs)) 10 M_law (27, [(3, .int i), (2, .ref 75), (1, .ref 0), (0, .ref x_scr)], [], h, 98, 10728) P := by
  refine j_Lst (c' := (28, [(3, .int i), (2, .ref 75), (1, .ref 0), (0, .ref x_scr)], [.ref x_scr], h, 98, 10728)) lr_27 rfl ?_
  refine j_Lst (c' := (29, [(3, .int i), (2, .ref 75), (1, .ref 0), (0, .ref x_scr)], [.int i, .ref x_scr], h, 98, 10728)) lr_28 rfl ?_
  refine j_Lsl (c' := (30, [(3, .int i), (2, .ref 75), (1, .ref 0), (0, .ref x_scr)], [.int (xs (i).toNatClampNeg)], h, 98, 10728)) lr_29 rfl h0 ?_
  refine j_Lst (c' := (32, [(3, .int i), (2, .ref 75), (1, .ref 0), (0, .ref x_scr)], [.int 127, .int (xs (i).toNatClampNeg)], h, 98, 10728)) lr_30 rfl ?_
  refine j_Lst (c' := (33, [(3, .int i), (2, .ref 75), (1, .ref 0), (0, .ref x_scr)], [.int ((xs (i).toNatClampNeg) &&& 127)], h, 98, 10728)) lr_32 rfl ?_
  exact kk

set_option maxRecDepth 100000 in
theorem x_c0a (h : xH) (L : Nat) (xs : Nat → Int32) (i : Int32) (h0 : ¬ (i < 0 ∨ L ≤ (i).toNatClampNeg)) (h1 : ¬ (i + 1 < 0 ∨ L ≤ (i + 1).toNatClampNeg)) (h2 : ¬ (i + 2 < 0 ∨ L ≤ (i + 2).toNatClampNeg)) (h3 : ¬ (i + 3 < 0 ∨ L ≤ (i + 3).toNatClampNeg)) (h4 : ¬ (i + 4 < 0 ∨ L ≤ (i + 4).toNatClampNeg)) (h5 : ¬ (i + 5 < 0 ∨ L ≤ (i + 5).toNatClampNeg)) {P : Option Value × xH × Nat × Nat → Prop} (kk : x_R x_mt (some (L, xs)) 10 M_law (354, [(3, .int i), (2, .ref 75), (1, .ref 0), (0, .ref x_scr)], [.int (xs ((i + 5)).toNatClampNeg), .int (xs ((i + 4)).toNatClampNeg), .int (xs ((i + 3)).toNatClampNeg), .int (xs ((i + 2)).toNatClampNeg), .int (xs ((i + 1)).toNatClampNeg), .ref 0], h, 98, 10728) P) : x_R x_mt (some (L, xs)) 10 M_law (328, [(3, .int i), (2, .ref 75), (1, .ref 0), (0, .ref x_scr)], [], h, 98, 10728) P := by
  refine j_Lst (c' := (329, [(3, .int i), (2, .ref 75), (1, .ref 0), (0, .ref x_scr)], [.ref 0], h, 98, 10728)) lr_328 rfl ?_
  refine j_Lst (c' := (330, [(3, .int i), (2, .ref 75), (1, .ref 0), (0, .ref x_scr)], [.ref x_scr, .ref 0], h, 98, 10728)) lr_329 rfl ?_
  refine j_Lst (c' := (331, [(3, .int i), (2, .ref 75), (1, .ref 0), (0, .ref x_scr)], [.int i, .ref x_scr, .ref 0], h, 98, 10728)) lr_330 rfl ?_
  refine j_Lst (c' := (332, [(3, .int i), (2, .ref 75), (1, .ref 0), (0, .ref x_scr)], [.int 1, .int i, .ref x_scr, .ref 0], h, 98, 10728)) lr_331 rfl ?_
  refine j_Lst (c' := (333, [(3, .int i), (2, .ref 75), (1, .ref 0), (0, .ref x_scr)], [.int (i + 1), .ref x_scr, .ref 0], h, 98, 10728)) lr_332 rfl ?_
  refine j_Lsl (c' := (334, [(3, .int i), (2, .ref 75), (1, .ref 0), (0, .ref x_scr)], [.int (xs ((i + 1)).toNatClampNeg), .ref 0], h, 98, 10728)) lr_333 rfl h1 ?_
  refine j_Lst (c' := (335, [(3, .int i), (2, .ref 75), (1, .ref 0), (0, .ref x_scr)], [.ref x_scr, .int (xs ((i + 1)).toNatClampNeg), .ref 0], h, 98, 10728)) lr_334 rfl ?_
  refine j_Lst (c' := (336, [(3, .int i), (2, .ref 75), (1, .ref 0), (0, .ref x_scr)], [.int i, .ref x_scr, .int (xs ((i + 1)).toNatClampNeg), .ref 0], h, 98, 10728)) lr_335 rfl ?_
  refine j_Lst (c' := (337, [(3, .int i), (2, .ref 75), (1, .ref 0), (0, .ref x_scr)], [.int 2, .int i, .ref x_scr, .int (xs ((i + 1)).toNatClampNeg), .ref 0], h, 98, 10728)) lr_336 rfl ?_
  refine j_Lst (c' := (338, [(3, .int i), (2, .ref 75), (1, .ref 0), (0, .ref x_scr)], [.int (i + 2), .ref x_scr, .int (xs ((i + 1)).toNatClampNeg), .ref 0], h, 98, 10728)) lr_337 rfl ?_
  refine j_Lsl (c' := (339, [(3, .int i), (2, .ref 75), (1, .ref 0), (0, .ref x_scr)], [.int (xs ((i + 2)).toNatClampNeg), .int (xs ((i + 1)).toNatClampNeg), .ref 0], h, 98, 10728)) lr_338 rfl h2 ?_
  refine j_Lst (c' := (340, [(3, .int i), (2, .ref 75), (1, .ref 0), (0, .ref x_scr)], [.ref x_scr, .int (xs ((i + 2)).toNatClampNeg), .int (xs ((i + 1)).toNatClampNeg), .ref 0], h, 98, 10728)) lr_339 rfl ?_
  refine j_Lst (c' := (341, [(3, .int i), (2, .ref 75), (1, .ref 0), (0, .ref x_scr)], [.int i, .ref x_scr, .int (xs ((i + 2)).toNatClampNeg), .int (xs ((i + 1)).toNatClampNeg), .ref 0], h, 98, 10728)) lr_340 rfl ?_
  refine j_Lst (c' := (342, [(3, .int i), (2, .ref 75), (1, .ref 0), (0, .ref x_scr)], [.int 3, .int i, .ref x_scr, .int (xs ((i + 2)).toNatClampNeg), .int (xs ((i + 1)).toNatClampNeg), .ref 0], h, 98, 10728)) lr_341 rfl ?_
  refine j_Lst (c' := (343, [(3, .int i), (2, .ref 75), (1, .ref 0), (0, .ref x_scr)], [.int (i + 3), .ref x_scr, .int (xs ((i + 2)).toNatClampNeg), .int (xs ((i + 1)).toNatClampNeg), .ref 0], h, 98, 10728)) lr_342 rfl ?_
  refine j_Lsl (c' := (344, [(3, .int i), (2, .ref 75), (1, .ref 0), (0, .ref x_scr)], [.int (xs ((i + 3)).toNatClampNeg), .int (xs ((i + 2)).toNatClampNeg), .int (xs ((i + 1)).toNatClampNeg), .ref 0], h, 98, 10728)) lr_343 rfl h3 ?_
  refine j_Lst (c' := (345, [(3, .int i), (2, .ref 75), (1, .ref 0), (0, .ref x_scr)], [.ref x_scr, .int (xs ((i + 3)).toNatClampNeg), .int (xs ((i + 2)).toNatClampNeg), .int (xs ((i + 1)).toNatClampNeg), .ref 0], h, 98, 10728)) lr_344 rfl ?_
  refine j_Lst (c' := (346, [(3, .int i), (2, .ref 75), (1, .ref 0), (0, .ref x_scr)], [.int i, .ref x_scr, .int (xs ((i + 3)).toNatClampNeg), .int (xs ((i + 2)).toNatClampNeg), .int (xs ((i + 1)).toNatClampNeg), .ref 0], h, 98, 10728)) lr_345 rfl ?_
  refine j_Lst (c' := (347, [(3, .int i), (2, .ref 75), (1, .ref 0), (0, .ref x_scr)], [.int 4, .int i, .ref x_scr, .int (xs ((i + 3)).toNatClampNeg), .int (xs ((i + 2)).toNatClampNeg), .int (xs ((i + 1)).toNatClampNeg), .ref 0], h, 98, 10728)) lr_346 rfl ?_
  refine j_Lst (c' := (348, [(3, .int i), (2, .ref 75), (1, .ref 0), (0, .ref x_scr)], [.int (i + 4), .ref x_scr, .int (xs ((i + 3)).toNatClampNeg), .int (xs ((i + 2)).toNatClampNeg), .int (xs ((i + 1)).toNatClampNeg), .ref 0], h, 98, 10728)) lr_347 rfl ?_
  refine j_Lsl (c' := (349, [(3, .int i), (2, .ref 75), (1, .ref 0), (0, .ref x_scr)], [.int (xs ((i + 4)).toNatClampNeg), .int (xs ((i + 3)).toNatClampNeg), .int (xs ((i + 2)).toNatClampNeg), .int (xs ((i + 1)).toNatClampNeg), .ref 0], h, 98, 10728)) lr_348 rfl h4 ?_
  refine j_Lst (c' := (350, [(3, .int i), (2, .ref 75), (1, .ref 0), (0, .ref x_scr)], [.ref x_scr, .int (xs ((i + 4)).toNatClampNeg), .int (xs ((i + 3)).toNatClampNeg), .int (xs ((i + 2)).toNatClampNeg), .int (xs ((i + 1)).toNatClampNeg), .ref 0], h, 98, 10728)) lr_349 rfl ?_
  refine j_Lst (c' := (351, [(3, .int i), (2, .ref 75), (1, .ref 0), (0, .ref x_scr)], [.int i, .ref x_scr, .int (xs ((i + 4)).toNatClampNeg), .int (xs ((i + 3)).toNatClampNeg), .int (xs ((i + 2)).toNatClampNeg), .int (xs ((i + 1)).toNatClampNeg), .ref 0], h, 98, 10728)) lr_350 rfl ?_
  refine j_Lst (c' := (352, [(3, .int i), (2, .ref 75), (1, .ref 0), (0, .ref x_scr)], [.int 5, .int i, .ref x_scr, .int (xs ((i + 4)).toNatClampNeg), .int (xs ((i + 3)).toNatClampNeg), .int (xs ((i + 2)).toNatClampNeg), .int (xs ((i + 1)).toNatClampNeg), .ref 0], h, 98, 10728)) lr_351 rfl ?_
  refine j_Lst (c' := (353, [(3, .int i), (2, .ref 75), (1, .ref 0), (0, .ref x_scr)], [.int (i + 5), .ref x_scr, .int (xs ((i + 4)).toNatClampNeg), .int (xs ((i + 3)).toNatClampNeg), .int (xs ((i + 2)).toNatClampNeg), .int (xs ((i + 1)).toNatClampNeg), .ref 0], h, 98, 10728)) lr_352 rfl ?_
  refine j_Lsl (c' := (354, [(3, .int i), (2, .ref 75), (1, .ref 0), (0, .ref x_scr)], [.int (xs ((i + 5)).toNatClampNeg), .int (xs ((i + 4)).toNatClampNeg), .int (xs ((i + 3)).toNatClampNeg), .int (xs ((i + 2)).toNatClampNeg), .int (xs ((i + 1)).toNatClampNeg), .ref 0], h, 98, 10728)) lr_353 rfl h5 ?_
  exact kk

set_option maxRecDepth 100000 in
theorem x_c0b (h : xH) (L : Nat) (xs : Nat → Int32) (i : Int32) (h0 : ¬ (i < 0 ∨ L ≤ (i).toNatClampNeg)) (h1 : ¬ (i + 1 < 0 ∨ L ≤ (i + 1).toNatClampNeg)) (h2 : ¬ (i + 2 < 0 ∨ L ≤ (i + 2).toNatClampNeg)) (h3 : ¬ (i + 3 < 0 ∨ L ≤ (i + 3).toNatClampNeg)) (h4 : ¬ (i + 4 < 0 ∨ L ≤ (i + 4).toNatClampNeg)) (h5 : ¬ (i + 5 < 0 ∨ L ≤ (i + 5).toNatClampNeg)) (v : Int32) {P : Option Value × xH × Nat × Nat → Prop} (kk : x_R x_mt (some (L, xs)) 10 M_law (384, [(3, .int i), (2, .ref 75), (1, .ref 0), (0, .ref x_scr)], [.int (xs ((i + 5)).toNatClampNeg), .int (xs ((i + 4)).toNatClampNeg), .int (xs ((i + 3)).toNatClampNeg), .int (xs ((i + 2)).toNatClampNeg), .int (xs ((i + 1)).toNatClampNeg), .ref 75], h, 98, 10728) P) : x_R x_mt (some (L, xs)) 10 M_law (357, [(3, .int i), (2, .ref 75), (1, .ref 0), (0, .ref x_scr)], [.int v], h, 98, 10728) P := by
  refine j_Lst (c' := (358, [(3, .int i), (2, .ref 75), (1, .ref 0), (0, .ref x_scr)], [], h, 98, 10728)) lr_357 rfl ?_
  refine j_Lst (c' := (359, [(3, .int i), (2, .ref 75), (1, .ref 0), (0, .ref x_scr)], [.ref 75], h, 98, 10728)) lr_358 rfl ?_
  refine j_Lst (c' := (360, [(3, .int i), (2, .ref 75), (1, .ref 0), (0, .ref x_scr)], [.ref x_scr, .ref 75], h, 98, 10728)) lr_359 rfl ?_
  refine j_Lst (c' := (361, [(3, .int i), (2, .ref 75), (1, .ref 0), (0, .ref x_scr)], [.int i, .ref x_scr, .ref 75], h, 98, 10728)) lr_360 rfl ?_
  refine j_Lst (c' := (362, [(3, .int i), (2, .ref 75), (1, .ref 0), (0, .ref x_scr)], [.int 1, .int i, .ref x_scr, .ref 75], h, 98, 10728)) lr_361 rfl ?_
  refine j_Lst (c' := (363, [(3, .int i), (2, .ref 75), (1, .ref 0), (0, .ref x_scr)], [.int (i + 1), .ref x_scr, .ref 75], h, 98, 10728)) lr_362 rfl ?_
  refine j_Lsl (c' := (364, [(3, .int i), (2, .ref 75), (1, .ref 0), (0, .ref x_scr)], [.int (xs ((i + 1)).toNatClampNeg), .ref 75], h, 98, 10728)) lr_363 rfl h1 ?_
  refine j_Lst (c' := (365, [(3, .int i), (2, .ref 75), (1, .ref 0), (0, .ref x_scr)], [.ref x_scr, .int (xs ((i + 1)).toNatClampNeg), .ref 75], h, 98, 10728)) lr_364 rfl ?_
  refine j_Lst (c' := (366, [(3, .int i), (2, .ref 75), (1, .ref 0), (0, .ref x_scr)], [.int i, .ref x_scr, .int (xs ((i + 1)).toNatClampNeg), .ref 75], h, 98, 10728)) lr_365 rfl ?_
  refine j_Lst (c' := (367, [(3, .int i), (2, .ref 75), (1, .ref 0), (0, .ref x_scr)], [.int 2, .int i, .ref x_scr, .int (xs ((i + 1)).toNatClampNeg), .ref 75], h, 98, 10728)) lr_366 rfl ?_
  refine j_Lst (c' := (368, [(3, .int i), (2, .ref 75), (1, .ref 0), (0, .ref x_scr)], [.int (i + 2), .ref x_scr, .int (xs ((i + 1)).toNatClampNeg), .ref 75], h, 98, 10728)) lr_367 rfl ?_
  refine j_Lsl (c' := (369, [(3, .int i), (2, .ref 75), (1, .ref 0), (0, .ref x_scr)], [.int (xs ((i + 2)).toNatClampNeg), .int (xs ((i + 1)).toNatClampNeg), .ref 75], h, 98, 10728)) lr_368 rfl h2 ?_
  refine j_Lst (c' := (370, [(3, .int i), (2, .ref 75), (1, .ref 0), (0, .ref x_scr)], [.ref x_scr, .int (xs ((i + 2)).toNatClampNeg), .int (xs ((i + 1)).toNatClampNeg), .ref 75], h, 98, 10728)) lr_369 rfl ?_
  refine j_Lst (c' := (371, [(3, .int i), (2, .ref 75), (1, .ref 0), (0, .ref x_scr)], [.int i, .ref x_scr, .int (xs ((i + 2)).toNatClampNeg), .int (xs ((i + 1)).toNatClampNeg), .ref 75], h, 98, 10728)) lr_370 rfl ?_
  refine j_Lst (c' := (372, [(3, .int i), (2, .ref 75), (1, .ref 0), (0, .ref x_scr)], [.int 3, .int i, .ref x_scr, .int (xs ((i + 2)).toNatClampNeg), .int (xs ((i + 1)).toNatClampNeg), .ref 75], h, 98, 10728)) lr_371 rfl ?_
  refine j_Lst (c' := (373, [(3, .int i), (2, .ref 75), (1, .ref 0), (0, .ref x_scr)], [.int (i + 3), .ref x_scr, .int (xs ((i + 2)).toNatClampNeg), .int (xs ((i + 1)).toNatClampNeg), .ref 75], h, 98, 10728)) lr_372 rfl ?_
  refine j_Lsl (c' := (374, [(3, .int i), (2, .ref 75), (1, .ref 0), (0, .ref x_scr)], [.int (xs ((i + 3)).toNatClampNeg), .int (xs ((i + 2)).toNatClampNeg), .int (xs ((i + 1)).toNatClampNeg), .ref 75], h, 98, 10728)) lr_373 rfl h3 ?_
  refine j_Lst (c' := (375, [(3, .int i), (2, .ref 75), (1, .ref 0), (0, .ref x_scr)], [.ref x_scr, .int (xs ((i + 3)).toNatClampNeg), .int (xs ((i + 2)).toNatClampNeg), .int (xs ((i + 1)).toNatClampNeg), .ref 75], h, 98, 10728)) lr_374 rfl ?_
  refine j_Lst (c' := (376, [(3, .int i), (2, .ref 75), (1, .ref 0), (0, .ref x_scr)], [.int i, .ref x_scr, .int (xs ((i + 3)).toNatClampNeg), .int (xs ((i + 2)).toNatClampNeg), .int (xs ((i + 1)).toNatClampNeg), .ref 75], h, 98, 10728)) lr_375 rfl ?_
  refine j_Lst (c' := (377, [(3, .int i), (2, .ref 75), (1, .ref 0), (0, .ref x_scr)], [.int 4, .int i, .ref x_scr, .int (xs ((i + 3)).toNatClampNeg), .int (xs ((i + 2)).toNatClampNeg), .int (xs ((i + 1)).toNatClampNeg), .ref 75], h, 98, 10728)) lr_376 rfl ?_
  refine j_Lst (c' := (378, [(3, .int i), (2, .ref 75), (1, .ref 0), (0, .ref x_scr)], [.int (i + 4), .ref x_scr, .int (xs ((i + 3)).toNatClampNeg), .int (xs ((i + 2)).toNatClampNeg), .int (xs ((i + 1)).toNatClampNeg), .ref 75], h, 98, 10728)) lr_377 rfl ?_
  refine j_Lsl (c' := (379, [(3, .int i), (2, .ref 75), (1, .ref 0), (0, .ref x_scr)], [.int (xs ((i + 4)).toNatClampNeg), .int (xs ((i + 3)).toNatClampNeg), .int (xs ((i + 2)).toNatClampNeg), .int (xs ((i + 1)).toNatClampNeg), .ref 75], h, 98, 10728)) lr_378 rfl h4 ?_
  refine j_Lst (c' := (380, [(3, .int i), (2, .ref 75), (1, .ref 0), (0, .ref x_scr)], [.ref x_scr, .int (xs ((i + 4)).toNatClampNeg), .int (xs ((i + 3)).toNatClampNeg), .int (xs ((i + 2)).toNatClampNeg), .int (xs ((i + 1)).toNatClampNeg), .ref 75], h, 98, 10728)) lr_379 rfl ?_
  refine j_Lst (c' := (381, [(3, .int i), (2, .ref 75), (1, .ref 0), (0, .ref x_scr)], [.int i, .ref x_scr, .int (xs ((i + 4)).toNatClampNeg), .int (xs ((i + 3)).toNatClampNeg), .int (xs ((i + 2)).toNatClampNeg), .int (xs ((i + 1)).toNatClampNeg), .ref 75], h, 98, 10728)) lr_380 rfl ?_
  refine j_Lst (c' := (382, [(3, .int i), (2, .ref 75), (1, .ref 0), (0, .ref x_scr)], [.int 5, .int i, .ref x_scr, .int (xs ((i + 4)).toNatClampNeg), .int (xs ((i + 3)).toNatClampNeg), .int (xs ((i + 2)).toNatClampNeg), .int (xs ((i + 1)).toNatClampNeg), .ref 75], h, 98, 10728)) lr_381 rfl ?_
  refine j_Lst (c' := (383, [(3, .int i), (2, .ref 75), (1, .ref 0), (0, .ref x_scr)], [.int (i + 5), .ref x_scr, .int (xs ((i + 4)).toNatClampNeg), .int (xs ((i + 3)).toNatClampNeg), .int (xs ((i + 2)).toNatClampNeg), .int (xs ((i + 1)).toNatClampNeg), .ref 75], h, 98, 10728)) lr_382 rfl ?_
  refine j_Lsl (c' := (384, [(3, .int i), (2, .ref 75), (1, .ref 0), (0, .ref x_scr)], [.int (xs ((i + 5)).toNatClampNeg), .int (xs ((i + 4)).toNatClampNeg), .int (xs ((i + 3)).toNatClampNeg), .int (xs ((i + 2)).toNatClampNeg), .int (xs ((i + 1)).toNatClampNeg), .ref 75], h, 98, 10728)) lr_383 rfl h5 ?_
  exact kk

set_option maxRecDepth 100000 in
theorem x_c0d (h : xH) (L : Nat) (xs : Nat → Int32) (i : Int32) (h0 : ¬ (i < 0 ∨ L ≤ (i).toNatClampNeg)) (h1 : ¬ (i + 1 < 0 ∨ L ≤ (i + 1).toNatClampNeg)) (h2 : ¬ (i + 2 < 0 ∨ L ≤ (i + 2).toNatClampNeg)) (h3 : ¬ (i + 3 < 0 ∨ L ≤ (i + 3).toNatClampNeg)) (h4 : ¬ (i + 4 < 0 ∨ L ≤ (i + 4).toNatClampNeg)) (h5 : ¬ (i + 5 < 0 ∨ L ≤ (i + 5).toNatClampNeg)) (w : Int32) {P : Option Value × xH × Nat × Nat → Prop} (kk : x_R x_mt (some (L, xs)) 10 M_law (18, [(3, .int (i + Int32.ofInt (6))), (2, .ref 75), (1, .ref 0), (0, .ref x_scr)], [], h, 98, 10728) P) : x_R x_mt (some (L, xs)) 10 M_law (387, [(3, .int i), (2, .ref 75), (1, .ref 0), (0, .ref x_scr)], [.int w], h, 98, 10728) P := by
  refine j_Lst (c' := (388, [(3, .int i), (2, .ref 75), (1, .ref 0), (0, .ref x_scr)], [], h, 98, 10728)) lr_387 rfl ?_
  refine j_Lst (c' := (2368, [(3, .int i), (2, .ref 75), (1, .ref 0), (0, .ref x_scr)], [], h, 98, 10728)) lr_388 rfl ?_
  refine j_Lst (c' := (2371, [(3, .int (i + Int32.ofInt (6))), (2, .ref 75), (1, .ref 0), (0, .ref x_scr)], [], h, 98, 10728)) lr_2368 rfl ?_
  refine j_Lst (c' := (18, [(3, .int (i + Int32.ofInt (6))), (2, .ref 75), (1, .ref 0), (0, .ref x_scr)], [], h, 98, 10728)) lr_2371 rfl ?_
  exact kk

set_option maxRecDepth 100000 in
theorem x_c1a (h : xH) (L : Nat) (xs : Nat → Int32) (i : Int32) (h0 : ¬ (i < 0 ∨ L ≤ (i).toNatClampNeg)) (h1 : ¬ (i + 1 < 0 ∨ L ≤ (i + 1).toNatClampNeg)) (h2 : ¬ (i + 2 < 0 ∨ L ≤ (i + 2).toNatClampNeg)) (h3 : ¬ (i + 3 < 0 ∨ L ≤ (i + 3).toNatClampNeg)) (h4 : ¬ (i + 4 < 0 ∨ L ≤ (i + 4).toNatClampNeg)) (h5 : ¬ (i + 5 < 0 ∨ L ≤ (i + 5).toNatClampNeg)) {P : Option Value × xH × Nat × Nat → Prop} (kk : x_R x_mt (some (L, xs)) 10 M_law (397, [(3, .int i), (2, .ref 75), (1, .ref 0), (0, .ref x_scr)], [.int (xs ((i + 1)).toNatClampNeg), .ref 0], h, 98, 10728) P) : x_R x_mt (some (L, xs)) 10 M_law (391, [(3, .int i), (2, .ref 75), (1, .ref 0), (0, .ref x_scr)], [], h, 98, 10728) P := by
  refine j_Lst (c' := (392, [(3, .int i), (2, .ref 75), (1, .ref 0), (0, .ref x_scr)], [.ref 0], h, 98, 10728)) lr_391 rfl ?_
  refine j_Lst (c' := (393, [(3, .int i), (2, .ref 75), (1, .ref 0), (0, .ref x_scr)], [.ref x_scr, .ref 0], h, 98, 10728)) lr_392 rfl ?_
  refine j_Lst (c' := (394, [(3, .int i), (2, .ref 75), (1, .ref 0), (0, .ref x_scr)], [.int i, .ref x_scr, .ref 0], h, 98, 10728)) lr_393 rfl ?_
  refine j_Lst (c' := (395, [(3, .int i), (2, .ref 75), (1, .ref 0), (0, .ref x_scr)], [.int 1, .int i, .ref x_scr, .ref 0], h, 98, 10728)) lr_394 rfl ?_
  refine j_Lst (c' := (396, [(3, .int i), (2, .ref 75), (1, .ref 0), (0, .ref x_scr)], [.int (i + 1), .ref x_scr, .ref 0], h, 98, 10728)) lr_395 rfl ?_
  refine j_Lsl (c' := (397, [(3, .int i), (2, .ref 75), (1, .ref 0), (0, .ref x_scr)], [.int (xs ((i + 1)).toNatClampNeg), .ref 0], h, 98, 10728)) lr_396 rfl h1 ?_
  exact kk

set_option maxRecDepth 100000 in
theorem x_c1b (h : xH) (L : Nat) (xs : Nat → Int32) (i : Int32) (h0 : ¬ (i < 0 ∨ L ≤ (i).toNatClampNeg)) (h1 : ¬ (i + 1 < 0 ∨ L ≤ (i + 1).toNatClampNeg)) (h2 : ¬ (i + 2 < 0 ∨ L ≤ (i + 2).toNatClampNeg)) (h3 : ¬ (i + 3 < 0 ∨ L ≤ (i + 3).toNatClampNeg)) (h4 : ¬ (i + 4 < 0 ∨ L ≤ (i + 4).toNatClampNeg)) (h5 : ¬ (i + 5 < 0 ∨ L ≤ (i + 5).toNatClampNeg)) (v : Int32) {P : Option Value × xH × Nat × Nat → Prop} (kk : x_R x_mt (some (L, xs)) 10 M_law (407, [(3, .int i), (2, .ref 75), (1, .ref 0), (0, .ref x_scr)], [.int (xs ((i + 1)).toNatClampNeg), .ref 75], h, 98, 10728) P) : x_R x_mt (some (L, xs)) 10 M_law (400, [(3, .int i), (2, .ref 75), (1, .ref 0), (0, .ref x_scr)], [.int v], h, 98, 10728) P := by
  refine j_Lst (c' := (401, [(3, .int i), (2, .ref 75), (1, .ref 0), (0, .ref x_scr)], [], h, 98, 10728)) lr_400 rfl ?_
  refine j_Lst (c' := (402, [(3, .int i), (2, .ref 75), (1, .ref 0), (0, .ref x_scr)], [.ref 75], h, 98, 10728)) lr_401 rfl ?_
  refine j_Lst (c' := (403, [(3, .int i), (2, .ref 75), (1, .ref 0), (0, .ref x_scr)], [.ref x_scr, .ref 75], h, 98, 10728)) lr_402 rfl ?_
  refine j_Lst (c' := (404, [(3, .int i), (2, .ref 75), (1, .ref 0), (0, .ref x_scr)], [.int i, .ref x_scr, .ref 75], h, 98, 10728)) lr_403 rfl ?_
  refine j_Lst (c' := (405, [(3, .int i), (2, .ref 75), (1, .ref 0), (0, .ref x_scr)], [.int 1, .int i, .ref x_scr, .ref 75], h, 98, 10728)) lr_404 rfl ?_
  refine j_Lst (c' := (406, [(3, .int i), (2, .ref 75), (1, .ref 0), (0, .ref x_scr)], [.int (i + 1), .ref x_scr, .ref 75], h, 98, 10728)) lr_405 rfl ?_
  refine j_Lsl (c' := (407, [(3, .int i), (2, .ref 75), (1, .ref 0), (0, .ref x_scr)], [.int (xs ((i + 1)).toNatClampNeg), .ref 75], h, 98, 10728)) lr_406 rfl h1 ?_
  exact kk

set_option maxRecDepth 100000 in
theorem x_c1d (h : xH) (L : Nat) (xs : Nat → Int32) (i : Int32) (h0 : ¬ (i < 0 ∨ L ≤ (i).toNatClampNeg)) (h1 : ¬ (i + 1 < 0 ∨ L ≤ (i + 1).toNatClampNeg)) (h2 : ¬ (i + 2 < 0 ∨ L ≤ (i + 2).toNatClampNeg)) (h3 : ¬ (i + 3 < 0 ∨ L ≤ (i + 3).toNatClampNeg)) (h4 : ¬ (i + 4 < 0 ∨ L ≤ (i + 4).toNatClampNeg)) (h5 : ¬ (i + 5 < 0 ∨ L ≤ (i + 5).toNatClampNeg)) (w : Int32) {P : Option Value × xH × Nat × Nat → Prop} (kk : x_R x_mt (some (L, xs)) 10 M_law (18, [(3, .int (i + Int32.ofInt (6))), (2, .ref 75), (1, .ref 0), (0, .ref x_scr)], [], h, 98, 10728) P) : x_R x_mt (some (L, xs)) 10 M_law (410, [(3, .int i), (2, .ref 75), (1, .ref 0), (0, .ref x_scr)], [.int w], h, 98, 10728) P := by
  refine j_Lst (c' := (411, [(3, .int i), (2, .ref 75), (1, .ref 0), (0, .ref x_scr)], [], h, 98, 10728)) lr_410 rfl ?_
  refine j_Lst (c' := (2368, [(3, .int i), (2, .ref 75), (1, .ref 0), (0, .ref x_scr)], [], h, 98, 10728)) lr_411 rfl ?_
  refine j_Lst (c' := (2371, [(3, .int (i + Int32.ofInt (6))), (2, .ref 75), (1, .ref 0), (0, .ref x_scr)], [], h, 98, 10728)) lr_2368 rfl ?_
  refine j_Lst (c' := (18, [(3, .int (i + Int32.ofInt (6))), (2, .ref 75), (1, .ref 0), (0, .ref x_scr)], [], h, 98, 10728)) lr_2371 rfl ?_
  exact kk

set_option maxRecDepth 100000 in
theorem x_c2a (h : xH) (L : Nat) (xs : Nat → Int32) (i : Int32) (h0 : ¬ (i < 0 ∨ L ≤ (i).toNatClampNeg)) (h1 : ¬ (i + 1 < 0 ∨ L ≤ (i + 1).toNatClampNeg)) (h2 : ¬ (i + 2 < 0 ∨ L ≤ (i + 2).toNatClampNeg)) (h3 : ¬ (i + 3 < 0 ∨ L ≤ (i + 3).toNatClampNeg)) (h4 : ¬ (i + 4 < 0 ∨ L ≤ (i + 4).toNatClampNeg)) (h5 : ¬ (i + 5 < 0 ∨ L ≤ (i + 5).toNatClampNeg)) {P : Option Value × xH × Nat × Nat → Prop} (kk : x_R x_mt (some (L, xs)) 10 M_law (415, [(3, .int i), (2, .ref 75), (1, .ref 0), (0, .ref x_scr)], [.ref 0], h, 98, 10728) P) : x_R x_mt (some (L, xs)) 10 M_law (414, [(3, .int i), (2, .ref 75), (1, .ref 0), (0, .ref x_scr)], [], h, 98, 10728) P := by
  refine j_Lst (c' := (415, [(3, .int i), (2, .ref 75), (1, .ref 0), (0, .ref x_scr)], [.ref 0], h, 98, 10728)) lr_414 rfl ?_
  exact kk

set_option maxRecDepth 100000 in
theorem x_c2b (h : xH) (L : Nat) (xs : Nat → Int32) (i : Int32) (h0 : ¬ (i < 0 ∨ L ≤ (i).toNatClampNeg)) (h1 : ¬ (i + 1 < 0 ∨ L ≤ (i + 1).toNatClampNeg)) (h2 : ¬ (i + 2 < 0 ∨ L ≤ (i + 2).toNatClampNeg)) (h3 : ¬ (i + 3 < 0 ∨ L ≤ (i + 3).toNatClampNeg)) (h4 : ¬ (i + 4 < 0 ∨ L ≤ (i + 4).toNatClampNeg)) (h5 : ¬ (i + 5 < 0 ∨ L ≤ (i + 5).toNatClampNeg)) (v : Int32) {P : Option Value × xH × Nat × Nat → Prop} (kk : x_R x_mt (some (L, xs)) 10 M_law (420, [(3, .int i), (2, .ref 75), (1, .ref 0), (0, .ref x_scr)], [.ref 75], h, 98, 10728) P) : x_R x_mt (some (L, xs)) 10 M_law (418, [(3, .int i), (2, .ref 75), (1, .ref 0), (0, .ref x_scr)], [.int v], h, 98, 10728) P := by
  refine j_Lst (c' := (419, [(3, .int i), (2, .ref 75), (1, .ref 0), (0, .ref x_scr)], [], h, 98, 10728)) lr_418 rfl ?_
  refine j_Lst (c' := (420, [(3, .int i), (2, .ref 75), (1, .ref 0), (0, .ref x_scr)], [.ref 75], h, 98, 10728)) lr_419 rfl ?_
  exact kk

set_option maxRecDepth 100000 in
theorem x_c2d (h : xH) (L : Nat) (xs : Nat → Int32) (i : Int32) (h0 : ¬ (i < 0 ∨ L ≤ (i).toNatClampNeg)) (h1 : ¬ (i + 1 < 0 ∨ L ≤ (i + 1).toNatClampNeg)) (h2 : ¬ (i + 2 < 0 ∨ L ≤ (i + 2).toNatClampNeg)) (h3 : ¬ (i + 3 < 0 ∨ L ≤ (i + 3).toNatClampNeg)) (h4 : ¬ (i + 4 < 0 ∨ L ≤ (i + 4).toNatClampNeg)) (h5 : ¬ (i + 5 < 0 ∨ L ≤ (i + 5).toNatClampNeg)) (w : Int32) {P : Option Value × xH × Nat × Nat → Prop} (kk : x_R x_mt (some (L, xs)) 10 M_law (18, [(3, .int (i + Int32.ofInt (6))), (2, .ref 75), (1, .ref 0), (0, .ref x_scr)], [], h, 98, 10728) P) : x_R x_mt (some (L, xs)) 10 M_law (423, [(3, .int i), (2, .ref 75), (1, .ref 0), (0, .ref x_scr)], [.int w], h, 98, 10728) P := by
  refine j_Lst (c' := (424, [(3, .int i), (2, .ref 75), (1, .ref 0), (0, .ref x_scr)], [], h, 98, 10728)) lr_423 rfl ?_
  refine j_Lst (c' := (2368, [(3, .int i), (2, .ref 75), (1, .ref 0), (0, .ref x_scr)], [], h, 98, 10728)) lr_424 rfl ?_
  refine j_Lst (c' := (2371, [(3, .int (i + Int32.ofInt (6))), (2, .ref 75), (1, .ref 0), (0, .ref x_scr)], [], h, 98, 10728)) lr_2368 rfl ?_
  refine j_Lst (c' := (18, [(3, .int (i + Int32.ofInt (6))), (2, .ref 75), (1, .ref 0), (0, .ref x_scr)], [], h, 98, 10728)) lr_2371 rfl ?_
  exact kk

set_option maxRecDepth 100000 in
theorem x_c3a (h : xH) (L : Nat) (xs : Nat → Int32) (i : Int32) (h0 : ¬ (i < 0 ∨ L ≤ (i).toNatClampNeg)) (h1 : ¬ (i + 1 < 0 ∨ L ≤ (i + 1).toNatClampNeg)) (h2 : ¬ (i + 2 < 0 ∨ L ≤ (i + 2).toNatClampNeg)) (h3 : ¬ (i + 3 < 0 ∨ L ≤ (i + 3).toNatClampNeg)) (h4 : ¬ (i + 4 < 0 ∨ L ≤ (i + 4).toNatClampNeg)) (h5 : ¬ (i + 5 < 0 ∨ L ≤ (i + 5).toNatClampNeg)) {P : Option Value × xH × Nat × Nat → Prop} (kk : x_R x_mt (some (L, xs)) 10 M_law (433, [(3, .int i), (2, .ref 75), (1, .ref 0), (0, .ref x_scr)], [.int (xs ((i + 1)).toNatClampNeg), .ref 0], h, 98, 10728) P) : x_R x_mt (some (L, xs)) 10 M_law (427, [(3, .int i), (2, .ref 75), (1, .ref 0), (0, .ref x_scr)], [], h, 98, 10728) P := by
  refine j_Lst (c' := (428, [(3, .int i), (2, .ref 75), (1, .ref 0), (0, .ref x_scr)], [.ref 0], h, 98, 10728)) lr_427 rfl ?_
  refine j_Lst (c' := (429, [(3, .int i), (2, .ref 75), (1, .ref 0), (0, .ref x_scr)], [.ref x_scr, .ref 0], h, 98, 10728)) lr_428 rfl ?_
  refine j_Lst (c' := (430, [(3, .int i), (2, .ref 75), (1, .ref 0), (0, .ref x_scr)], [.int i, .ref x_scr, .ref 0], h, 98, 10728)) lr_429 rfl ?_
  refine j_Lst (c' := (431, [(3, .int i), (2, .ref 75), (1, .ref 0), (0, .ref x_scr)], [.int 1, .int i, .ref x_scr, .ref 0], h, 98, 10728)) lr_430 rfl ?_
  refine j_Lst (c' := (432, [(3, .int i), (2, .ref 75), (1, .ref 0), (0, .ref x_scr)], [.int (i + 1), .ref x_scr, .ref 0], h, 98, 10728)) lr_431 rfl ?_
  refine j_Lsl (c' := (433, [(3, .int i), (2, .ref 75), (1, .ref 0), (0, .ref x_scr)], [.int (xs ((i + 1)).toNatClampNeg), .ref 0], h, 98, 10728)) lr_432 rfl h1 ?_
  exact kk

set_option maxRecDepth 100000 in
theorem x_c3b (h : xH) (L : Nat) (xs : Nat → Int32) (i : Int32) (h0 : ¬ (i < 0 ∨ L ≤ (i).toNatClampNeg)) (h1 : ¬ (i + 1 < 0 ∨ L ≤ (i + 1).toNatClampNeg)) (h2 : ¬ (i + 2 < 0 ∨ L ≤ (i + 2).toNatClampNeg)) (h3 : ¬ (i + 3 < 0 ∨ L ≤ (i + 3).toNatClampNeg)) (h4 : ¬ (i + 4 < 0 ∨ L ≤ (i + 4).toNatClampNeg)) (h5 : ¬ (i + 5 < 0 ∨ L ≤ (i + 5).toNatClampNeg)) (v : Int32) {P : Option Value × xH × Nat × Nat → Prop} (kk : x_R x_mt (some (L, xs)) 10 M_law (443, [(3, .int i), (2, .ref 75), (1, .ref 0), (0, .ref x_scr)], [.int (xs ((i + 1)).toNatClampNeg), .ref 75], h, 98, 10728) P) : x_R x_mt (some (L, xs)) 10 M_law (436, [(3, .int i), (2, .ref 75), (1, .ref 0), (0, .ref x_scr)], [.int v], h, 98, 10728) P := by
  refine j_Lst (c' := (437, [(3, .int i), (2, .ref 75), (1, .ref 0), (0, .ref x_scr)], [], h, 98, 10728)) lr_436 rfl ?_
  refine j_Lst (c' := (438, [(3, .int i), (2, .ref 75), (1, .ref 0), (0, .ref x_scr)], [.ref 75], h, 98, 10728)) lr_437 rfl ?_
  refine j_Lst (c' := (439, [(3, .int i), (2, .ref 75), (1, .ref 0), (0, .ref x_scr)], [.ref x_scr, .ref 75], h, 98, 10728)) lr_438 rfl ?_
  refine j_Lst (c' := (440, [(3, .int i), (2, .ref 75), (1, .ref 0), (0, .ref x_scr)], [.int i, .ref x_scr, .ref 75], h, 98, 10728)) lr_439 rfl ?_
  refine j_Lst (c' := (441, [(3, .int i), (2, .ref 75), (1, .ref 0), (0, .ref x_scr)], [.int 1, .int i, .ref x_scr, .ref 75], h, 98, 10728)) lr_440 rfl ?_
  refine j_Lst (c' := (442, [(3, .int i), (2, .ref 75), (1, .ref 0), (0, .ref x_scr)], [.int (i + 1), .ref x_scr, .ref 75], h, 98, 10728)) lr_441 rfl ?_
  refine j_Lsl (c' := (443, [(3, .int i), (2, .ref 75), (1, .ref 0), (0, .ref x_scr)], [.int (xs ((i + 1)).toNatClampNeg), .ref 75], h, 98, 10728)) lr_442 rfl h1 ?_
  exact kk

set_option maxRecDepth 100000 in
theorem x_c3d (h : xH) (L : Nat) (xs : Nat → Int32) (i : Int32) (h0 : ¬ (i < 0 ∨ L ≤ (i).toNatClampNeg)) (h1 : ¬ (i + 1 < 0 ∨ L ≤ (i + 1).toNatClampNeg)) (h2 : ¬ (i + 2 < 0 ∨ L ≤ (i + 2).toNatClampNeg)) (h3 : ¬ (i + 3 < 0 ∨ L ≤ (i + 3).toNatClampNeg)) (h4 : ¬ (i + 4 < 0 ∨ L ≤ (i + 4).toNatClampNeg)) (h5 : ¬ (i + 5 < 0 ∨ L ≤ (i + 5).toNatClampNeg)) (w : Int32) {P : Option Value × xH × Nat × Nat → Prop} (kk : x_R x_mt (some (L, xs)) 10 M_law (18, [(3, .int (i + Int32.ofInt (6))), (2, .ref 75), (1, .ref 0), (0, .ref x_scr)], [], h, 98, 10728) P) : x_R x_mt (some (L, xs)) 10 M_law (446, [(3, .int i), (2, .ref 75), (1, .ref 0), (0, .ref x_scr)], [.int w], h, 98, 10728) P := by
  refine j_Lst (c' := (447, [(3, .int i), (2, .ref 75), (1, .ref 0), (0, .ref x_scr)], [], h, 98, 10728)) lr_446 rfl ?_
  refine j_Lst (c' := (2368, [(3, .int i), (2, .ref 75), (1, .ref 0), (0, .ref x_scr)], [], h, 98, 10728)) lr_447 rfl ?_
  refine j_Lst (c' := (2371, [(3, .int (i + Int32.ofInt (6))), (2, .ref 75), (1, .ref 0), (0, .ref x_scr)], [], h, 98, 10728)) lr_2368 rfl ?_
  refine j_Lst (c' := (18, [(3, .int (i + Int32.ofInt (6))), (2, .ref 75), (1, .ref 0), (0, .ref x_scr)], [], h, 98, 10728)) lr_2371 rfl ?_
  exact kk

set_option maxRecDepth 100000 in
theorem x_c4a (h : xH) (L : Nat) (xs : Nat → Int32) (i : Int32) (h0 : ¬ (i < 0 ∨ L ≤ (i).toNatClampNeg)) (h1 : ¬ (i + 1 < 0 ∨ L ≤ (i + 1).toNatClampNeg)) (h2 : ¬ (i + 2 < 0 ∨ L ≤ (i + 2).toNatClampNeg)) (h3 : ¬ (i + 3 < 0 ∨ L ≤ (i + 3).toNatClampNeg)) (h4 : ¬ (i + 4 < 0 ∨ L ≤ (i + 4).toNatClampNeg)) (h5 : ¬ (i + 5 < 0 ∨ L ≤ (i + 5).toNatClampNeg)) {P : Option Value × xH × Nat × Nat → Prop} (kk : x_R x_mt (some (L, xs)) 10 M_law (461, [(3, .int i), (2, .ref 75), (1, .ref 0), (0, .ref x_scr)], [.int (xs ((i + 2)).toNatClampNeg), .int (xs ((i + 1)).toNatClampNeg), .ref 0], h, 98, 10728) P) : x_R x_mt (some (L, xs)) 10 M_law (450, [(3, .int i), (2, .ref 75), (1, .ref 0), (0, .ref x_scr)], [], h, 98, 10728) P := by
  refine j_Lst (c' := (451, [(3, .int i), (2, .ref 75), (1, .ref 0), (0, .ref x_scr)], [.ref 0], h, 98, 10728)) lr_450 rfl ?_
  refine j_Lst (c' := (452, [(3, .int i), (2, .ref 75), (1, .ref 0), (0, .ref x_scr)], [.ref x_scr, .ref 0], h, 98, 10728)) lr_451 rfl ?_
  refine j_Lst (c' := (453, [(3, .int i), (2, .ref 75), (1, .ref 0), (0, .ref x_scr)], [.int i, .ref x_scr, .ref 0], h, 98, 10728)) lr_452 rfl ?_
  refine j_Lst (c' := (454, [(3, .int i), (2, .ref 75), (1, .ref 0), (0, .ref x_scr)], [.int 1, .int i, .ref x_scr, .ref 0], h, 98, 10728)) lr_453 rfl ?_
  refine j_Lst (c' := (455, [(3, .int i), (2, .ref 75), (1, .ref 0), (0, .ref x_scr)], [.int (i + 1), .ref x_scr, .ref 0], h, 98, 10728)) lr_454 rfl ?_
  refine j_Lsl (c' := (456, [(3, .int i), (2, .ref 75), (1, .ref 0), (0, .ref x_scr)], [.int (xs ((i + 1)).toNatClampNeg), .ref 0], h, 98, 10728)) lr_455 rfl h1 ?_
  refine j_Lst (c' := (457, [(3, .int i), (2, .ref 75), (1, .ref 0), (0, .ref x_scr)], [.ref x_scr, .int (xs ((i + 1)).toNatClampNeg), .ref 0], h, 98, 10728)) lr_456 rfl ?_
  refine j_Lst (c' := (458, [(3, .int i), (2, .ref 75), (1, .ref 0), (0, .ref x_scr)], [.int i, .ref x_scr, .int (xs ((i + 1)).toNatClampNeg), .ref 0], h, 98, 10728)) lr_457 rfl ?_
  refine j_Lst (c' := (459, [(3, .int i), (2, .ref 75), (1, .ref 0), (0, .ref x_scr)], [.int 2, .int i, .ref x_scr, .int (xs ((i + 1)).toNatClampNeg), .ref 0], h, 98, 10728)) lr_458 rfl ?_
  refine j_Lst (c' := (460, [(3, .int i), (2, .ref 75), (1, .ref 0), (0, .ref x_scr)], [.int (i + 2), .ref x_scr, .int (xs ((i + 1)).toNatClampNeg), .ref 0], h, 98, 10728)) lr_459 rfl ?_
  refine j_Lsl (c' := (461, [(3, .int i), (2, .ref 75), (1, .ref 0), (0, .ref x_scr)], [.int (xs ((i + 2)).toNatClampNeg), .int (xs ((i + 1)).toNatClampNeg), .ref 0], h, 98, 10728)) lr_460 rfl h2 ?_
  exact kk

set_option maxRecDepth 100000 in
theorem x_c4b (h : xH) (L : Nat) (xs : Nat → Int32) (i : Int32) (h0 : ¬ (i < 0 ∨ L ≤ (i).toNatClampNeg)) (h1 : ¬ (i + 1 < 0 ∨ L ≤ (i + 1).toNatClampNeg)) (h2 : ¬ (i + 2 < 0 ∨ L ≤ (i + 2).toNatClampNeg)) (h3 : ¬ (i + 3 < 0 ∨ L ≤ (i + 3).toNatClampNeg)) (h4 : ¬ (i + 4 < 0 ∨ L ≤ (i + 4).toNatClampNeg)) (h5 : ¬ (i + 5 < 0 ∨ L ≤ (i + 5).toNatClampNeg)) (v : Int32) {P : Option Value × xH × Nat × Nat → Prop} (kk : x_R x_mt (some (L, xs)) 10 M_law (476, [(3, .int i), (2, .ref 75), (1, .ref 0), (0, .ref x_scr)], [.int (xs ((i + 2)).toNatClampNeg), .int (xs ((i + 1)).toNatClampNeg), .ref 75], h, 98, 10728) P) : x_R x_mt (some (L, xs)) 10 M_law (464, [(3, .int i), (2, .ref 75), (1, .ref 0), (0, .ref x_scr)], [.int v], h, 98, 10728) P := by
  refine j_Lst (c' := (465, [(3, .int i), (2, .ref 75), (1, .ref 0), (0, .ref x_scr)], [], h, 98, 10728)) lr_464 rfl ?_
  refine j_Lst (c' := (466, [(3, .int i), (2, .ref 75), (1, .ref 0), (0, .ref x_scr)], [.ref 75], h, 98, 10728)) lr_465 rfl ?_
  refine j_Lst (c' := (467, [(3, .int i), (2, .ref 75), (1, .ref 0), (0, .ref x_scr)], [.ref x_scr, .ref 75], h, 98, 10728)) lr_466 rfl ?_
  refine j_Lst (c' := (468, [(3, .int i), (2, .ref 75), (1, .ref 0), (0, .ref x_scr)], [.int i, .ref x_scr, .ref 75], h, 98, 10728)) lr_467 rfl ?_
  refine j_Lst (c' := (469, [(3, .int i), (2, .ref 75), (1, .ref 0), (0, .ref x_scr)], [.int 1, .int i, .ref x_scr, .ref 75], h, 98, 10728)) lr_468 rfl ?_
  refine j_Lst (c' := (470, [(3, .int i), (2, .ref 75), (1, .ref 0), (0, .ref x_scr)], [.int (i + 1), .ref x_scr, .ref 75], h, 98, 10728)) lr_469 rfl ?_
  refine j_Lsl (c' := (471, [(3, .int i), (2, .ref 75), (1, .ref 0), (0, .ref x_scr)], [.int (xs ((i + 1)).toNatClampNeg), .ref 75], h, 98, 10728)) lr_470 rfl h1 ?_
  refine j_Lst (c' := (472, [(3, .int i), (2, .ref 75), (1, .ref 0), (0, .ref x_scr)], [.ref x_scr, .int (xs ((i + 1)).toNatClampNeg), .ref 75], h, 98, 10728)) lr_471 rfl ?_
  refine j_Lst (c' := (473, [(3, .int i), (2, .ref 75), (1, .ref 0), (0, .ref x_scr)], [.int i, .ref x_scr, .int (xs ((i + 1)).toNatClampNeg), .ref 75], h, 98, 10728)) lr_472 rfl ?_
  refine j_Lst (c' := (474, [(3, .int i), (2, .ref 75), (1, .ref 0), (0, .ref x_scr)], [.int 2, .int i, .ref x_scr, .int (xs ((i + 1)).toNatClampNeg), .ref 75], h, 98, 10728)) lr_473 rfl ?_
  refine j_Lst (c' := (475, [(3, .int i), (2, .ref 75), (1, .ref 0), (0, .ref x_scr)], [.int (i + 2), .ref x_scr, .int (xs ((i + 1)).toNatClampNeg), .ref 75], h, 98, 10728)) lr_474 rfl ?_
  refine j_Lsl (c' := (476, [(3, .int i), (2, .ref 75), (1, .ref 0), (0, .ref x_scr)], [.int (xs ((i + 2)).toNatClampNeg), .int (xs ((i + 1)).toNatClampNeg), .ref 75], h, 98, 10728)) lr_475 rfl h2 ?_
  exact kk

set_option maxRecDepth 100000 in
theorem x_c4d (h : xH) (L : Nat) (xs : Nat → Int32) (i : Int32) (h0 : ¬ (i < 0 ∨ L ≤ (i).toNatClampNeg)) (h1 : ¬ (i + 1 < 0 ∨ L ≤ (i + 1).toNatClampNeg)) (h2 : ¬ (i + 2 < 0 ∨ L ≤ (i + 2).toNatClampNeg)) (h3 : ¬ (i + 3 < 0 ∨ L ≤ (i + 3).toNatClampNeg)) (h4 : ¬ (i + 4 < 0 ∨ L ≤ (i + 4).toNatClampNeg)) (h5 : ¬ (i + 5 < 0 ∨ L ≤ (i + 5).toNatClampNeg)) (w : Int32) {P : Option Value × xH × Nat × Nat → Prop} (kk : x_R x_mt (some (L, xs)) 10 M_law (18, [(3, .int (i + Int32.ofInt (6))), (2, .ref 75), (1, .ref 0), (0, .ref x_scr)], [], h, 98, 10728) P) : x_R x_mt (some (L, xs)) 10 M_law (479, [(3, .int i), (2, .ref 75), (1, .ref 0), (0, .ref x_scr)], [.int w], h, 98, 10728) P := by
  refine j_Lst (c' := (480, [(3, .int i), (2, .ref 75), (1, .ref 0), (0, .ref x_scr)], [], h, 98, 10728)) lr_479 rfl ?_
  refine j_Lst (c' := (2368, [(3, .int i), (2, .ref 75), (1, .ref 0), (0, .ref x_scr)], [], h, 98, 10728)) lr_480 rfl ?_
  refine j_Lst (c' := (2371, [(3, .int (i + Int32.ofInt (6))), (2, .ref 75), (1, .ref 0), (0, .ref x_scr)], [], h, 98, 10728)) lr_2368 rfl ?_
  refine j_Lst (c' := (18, [(3, .int (i + Int32.ofInt (6))), (2, .ref 75), (1, .ref 0), (0, .ref x_scr)], [], h, 98, 10728)) lr_2371 rfl ?_
  exact kk

set_option maxRecDepth 100000 in
theorem x_c5a (h : xH) (L : Nat) (xs : Nat → Int32) (i : Int32) (h0 : ¬ (i < 0 ∨ L ≤ (i).toNatClampNeg)) (h1 : ¬ (i + 1 < 0 ∨ L ≤ (i + 1).toNatClampNeg)) (h2 : ¬ (i + 2 < 0 ∨ L ≤ (i + 2).toNatClampNeg)) (h3 : ¬ (i + 3 < 0 ∨ L ≤ (i + 3).toNatClampNeg)) (h4 : ¬ (i + 4 < 0 ∨ L ≤ (i + 4).toNatClampNeg)) (h5 : ¬ (i + 5 < 0 ∨ L ≤ (i + 5).toNatClampNeg)) {P : Option Value × xH × Nat × Nat → Prop} (kk : x_R x_mt (some (L, xs)) 10 M_law (494, [(3, .int i), (2, .ref 75), (1, .ref 0), (0, .ref x_scr)], [.int (xs ((i + 2)).toNatClampNeg), .int (xs ((i + 1)).toNatClampNeg), .ref 0], h, 98, 10728) P) : x_R x_mt (some (L, xs)) 10 M_law (483, [(3, .int i), (2, .ref 75), (1, .ref 0), (0, .ref x_scr)], [], h, 98, 10728) P := by
  refine j_Lst (c' := (484, [(3, .int i), (2, .ref 75), (1, .ref 0), (0, .ref x_scr)], [.ref 0], h, 98, 10728)) lr_483 rfl ?_
  refine j_Lst (c' := (485, [(3, .int i), (2, .ref 75), (1, .ref 0), (0, .ref x_scr)], [.ref x_scr, .ref 0], h, 98, 10728)) lr_484 rfl ?_
  refine j_Lst (c' := (486, [(3, .int i), (2, .ref 75), (1, .ref 0), (0, .ref x_scr)], [.int i, .ref x_scr, .ref 0], h, 98, 10728)) lr_485 rfl ?_
  refine j_Lst (c' := (487, [(3, .int i), (2, .ref 75), (1, .ref 0), (0, .ref x_scr)], [.int 1, .int i, .ref x_scr, .ref 0], h, 98, 10728)) lr_486 rfl ?_
  refine j_Lst (c' := (488, [(3, .int i), (2, .ref 75), (1, .ref 0), (0, .ref x_scr)], [.int (i + 1), .ref x_scr, .ref 0], h, 98, 10728)) lr_487 rfl ?_
  refine j_Lsl (c' := (489, [(3, .int i), (2, .ref 75), (1, .ref 0), (0, .ref x_scr)], [.int (xs ((i + 1)).toNatClampNeg), .ref 0], h, 98, 10728)) lr_488 rfl h1 ?_
  refine j_Lst (c' := (490, [(3, .int i), (2, .ref 75), (1, .ref 0), (0, .ref x_scr)], [.ref x_scr, .int (xs ((i + 1)).toNatClampNeg), .ref 0], h, 98, 10728)) lr_489 rfl ?_
  refine j_Lst (c' := (491, [(3, .int i), (2, .ref 75), (1, .ref 0), (0, .ref x_scr)], [.int i, .ref x_scr, .int (xs ((i + 1)).toNatClampNeg), .ref 0], h, 98, 10728)) lr_490 rfl ?_
  refine j_Lst (c' := (492, [(3, .int i), (2, .ref 75), (1, .ref 0), (0, .ref x_scr)], [.int 2, .int i, .ref x_scr, .int (xs ((i + 1)).toNatClampNeg), .ref 0], h, 98, 10728)) lr_491 rfl ?_
  refine j_Lst (c' := (493, [(3, .int i), (2, .ref 75), (1, .ref 0), (0, .ref x_scr)], [.int (i + 2), .ref x_scr, .int (xs ((i + 1)).toNatClampNeg), .ref 0], h, 98, 10728)) lr_492 rfl ?_
  refine j_Lsl (c' := (494, [(3, .int i), (2, .ref 75), (1, .ref 0), (0, .ref x_scr)], [.int (xs ((i + 2)).toNatClampNeg), .int (xs ((i + 1)).toNatClampNeg), .ref 0], h, 98, 10728)) lr_493 rfl h2 ?_
  exact kk

set_option maxRecDepth 100000 in
theorem x_c5b (h : xH) (L : Nat) (xs : Nat → Int32) (i : Int32) (h0 : ¬ (i < 0 ∨ L ≤ (i).toNatClampNeg)) (h1 : ¬ (i + 1 < 0 ∨ L ≤ (i + 1).toNatClampNeg)) (h2 : ¬ (i + 2 < 0 ∨ L ≤ (i + 2).toNatClampNeg)) (h3 : ¬ (i + 3 < 0 ∨ L ≤ (i + 3).toNatClampNeg)) (h4 : ¬ (i + 4 < 0 ∨ L ≤ (i + 4).toNatClampNeg)) (h5 : ¬ (i + 5 < 0 ∨ L ≤ (i + 5).toNatClampNeg)) (v : Int32) {P : Option Value × xH × Nat × Nat → Prop} (kk : x_R x_mt (some (L, xs)) 10 M_law (509, [(3, .int i), (2, .ref 75), (1, .ref 0), (0, .ref x_scr)], [.int (xs ((i + 2)).toNatClampNeg), .int (xs ((i + 1)).toNatClampNeg), .ref 75], h, 98, 10728) P) : x_R x_mt (some (L, xs)) 10 M_law (497, [(3, .int i), (2, .ref 75), (1, .ref 0), (0, .ref x_scr)], [.int v], h, 98, 10728) P := by
  refine j_Lst (c' := (498, [(3, .int i), (2, .ref 75), (1, .ref 0), (0, .ref x_scr)], [], h, 98, 10728)) lr_497 rfl ?_
  refine j_Lst (c' := (499, [(3, .int i), (2, .ref 75), (1, .ref 0), (0, .ref x_scr)], [.ref 75], h, 98, 10728)) lr_498 rfl ?_
  refine j_Lst (c' := (500, [(3, .int i), (2, .ref 75), (1, .ref 0), (0, .ref x_scr)], [.ref x_scr, .ref 75], h, 98, 10728)) lr_499 rfl ?_
  refine j_Lst (c' := (501, [(3, .int i), (2, .ref 75), (1, .ref 0), (0, .ref x_scr)], [.int i, .ref x_scr, .ref 75], h, 98, 10728)) lr_500 rfl ?_
  refine j_Lst (c' := (502, [(3, .int i), (2, .ref 75), (1, .ref 0), (0, .ref x_scr)], [.int 1, .int i, .ref x_scr, .ref 75], h, 98, 10728)) lr_501 rfl ?_
  refine j_Lst (c' := (503, [(3, .int i), (2, .ref 75), (1, .ref 0), (0, .ref x_scr)], [.int (i + 1), .ref x_scr, .ref 75], h, 98, 10728)) lr_502 rfl ?_
  refine j_Lsl (c' := (504, [(3, .int i), (2, .ref 75), (1, .ref 0), (0, .ref x_scr)], [.int (xs ((i + 1)).toNatClampNeg), .ref 75], h, 98, 10728)) lr_503 rfl h1 ?_
  refine j_Lst (c' := (505, [(3, .int i), (2, .ref 75), (1, .ref 0), (0, .ref x_scr)], [.ref x_scr, .int (xs ((i + 1)).toNatClampNeg), .ref 75], h, 98, 10728)) lr_504 rfl ?_
  refine j_Lst (c' := (506, [(3, .int i), (2, .ref 75), (1, .ref 0), (0, .ref x_scr)], [.int i, .ref x_scr, .int (xs ((i + 1)).toNatClampNeg), .ref 75], h, 98, 10728)) lr_505 rfl ?_
  refine j_Lst (c' := (507, [(3, .int i), (2, .ref 75), (1, .ref 0), (0, .ref x_scr)], [.int 2, .int i, .ref x_scr, .int (xs ((i + 1)).toNatClampNeg), .ref 75], h, 98, 10728)) lr_506 rfl ?_
  refine j_Lst (c' := (508, [(3, .int i), (2, .ref 75), (1, .ref 0), (0, .ref x_scr)], [.int (i + 2), .ref x_scr, .int (xs ((i + 1)).toNatClampNeg), .ref 75], h, 98, 10728)) lr_507 rfl ?_
  refine j_Lsl (c' := (509, [(3, .int i), (2, .ref 75), (1, .ref 0), (0, .ref x_scr)], [.int (xs ((i + 2)).toNatClampNeg), .int (xs ((i + 1)).toNatClampNeg), .ref 75], h, 98, 10728)) lr_508 rfl h2 ?_
  exact kk

set_option maxRecDepth 100000 in
theorem x_c5d (h : xH) (L : Nat) (xs : Nat → Int32) (i : Int32) (h0 : ¬ (i < 0 ∨ L ≤ (i).toNatClampNeg)) (h1 : ¬ (i + 1 < 0 ∨ L ≤ (i + 1).toNatClampNeg)) (h2 : ¬ (i + 2 < 0 ∨ L ≤ (i + 2).toNatClampNeg)) (h3 : ¬ (i + 3 < 0 ∨ L ≤ (i + 3).toNatClampNeg)) (h4 : ¬ (i + 4 < 0 ∨ L ≤ (i + 4).toNatClampNeg)) (h5 : ¬ (i + 5 < 0 ∨ L ≤ (i + 5).toNatClampNeg)) (w : Int32) {P : Option Value × xH × Nat × Nat → Prop} (kk : x_R x_mt (some (L, xs)) 10 M_law (18, [(3, .int (i + Int32.ofInt (6))), (2, .ref 75), (1, .ref 0), (0, .ref x_scr)], [], h, 98, 10728) P) : x_R x_mt (some (L, xs)) 10 M_law (512, [(3, .int i), (2, .ref 75), (1, .ref 0), (0, .ref x_scr)], [.int w], h, 98, 10728) P := by
  refine j_Lst (c' := (513, [(3, .int i), (2, .ref 75), (1, .ref 0), (0, .ref x_scr)], [], h, 98, 10728)) lr_512 rfl ?_
  refine j_Lst (c' := (2368, [(3, .int i), (2, .ref 75), (1, .ref 0), (0, .ref x_scr)], [], h, 98, 10728)) lr_513 rfl ?_
  refine j_Lst (c' := (2371, [(3, .int (i + Int32.ofInt (6))), (2, .ref 75), (1, .ref 0), (0, .ref x_scr)], [], h, 98, 10728)) lr_2368 rfl ?_
  refine j_Lst (c' := (18, [(3, .int (i + Int32.ofInt (6))), (2, .ref 75), (1, .ref 0), (0, .ref x_scr)], [], h, 98, 10728)) lr_2371 rfl ?_
  exact kk

set_option maxRecDepth 100000 in
theorem x_c6a (h : xH) (L : Nat) (xs : Nat → Int32) (i : Int32) (h0 : ¬ (i < 0 ∨ L ≤ (i).toNatClampNeg)) (h1 : ¬ (i + 1 < 0 ∨ L ≤ (i + 1).toNatClampNeg)) (h2 : ¬ (i + 2 < 0 ∨ L ≤ (i + 2).toNatClampNeg)) (h3 : ¬ (i + 3 < 0 ∨ L ≤ (i + 3).toNatClampNeg)) (h4 : ¬ (i + 4 < 0 ∨ L ≤ (i + 4).toNatClampNeg)) (h5 : ¬ (i + 5 < 0 ∨ L ≤ (i + 5).toNatClampNeg)) {P : Option Value × xH × Nat × Nat → Prop} (kk : x_R x_mt (some (L, xs)) 10 M_law (522, [(3, .int i), (2, .ref 75), (1, .ref 0), (0, .ref x_scr)], [.int (xs ((i + 1)).toNatClampNeg), .ref 0], h, 98, 10728) P) : x_R x_mt (some (L, xs)) 10 M_law (516, [(3, .int i), (2, .ref 75), (1, .ref 0), (0, .ref x_scr)], [], h, 98, 10728) P := by
  refine j_Lst (c' := (517, [(3, .int i), (2, .ref 75), (1, .ref 0), (0, .ref x_scr)], [.ref 0], h, 98, 10728)) lr_516 rfl ?_
  refine j_Lst (c' := (518, [(3, .int i), (2, .ref 75), (1, .ref 0), (0, .ref x_scr)], [.ref x_scr, .ref 0], h, 98, 10728)) lr_517 rfl ?_
  refine j_Lst (c' := (519, [(3, .int i), (2, .ref 75), (1, .ref 0), (0, .ref x_scr)], [.int i, .ref x_scr, .ref 0], h, 98, 10728)) lr_518 rfl ?_
  refine j_Lst (c' := (520, [(3, .int i), (2, .ref 75), (1, .ref 0), (0, .ref x_scr)], [.int 1, .int i, .ref x_scr, .ref 0], h, 98, 10728)) lr_519 rfl ?_
  refine j_Lst (c' := (521, [(3, .int i), (2, .ref 75), (1, .ref 0), (0, .ref x_scr)], [.int (i + 1), .ref x_scr, .ref 0], h, 98, 10728)) lr_520 rfl ?_
  refine j_Lsl (c' := (522, [(3, .int i), (2, .ref 75), (1, .ref 0), (0, .ref x_scr)], [.int (xs ((i + 1)).toNatClampNeg), .ref 0], h, 98, 10728)) lr_521 rfl h1 ?_
  exact kk

set_option maxRecDepth 100000 in
theorem x_c6b (h : xH) (L : Nat) (xs : Nat → Int32) (i : Int32) (h0 : ¬ (i < 0 ∨ L ≤ (i).toNatClampNeg)) (h1 : ¬ (i + 1 < 0 ∨ L ≤ (i + 1).toNatClampNeg)) (h2 : ¬ (i + 2 < 0 ∨ L ≤ (i + 2).toNatClampNeg)) (h3 : ¬ (i + 3 < 0 ∨ L ≤ (i + 3).toNatClampNeg)) (h4 : ¬ (i + 4 < 0 ∨ L ≤ (i + 4).toNatClampNeg)) (h5 : ¬ (i + 5 < 0 ∨ L ≤ (i + 5).toNatClampNeg)) (v : Int32) {P : Option Value × xH × Nat × Nat → Prop} (kk : x_R x_mt (some (L, xs)) 10 M_law (532, [(3, .int i), (2, .ref 75), (1, .ref 0), (0, .ref x_scr)], [.int (xs ((i + 1)).toNatClampNeg), .ref 75], h, 98, 10728) P) : x_R x_mt (some (L, xs)) 10 M_law (525, [(3, .int i), (2, .ref 75), (1, .ref 0), (0, .ref x_scr)], [.int v], h, 98, 10728) P := by
  refine j_Lst (c' := (526, [(3, .int i), (2, .ref 75), (1, .ref 0), (0, .ref x_scr)], [], h, 98, 10728)) lr_525 rfl ?_
  refine j_Lst (c' := (527, [(3, .int i), (2, .ref 75), (1, .ref 0), (0, .ref x_scr)], [.ref 75], h, 98, 10728)) lr_526 rfl ?_
  refine j_Lst (c' := (528, [(3, .int i), (2, .ref 75), (1, .ref 0), (0, .ref x_scr)], [.ref x_scr, .ref 75], h, 98, 10728)) lr_527 rfl ?_
  refine j_Lst (c' := (529, [(3, .int i), (2, .ref 75), (1, .ref 0), (0, .ref x_scr)], [.int i, .ref x_scr, .ref 75], h, 98, 10728)) lr_528 rfl ?_
  refine j_Lst (c' := (530, [(3, .int i), (2, .ref 75), (1, .ref 0), (0, .ref x_scr)], [.int 1, .int i, .ref x_scr, .ref 75], h, 98, 10728)) lr_529 rfl ?_
  refine j_Lst (c' := (531, [(3, .int i), (2, .ref 75), (1, .ref 0), (0, .ref x_scr)], [.int (i + 1), .ref x_scr, .ref 75], h, 98, 10728)) lr_530 rfl ?_
  refine j_Lsl (c' := (532, [(3, .int i), (2, .ref 75), (1, .ref 0), (0, .ref x_scr)], [.int (xs ((i + 1)).toNatClampNeg), .ref 75], h, 98, 10728)) lr_531 rfl h1 ?_
  exact kk

set_option maxRecDepth 100000 in
theorem x_c6d (h : xH) (L : Nat) (xs : Nat → Int32) (i : Int32) (h0 : ¬ (i < 0 ∨ L ≤ (i).toNatClampNeg)) (h1 : ¬ (i + 1 < 0 ∨ L ≤ (i + 1).toNatClampNeg)) (h2 : ¬ (i + 2 < 0 ∨ L ≤ (i + 2).toNatClampNeg)) (h3 : ¬ (i + 3 < 0 ∨ L ≤ (i + 3).toNatClampNeg)) (h4 : ¬ (i + 4 < 0 ∨ L ≤ (i + 4).toNatClampNeg)) (h5 : ¬ (i + 5 < 0 ∨ L ≤ (i + 5).toNatClampNeg)) (w : Int32) {P : Option Value × xH × Nat × Nat → Prop} (kk : x_R x_mt (some (L, xs)) 10 M_law (18, [(3, .int (i + Int32.ofInt (6))), (2, .ref 75), (1, .ref 0), (0, .ref x_scr)], [], h, 98, 10728) P) : x_R x_mt (some (L, xs)) 10 M_law (535, [(3, .int i), (2, .ref 75), (1, .ref 0), (0, .ref x_scr)], [.int w], h, 98, 10728) P := by
  refine j_Lst (c' := (536, [(3, .int i), (2, .ref 75), (1, .ref 0), (0, .ref x_scr)], [], h, 98, 10728)) lr_535 rfl ?_
  refine j_Lst (c' := (2368, [(3, .int i), (2, .ref 75), (1, .ref 0), (0, .ref x_scr)], [], h, 98, 10728)) lr_536 rfl ?_
  refine j_Lst (c' := (2371, [(3, .int (i + Int32.ofInt (6))), (2, .ref 75), (1, .ref 0), (0, .ref x_scr)], [], h, 98, 10728)) lr_2368 rfl ?_
  refine j_Lst (c' := (18, [(3, .int (i + Int32.ofInt (6))), (2, .ref 75), (1, .ref 0), (0, .ref x_scr)], [], h, 98, 10728)) lr_2371 rfl ?_
  exact kk

set_option maxRecDepth 100000 in
theorem x_c7a (h : xH) (L : Nat) (xs : Nat → Int32) (i : Int32) (h0 : ¬ (i < 0 ∨ L ≤ (i).toNatClampNeg)) (h1 : ¬ (i + 1 < 0 ∨ L ≤ (i + 1).toNatClampNeg)) (h2 : ¬ (i + 2 < 0 ∨ L ≤ (i + 2).toNatClampNeg)) (h3 : ¬ (i + 3 < 0 ∨ L ≤ (i + 3).toNatClampNeg)) (h4 : ¬ (i + 4 < 0 ∨ L ≤ (i + 4).toNatClampNeg)) (h5 : ¬ (i + 5 < 0 ∨ L ≤ (i + 5).toNatClampNeg)) {P : Option Value × xH × Nat × Nat → Prop} (kk : x_R x_mt (some (L, xs)) 10 M_law (540, [(3, .int i), (2, .ref 75), (1, .ref 0), (0, .ref x_scr)], [.ref 0], h, 98, 10728) P) : x_R x_mt (some (L, xs)) 10 M_law (539, [(3, .int i), (2, .ref 75), (1, .ref 0), (0, .ref x_scr)], [], h, 98, 10728) P := by
  refine j_Lst (c' := (540, [(3, .int i), (2, .ref 75), (1, .ref 0), (0, .ref x_scr)], [.ref 0], h, 98, 10728)) lr_539 rfl ?_
  exact kk

set_option maxRecDepth 100000 in
theorem x_c7b (h : xH) (L : Nat) (xs : Nat → Int32) (i : Int32) (h0 : ¬ (i < 0 ∨ L ≤ (i).toNatClampNeg)) (h1 : ¬ (i + 1 < 0 ∨ L ≤ (i + 1).toNatClampNeg)) (h2 : ¬ (i + 2 < 0 ∨ L ≤ (i + 2).toNatClampNeg)) (h3 : ¬ (i + 3 < 0 ∨ L ≤ (i + 3).toNatClampNeg)) (h4 : ¬ (i + 4 < 0 ∨ L ≤ (i + 4).toNatClampNeg)) (h5 : ¬ (i + 5 < 0 ∨ L ≤ (i + 5).toNatClampNeg)) (v : Int32) {P : Option Value × xH × Nat × Nat → Prop} (kk : x_R x_mt (some (L, xs)) 10 M_law (545, [(3, .int i), (2, .ref 75), (1, .ref 0), (0, .ref x_scr)], [.ref 75], h, 98, 10728) P) : x_R x_mt (some (L, xs)) 10 M_law (543, [(3, .int i), (2, .ref 75), (1, .ref 0), (0, .ref x_scr)], [.int v], h, 98, 10728) P := by
  refine j_Lst (c' := (544, [(3, .int i), (2, .ref 75), (1, .ref 0), (0, .ref x_scr)], [], h, 98, 10728)) lr_543 rfl ?_
  refine j_Lst (c' := (545, [(3, .int i), (2, .ref 75), (1, .ref 0), (0, .ref x_scr)], [.ref 75], h, 98, 10728)) lr_544 rfl ?_
  exact kk

set_option maxRecDepth 100000 in
theorem x_c7d (h : xH) (L : Nat) (xs : Nat → Int32) (i : Int32) (h0 : ¬ (i < 0 ∨ L ≤ (i).toNatClampNeg)) (h1 : ¬ (i + 1 < 0 ∨ L ≤ (i + 1).toNatClampNeg)) (h2 : ¬ (i + 2 < 0 ∨ L ≤ (i + 2).toNatClampNeg)) (h3 : ¬ (i + 3 < 0 ∨ L ≤ (i + 3).toNatClampNeg)) (h4 : ¬ (i + 4 < 0 ∨ L ≤ (i + 4).toNatClampNeg)) (h5 : ¬ (i + 5 < 0 ∨ L ≤ (i + 5).toNatClampNeg)) (w : Int32) {P : Option Value × xH × Nat × Nat → Prop} (kk : x_R x_mt (some (L, xs)) 10 M_law (18, [(3, .int (i + Int32.ofInt (6))), (2, .ref 75), (1, .ref 0), (0, .ref x_scr)], [], h, 98, 10728) P) : x_R x_mt (some (L, xs)) 10 M_law (548, [(3, .int i), (2, .ref 75), (1, .ref 0), (0, .ref x_scr)], [.int w], h, 98, 10728) P := by
  refine j_Lst (c' := (549, [(3, .int i), (2, .ref 75), (1, .ref 0), (0, .ref x_scr)], [], h, 98, 10728)) lr_548 rfl ?_
  refine j_Lst (c' := (2368, [(3, .int i), (2, .ref 75), (1, .ref 0), (0, .ref x_scr)], [], h, 98, 10728)) lr_549 rfl ?_
  refine j_Lst (c' := (2371, [(3, .int (i + Int32.ofInt (6))), (2, .ref 75), (1, .ref 0), (0, .ref x_scr)], [], h, 98, 10728)) lr_2368 rfl ?_
  refine j_Lst (c' := (18, [(3, .int (i + Int32.ofInt (6))), (2, .ref 75), (1, .ref 0), (0, .ref x_scr)], [], h, 98, 10728)) lr_2371 rfl ?_
  exact kk

set_option maxRecDepth 100000 in
theorem x_c8a (h : xH) (L : Nat) (xs : Nat → Int32) (i : Int32) (h0 : ¬ (i < 0 ∨ L ≤ (i).toNatClampNeg)) (h1 : ¬ (i + 1 < 0 ∨ L ≤ (i + 1).toNatClampNeg)) (h2 : ¬ (i + 2 < 0 ∨ L ≤ (i + 2).toNatClampNeg)) (h3 : ¬ (i + 3 < 0 ∨ L ≤ (i + 3).toNatClampNeg)) (h4 : ¬ (i + 4 < 0 ∨ L ≤ (i + 4).toNatClampNeg)) (h5 : ¬ (i + 5 < 0 ∨ L ≤ (i + 5).toNatClampNeg)) {P : Option Value × xH × Nat × Nat → Prop} (kk : x_R x_mt (some (L, xs)) 10 M_law (563, [(3, .int i), (2, .ref 75), (1, .ref 0), (0, .ref x_scr)], [.int (xs ((i + 2)).toNatClampNeg), .int (xs ((i + 1)).toNatClampNeg), .ref 0], h, 98, 10728) P) : x_R x_mt (some (L, xs)) 10 M_law (552, [(3, .int i), (2, .ref 75), (1, .ref 0), (0, .ref x_scr)], [], h, 98, 10728) P := by
  refine j_Lst (c' := (553, [(3, .int i), (2, .ref 75), (1, .ref 0), (0, .ref x_scr)], [.ref 0], h, 98, 10728)) lr_552 rfl ?_
  refine j_Lst (c' := (554, [(3, .int i), (2, .ref 75), (1, .ref 0), (0, .ref x_scr)], [.ref x_scr, .ref 0], h, 98, 10728)) lr_553 rfl ?_
  refine j_Lst (c' := (555, [(3, .int i), (2, .ref 75), (1, .ref 0), (0, .ref x_scr)], [.int i, .ref x_scr, .ref 0], h, 98, 10728)) lr_554 rfl ?_
  refine j_Lst (c' := (556, [(3, .int i), (2, .ref 75), (1, .ref 0), (0, .ref x_scr)], [.int 1, .int i, .ref x_scr, .ref 0], h, 98, 10728)) lr_555 rfl ?_
  refine j_Lst (c' := (557, [(3, .int i), (2, .ref 75), (1, .ref 0), (0, .ref x_scr)], [.int (i + 1), .ref x_scr, .ref 0], h, 98, 10728)) lr_556 rfl ?_
  refine j_Lsl (c' := (558, [(3, .int i), (2, .ref 75), (1, .ref 0), (0, .ref x_scr)], [.int (xs ((i + 1)).toNatClampNeg), .ref 0], h, 98, 10728)) lr_557 rfl h1 ?_
  refine j_Lst (c' := (559, [(3, .int i), (2, .ref 75), (1, .ref 0), (0, .ref x_scr)], [.ref x_scr, .int (xs ((i + 1)).toNatClampNeg), .ref 0], h, 98, 10728)) lr_558 rfl ?_
  refine j_Lst (c' := (560, [(3, .int i), (2, .ref 75), (1, .ref 0), (0, .ref x_scr)], [.int i, .ref x_scr, .int (xs ((i + 1)).toNatClampNeg), .ref 0], h, 98, 10728)) lr_559 rfl ?_
  refine j_Lst (c' := (561, [(3, .int i), (2, .ref 75), (1, .ref 0), (0, .ref x_scr)], [.int 2, .int i, .ref x_scr, .int (xs ((i + 1)).toNatClampNeg), .ref 0], h, 98, 10728)) lr_560 rfl ?_
  refine j_Lst (c' := (562, [(3, .int i), (2, .ref 75), (1, .ref 0), (0, .ref x_scr)], [.int (i + 2), .ref x_scr, .int (xs ((i + 1)).toNatClampNeg), .ref 0], h, 98, 10728)) lr_561 rfl ?_
  refine j_Lsl (c' := (563, [(3, .int i), (2, .ref 75), (1, .ref 0), (0, .ref x_scr)], [.int (xs ((i + 2)).toNatClampNeg), .int (xs ((i + 1)).toNatClampNeg), .ref 0], h, 98, 10728)) lr_562 rfl h2 ?_
  exact kk

set_option maxRecDepth 100000 in
theorem x_c8b (h : xH) (L : Nat) (xs : Nat → Int32) (i : Int32) (h0 : ¬ (i < 0 ∨ L ≤ (i).toNatClampNeg)) (h1 : ¬ (i + 1 < 0 ∨ L ≤ (i + 1).toNatClampNeg)) (h2 : ¬ (i + 2 < 0 ∨ L ≤ (i + 2).toNatClampNeg)) (h3 : ¬ (i + 3 < 0 ∨ L ≤ (i + 3).toNatClampNeg)) (h4 : ¬ (i + 4 < 0 ∨ L ≤ (i + 4).toNatClampNeg)) (h5 : ¬ (i + 5 < 0 ∨ L ≤ (i + 5).toNatClampNeg)) (v : Int32) {P : Option Value × xH × Nat × Nat → Prop} (kk : x_R x_mt (some (L, xs)) 10 M_law (578, [(3, .int i), (2, .ref 75), (1, .ref 0), (0, .ref x_scr)], [.int (xs ((i + 2)).toNatClampNeg), .int (xs ((i + 1)).toNatClampNeg), .ref 75], h, 98, 10728) P) : x_R x_mt (some (L, xs)) 10 M_law (566, [(3, .int i), (2, .ref 75), (1, .ref 0), (0, .ref x_scr)], [.int v], h, 98, 10728) P := by
  refine j_Lst (c' := (567, [(3, .int i), (2, .ref 75), (1, .ref 0), (0, .ref x_scr)], [], h, 98, 10728)) lr_566 rfl ?_
  refine j_Lst (c' := (568, [(3, .int i), (2, .ref 75), (1, .ref 0), (0, .ref x_scr)], [.ref 75], h, 98, 10728)) lr_567 rfl ?_
  refine j_Lst (c' := (569, [(3, .int i), (2, .ref 75), (1, .ref 0), (0, .ref x_scr)], [.ref x_scr, .ref 75], h, 98, 10728)) lr_568 rfl ?_
  refine j_Lst (c' := (570, [(3, .int i), (2, .ref 75), (1, .ref 0), (0, .ref x_scr)], [.int i, .ref x_scr, .ref 75], h, 98, 10728)) lr_569 rfl ?_
  refine j_Lst (c' := (571, [(3, .int i), (2, .ref 75), (1, .ref 0), (0, .ref x_scr)], [.int 1, .int i, .ref x_scr, .ref 75], h, 98, 10728)) lr_570 rfl ?_
  refine j_Lst (c' := (572, [(3, .int i), (2, .ref 75), (1, .ref 0), (0, .ref x_scr)], [.int (i + 1), .ref x_scr, .ref 75], h, 98, 10728)) lr_571 rfl ?_
  refine j_Lsl (c' := (573, [(3, .int i), (2, .ref 75), (1, .ref 0), (0, .ref x_scr)], [.int (xs ((i + 1)).toNatClampNeg), .ref 75], h, 98, 10728)) lr_572 rfl h1 ?_
  refine j_Lst (c' := (574, [(3, .int i), (2, .ref 75), (1, .ref 0), (0, .ref x_scr)], [.ref x_scr, .int (xs ((i + 1)).toNatClampNeg), .ref 75], h, 98, 10728)) lr_573 rfl ?_
  refine j_Lst (c' := (575, [(3, .int i), (2, .ref 75), (1, .ref 0), (0, .ref x_scr)], [.int i, .ref x_scr, .int (xs ((i + 1)).toNatClampNeg), .ref 75], h, 98, 10728)) lr_574 rfl ?_
  refine j_Lst (c' := (576, [(3, .int i), (2, .ref 75), (1, .ref 0), (0, .ref x_scr)], [.int 2, .int i, .ref x_scr, .int (xs ((i + 1)).toNatClampNeg), .ref 75], h, 98, 10728)) lr_575 rfl ?_
  refine j_Lst (c' := (577, [(3, .int i), (2, .ref 75), (1, .ref 0), (0, .ref x_scr)], [.int (i + 2), .ref x_scr, .int (xs ((i + 1)).toNatClampNeg), .ref 75], h, 98, 10728)) lr_576 rfl ?_
  refine j_Lsl (c' := (578, [(3, .int i), (2, .ref 75), (1, .ref 0), (0, .ref x_scr)], [.int (xs ((i + 2)).toNatClampNeg), .int (xs ((i + 1)).toNatClampNeg), .ref 75], h, 98, 10728)) lr_577 rfl h2 ?_
  exact kk

set_option maxRecDepth 100000 in
theorem x_c8d (h : xH) (L : Nat) (xs : Nat → Int32) (i : Int32) (h0 : ¬ (i < 0 ∨ L ≤ (i).toNatClampNeg)) (h1 : ¬ (i + 1 < 0 ∨ L ≤ (i + 1).toNatClampNeg)) (h2 : ¬ (i + 2 < 0 ∨ L ≤ (i + 2).toNatClampNeg)) (h3 : ¬ (i + 3 < 0 ∨ L ≤ (i + 3).toNatClampNeg)) (h4 : ¬ (i + 4 < 0 ∨ L ≤ (i + 4).toNatClampNeg)) (h5 : ¬ (i + 5 < 0 ∨ L ≤ (i + 5).toNatClampNeg)) (w : Int32) {P : Option Value × xH × Nat × Nat → Prop} (kk : x_R x_mt (some (L, xs)) 10 M_law (18, [(3, .int (i + Int32.ofInt (6))), (2, .ref 75), (1, .ref 0), (0, .ref x_scr)], [], h, 98, 10728) P) : x_R x_mt (some (L, xs)) 10 M_law (581, [(3, .int i), (2, .ref 75), (1, .ref 0), (0, .ref x_scr)], [.int w], h, 98, 10728) P := by
  refine j_Lst (c' := (582, [(3, .int i), (2, .ref 75), (1, .ref 0), (0, .ref x_scr)], [], h, 98, 10728)) lr_581 rfl ?_
  refine j_Lst (c' := (2368, [(3, .int i), (2, .ref 75), (1, .ref 0), (0, .ref x_scr)], [], h, 98, 10728)) lr_582 rfl ?_
  refine j_Lst (c' := (2371, [(3, .int (i + Int32.ofInt (6))), (2, .ref 75), (1, .ref 0), (0, .ref x_scr)], [], h, 98, 10728)) lr_2368 rfl ?_
  refine j_Lst (c' := (18, [(3, .int (i + Int32.ofInt (6))), (2, .ref 75), (1, .ref 0), (0, .ref x_scr)], [], h, 98, 10728)) lr_2371 rfl ?_
  exact kk

set_option maxRecDepth 100000 in
theorem x_c9a (h : xH) (L : Nat) (xs : Nat → Int32) (i : Int32) (h0 : ¬ (i < 0 ∨ L ≤ (i).toNatClampNeg)) (h1 : ¬ (i + 1 < 0 ∨ L ≤ (i + 1).toNatClampNeg)) (h2 : ¬ (i + 2 < 0 ∨ L ≤ (i + 2).toNatClampNeg)) (h3 : ¬ (i + 3 < 0 ∨ L ≤ (i + 3).toNatClampNeg)) (h4 : ¬ (i + 4 < 0 ∨ L ≤ (i + 4).toNatClampNeg)) (h5 : ¬ (i + 5 < 0 ∨ L ≤ (i + 5).toNatClampNeg)) {P : Option Value × xH × Nat × Nat → Prop} (kk : x_R x_mt (some (L, xs)) 10 M_law (591, [(3, .int i), (2, .ref 75), (1, .ref 0), (0, .ref x_scr)], [.int (xs ((i + 1)).toNatClampNeg), .ref 0], h, 98, 10728) P) : x_R x_mt (some (L, xs)) 10 M_law (585, [(3, .int i), (2, .ref 75), (1, .ref 0), (0, .ref x_scr)], [], h, 98, 10728) P := by
  refine j_Lst (c' := (586, [(3, .int i), (2, .ref 75), (1, .ref 0), (0, .ref x_scr)], [.ref 0], h, 98, 10728)) lr_585 rfl ?_
  refine j_Lst (c' := (587, [(3, .int i), (2, .ref 75), (1, .ref 0), (0, .ref x_scr)], [.ref x_scr, .ref 0], h, 98, 10728)) lr_586 rfl ?_
  refine j_Lst (c' := (588, [(3, .int i), (2, .ref 75), (1, .ref 0), (0, .ref x_scr)], [.int i, .ref x_scr, .ref 0], h, 98, 10728)) lr_587 rfl ?_
  refine j_Lst (c' := (589, [(3, .int i), (2, .ref 75), (1, .ref 0), (0, .ref x_scr)], [.int 1, .int i, .ref x_scr, .ref 0], h, 98, 10728)) lr_588 rfl ?_
  refine j_Lst (c' := (590, [(3, .int i), (2, .ref 75), (1, .ref 0), (0, .ref x_scr)], [.int (i + 1), .ref x_scr, .ref 0], h, 98, 10728)) lr_589 rfl ?_
  refine j_Lsl (c' := (591, [(3, .int i), (2, .ref 75), (1, .ref 0), (0, .ref x_scr)], [.int (xs ((i + 1)).toNatClampNeg), .ref 0], h, 98, 10728)) lr_590 rfl h1 ?_
  exact kk

set_option maxRecDepth 100000 in
theorem x_c9b (h : xH) (L : Nat) (xs : Nat → Int32) (i : Int32) (h0 : ¬ (i < 0 ∨ L ≤ (i).toNatClampNeg)) (h1 : ¬ (i + 1 < 0 ∨ L ≤ (i + 1).toNatClampNeg)) (h2 : ¬ (i + 2 < 0 ∨ L ≤ (i + 2).toNatClampNeg)) (h3 : ¬ (i + 3 < 0 ∨ L ≤ (i + 3).toNatClampNeg)) (h4 : ¬ (i + 4 < 0 ∨ L ≤ (i + 4).toNatClampNeg)) (h5 : ¬ (i + 5 < 0 ∨ L ≤ (i + 5).toNatClampNeg)) (v : Int32) {P : Option Value × xH × Nat × Nat → Prop} (kk : x_R x_mt (some (L, xs)) 10 M_law (601, [(3, .int i), (2, .ref 75), (1, .ref 0), (0, .ref x_scr)], [.int (xs ((i + 1)).toNatClampNeg), .ref 75], h, 98, 10728) P) : x_R x_mt (some (L, xs)) 10 M_law (594, [(3, .int i), (2, .ref 75), (1, .ref 0), (0, .ref x_scr)], [.int v], h, 98, 10728) P := by
  refine j_Lst (c' := (595, [(3, .int i), (2, .ref 75), (1, .ref 0), (0, .ref x_scr)], [], h, 98, 10728)) lr_594 rfl ?_
  refine j_Lst (c' := (596, [(3, .int i), (2, .ref 75), (1, .ref 0), (0, .ref x_scr)], [.ref 75], h, 98, 10728)) lr_595 rfl ?_
  refine j_Lst (c' := (597, [(3, .int i), (2, .ref 75), (1, .ref 0), (0, .ref x_scr)], [.ref x_scr, .ref 75], h, 98, 10728)) lr_596 rfl ?_
  refine j_Lst (c' := (598, [(3, .int i), (2, .ref 75), (1, .ref 0), (0, .ref x_scr)], [.int i, .ref x_scr, .ref 75], h, 98, 10728)) lr_597 rfl ?_
  refine j_Lst (c' := (599, [(3, .int i), (2, .ref 75), (1, .ref 0), (0, .ref x_scr)], [.int 1, .int i, .ref x_scr, .ref 75], h, 98, 10728)) lr_598 rfl ?_
  refine j_Lst (c' := (600, [(3, .int i), (2, .ref 75), (1, .ref 0), (0, .ref x_scr)], [.int (i + 1), .ref x_scr, .ref 75], h, 98, 10728)) lr_599 rfl ?_
  refine j_Lsl (c' := (601, [(3, .int i), (2, .ref 75), (1, .ref 0), (0, .ref x_scr)], [.int (xs ((i + 1)).toNatClampNeg), .ref 75], h, 98, 10728)) lr_600 rfl h1 ?_
  exact kk

set_option maxRecDepth 100000 in
theorem x_c9d (h : xH) (L : Nat) (xs : Nat → Int32) (i : Int32) (h0 : ¬ (i < 0 ∨ L ≤ (i).toNatClampNeg)) (h1 : ¬ (i + 1 < 0 ∨ L ≤ (i + 1).toNatClampNeg)) (h2 : ¬ (i + 2 < 0 ∨ L ≤ (i + 2).toNatClampNeg)) (h3 : ¬ (i + 3 < 0 ∨ L ≤ (i + 3).toNatClampNeg)) (h4 : ¬ (i + 4 < 0 ∨ L ≤ (i + 4).toNatClampNeg)) (h5 : ¬ (i + 5 < 0 ∨ L ≤ (i + 5).toNatClampNeg)) (w : Int32) {P : Option Value × xH × Nat × Nat → Prop} (kk : x_R x_mt (some (L, xs)) 10 M_law (18, [(3, .int (i + Int32.ofInt (6))), (2, .ref 75), (1, .ref 0), (0, .ref x_scr)], [], h, 98, 10728) P) : x_R x_mt (some (L, xs)) 10 M_law (604, [(3, .int i), (2, .ref 75), (1, .ref 0), (0, .ref x_scr)], [.int w], h, 98, 10728) P := by
  refine j_Lst (c' := (605, [(3, .int i), (2, .ref 75), (1, .ref 0), (0, .ref x_scr)], [], h, 98, 10728)) lr_604 rfl ?_
  refine j_Lst (c' := (2368, [(3, .int i), (2, .ref 75), (1, .ref 0), (0, .ref x_scr)], [], h, 98, 10728)) lr_605 rfl ?_
  refine j_Lst (c' := (2371, [(3, .int (i + Int32.ofInt (6))), (2, .ref 75), (1, .ref 0), (0, .ref x_scr)], [], h, 98, 10728)) lr_2368 rfl ?_
  refine j_Lst (c' := (18, [(3, .int (i + Int32.ofInt (6))), (2, .ref 75), (1, .ref 0), (0, .ref x_scr)], [], h, 98, 10728)) lr_2371 rfl ?_
  exact kk

set_option maxRecDepth 100000 in
theorem x_c10a (h : xH) (L : Nat) (xs : Nat → Int32) (i : Int32) (h0 : ¬ (i < 0 ∨ L ≤ (i).toNatClampNeg)) (h1 : ¬ (i + 1 < 0 ∨ L ≤ (i + 1).toNatClampNeg)) (h2 : ¬ (i + 2 < 0 ∨ L ≤ (i + 2).toNatClampNeg)) (h3 : ¬ (i + 3 < 0 ∨ L ≤ (i + 3).toNatClampNeg)) (h4 : ¬ (i + 4 < 0 ∨ L ≤ (i + 4).toNatClampNeg)) (h5 : ¬ (i + 5 < 0 ∨ L ≤ (i + 5).toNatClampNeg)) {P : Option Value × xH × Nat × Nat → Prop} (kk : x_R x_mt (some (L, xs)) 10 M_law (609, [(3, .int i), (2, .ref 75), (1, .ref 0), (0, .ref x_scr)], [.ref 0], h, 98, 10728) P) : x_R x_mt (some (L, xs)) 10 M_law (608, [(3, .int i), (2, .ref 75), (1, .ref 0), (0, .ref x_scr)], [], h, 98, 10728) P := by
  refine j_Lst (c' := (609, [(3, .int i), (2, .ref 75), (1, .ref 0), (0, .ref x_scr)], [.ref 0], h, 98, 10728)) lr_608 rfl ?_
  exact kk

set_option maxRecDepth 100000 in
theorem x_c10b (h : xH) (L : Nat) (xs : Nat → Int32) (i : Int32) (h0 : ¬ (i < 0 ∨ L ≤ (i).toNatClampNeg)) (h1 : ¬ (i + 1 < 0 ∨ L ≤ (i + 1).toNatClampNeg)) (h2 : ¬ (i + 2 < 0 ∨ L ≤ (i + 2).toNatClampNeg)) (h3 : ¬ (i + 3 < 0 ∨ L ≤ (i + 3).toNatClampNeg)) (h4 : ¬ (i + 4 < 0 ∨ L ≤ (i + 4).toNatClampNeg)) (h5 : ¬ (i + 5 < 0 ∨ L ≤ (i + 5).toNatClampNeg)) (v : Int32) {P : Option Value × xH × Nat × Nat → Prop} (kk : x_R x_mt (some (L, xs)) 10 M_law (614, [(3, .int i), (2, .ref 75), (1, .ref 0), (0, .ref x_scr)], [.ref 75], h, 98, 10728) P) : x_R x_mt (some (L, xs)) 10 M_law (612, [(3, .int i), (2, .ref 75), (1, .ref 0), (0, .ref x_scr)], [.int v], h, 98, 10728) P := by
  refine j_Lst (c' := (613, [(3, .int i), (2, .ref 75), (1, .ref 0), (0, .ref x_scr)], [], h, 98, 10728)) lr_612 rfl ?_
  refine j_Lst (c' := (614, [(3, .int i), (2, .ref 75), (1, .ref 0), (0, .ref x_scr)], [.ref 75], h, 98, 10728)) lr_613 rfl ?_
  exact kk

set_option maxRecDepth 100000 in
theorem x_c10d (h : xH) (L : Nat) (xs : Nat → Int32) (i : Int32) (h0 : ¬ (i < 0 ∨ L ≤ (i).toNatClampNeg)) (h1 : ¬ (i + 1 < 0 ∨ L ≤ (i + 1).toNatClampNeg)) (h2 : ¬ (i + 2 < 0 ∨ L ≤ (i + 2).toNatClampNeg)) (h3 : ¬ (i + 3 < 0 ∨ L ≤ (i + 3).toNatClampNeg)) (h4 : ¬ (i + 4 < 0 ∨ L ≤ (i + 4).toNatClampNeg)) (h5 : ¬ (i + 5 < 0 ∨ L ≤ (i + 5).toNatClampNeg)) (w : Int32) {P : Option Value × xH × Nat × Nat → Prop} (kk : x_R x_mt (some (L, xs)) 10 M_law (18, [(3, .int (i + Int32.ofInt (6))), (2, .ref 75), (1, .ref 0), (0, .ref x_scr)], [], h, 98, 10728) P) : x_R x_mt (some (L, xs)) 10 M_law (617, [(3, .int i), (2, .ref 75), (1, .ref 0), (0, .ref x_scr)], [.int w], h, 98, 10728) P := by
  refine j_Lst (c' := (618, [(3, .int i), (2, .ref 75), (1, .ref 0), (0, .ref x_scr)], [], h, 98, 10728)) lr_617 rfl ?_
  refine j_Lst (c' := (2368, [(3, .int i), (2, .ref 75), (1, .ref 0), (0, .ref x_scr)], [], h, 98, 10728)) lr_618 rfl ?_
  refine j_Lst (c' := (2371, [(3, .int (i + Int32.ofInt (6))), (2, .ref 75), (1, .ref 0), (0, .ref x_scr)], [], h, 98, 10728)) lr_2368 rfl ?_
  refine j_Lst (c' := (18, [(3, .int (i + Int32.ofInt (6))), (2, .ref 75), (1, .ref 0), (0, .ref x_scr)], [], h, 98, 10728)) lr_2371 rfl ?_
  exact kk

set_option maxRecDepth 100000 in
theorem x_c11a (h : xH) (L : Nat) (xs : Nat → Int32) (i : Int32) (h0 : ¬ (i < 0 ∨ L ≤ (i).toNatClampNeg)) (h1 : ¬ (i + 1 < 0 ∨ L ≤ (i + 1).toNatClampNeg)) (h2 : ¬ (i + 2 < 0 ∨ L ≤ (i + 2).toNatClampNeg)) (h3 : ¬ (i + 3 < 0 ∨ L ≤ (i + 3).toNatClampNeg)) (h4 : ¬ (i + 4 < 0 ∨ L ≤ (i + 4).toNatClampNeg)) (h5 : ¬ (i + 5 < 0 ∨ L ≤ (i + 5).toNatClampNeg)) {P : Option Value × xH × Nat × Nat → Prop} (kk : x_R x_mt (some (L, xs)) 10 M_law (632, [(3, .int i), (2, .ref 75), (1, .ref 0), (0, .ref x_scr)], [.int (xs ((i + 2)).toNatClampNeg), .int (xs ((i + 1)).toNatClampNeg), .ref 0], h, 98, 10728) P) : x_R x_mt (some (L, xs)) 10 M_law (621, [(3, .int i), (2, .ref 75), (1, .ref 0), (0, .ref x_scr)], [], h, 98, 10728) P := by
  refine j_Lst (c' := (622, [(3, .int i), (2, .ref 75), (1, .ref 0), (0, .ref x_scr)], [.ref 0], h, 98, 10728)) lr_621 rfl ?_
  refine j_Lst (c' := (623, [(3, .int i), (2, .ref 75), (1, .ref 0), (0, .ref x_scr)], [.ref x_scr, .ref 0], h, 98, 10728)) lr_622 rfl ?_
  refine j_Lst (c' := (624, [(3, .int i), (2, .ref 75), (1, .ref 0), (0, .ref x_scr)], [.int i, .ref x_scr, .ref 0], h, 98, 10728)) lr_623 rfl ?_
  refine j_Lst (c' := (625, [(3, .int i), (2, .ref 75), (1, .ref 0), (0, .ref x_scr)], [.int 1, .int i, .ref x_scr, .ref 0], h, 98, 10728)) lr_624 rfl ?_
  refine j_Lst (c' := (626, [(3, .int i), (2, .ref 75), (1, .ref 0), (0, .ref x_scr)], [.int (i + 1), .ref x_scr, .ref 0], h, 98, 10728)) lr_625 rfl ?_
  refine j_Lsl (c' := (627, [(3, .int i), (2, .ref 75), (1, .ref 0), (0, .ref x_scr)], [.int (xs ((i + 1)).toNatClampNeg), .ref 0], h, 98, 10728)) lr_626 rfl h1 ?_
  refine j_Lst (c' := (628, [(3, .int i), (2, .ref 75), (1, .ref 0), (0, .ref x_scr)], [.ref x_scr, .int (xs ((i + 1)).toNatClampNeg), .ref 0], h, 98, 10728)) lr_627 rfl ?_
  refine j_Lst (c' := (629, [(3, .int i), (2, .ref 75), (1, .ref 0), (0, .ref x_scr)], [.int i, .ref x_scr, .int (xs ((i + 1)).toNatClampNeg), .ref 0], h, 98, 10728)) lr_628 rfl ?_
  refine j_Lst (c' := (630, [(3, .int i), (2, .ref 75), (1, .ref 0), (0, .ref x_scr)], [.int 2, .int i, .ref x_scr, .int (xs ((i + 1)).toNatClampNeg), .ref 0], h, 98, 10728)) lr_629 rfl ?_
  refine j_Lst (c' := (631, [(3, .int i), (2, .ref 75), (1, .ref 0), (0, .ref x_scr)], [.int (i + 2), .ref x_scr, .int (xs ((i + 1)).toNatClampNeg), .ref 0], h, 98, 10728)) lr_630 rfl ?_
  refine j_Lsl (c' := (632, [(3, .int i), (2, .ref 75), (1, .ref 0), (0, .ref x_scr)], [.int (xs ((i + 2)).toNatClampNeg), .int (xs ((i + 1)).toNatClampNeg), .ref 0], h, 98, 10728)) lr_631 rfl h2 ?_
  exact kk

set_option maxRecDepth 100000 in
theorem x_c11b (h : xH) (L : Nat) (xs : Nat → Int32) (i : Int32) (h0 : ¬ (i < 0 ∨ L ≤ (i).toNatClampNeg)) (h1 : ¬ (i + 1 < 0 ∨ L ≤ (i + 1).toNatClampNeg)) (h2 : ¬ (i + 2 < 0 ∨ L ≤ (i + 2).toNatClampNeg)) (h3 : ¬ (i + 3 < 0 ∨ L ≤ (i + 3).toNatClampNeg)) (h4 : ¬ (i + 4 < 0 ∨ L ≤ (i + 4).toNatClampNeg)) (h5 : ¬ (i + 5 < 0 ∨ L ≤ (i + 5).toNatClampNeg)) (v : Int32) {P : Option Value × xH × Nat × Nat → Prop} (kk : x_R x_mt (some (L, xs)) 10 M_law (647, [(3, .int i), (2, .ref 75), (1, .ref 0), (0, .ref x_scr)], [.int (xs ((i + 2)).toNatClampNeg), .int (xs ((i + 1)).toNatClampNeg), .ref 75], h, 98, 10728) P) : x_R x_mt (some (L, xs)) 10 M_law (635, [(3, .int i), (2, .ref 75), (1, .ref 0), (0, .ref x_scr)], [.int v], h, 98, 10728) P := by
  refine j_Lst (c' := (636, [(3, .int i), (2, .ref 75), (1, .ref 0), (0, .ref x_scr)], [], h, 98, 10728)) lr_635 rfl ?_
  refine j_Lst (c' := (637, [(3, .int i), (2, .ref 75), (1, .ref 0), (0, .ref x_scr)], [.ref 75], h, 98, 10728)) lr_636 rfl ?_
  refine j_Lst (c' := (638, [(3, .int i), (2, .ref 75), (1, .ref 0), (0, .ref x_scr)], [.ref x_scr, .ref 75], h, 98, 10728)) lr_637 rfl ?_
  refine j_Lst (c' := (639, [(3, .int i), (2, .ref 75), (1, .ref 0), (0, .ref x_scr)], [.int i, .ref x_scr, .ref 75], h, 98, 10728)) lr_638 rfl ?_
  refine j_Lst (c' := (640, [(3, .int i), (2, .ref 75), (1, .ref 0), (0, .ref x_scr)], [.int 1, .int i, .ref x_scr, .ref 75], h, 98, 10728)) lr_639 rfl ?_
  refine j_Lst (c' := (641, [(3, .int i), (2, .ref 75), (1, .ref 0), (0, .ref x_scr)], [.int (i + 1), .ref x_scr, .ref 75], h, 98, 10728)) lr_640 rfl ?_
  refine j_Lsl (c' := (642, [(3, .int i), (2, .ref 75), (1, .ref 0), (0, .ref x_scr)], [.int (xs ((i + 1)).toNatClampNeg), .ref 75], h, 98, 10728)) lr_641 rfl h1 ?_
  refine j_Lst (c' := (643, [(3, .int i), (2, .ref 75), (1, .ref 0), (0, .ref x_scr)], [.ref x_scr, .int (xs ((i + 1)).toNatClampNeg), .ref 75], h, 98, 10728)) lr_642 rfl ?_
  refine j_Lst (c' := (644, [(3, .int i), (2, .ref 75), (1, .ref 0), (0, .ref x_scr)], [.int i, .ref x_scr, .int (xs ((i + 1)).toNatClampNeg), .ref 75], h, 98, 10728)) lr_643 rfl ?_
  refine j_Lst (c' := (645, [(3, .int i), (2, .ref 75), (1, .ref 0), (0, .ref x_scr)], [.int 2, .int i, .ref x_scr, .int (xs ((i + 1)).toNatClampNeg), .ref 75], h, 98, 10728)) lr_644 rfl ?_
  refine j_Lst (c' := (646, [(3, .int i), (2, .ref 75), (1, .ref 0), (0, .ref x_scr)], [.int (i + 2), .ref x_scr, .int (xs ((i + 1)).toNatClampNeg), .ref 75], h, 98, 10728)) lr_645 rfl ?_
  refine j_Lsl (c' := (647, [(3, .int i), (2, .ref 75), (1, .ref 0), (0, .ref x_scr)], [.int (xs ((i + 2)).toNatClampNeg), .int (xs ((i + 1)).toNatClampNeg), .ref 75], h, 98, 10728)) lr_646 rfl h2 ?_
  exact kk

set_option maxRecDepth 100000 in
theorem x_c11d (h : xH) (L : Nat) (xs : Nat → Int32) (i : Int32) (h0 : ¬ (i < 0 ∨ L ≤ (i).toNatClampNeg)) (h1 : ¬ (i + 1 < 0 ∨ L ≤ (i + 1).toNatClampNeg)) (h2 : ¬ (i + 2 < 0 ∨ L ≤ (i + 2).toNatClampNeg)) (h3 : ¬ (i + 3 < 0 ∨ L ≤ (i + 3).toNatClampNeg)) (h4 : ¬ (i + 4 < 0 ∨ L ≤ (i + 4).toNatClampNeg)) (h5 : ¬ (i + 5 < 0 ∨ L ≤ (i + 5).toNatClampNeg)) (w : Int32) {P : Option Value × xH × Nat × Nat → Prop} (kk : x_R x_mt (some (L, xs)) 10 M_law (18, [(3, .int (i + Int32.ofInt (6))), (2, .ref 75), (1, .ref 0), (0, .ref x_scr)], [], h, 98, 10728) P) : x_R x_mt (some (L, xs)) 10 M_law (650, [(3, .int i), (2, .ref 75), (1, .ref 0), (0, .ref x_scr)], [.int w], h, 98, 10728) P := by
  refine j_Lst (c' := (651, [(3, .int i), (2, .ref 75), (1, .ref 0), (0, .ref x_scr)], [], h, 98, 10728)) lr_650 rfl ?_
  refine j_Lst (c' := (2368, [(3, .int i), (2, .ref 75), (1, .ref 0), (0, .ref x_scr)], [], h, 98, 10728)) lr_651 rfl ?_
  refine j_Lst (c' := (2371, [(3, .int (i + Int32.ofInt (6))), (2, .ref 75), (1, .ref 0), (0, .ref x_scr)], [], h, 98, 10728)) lr_2368 rfl ?_
  refine j_Lst (c' := (18, [(3, .int (i + Int32.ofInt (6))), (2, .ref 75), (1, .ref 0), (0, .ref x_scr)], [], h, 98, 10728)) lr_2371 rfl ?_
  exact kk

set_option maxRecDepth 100000 in
theorem x_c12a (h : xH) (L : Nat) (xs : Nat → Int32) (i : Int32) (h0 : ¬ (i < 0 ∨ L ≤ (i).toNatClampNeg)) (h1 : ¬ (i + 1 < 0 ∨ L ≤ (i + 1).toNatClampNeg)) (h2 : ¬ (i + 2 < 0 ∨ L ≤ (i + 2).toNatClampNeg)) (h3 : ¬ (i + 3 < 0 ∨ L ≤ (i + 3).toNatClampNeg)) (h4 : ¬ (i + 4 < 0 ∨ L ≤ (i + 4).toNatClampNeg)) (h5 : ¬ (i + 5 < 0 ∨ L ≤ (i + 5).toNatClampNeg)) {P : Option Value × xH × Nat × Nat → Prop} (kk : x_R x_mt (some (L, xs)) 10 M_law (665, [(3, .int i), (2, .ref 75), (1, .ref 0), (0, .ref x_scr)], [.int (xs ((i + 2)).toNatClampNeg), .int (xs ((i + 1)).toNatClampNeg), .ref 0], h, 98, 10728) P) : x_R x_mt (some (L, xs)) 10 M_law (654, [(3, .int i), (2, .ref 75), (1, .ref 0), (0, .ref x_scr)], [], h, 98, 10728) P := by
  refine j_Lst (c' := (655, [(3, .int i), (2, .ref 75), (1, .ref 0), (0, .ref x_scr)], [.ref 0], h, 98, 10728)) lr_654 rfl ?_
  refine j_Lst (c' := (656, [(3, .int i), (2, .ref 75), (1, .ref 0), (0, .ref x_scr)], [.ref x_scr, .ref 0], h, 98, 10728)) lr_655 rfl ?_
  refine j_Lst (c' := (657, [(3, .int i), (2, .ref 75), (1, .ref 0), (0, .ref x_scr)], [.int i, .ref x_scr, .ref 0], h, 98, 10728)) lr_656 rfl ?_
  refine j_Lst (c' := (658, [(3, .int i), (2, .ref 75), (1, .ref 0), (0, .ref x_scr)], [.int 1, .int i, .ref x_scr, .ref 0], h, 98, 10728)) lr_657 rfl ?_
  refine j_Lst (c' := (659, [(3, .int i), (2, .ref 75), (1, .ref 0), (0, .ref x_scr)], [.int (i + 1), .ref x_scr, .ref 0], h, 98, 10728)) lr_658 rfl ?_
  refine j_Lsl (c' := (660, [(3, .int i), (2, .ref 75), (1, .ref 0), (0, .ref x_scr)], [.int (xs ((i + 1)).toNatClampNeg), .ref 0], h, 98, 10728)) lr_659 rfl h1 ?_
  refine j_Lst (c' := (661, [(3, .int i), (2, .ref 75), (1, .ref 0), (0, .ref x_scr)], [.ref x_scr, .int (xs ((i + 1)).toNatClampNeg), .ref 0], h, 98, 10728)) lr_660 rfl ?_
  refine j_Lst (c' := (662, [(3, .int i), (2, .ref 75), (1, .ref 0), (0, .ref x_scr)], [.int i, .ref x_scr, .int (xs ((i + 1)).toNatClampNeg), .ref 0], h, 98, 10728)) lr_661 rfl ?_
  refine j_Lst (c' := (663, [(3, .int i), (2, .ref 75), (1, .ref 0), (0, .ref x_scr)], [.int 2, .int i, .ref x_scr, .int (xs ((i + 1)).toNatClampNeg), .ref 0], h, 98, 10728)) lr_662 rfl ?_
  refine j_Lst (c' := (664, [(3, .int i), (2, .ref 75), (1, .ref 0), (0, .ref x_scr)], [.int (i + 2), .ref x_scr, .int (xs ((i + 1)).toNatClampNeg), .ref 0], h, 98, 10728)) lr_663 rfl ?_
  refine j_Lsl (c' := (665, [(3, .int i), (2, .ref 75), (1, .ref 0), (0, .ref x_scr)], [.int (xs ((i + 2)).toNatClampNeg), .int (xs ((i + 1)).toNatClampNeg), .ref 0], h, 98, 10728)) lr_664 rfl h2 ?_
  exact kk

set_option maxRecDepth 100000 in
theorem x_c12b (h : xH) (L : Nat) (xs : Nat → Int32) (i : Int32) (h0 : ¬ (i < 0 ∨ L ≤ (i).toNatClampNeg)) (h1 : ¬ (i + 1 < 0 ∨ L ≤ (i + 1).toNatClampNeg)) (h2 : ¬ (i + 2 < 0 ∨ L ≤ (i + 2).toNatClampNeg)) (h3 : ¬ (i + 3 < 0 ∨ L ≤ (i + 3).toNatClampNeg)) (h4 : ¬ (i + 4 < 0 ∨ L ≤ (i + 4).toNatClampNeg)) (h5 : ¬ (i + 5 < 0 ∨ L ≤ (i + 5).toNatClampNeg)) (v : Int32) {P : Option Value × xH × Nat × Nat → Prop} (kk : x_R x_mt (some (L, xs)) 10 M_law (680, [(3, .int i), (2, .ref 75), (1, .ref 0), (0, .ref x_scr)], [.int (xs ((i + 2)).toNatClampNeg), .int (xs ((i + 1)).toNatClampNeg), .ref 75], h, 98, 10728) P) : x_R x_mt (some (L, xs)) 10 M_law (668, [(3, .int i), (2, .ref 75), (1, .ref 0), (0, .ref x_scr)], [.int v], h, 98, 10728) P := by
  refine j_Lst (c' := (669, [(3, .int i), (2, .ref 75), (1, .ref 0), (0, .ref x_scr)], [], h, 98, 10728)) lr_668 rfl ?_
  refine j_Lst (c' := (670, [(3, .int i), (2, .ref 75), (1, .ref 0), (0, .ref x_scr)], [.ref 75], h, 98, 10728)) lr_669 rfl ?_
  refine j_Lst (c' := (671, [(3, .int i), (2, .ref 75), (1, .ref 0), (0, .ref x_scr)], [.ref x_scr, .ref 75], h, 98, 10728)) lr_670 rfl ?_
  refine j_Lst (c' := (672, [(3, .int i), (2, .ref 75), (1, .ref 0), (0, .ref x_scr)], [.int i, .ref x_scr, .ref 75], h, 98, 10728)) lr_671 rfl ?_
  refine j_Lst (c' := (673, [(3, .int i), (2, .ref 75), (1, .ref 0), (0, .ref x_scr)], [.int 1, .int i, .ref x_scr, .ref 75], h, 98, 10728)) lr_672 rfl ?_
  refine j_Lst (c' := (674, [(3, .int i), (2, .ref 75), (1, .ref 0), (0, .ref x_scr)], [.int (i + 1), .ref x_scr, .ref 75], h, 98, 10728)) lr_673 rfl ?_
  refine j_Lsl (c' := (675, [(3, .int i), (2, .ref 75), (1, .ref 0), (0, .ref x_scr)], [.int (xs ((i + 1)).toNatClampNeg), .ref 75], h, 98, 10728)) lr_674 rfl h1 ?_
  refine j_Lst (c' := (676, [(3, .int i), (2, .ref 75), (1, .ref 0), (0, .ref x_scr)], [.ref x_scr, .int (xs ((i + 1)).toNatClampNeg), .ref 75], h, 98, 10728)) lr_675 rfl ?_
  refine j_Lst (c' := (677, [(3, .int i), (2, .ref 75), (1, .ref 0), (0, .ref x_scr)], [.int i, .ref x_scr, .int (xs ((i + 1)).toNatClampNeg), .ref 75], h, 98, 10728)) lr_676 rfl ?_
  refine j_Lst (c' := (678, [(3, .int i), (2, .ref 75), (1, .ref 0), (0, .ref x_scr)], [.int 2, .int i, .ref x_scr, .int (xs ((i + 1)).toNatClampNeg), .ref 75], h, 98, 10728)) lr_677 rfl ?_
  refine j_Lst (c' := (679, [(3, .int i), (2, .ref 75), (1, .ref 0), (0, .ref x_scr)], [.int (i + 2), .ref x_scr, .int (xs ((i + 1)).toNatClampNeg), .ref 75], h, 98, 10728)) lr_678 rfl ?_
  refine j_Lsl (c' := (680, [(3, .int i), (2, .ref 75), (1, .ref 0), (0, .ref x_scr)], [.int (xs ((i + 2)).toNatClampNeg), .int (xs ((i + 1)).toNatClampNeg), .ref 75], h, 98, 10728)) lr_679 rfl h2 ?_
  exact kk

set_option maxRecDepth 100000 in
theorem x_c12d (h : xH) (L : Nat) (xs : Nat → Int32) (i : Int32) (h0 : ¬ (i < 0 ∨ L ≤ (i).toNatClampNeg)) (h1 : ¬ (i + 1 < 0 ∨ L ≤ (i + 1).toNatClampNeg)) (h2 : ¬ (i + 2 < 0 ∨ L ≤ (i + 2).toNatClampNeg)) (h3 : ¬ (i + 3 < 0 ∨ L ≤ (i + 3).toNatClampNeg)) (h4 : ¬ (i + 4 < 0 ∨ L ≤ (i + 4).toNatClampNeg)) (h5 : ¬ (i + 5 < 0 ∨ L ≤ (i + 5).toNatClampNeg)) (w : Int32) {P : Option Value × xH × Nat × Nat → Prop} (kk : x_R x_mt (some (L, xs)) 10 M_law (18, [(3, .int (i + Int32.ofInt (6))), (2, .ref 75), (1, .ref 0), (0, .ref x_scr)], [], h, 98, 10728) P) : x_R x_mt (some (L, xs)) 10 M_law (683, [(3, .int i), (2, .ref 75), (1, .ref 0), (0, .ref x_scr)], [.int w], h, 98, 10728) P := by
  refine j_Lst (c' := (684, [(3, .int i), (2, .ref 75), (1, .ref 0), (0, .ref x_scr)], [], h, 98, 10728)) lr_683 rfl ?_
  refine j_Lst (c' := (2368, [(3, .int i), (2, .ref 75), (1, .ref 0), (0, .ref x_scr)], [], h, 98, 10728)) lr_684 rfl ?_
  refine j_Lst (c' := (2371, [(3, .int (i + Int32.ofInt (6))), (2, .ref 75), (1, .ref 0), (0, .ref x_scr)], [], h, 98, 10728)) lr_2368 rfl ?_
  refine j_Lst (c' := (18, [(3, .int (i + Int32.ofInt (6))), (2, .ref 75), (1, .ref 0), (0, .ref x_scr)], [], h, 98, 10728)) lr_2371 rfl ?_
  exact kk

set_option maxRecDepth 100000 in
theorem x_c13a (h : xH) (L : Nat) (xs : Nat → Int32) (i : Int32) (h0 : ¬ (i < 0 ∨ L ≤ (i).toNatClampNeg)) (h1 : ¬ (i + 1 < 0 ∨ L ≤ (i + 1).toNatClampNeg)) (h2 : ¬ (i + 2 < 0 ∨ L ≤ (i + 2).toNatClampNeg)) (h3 : ¬ (i + 3 < 0 ∨ L ≤ (i + 3).toNatClampNeg)) (h4 : ¬ (i + 4 < 0 ∨ L ≤ (i + 4).toNatClampNeg)) (h5 : ¬ (i + 5 < 0 ∨ L ≤ (i + 5).toNatClampNeg)) {P : Option Value × xH × Nat × Nat → Prop} (kk : x_R x_mt (some (L, xs)) 10 M_law (698, [(3, .int i), (2, .ref 75), (1, .ref 0), (0, .ref x_scr)], [.int (xs ((i + 2)).toNatClampNeg), .int (xs ((i + 1)).toNatClampNeg), .ref 0], h, 98, 10728) P) : x_R x_mt (some (L, xs)) 10 M_law (687, [(3, .int i), (2, .ref 75), (1, .ref 0), (0, .ref x_scr)], [], h, 98, 10728) P := by
  refine j_Lst (c' := (688, [(3, .int i), (2, .ref 75), (1, .ref 0), (0, .ref x_scr)], [.ref 0], h, 98, 10728)) lr_687 rfl ?_
  refine j_Lst (c' := (689, [(3, .int i), (2, .ref 75), (1, .ref 0), (0, .ref x_scr)], [.ref x_scr, .ref 0], h, 98, 10728)) lr_688 rfl ?_
  refine j_Lst (c' := (690, [(3, .int i), (2, .ref 75), (1, .ref 0), (0, .ref x_scr)], [.int i, .ref x_scr, .ref 0], h, 98, 10728)) lr_689 rfl ?_
  refine j_Lst (c' := (691, [(3, .int i), (2, .ref 75), (1, .ref 0), (0, .ref x_scr)], [.int 1, .int i, .ref x_scr, .ref 0], h, 98, 10728)) lr_690 rfl ?_
  refine j_Lst (c' := (692, [(3, .int i), (2, .ref 75), (1, .ref 0), (0, .ref x_scr)], [.int (i + 1), .ref x_scr, .ref 0], h, 98, 10728)) lr_691 rfl ?_
  refine j_Lsl (c' := (693, [(3, .int i), (2, .ref 75), (1, .ref 0), (0, .ref x_scr)], [.int (xs ((i + 1)).toNatClampNeg), .ref 0], h, 98, 10728)) lr_692 rfl h1 ?_
  refine j_Lst (c' := (694, [(3, .int i), (2, .ref 75), (1, .ref 0), (0, .ref x_scr)], [.ref x_scr, .int (xs ((i + 1)).toNatClampNeg), .ref 0], h, 98, 10728)) lr_693 rfl ?_
  refine j_Lst (c' := (695, [(3, .int i), (2, .ref 75), (1, .ref 0), (0, .ref x_scr)], [.int i, .ref x_scr, .int (xs ((i + 1)).toNatClampNeg), .ref 0], h, 98, 10728)) lr_694 rfl ?_
  refine j_Lst (c' := (696, [(3, .int i), (2, .ref 75), (1, .ref 0), (0, .ref x_scr)], [.int 2, .int i, .ref x_scr, .int (xs ((i + 1)).toNatClampNeg), .ref 0], h, 98, 10728)) lr_695 rfl ?_
  refine j_Lst (c' := (697, [(3, .int i), (2, .ref 75), (1, .ref 0), (0, .ref x_scr)], [.int (i + 2), .ref x_scr, .int (xs ((i + 1)).toNatClampNeg), .ref 0], h, 98, 10728)) lr_696 rfl ?_
  refine j_Lsl (c' := (698, [(3, .int i), (2, .ref 75), (1, .ref 0), (0, .ref x_scr)], [.int (xs ((i + 2)).toNatClampNeg), .int (xs ((i + 1)).toNatClampNeg), .ref 0], h, 98, 10728)) lr_697 rfl h2 ?_
  exact kk

set_option maxRecDepth 100000 in
theorem x_c13b (h : xH) (L : Nat) (xs : Nat → Int32) (i : Int32) (h0 : ¬ (i < 0 ∨ L ≤ (i).toNatClampNeg)) (h1 : ¬ (i + 1 < 0 ∨ L ≤ (i + 1).toNatClampNeg)) (h2 : ¬ (i + 2 < 0 ∨ L ≤ (i + 2).toNatClampNeg)) (h3 : ¬ (i + 3 < 0 ∨ L ≤ (i + 3).toNatClampNeg)) (h4 : ¬ (i + 4 < 0 ∨ L ≤ (i + 4).toNatClampNeg)) (h5 : ¬ (i + 5 < 0 ∨ L ≤ (i + 5).toNatClampNeg)) (v : Int32) {P : Option Value × xH × Nat × Nat → Prop} (kk : x_R x_mt (some (L, xs)) 10 M_law (713, [(3, .int i), (2, .ref 75), (1, .ref 0), (0, .ref x_scr)], [.int (xs ((i + 2)).toNatClampNeg), .int (xs ((i + 1)).toNatClampNeg), .ref 75], h, 98, 10728) P) : x_R x_mt (some (L, xs)) 10 M_law (701, [(3, .int i), (2, .ref 75), (1, .ref 0), (0, .ref x_scr)], [.int v], h, 98, 10728) P := by
  refine j_Lst (c' := (702, [(3, .int i), (2, .ref 75), (1, .ref 0), (0, .ref x_scr)], [], h, 98, 10728)) lr_701 rfl ?_
  refine j_Lst (c' := (703, [(3, .int i), (2, .ref 75), (1, .ref 0), (0, .ref x_scr)], [.ref 75], h, 98, 10728)) lr_702 rfl ?_
  refine j_Lst (c' := (704, [(3, .int i), (2, .ref 75), (1, .ref 0), (0, .ref x_scr)], [.ref x_scr, .ref 75], h, 98, 10728)) lr_703 rfl ?_
  refine j_Lst (c' := (705, [(3, .int i), (2, .ref 75), (1, .ref 0), (0, .ref x_scr)], [.int i, .ref x_scr, .ref 75], h, 98, 10728)) lr_704 rfl ?_
  refine j_Lst (c' := (706, [(3, .int i), (2, .ref 75), (1, .ref 0), (0, .ref x_scr)], [.int 1, .int i, .ref x_scr, .ref 75], h, 98, 10728)) lr_705 rfl ?_
  refine j_Lst (c' := (707, [(3, .int i), (2, .ref 75), (1, .ref 0), (0, .ref x_scr)], [.int (i + 1), .ref x_scr, .ref 75], h, 98, 10728)) lr_706 rfl ?_
  refine j_Lsl (c' := (708, [(3, .int i), (2, .ref 75), (1, .ref 0), (0, .ref x_scr)], [.int (xs ((i + 1)).toNatClampNeg), .ref 75], h, 98, 10728)) lr_707 rfl h1 ?_
  refine j_Lst (c' := (709, [(3, .int i), (2, .ref 75), (1, .ref 0), (0, .ref x_scr)], [.ref x_scr, .int (xs ((i + 1)).toNatClampNeg), .ref 75], h, 98, 10728)) lr_708 rfl ?_
  refine j_Lst (c' := (710, [(3, .int i), (2, .ref 75), (1, .ref 0), (0, .ref x_scr)], [.int i, .ref x_scr, .int (xs ((i + 1)).toNatClampNeg), .ref 75], h, 98, 10728)) lr_709 rfl ?_
  refine j_Lst (c' := (711, [(3, .int i), (2, .ref 75), (1, .ref 0), (0, .ref x_scr)], [.int 2, .int i, .ref x_scr, .int (xs ((i + 1)).toNatClampNeg), .ref 75], h, 98, 10728)) lr_710 rfl ?_
  refine j_Lst (c' := (712, [(3, .int i), (2, .ref 75), (1, .ref 0), (0, .ref x_scr)], [.int (i + 2), .ref x_scr, .int (xs ((i + 1)).toNatClampNeg), .ref 75], h, 98, 10728)) lr_711 rfl ?_
  refine j_Lsl (c' := (713, [(3, .int i), (2, .ref 75), (1, .ref 0), (0, .ref x_scr)], [.int (xs ((i + 2)).toNatClampNeg), .int (xs ((i + 1)).toNatClampNeg), .ref 75], h, 98, 10728)) lr_712 rfl h2 ?_
  exact kk

set_option maxRecDepth 100000 in
theorem x_c13d (h : xH) (L : Nat) (xs : Nat → Int32) (i : Int32) (h0 : ¬ (i < 0 ∨ L ≤ (i).toNatClampNeg)) (h1 : ¬ (i + 1 < 0 ∨ L ≤ (i + 1).toNatClampNeg)) (h2 : ¬ (i + 2 < 0 ∨ L ≤ (i + 2).toNatClampNeg)) (h3 : ¬ (i + 3 < 0 ∨ L ≤ (i + 3).toNatClampNeg)) (h4 : ¬ (i + 4 < 0 ∨ L ≤ (i + 4).toNatClampNeg)) (h5 : ¬ (i + 5 < 0 ∨ L ≤ (i + 5).toNatClampNeg)) (w : Int32) {P : Option Value × xH × Nat × Nat → Prop} (kk : x_R x_mt (some (L, xs)) 10 M_law (18, [(3, .int (i + Int32.ofInt (6))), (2, .ref 75), (1, .ref 0), (0, .ref x_scr)], [], h, 98, 10728) P) : x_R x_mt (some (L, xs)) 10 M_law (716, [(3, .int i), (2, .ref 75), (1, .ref 0), (0, .ref x_scr)], [.int w], h, 98, 10728) P := by
  refine j_Lst (c' := (717, [(3, .int i), (2, .ref 75), (1, .ref 0), (0, .ref x_scr)], [], h, 98, 10728)) lr_716 rfl ?_
  refine j_Lst (c' := (2368, [(3, .int i), (2, .ref 75), (1, .ref 0), (0, .ref x_scr)], [], h, 98, 10728)) lr_717 rfl ?_
  refine j_Lst (c' := (2371, [(3, .int (i + Int32.ofInt (6))), (2, .ref 75), (1, .ref 0), (0, .ref x_scr)], [], h, 98, 10728)) lr_2368 rfl ?_
  refine j_Lst (c' := (18, [(3, .int (i + Int32.ofInt (6))), (2, .ref 75), (1, .ref 0), (0, .ref x_scr)], [], h, 98, 10728)) lr_2371 rfl ?_
  exact kk

set_option maxRecDepth 100000 in
theorem x_c14a (h : xH) (L : Nat) (xs : Nat → Int32) (i : Int32) (h0 : ¬ (i < 0 ∨ L ≤ (i).toNatClampNeg)) (h1 : ¬ (i + 1 < 0 ∨ L ≤ (i + 1).toNatClampNeg)) (h2 : ¬ (i + 2 < 0 ∨ L ≤ (i + 2).toNatClampNeg)) (h3 : ¬ (i + 3 < 0 ∨ L ≤ (i + 3).toNatClampNeg)) (h4 : ¬ (i + 4 < 0 ∨ L ≤ (i + 4).toNatClampNeg)) (h5 : ¬ (i + 5 < 0 ∨ L ≤ (i + 5).toNatClampNeg)) {P : Option Value × xH × Nat × Nat → Prop} (kk : x_R x_mt (some (L, xs)) 10 M_law (726, [(3, .int i), (2, .ref 75), (1, .ref 0), (0, .ref x_scr)], [.int (xs ((i + 1)).toNatClampNeg), .ref 0], h, 98, 10728) P) : x_R x_mt (some (L, xs)) 10 M_law (720, [(3, .int i), (2, .ref 75), (1, .ref 0), (0, .ref x_scr)], [], h, 98, 10728) P := by
  refine j_Lst (c' := (721, [(3, .int i), (2, .ref 75), (1, .ref 0), (0, .ref x_scr)], [.ref 0], h, 98, 10728)) lr_720 rfl ?_
  refine j_Lst (c' := (722, [(3, .int i), (2, .ref 75), (1, .ref 0), (0, .ref x_scr)], [.ref x_scr, .ref 0], h, 98, 10728)) lr_721 rfl ?_
  refine j_Lst (c' := (723, [(3, .int i), (2, .ref 75), (1, .ref 0), (0, .ref x_scr)], [.int i, .ref x_scr, .ref 0], h, 98, 10728)) lr_722 rfl ?_
  refine j_Lst (c' := (724, [(3, .int i), (2, .ref 75), (1, .ref 0), (0, .ref x_scr)], [.int 1, .int i, .ref x_scr, .ref 0], h, 98, 10728)) lr_723 rfl ?_
  refine j_Lst (c' := (725, [(3, .int i), (2, .ref 75), (1, .ref 0), (0, .ref x_scr)], [.int (i + 1), .ref x_scr, .ref 0], h, 98, 10728)) lr_724 rfl ?_
  refine j_Lsl (c' := (726, [(3, .int i), (2, .ref 75), (1, .ref 0), (0, .ref x_scr)], [.int (xs ((i + 1)).toNatClampNeg), .ref 0], h, 98, 10728)) lr_725 rfl h1 ?_
  exact kk

set_option maxRecDepth 100000 in
theorem x_c14b (h : xH) (L : Nat) (xs : Nat → Int32) (i : Int32) (h0 : ¬ (i < 0 ∨ L ≤ (i).toNatClampNeg)) (h1 : ¬ (i + 1 < 0 ∨ L ≤ (i + 1).toNatClampNeg)) (h2 : ¬ (i + 2 < 0 ∨ L ≤ (i + 2).toNatClampNeg)) (h3 : ¬ (i + 3 < 0 ∨ L ≤ (i + 3).toNatClampNeg)) (h4 : ¬ (i + 4 < 0 ∨ L ≤ (i + 4).toNatClampNeg)) (h5 : ¬ (i + 5 < 0 ∨ L ≤ (i + 5).toNatClampNeg)) (v : Int32) {P : Option Value × xH × Nat × Nat → Prop} (kk : x_R x_mt (some (L, xs)) 10 M_law (736, [(3, .int i), (2, .ref 75), (1, .ref 0), (0, .ref x_scr)], [.int (xs ((i + 1)).toNatClampNeg), .ref 75], h, 98, 10728) P) : x_R x_mt (some (L, xs)) 10 M_law (729, [(3, .int i), (2, .ref 75), (1, .ref 0), (0, .ref x_scr)], [.int v], h, 98, 10728) P := by
  refine j_Lst (c' := (730, [(3, .int i), (2, .ref 75), (1, .ref 0), (0, .ref x_scr)], [], h, 98, 10728)) lr_729 rfl ?_
  refine j_Lst (c' := (731, [(3, .int i), (2, .ref 75), (1, .ref 0), (0, .ref x_scr)], [.ref 75], h, 98, 10728)) lr_730 rfl ?_
  refine j_Lst (c' := (732, [(3, .int i), (2, .ref 75), (1, .ref 0), (0, .ref x_scr)], [.ref x_scr, .ref 75], h, 98, 10728)) lr_731 rfl ?_
  refine j_Lst (c' := (733, [(3, .int i), (2, .ref 75), (1, .ref 0), (0, .ref x_scr)], [.int i, .ref x_scr, .ref 75], h, 98, 10728)) lr_732 rfl ?_
  refine j_Lst (c' := (734, [(3, .int i), (2, .ref 75), (1, .ref 0), (0, .ref x_scr)], [.int 1, .int i, .ref x_scr, .ref 75], h, 98, 10728)) lr_733 rfl ?_
  refine j_Lst (c' := (735, [(3, .int i), (2, .ref 75), (1, .ref 0), (0, .ref x_scr)], [.int (i + 1), .ref x_scr, .ref 75], h, 98, 10728)) lr_734 rfl ?_
  refine j_Lsl (c' := (736, [(3, .int i), (2, .ref 75), (1, .ref 0), (0, .ref x_scr)], [.int (xs ((i + 1)).toNatClampNeg), .ref 75], h, 98, 10728)) lr_735 rfl h1 ?_
  exact kk

set_option maxRecDepth 100000 in
theorem x_c14d (h : xH) (L : Nat) (xs : Nat → Int32) (i : Int32) (h0 : ¬ (i < 0 ∨ L ≤ (i).toNatClampNeg)) (h1 : ¬ (i + 1 < 0 ∨ L ≤ (i + 1).toNatClampNeg)) (h2 : ¬ (i + 2 < 0 ∨ L ≤ (i + 2).toNatClampNeg)) (h3 : ¬ (i + 3 < 0 ∨ L ≤ (i + 3).toNatClampNeg)) (h4 : ¬ (i + 4 < 0 ∨ L ≤ (i + 4).toNatClampNeg)) (h5 : ¬ (i + 5 < 0 ∨ L ≤ (i + 5).toNatClampNeg)) (w : Int32) {P : Option Value × xH × Nat × Nat → Prop} (kk : x_R x_mt (some (L, xs)) 10 M_law (18, [(3, .int (i + Int32.ofInt (6))), (2, .ref 75), (1, .ref 0), (0, .ref x_scr)], [], h, 98, 10728) P) : x_R x_mt (some (L, xs)) 10 M_law (739, [(3, .int i), (2, .ref 75), (1, .ref 0), (0, .ref x_scr)], [.int w], h, 98, 10728) P := by
  refine j_Lst (c' := (740, [(3, .int i), (2, .ref 75), (1, .ref 0), (0, .ref x_scr)], [], h, 98, 10728)) lr_739 rfl ?_
  refine j_Lst (c' := (2368, [(3, .int i), (2, .ref 75), (1, .ref 0), (0, .ref x_scr)], [], h, 98, 10728)) lr_740 rfl ?_
  refine j_Lst (c' := (2371, [(3, .int (i + Int32.ofInt (6))), (2, .ref 75), (1, .ref 0), (0, .ref x_scr)], [], h, 98, 10728)) lr_2368 rfl ?_
  refine j_Lst (c' := (18, [(3, .int (i + Int32.ofInt (6))), (2, .ref 75), (1, .ref 0), (0, .ref x_scr)], [], h, 98, 10728)) lr_2371 rfl ?_
  exact kk

set_option maxRecDepth 100000 in
theorem x_c15a (h : xH) (L : Nat) (xs : Nat → Int32) (i : Int32) (h0 : ¬ (i < 0 ∨ L ≤ (i).toNatClampNeg)) (h1 : ¬ (i + 1 < 0 ∨ L ≤ (i + 1).toNatClampNeg)) (h2 : ¬ (i + 2 < 0 ∨ L ≤ (i + 2).toNatClampNeg)) (h3 : ¬ (i + 3 < 0 ∨ L ≤ (i + 3).toNatClampNeg)) (h4 : ¬ (i + 4 < 0 ∨ L ≤ (i + 4).toNatClampNeg)) (h5 : ¬ (i + 5 < 0 ∨ L ≤ (i + 5).toNatClampNeg)) {P : Option Value × xH × Nat × Nat → Prop} (kk : x_R x_mt (some (L, xs)) 10 M_law (754, [(3, .int i), (2, .ref 75), (1, .ref 0), (0, .ref x_scr)], [.int (xs ((i + 2)).toNatClampNeg), .int (xs ((i + 1)).toNatClampNeg), .ref 0], h, 98, 10728) P) : x_R x_mt (some (L, xs)) 10 M_law (743, [(3, .int i), (2, .ref 75), (1, .ref 0), (0, .ref x_scr)], [], h, 98, 10728) P := by
  refine j_Lst (c' := (744, [(3, .int i), (2, .ref 75), (1, .ref 0), (0, .ref x_scr)], [.ref 0], h, 98, 10728)) lr_743 rfl ?_
  refine j_Lst (c' := (745, [(3, .int i), (2, .ref 75), (1, .ref 0), (0, .ref x_scr)], [.ref x_scr, .ref 0], h, 98, 10728)) lr_744 rfl ?_
  refine j_Lst (c' := (746, [(3, .int i), (2, .ref 75), (1, .ref 0), (0, .ref x_scr)], [.int i, .ref x_scr, .ref 0], h, 98, 10728)) lr_745 rfl ?_
  refine j_Lst (c' := (747, [(3, .int i), (2, .ref 75), (1, .ref 0), (0, .ref x_scr)], [.int 1, .int i, .ref x_scr, .ref 0], h, 98, 10728)) lr_746 rfl ?_
  refine j_Lst (c' := (748, [(3, .int i), (2, .ref 75), (1, .ref 0), (0, .ref x_scr)], [.int (i + 1), .ref x_scr, .ref 0], h, 98, 10728)) lr_747 rfl ?_
  refine j_Lsl (c' := (749, [(3, .int i), (2, .ref 75), (1, .ref 0), (0, .ref x_scr)], [.int (xs ((i + 1)).toNatClampNeg), .ref 0], h, 98, 10728)) lr_748 rfl h1 ?_
  refine j_Lst (c' := (750, [(3, .int i), (2, .ref 75), (1, .ref 0), (0, .ref x_scr)], [.ref x_scr, .int (xs ((i + 1)).toNatClampNeg), .ref 0], h, 98, 10728)) lr_749 rfl ?_
  refine j_Lst (c' := (751, [(3, .int i), (2, .ref 75), (1, .ref 0), (0, .ref x_scr)], [.int i, .ref x_scr, .int (xs ((i + 1)).toNatClampNeg), .ref 0], h, 98, 10728)) lr_750 rfl ?_
  refine j_Lst (c' := (752, [(3, .int i), (2, .ref 75), (1, .ref 0), (0, .ref x_scr)], [.int 2, .int i, .ref x_scr, .int (xs ((i + 1)).toNatClampNeg), .ref 0], h, 98, 10728)) lr_751 rfl ?_
  refine j_Lst (c' := (753, [(3, .int i), (2, .ref 75), (1, .ref 0), (0, .ref x_scr)], [.int (i + 2), .ref x_scr, .int (xs ((i + 1)).toNatClampNeg), .ref 0], h, 98, 10728)) lr_752 rfl ?_
  refine j_Lsl (c' := (754, [(3, .int i), (2, .ref 75), (1, .ref 0), (0, .ref x_scr)], [.int (xs ((i + 2)).toNatClampNeg), .int (xs ((i + 1)).toNatClampNeg), .ref 0], h, 98, 10728)) lr_753 rfl h2 ?_
  exact kk

set_option maxRecDepth 100000 in
theorem x_c15b (h : xH) (L : Nat) (xs : Nat → Int32) (i : Int32) (h0 : ¬ (i < 0 ∨ L ≤ (i).toNatClampNeg)) (h1 : ¬ (i + 1 < 0 ∨ L ≤ (i + 1).toNatClampNeg)) (h2 : ¬ (i + 2 < 0 ∨ L ≤ (i + 2).toNatClampNeg)) (h3 : ¬ (i + 3 < 0 ∨ L ≤ (i + 3).toNatClampNeg)) (h4 : ¬ (i + 4 < 0 ∨ L ≤ (i + 4).toNatClampNeg)) (h5 : ¬ (i + 5 < 0 ∨ L ≤ (i + 5).toNatClampNeg)) (v : Int32) {P : Option Value × xH × Nat × Nat → Prop} (kk : x_R x_mt (some (L, xs)) 10 M_law (769, [(3, .int i), (2, .ref 75), (1, .ref 0), (0, .ref x_scr)], [.int (xs ((i + 2)).toNatClampNeg), .int (xs ((i + 1)).toNatClampNeg), .ref 75], h, 98, 10728) P) : x_R x_mt (some (L, xs)) 10 M_law (757, [(3, .int i), (2, .ref 75), (1, .ref 0), (0, .ref x_scr)], [.int v], h, 98, 10728) P := by
  refine j_Lst (c' := (758, [(3, .int i), (2, .ref 75), (1, .ref 0), (0, .ref x_scr)], [], h, 98, 10728)) lr_757 rfl ?_
  refine j_Lst (c' := (759, [(3, .int i), (2, .ref 75), (1, .ref 0), (0, .ref x_scr)], [.ref 75], h, 98, 10728)) lr_758 rfl ?_
  refine j_Lst (c' := (760, [(3, .int i), (2, .ref 75), (1, .ref 0), (0, .ref x_scr)], [.ref x_scr, .ref 75], h, 98, 10728)) lr_759 rfl ?_
  refine j_Lst (c' := (761, [(3, .int i), (2, .ref 75), (1, .ref 0), (0, .ref x_scr)], [.int i, .ref x_scr, .ref 75], h, 98, 10728)) lr_760 rfl ?_
  refine j_Lst (c' := (762, [(3, .int i), (2, .ref 75), (1, .ref 0), (0, .ref x_scr)], [.int 1, .int i, .ref x_scr, .ref 75], h, 98, 10728)) lr_761 rfl ?_
  refine j_Lst (c' := (763, [(3, .int i), (2, .ref 75), (1, .ref 0), (0, .ref x_scr)], [.int (i + 1), .ref x_scr, .ref 75], h, 98, 10728)) lr_762 rfl ?_
  refine j_Lsl (c' := (764, [(3, .int i), (2, .ref 75), (1, .ref 0), (0, .ref x_scr)], [.int (xs ((i + 1)).toNatClampNeg), .ref 75], h, 98, 10728)) lr_763 rfl h1 ?_
  refine j_Lst (c' := (765, [(3, .int i), (2, .ref 75), (1, .ref 0), (0, .ref x_scr)], [.ref x_scr, .int (xs ((i + 1)).toNatClampNeg), .ref 75], h, 98, 10728)) lr_764 rfl ?_
  refine j_Lst (c' := (766, [(3, .int i), (2, .ref 75), (1, .ref 0), (0, .ref x_scr)], [.int i, .ref x_scr, .int (xs ((i + 1)).toNatClampNeg), .ref 75], h, 98, 10728)) lr_765 rfl ?_
  refine j_Lst (c' := (767, [(3, .int i), (2, .ref 75), (1, .ref 0), (0, .ref x_scr)], [.int 2, .int i, .ref x_scr, .int (xs ((i + 1)).toNatClampNeg), .ref 75], h, 98, 10728)) lr_766 rfl ?_
  refine j_Lst (c' := (768, [(3, .int i), (2, .ref 75), (1, .ref 0), (0, .ref x_scr)], [.int (i + 2), .ref x_scr, .int (xs ((i + 1)).toNatClampNeg), .ref 75], h, 98, 10728)) lr_767 rfl ?_
  refine j_Lsl (c' := (769, [(3, .int i), (2, .ref 75), (1, .ref 0), (0, .ref x_scr)], [.int (xs ((i + 2)).toNatClampNeg), .int (xs ((i + 1)).toNatClampNeg), .ref 75], h, 98, 10728)) lr_768 rfl h2 ?_
  exact kk

set_option maxRecDepth 100000 in
theorem x_c15d (h : xH) (L : Nat) (xs : Nat → Int32) (i : Int32) (h0 : ¬ (i < 0 ∨ L ≤ (i).toNatClampNeg)) (h1 : ¬ (i + 1 < 0 ∨ L ≤ (i + 1).toNatClampNeg)) (h2 : ¬ (i + 2 < 0 ∨ L ≤ (i + 2).toNatClampNeg)) (h3 : ¬ (i + 3 < 0 ∨ L ≤ (i + 3).toNatClampNeg)) (h4 : ¬ (i + 4 < 0 ∨ L ≤ (i + 4).toNatClampNeg)) (h5 : ¬ (i + 5 < 0 ∨ L ≤ (i + 5).toNatClampNeg)) (w : Int32) {P : Option Value × xH × Nat × Nat → Prop} (kk : x_R x_mt (some (L, xs)) 10 M_law (18, [(3, .int (i + Int32.ofInt (6))), (2, .ref 75), (1, .ref 0), (0, .ref x_scr)], [], h, 98, 10728) P) : x_R x_mt (some (L, xs)) 10 M_law (772, [(3, .int i), (2, .ref 75), (1, .ref 0), (0, .ref x_scr)], [.int w], h, 98, 10728) P := by
  refine j_Lst (c' := (773, [(3, .int i), (2, .ref 75), (1, .ref 0), (0, .ref x_scr)], [], h, 98, 10728)) lr_772 rfl ?_
  refine j_Lst (c' := (2368, [(3, .int i), (2, .ref 75), (1, .ref 0), (0, .ref x_scr)], [], h, 98, 10728)) lr_773 rfl ?_
  refine j_Lst (c' := (2371, [(3, .int (i + Int32.ofInt (6))), (2, .ref 75), (1, .ref 0), (0, .ref x_scr)], [], h, 98, 10728)) lr_2368 rfl ?_
  refine j_Lst (c' := (18, [(3, .int (i + Int32.ofInt (6))), (2, .ref 75), (1, .ref 0), (0, .ref x_scr)], [], h, 98, 10728)) lr_2371 rfl ?_
  exact kk

set_option maxRecDepth 100000 in
theorem x_c16a (h : xH) (L : Nat) (xs : Nat → Int32) (i : Int32) (h0 : ¬ (i < 0 ∨ L ≤ (i).toNatClampNeg)) (h1 : ¬ (i + 1 < 0 ∨ L ≤ (i + 1).toNatClampNeg)) (h2 : ¬ (i + 2 < 0 ∨ L ≤ (i + 2).toNatClampNeg)) (h3 : ¬ (i + 3 < 0 ∨ L ≤ (i + 3).toNatClampNeg)) (h4 : ¬ (i + 4 < 0 ∨ L ≤ (i + 4).toNatClampNeg)) (h5 : ¬ (i + 5 < 0 ∨ L ≤ (i + 5).toNatClampNeg)) {P : Option Value × xH × Nat × Nat → Prop} (kk : x_R x_mt (some (L, xs)) 10 M_law (787, [(3, .int i), (2, .ref 75), (1, .ref 0), (0, .ref x_scr)], [.int (xs ((i + 2)).toNatClampNeg), .int (xs ((i + 1)).toNatClampNeg), .ref 0], h, 98, 10728) P) : x_R x_mt (some (L, xs)) 10 M_law (776, [(3, .int i), (2, .ref 75), (1, .ref 0), (0, .ref x_scr)], [], h, 98, 10728) P := by
  refine j_Lst (c' := (777, [(3, .int i), (2, .ref 75), (1, .ref 0), (0, .ref x_scr)], [.ref 0], h, 98, 10728)) lr_776 rfl ?_
  refine j_Lst (c' := (778, [(3, .int i), (2, .ref 75), (1, .ref 0), (0, .ref x_scr)], [.ref x_scr, .ref 0], h, 98, 10728)) lr_777 rfl ?_
  refine j_Lst (c' := (779, [(3, .int i), (2, .ref 75), (1, .ref 0), (0, .ref x_scr)], [.int i, .ref x_scr, .ref 0], h, 98, 10728)) lr_778 rfl ?_
  refine j_Lst (c' := (780, [(3, .int i), (2, .ref 75), (1, .ref 0), (0, .ref x_scr)], [.int 1, .int i, .ref x_scr, .ref 0], h, 98, 10728)) lr_779 rfl ?_
  refine j_Lst (c' := (781, [(3, .int i), (2, .ref 75), (1, .ref 0), (0, .ref x_scr)], [.int (i + 1), .ref x_scr, .ref 0], h, 98, 10728)) lr_780 rfl ?_
  refine j_Lsl (c' := (782, [(3, .int i), (2, .ref 75), (1, .ref 0), (0, .ref x_scr)], [.int (xs ((i + 1)).toNatClampNeg), .ref 0], h, 98, 10728)) lr_781 rfl h1 ?_
  refine j_Lst (c' := (783, [(3, .int i), (2, .ref 75), (1, .ref 0), (0, .ref x_scr)], [.ref x_scr, .int (xs ((i + 1)).toNatClampNeg), .ref 0], h, 98, 10728)) lr_782 rfl ?_
  refine j_Lst (c' := (784, [(3, .int i), (2, .ref 75), (1, .ref 0), (0, .ref x_scr)], [.int i, .ref x_scr, .int (xs ((i + 1)).toNatClampNeg), .ref 0], h, 98, 10728)) lr_783 rfl ?_
  refine j_Lst (c' := (785, [(3, .int i), (2, .ref 75), (1, .ref 0), (0, .ref x_scr)], [.int 2, .int i, .ref x_scr, .int (xs ((i + 1)).toNatClampNeg), .ref 0], h, 98, 10728)) lr_784 rfl ?_
  refine j_Lst (c' := (786, [(3, .int i), (2, .ref 75), (1, .ref 0), (0, .ref x_scr)], [.int (i + 2), .ref x_scr, .int (xs ((i + 1)).toNatClampNeg), .ref 0], h, 98, 10728)) lr_785 rfl ?_
  refine j_Lsl (c' := (787, [(3, .int i), (2, .ref 75), (1, .ref 0), (0, .ref x_scr)], [.int (xs ((i + 2)).toNatClampNeg), .int (xs ((i + 1)).toNatClampNeg), .ref 0], h, 98, 10728)) lr_786 rfl h2 ?_
  exact kk

set_option maxRecDepth 100000 in
theorem x_c16b (h : xH) (L : Nat) (xs : Nat → Int32) (i : Int32) (h0 : ¬ (i < 0 ∨ L ≤ (i).toNatClampNeg)) (h1 : ¬ (i + 1 < 0 ∨ L ≤ (i + 1).toNatClampNeg)) (h2 : ¬ (i + 2 < 0 ∨ L ≤ (i + 2).toNatClampNeg)) (h3 : ¬ (i + 3 < 0 ∨ L ≤ (i + 3).toNatClampNeg)) (h4 : ¬ (i + 4 < 0 ∨ L ≤ (i + 4).toNatClampNeg)) (h5 : ¬ (i + 5 < 0 ∨ L ≤ (i + 5).toNatClampNeg)) (v : Int32) {P : Option Value × xH × Nat × Nat → Prop} (kk : x_R x_mt (some (L, xs)) 10 M_law (802, [(3, .int i), (2, .ref 75), (1, .ref 0), (0, .ref x_scr)], [.int (xs ((i + 2)).toNatClampNeg), .int (xs ((i + 1)).toNatClampNeg), .ref 75], h, 98, 10728) P) : x_R x_mt (some (L, xs)) 10 M_law (790, [(3, .int i), (2, .ref 75), (1, .ref 0), (0, .ref x_scr)], [.int v], h, 98, 10728) P := by
  refine j_Lst (c' := (791, [(3, .int i), (2, .ref 75), (1, .ref 0), (0, .ref x_scr)], [], h, 98, 10728)) lr_790 rfl ?_
  refine j_Lst (c' := (792, [(3, .int i), (2, .ref 75), (1, .ref 0), (0, .ref x_scr)], [.ref 75], h, 98, 10728)) lr_791 rfl ?_
  refine j_Lst (c' := (793, [(3, .int i), (2, .ref 75), (1, .ref 0), (0, .ref x_scr)], [.ref x_scr, .ref 75], h, 98, 10728)) lr_792 rfl ?_
  refine j_Lst (c' := (794, [(3, .int i), (2, .ref 75), (1, .ref 0), (0, .ref x_scr)], [.int i, .ref x_scr, .ref 75], h, 98, 10728)) lr_793 rfl ?_
  refine j_Lst (c' := (795, [(3, .int i), (2, .ref 75), (1, .ref 0), (0, .ref x_scr)], [.int 1, .int i, .ref x_scr, .ref 75], h, 98, 10728)) lr_794 rfl ?_
  refine j_Lst (c' := (796, [(3, .int i), (2, .ref 75), (1, .ref 0), (0, .ref x_scr)], [.int (i + 1), .ref x_scr, .ref 75], h, 98, 10728)) lr_795 rfl ?_
  refine j_Lsl (c' := (797, [(3, .int i), (2, .ref 75), (1, .ref 0), (0, .ref x_scr)], [.int (xs ((i + 1)).toNatClampNeg), .ref 75], h, 98, 10728)) lr_796 rfl h1 ?_
  refine j_Lst (c' := (798, [(3, .int i), (2, .ref 75), (1, .ref 0), (0, .ref x_scr)], [.ref x_scr, .int (xs ((i + 1)).toNatClampNeg), .ref 75], h, 98, 10728)) lr_797 rfl ?_
  refine j_Lst (c' := (799, [(3, .int i), (2, .ref 75), (1, .ref 0), (0, .ref x_scr)], [.int i, .ref x_scr, .int (xs ((i + 1)).toNatClampNeg), .ref 75], h, 98, 10728)) lr_798 rfl ?_
  refine j_Lst (c' := (800, [(3, .int i), (2, .ref 75), (1, .ref 0), (0, .ref x_scr)], [.int 2, .int i, .ref x_scr, .int (xs ((i + 1)).toNatClampNeg), .ref 75], h, 98, 10728)) lr_799 rfl ?_
  refine j_Lst (c' := (801, [(3, .int i), (2, .ref 75), (1, .ref 0), (0, .ref x_scr)], [.int (i + 2), .ref x_scr, .int (xs ((i + 1)).toNatClampNeg), .ref 75], h, 98, 10728)) lr_800 rfl ?_
  refine j_Lsl (c' := (802, [(3, .int i), (2, .ref 75), (1, .ref 0), (0, .ref x_scr)], [.int (xs ((i + 2)).toNatClampNeg), .int (xs ((i + 1)).toNatClampNeg), .ref 75], h, 98, 10728)) lr_801 rfl h2 ?_
  exact kk

set_option maxRecDepth 100000 in
theorem x_c16d (h : xH) (L : Nat) (xs : Nat → Int32) (i : Int32) (h0 : ¬ (i < 0 ∨ L ≤ (i).toNatClampNeg)) (h1 : ¬ (i + 1 < 0 ∨ L ≤ (i + 1).toNatClampNeg)) (h2 : ¬ (i + 2 < 0 ∨ L ≤ (i + 2).toNatClampNeg)) (h3 : ¬ (i + 3 < 0 ∨ L ≤ (i + 3).toNatClampNeg)) (h4 : ¬ (i + 4 < 0 ∨ L ≤ (i + 4).toNatClampNeg)) (h5 : ¬ (i + 5 < 0 ∨ L ≤ (i + 5).toNatClampNeg)) (w : Int32) {P : Option Value × xH × Nat × Nat → Prop} (kk : x_R x_mt (some (L, xs)) 10 M_law (18, [(3, .int (i + Int32.ofInt (6))), (2, .ref 75), (1, .ref 0), (0, .ref x_scr)], [], h, 98, 10728) P) : x_R x_mt (some (L, xs)) 10 M_law (805, [(3, .int i), (2, .ref 75), (1, .ref 0), (0, .ref x_scr)], [.int w], h, 98, 10728) P := by
  refine j_Lst (c' := (806, [(3, .int i), (2, .ref 75), (1, .ref 0), (0, .ref x_scr)], [], h, 98, 10728)) lr_805 rfl ?_
  refine j_Lst (c' := (2368, [(3, .int i), (2, .ref 75), (1, .ref 0), (0, .ref x_scr)], [], h, 98, 10728)) lr_806 rfl ?_
  refine j_Lst (c' := (2371, [(3, .int (i + Int32.ofInt (6))), (2, .ref 75), (1, .ref 0), (0, .ref x_scr)], [], h, 98, 10728)) lr_2368 rfl ?_
  refine j_Lst (c' := (18, [(3, .int (i + Int32.ofInt (6))), (2, .ref 75), (1, .ref 0), (0, .ref x_scr)], [], h, 98, 10728)) lr_2371 rfl ?_
  exact kk

set_option maxRecDepth 100000 in
theorem x_c17a (h : xH) (L : Nat) (xs : Nat → Int32) (i : Int32) (h0 : ¬ (i < 0 ∨ L ≤ (i).toNatClampNeg)) (h1 : ¬ (i + 1 < 0 ∨ L ≤ (i + 1).toNatClampNeg)) (h2 : ¬ (i + 2 < 0 ∨ L ≤ (i + 2).toNatClampNeg)) (h3 : ¬ (i + 3 < 0 ∨ L ≤ (i + 3).toNatClampNeg)) (h4 : ¬ (i + 4 < 0 ∨ L ≤ (i + 4).toNatClampNeg)) (h5 : ¬ (i + 5 < 0 ∨ L ≤ (i + 5).toNatClampNeg)) {P : Option Value × xH × Nat × Nat → Prop} (kk : x_R x_mt (some (L, xs)) 10 M_law (820, [(3, .int i), (2, .ref 75), (1, .ref 0), (0, .ref x_scr)], [.int (xs ((i + 2)).toNatClampNeg), .int (xs ((i + 1)).toNatClampNeg), .ref 0], h, 98, 10728) P) : x_R x_mt (some (L, xs)) 10 M_law (809, [(3, .int i), (2, .ref 75), (1, .ref 0), (0, .ref x_scr)], [], h, 98, 10728) P := by
  refine j_Lst (c' := (810, [(3, .int i), (2, .ref 75), (1, .ref 0), (0, .ref x_scr)], [.ref 0], h, 98, 10728)) lr_809 rfl ?_
  refine j_Lst (c' := (811, [(3, .int i), (2, .ref 75), (1, .ref 0), (0, .ref x_scr)], [.ref x_scr, .ref 0], h, 98, 10728)) lr_810 rfl ?_
  refine j_Lst (c' := (812, [(3, .int i), (2, .ref 75), (1, .ref 0), (0, .ref x_scr)], [.int i, .ref x_scr, .ref 0], h, 98, 10728)) lr_811 rfl ?_
  refine j_Lst (c' := (813, [(3, .int i), (2, .ref 75), (1, .ref 0), (0, .ref x_scr)], [.int 1, .int i, .ref x_scr, .ref 0], h, 98, 10728)) lr_812 rfl ?_
  refine j_Lst (c' := (814, [(3, .int i), (2, .ref 75), (1, .ref 0), (0, .ref x_scr)], [.int (i + 1), .ref x_scr, .ref 0], h, 98, 10728)) lr_813 rfl ?_
  refine j_Lsl (c' := (815, [(3, .int i), (2, .ref 75), (1, .ref 0), (0, .ref x_scr)], [.int (xs ((i + 1)).toNatClampNeg), .ref 0], h, 98, 10728)) lr_814 rfl h1 ?_
  refine j_Lst (c' := (816, [(3, .int i), (2, .ref 75), (1, .ref 0), (0, .ref x_scr)], [.ref x_scr, .int (xs ((i + 1)).toNatClampNeg), .ref 0], h, 98, 10728)) lr_815 rfl ?_
  refine j_Lst (c' := (817, [(3, .int i), (2, .ref 75), (1, .ref 0), (0, .ref x_scr)], [.int i, .ref x_scr, .int (xs ((i + 1)).toNatClampNeg), .ref 0], h, 98, 10728)) lr_816 rfl ?_
  refine j_Lst (c' := (818, [(3, .int i), (2, .ref 75), (1, .ref 0), (0, .ref x_scr)], [.int 2, .int i, .ref x_scr, .int (xs ((i + 1)).toNatClampNeg), .ref 0], h, 98, 10728)) lr_817 rfl ?_
  refine j_Lst (c' := (819, [(3, .int i), (2, .ref 75), (1, .ref 0), (0, .ref x_scr)], [.int (i + 2), .ref x_scr, .int (xs ((i + 1)).toNatClampNeg), .ref 0], h, 98, 10728)) lr_818 rfl ?_
  refine j_Lsl (c' := (820, [(3, .int i), (2, .ref 75), (1, .ref 0), (0, .ref x_scr)], [.int (xs ((i + 2)).toNatClampNeg), .int (xs ((i + 1)).toNatClampNeg), .ref 0], h, 98, 10728)) lr_819 rfl h2 ?_
  exact kk

set_option maxRecDepth 100000 in
theorem x_c17b (h : xH) (L : Nat) (xs : Nat → Int32) (i : Int32) (h0 : ¬ (i < 0 ∨ L ≤ (i).toNatClampNeg)) (h1 : ¬ (i + 1 < 0 ∨ L ≤ (i + 1).toNatClampNeg)) (h2 : ¬ (i + 2 < 0 ∨ L ≤ (i + 2).toNatClampNeg)) (h3 : ¬ (i + 3 < 0 ∨ L ≤ (i + 3).toNatClampNeg)) (h4 : ¬ (i + 4 < 0 ∨ L ≤ (i + 4).toNatClampNeg)) (h5 : ¬ (i + 5 < 0 ∨ L ≤ (i + 5).toNatClampNeg)) (v : Int32) {P : Option Value × xH × Nat × Nat → Prop} (kk : x_R x_mt (some (L, xs)) 10 M_law (835, [(3, .int i), (2, .ref 75), (1, .ref 0), (0, .ref x_scr)], [.int (xs ((i + 2)).toNatClampNeg), .int (xs ((i + 1)).toNatClampNeg), .ref 75], h, 98, 10728) P) : x_R x_mt (some (L, xs)) 10 M_law (823, [(3, .int i), (2, .ref 75), (1, .ref 0), (0, .ref x_scr)], [.int v], h, 98, 10728) P := by
  refine j_Lst (c' := (824, [(3, .int i), (2, .ref 75), (1, .ref 0), (0, .ref x_scr)], [], h, 98, 10728)) lr_823 rfl ?_
  refine j_Lst (c' := (825, [(3, .int i), (2, .ref 75), (1, .ref 0), (0, .ref x_scr)], [.ref 75], h, 98, 10728)) lr_824 rfl ?_
  refine j_Lst (c' := (826, [(3, .int i), (2, .ref 75), (1, .ref 0), (0, .ref x_scr)], [.ref x_scr, .ref 75], h, 98, 10728)) lr_825 rfl ?_
  refine j_Lst (c' := (827, [(3, .int i), (2, .ref 75), (1, .ref 0), (0, .ref x_scr)], [.int i, .ref x_scr, .ref 75], h, 98, 10728)) lr_826 rfl ?_
  refine j_Lst (c' := (828, [(3, .int i), (2, .ref 75), (1, .ref 0), (0, .ref x_scr)], [.int 1, .int i, .ref x_scr, .ref 75], h, 98, 10728)) lr_827 rfl ?_
  refine j_Lst (c' := (829, [(3, .int i), (2, .ref 75), (1, .ref 0), (0, .ref x_scr)], [.int (i + 1), .ref x_scr, .ref 75], h, 98, 10728)) lr_828 rfl ?_
  refine j_Lsl (c' := (830, [(3, .int i), (2, .ref 75), (1, .ref 0), (0, .ref x_scr)], [.int (xs ((i + 1)).toNatClampNeg), .ref 75], h, 98, 10728)) lr_829 rfl h1 ?_
  refine j_Lst (c' := (831, [(3, .int i), (2, .ref 75), (1, .ref 0), (0, .ref x_scr)], [.ref x_scr, .int (xs ((i + 1)).toNatClampNeg), .ref 75], h, 98, 10728)) lr_830 rfl ?_
  refine j_Lst (c' := (832, [(3, .int i), (2, .ref 75), (1, .ref 0), (0, .ref x_scr)], [.int i, .ref x_scr, .int (xs ((i + 1)).toNatClampNeg), .ref 75], h, 98, 10728)) lr_831 rfl ?_
  refine j_Lst (c' := (833, [(3, .int i), (2, .ref 75), (1, .ref 0), (0, .ref x_scr)], [.int 2, .int i, .ref x_scr, .int (xs ((i + 1)).toNatClampNeg), .ref 75], h, 98, 10728)) lr_832 rfl ?_
  refine j_Lst (c' := (834, [(3, .int i), (2, .ref 75), (1, .ref 0), (0, .ref x_scr)], [.int (i + 2), .ref x_scr, .int (xs ((i + 1)).toNatClampNeg), .ref 75], h, 98, 10728)) lr_833 rfl ?_
  refine j_Lsl (c' := (835, [(3, .int i), (2, .ref 75), (1, .ref 0), (0, .ref x_scr)], [.int (xs ((i + 2)).toNatClampNeg), .int (xs ((i + 1)).toNatClampNeg), .ref 75], h, 98, 10728)) lr_834 rfl h2 ?_
  exact kk

set_option maxRecDepth 100000 in
theorem x_c17d (h : xH) (L : Nat) (xs : Nat → Int32) (i : Int32) (h0 : ¬ (i < 0 ∨ L ≤ (i).toNatClampNeg)) (h1 : ¬ (i + 1 < 0 ∨ L ≤ (i + 1).toNatClampNeg)) (h2 : ¬ (i + 2 < 0 ∨ L ≤ (i + 2).toNatClampNeg)) (h3 : ¬ (i + 3 < 0 ∨ L ≤ (i + 3).toNatClampNeg)) (h4 : ¬ (i + 4 < 0 ∨ L ≤ (i + 4).toNatClampNeg)) (h5 : ¬ (i + 5 < 0 ∨ L ≤ (i + 5).toNatClampNeg)) (w : Int32) {P : Option Value × xH × Nat × Nat → Prop} (kk : x_R x_mt (some (L, xs)) 10 M_law (18, [(3, .int (i + Int32.ofInt (6))), (2, .ref 75), (1, .ref 0), (0, .ref x_scr)], [], h, 98, 10728) P) : x_R x_mt (some (L, xs)) 10 M_law (838, [(3, .int i), (2, .ref 75), (1, .ref 0), (0, .ref x_scr)], [.int w], h, 98, 10728) P := by
  refine j_Lst (c' := (839, [(3, .int i), (2, .ref 75), (1, .ref 0), (0, .ref x_scr)], [], h, 98, 10728)) lr_838 rfl ?_
  refine j_Lst (c' := (2368, [(3, .int i), (2, .ref 75), (1, .ref 0), (0, .ref x_scr)], [], h, 98, 10728)) lr_839 rfl ?_
  refine j_Lst (c' := (2371, [(3, .int (i + Int32.ofInt (6))), (2, .ref 75), (1, .ref 0), (0, .ref x_scr)], [], h, 98, 10728)) lr_2368 rfl ?_
  refine j_Lst (c' := (18, [(3, .int (i + Int32.ofInt (6))), (2, .ref 75), (1, .ref 0), (0, .ref x_scr)], [], h, 98, 10728)) lr_2371 rfl ?_
  exact kk

set_option maxRecDepth 100000 in
theorem x_c18a (h : xH) (L : Nat) (xs : Nat → Int32) (i : Int32) (h0 : ¬ (i < 0 ∨ L ≤ (i).toNatClampNeg)) (h1 : ¬ (i + 1 < 0 ∨ L ≤ (i + 1).toNatClampNeg)) (h2 : ¬ (i + 2 < 0 ∨ L ≤ (i + 2).toNatClampNeg)) (h3 : ¬ (i + 3 < 0 ∨ L ≤ (i + 3).toNatClampNeg)) (h4 : ¬ (i + 4 < 0 ∨ L ≤ (i + 4).toNatClampNeg)) (h5 : ¬ (i + 5 < 0 ∨ L ≤ (i + 5).toNatClampNeg)) {P : Option Value × xH × Nat × Nat → Prop} (kk : x_R x_mt (some (L, xs)) 10 M_law (848, [(3, .int i), (2, .ref 75), (1, .ref 0), (0, .ref x_scr)], [.int (xs ((i + 1)).toNatClampNeg), .ref 0], h, 98, 10728) P) : x_R x_mt (some (L, xs)) 10 M_law (842, [(3, .int i), (2, .ref 75), (1, .ref 0), (0, .ref x_scr)], [], h, 98, 10728) P := by
  refine j_Lst (c' := (843, [(3, .int i), (2, .ref 75), (1, .ref 0), (0, .ref x_scr)], [.ref 0], h, 98, 10728)) lr_842 rfl ?_
  refine j_Lst (c' := (844, [(3, .int i), (2, .ref 75), (1, .ref 0), (0, .ref x_scr)], [.ref x_scr, .ref 0], h, 98, 10728)) lr_843 rfl ?_
  refine j_Lst (c' := (845, [(3, .int i), (2, .ref 75), (1, .ref 0), (0, .ref x_scr)], [.int i, .ref x_scr, .ref 0], h, 98, 10728)) lr_844 rfl ?_
  refine j_Lst (c' := (846, [(3, .int i), (2, .ref 75), (1, .ref 0), (0, .ref x_scr)], [.int 1, .int i, .ref x_scr, .ref 0], h, 98, 10728)) lr_845 rfl ?_
  refine j_Lst (c' := (847, [(3, .int i), (2, .ref 75), (1, .ref 0), (0, .ref x_scr)], [.int (i + 1), .ref x_scr, .ref 0], h, 98, 10728)) lr_846 rfl ?_
  refine j_Lsl (c' := (848, [(3, .int i), (2, .ref 75), (1, .ref 0), (0, .ref x_scr)], [.int (xs ((i + 1)).toNatClampNeg), .ref 0], h, 98, 10728)) lr_847 rfl h1 ?_
  exact kk

set_option maxRecDepth 100000 in
theorem x_c18b (h : xH) (L : Nat) (xs : Nat → Int32) (i : Int32) (h0 : ¬ (i < 0 ∨ L ≤ (i).toNatClampNeg)) (h1 : ¬ (i + 1 < 0 ∨ L ≤ (i + 1).toNatClampNeg)) (h2 : ¬ (i + 2 < 0 ∨ L ≤ (i + 2).toNatClampNeg)) (h3 : ¬ (i + 3 < 0 ∨ L ≤ (i + 3).toNatClampNeg)) (h4 : ¬ (i + 4 < 0 ∨ L ≤ (i + 4).toNatClampNeg)) (h5 : ¬ (i + 5 < 0 ∨ L ≤ (i + 5).toNatClampNeg)) (v : Int32) {P : Option Value × xH × Nat × Nat → Prop} (kk : x_R x_mt (some (L, xs)) 10 M_law (858, [(3, .int i), (2, .ref 75), (1, .ref 0), (0, .ref x_scr)], [.int (xs ((i + 1)).toNatClampNeg), .ref 75], h, 98, 10728) P) : x_R x_mt (some (L, xs)) 10 M_law (851, [(3, .int i), (2, .ref 75), (1, .ref 0), (0, .ref x_scr)], [.int v], h, 98, 10728) P := by
  refine j_Lst (c' := (852, [(3, .int i), (2, .ref 75), (1, .ref 0), (0, .ref x_scr)], [], h, 98, 10728)) lr_851 rfl ?_
  refine j_Lst (c' := (853, [(3, .int i), (2, .ref 75), (1, .ref 0), (0, .ref x_scr)], [.ref 75], h, 98, 10728)) lr_852 rfl ?_
  refine j_Lst (c' := (854, [(3, .int i), (2, .ref 75), (1, .ref 0), (0, .ref x_scr)], [.ref x_scr, .ref 75], h, 98, 10728)) lr_853 rfl ?_
  refine j_Lst (c' := (855, [(3, .int i), (2, .ref 75), (1, .ref 0), (0, .ref x_scr)], [.int i, .ref x_scr, .ref 75], h, 98, 10728)) lr_854 rfl ?_
  refine j_Lst (c' := (856, [(3, .int i), (2, .ref 75), (1, .ref 0), (0, .ref x_scr)], [.int 1, .int i, .ref x_scr, .ref 75], h, 98, 10728)) lr_855 rfl ?_
  refine j_Lst (c' := (857, [(3, .int i), (2, .ref 75), (1, .ref 0), (0, .ref x_scr)], [.int (i + 1), .ref x_scr, .ref 75], h, 98, 10728)) lr_856 rfl ?_
  refine j_Lsl (c' := (858, [(3, .int i), (2, .ref 75), (1, .ref 0), (0, .ref x_scr)], [.int (xs ((i + 1)).toNatClampNeg), .ref 75], h, 98, 10728)) lr_857 rfl h1 ?_
  exact kk

set_option maxRecDepth 100000 in
theorem x_c18d (h : xH) (L : Nat) (xs : Nat → Int32) (i : Int32) (h0 : ¬ (i < 0 ∨ L ≤ (i).toNatClampNeg)) (h1 : ¬ (i + 1 < 0 ∨ L ≤ (i + 1).toNatClampNeg)) (h2 : ¬ (i + 2 < 0 ∨ L ≤ (i + 2).toNatClampNeg)) (h3 : ¬ (i + 3 < 0 ∨ L ≤ (i + 3).toNatClampNeg)) (h4 : ¬ (i + 4 < 0 ∨ L ≤ (i + 4).toNatClampNeg)) (h5 : ¬ (i + 5 < 0 ∨ L ≤ (i + 5).toNatClampNeg)) (w : Int32) {P : Option Value × xH × Nat × Nat → Prop} (kk : x_R x_mt (some (L, xs)) 10 M_law (18, [(3, .int (i + Int32.ofInt (6))), (2, .ref 75), (1, .ref 0), (0, .ref x_scr)], [], h, 98, 10728) P) : x_R x_mt (some (L, xs)) 10 M_law (861, [(3, .int i), (2, .ref 75), (1, .ref 0), (0, .ref x_scr)], [.int w], h, 98, 10728) P := by
  refine j_Lst (c' := (862, [(3, .int i), (2, .ref 75), (1, .ref 0), (0, .ref x_scr)], [], h, 98, 10728)) lr_861 rfl ?_
  refine j_Lst (c' := (2368, [(3, .int i), (2, .ref 75), (1, .ref 0), (0, .ref x_scr)], [], h, 98, 10728)) lr_862 rfl ?_
  refine j_Lst (c' := (2371, [(3, .int (i + Int32.ofInt (6))), (2, .ref 75), (1, .ref 0), (0, .ref x_scr)], [], h, 98, 10728)) lr_2368 rfl ?_
  refine j_Lst (c' := (18, [(3, .int (i + Int32.ofInt (6))), (2, .ref 75), (1, .ref 0), (0, .ref x_scr)], [], h, 98, 10728)) lr_2371 rfl ?_
  exact kk

set_option maxRecDepth 100000 in
theorem x_c19a (h : xH) (L : Nat) (xs : Nat → Int32) (i : Int32) (h0 : ¬ (i < 0 ∨ L ≤ (i).toNatClampNeg)) (h1 : ¬ (i + 1 < 0 ∨ L ≤ (i + 1).toNatClampNeg)) (h2 : ¬ (i + 2 < 0 ∨ L ≤ (i + 2).toNatClampNeg)) (h3 : ¬ (i + 3 < 0 ∨ L ≤ (i + 3).toNatClampNeg)) (h4 : ¬ (i + 4 < 0 ∨ L ≤ (i + 4).toNatClampNeg)) (h5 : ¬ (i + 5 < 0 ∨ L ≤ (i + 5).toNatClampNeg)) {P : Option Value × xH × Nat × Nat → Prop} (kk : x_R x_mt (some (L, xs)) 10 M_law (871, [(3, .int i), (2, .ref 75), (1, .ref 0), (0, .ref x_scr)], [.int (xs ((i + 1)).toNatClampNeg), .ref 0], h, 98, 10728) P) : x_R x_mt (some (L, xs)) 10 M_law (865, [(3, .int i), (2, .ref 75), (1, .ref 0), (0, .ref x_scr)], [], h, 98, 10728) P := by
  refine j_Lst (c' := (866, [(3, .int i), (2, .ref 75), (1, .ref 0), (0, .ref x_scr)], [.ref 0], h, 98, 10728)) lr_865 rfl ?_
  refine j_Lst (c' := (867, [(3, .int i), (2, .ref 75), (1, .ref 0), (0, .ref x_scr)], [.ref x_scr, .ref 0], h, 98, 10728)) lr_866 rfl ?_
  refine j_Lst (c' := (868, [(3, .int i), (2, .ref 75), (1, .ref 0), (0, .ref x_scr)], [.int i, .ref x_scr, .ref 0], h, 98, 10728)) lr_867 rfl ?_
  refine j_Lst (c' := (869, [(3, .int i), (2, .ref 75), (1, .ref 0), (0, .ref x_scr)], [.int 1, .int i, .ref x_scr, .ref 0], h, 98, 10728)) lr_868 rfl ?_
  refine j_Lst (c' := (870, [(3, .int i), (2, .ref 75), (1, .ref 0), (0, .ref x_scr)], [.int (i + 1), .ref x_scr, .ref 0], h, 98, 10728)) lr_869 rfl ?_
  refine j_Lsl (c' := (871, [(3, .int i), (2, .ref 75), (1, .ref 0), (0, .ref x_scr)], [.int (xs ((i + 1)).toNatClampNeg), .ref 0], h, 98, 10728)) lr_870 rfl h1 ?_
  exact kk

set_option maxRecDepth 100000 in
theorem x_c19b (h : xH) (L : Nat) (xs : Nat → Int32) (i : Int32) (h0 : ¬ (i < 0 ∨ L ≤ (i).toNatClampNeg)) (h1 : ¬ (i + 1 < 0 ∨ L ≤ (i + 1).toNatClampNeg)) (h2 : ¬ (i + 2 < 0 ∨ L ≤ (i + 2).toNatClampNeg)) (h3 : ¬ (i + 3 < 0 ∨ L ≤ (i + 3).toNatClampNeg)) (h4 : ¬ (i + 4 < 0 ∨ L ≤ (i + 4).toNatClampNeg)) (h5 : ¬ (i + 5 < 0 ∨ L ≤ (i + 5).toNatClampNeg)) (v : Int32) {P : Option Value × xH × Nat × Nat → Prop} (kk : x_R x_mt (some (L, xs)) 10 M_law (881, [(3, .int i), (2, .ref 75), (1, .ref 0), (0, .ref x_scr)], [.int (xs ((i + 1)).toNatClampNeg), .ref 75], h, 98, 10728) P) : x_R x_mt (some (L, xs)) 10 M_law (874, [(3, .int i), (2, .ref 75), (1, .ref 0), (0, .ref x_scr)], [.int v], h, 98, 10728) P := by
  refine j_Lst (c' := (875, [(3, .int i), (2, .ref 75), (1, .ref 0), (0, .ref x_scr)], [], h, 98, 10728)) lr_874 rfl ?_
  refine j_Lst (c' := (876, [(3, .int i), (2, .ref 75), (1, .ref 0), (0, .ref x_scr)], [.ref 75], h, 98, 10728)) lr_875 rfl ?_
  refine j_Lst (c' := (877, [(3, .int i), (2, .ref 75), (1, .ref 0), (0, .ref x_scr)], [.ref x_scr, .ref 75], h, 98, 10728)) lr_876 rfl ?_
  refine j_Lst (c' := (878, [(3, .int i), (2, .ref 75), (1, .ref 0), (0, .ref x_scr)], [.int i, .ref x_scr, .ref 75], h, 98, 10728)) lr_877 rfl ?_
  refine j_Lst (c' := (879, [(3, .int i), (2, .ref 75), (1, .ref 0), (0, .ref x_scr)], [.int 1, .int i, .ref x_scr, .ref 75], h, 98, 10728)) lr_878 rfl ?_
  refine j_Lst (c' := (880, [(3, .int i), (2, .ref 75), (1, .ref 0), (0, .ref x_scr)], [.int (i + 1), .ref x_scr, .ref 75], h, 98, 10728)) lr_879 rfl ?_
  refine j_Lsl (c' := (881, [(3, .int i), (2, .ref 75), (1, .ref 0), (0, .ref x_scr)], [.int (xs ((i + 1)).toNatClampNeg), .ref 75], h, 98, 10728)) lr_880 rfl h1 ?_
  exact kk

set_option maxRecDepth 100000 in
theorem x_c19d (h : xH) (L : Nat) (xs : Nat → Int32) (i : Int32) (h0 : ¬ (i < 0 ∨ L ≤ (i).toNatClampNeg)) (h1 : ¬ (i + 1 < 0 ∨ L ≤ (i + 1).toNatClampNeg)) (h2 : ¬ (i + 2 < 0 ∨ L ≤ (i + 2).toNatClampNeg)) (h3 : ¬ (i + 3 < 0 ∨ L ≤ (i + 3).toNatClampNeg)) (h4 : ¬ (i + 4 < 0 ∨ L ≤ (i + 4).toNatClampNeg)) (h5 : ¬ (i + 5 < 0 ∨ L ≤ (i + 5).toNatClampNeg)) (w : Int32) {P : Option Value × xH × Nat × Nat → Prop} (kk : x_R x_mt (some (L, xs)) 10 M_law (18, [(3, .int (i + Int32.ofInt (6))), (2, .ref 75), (1, .ref 0), (0, .ref x_scr)], [], h, 98, 10728) P) : x_R x_mt (some (L, xs)) 10 M_law (884, [(3, .int i), (2, .ref 75), (1, .ref 0), (0, .ref x_scr)], [.int w], h, 98, 10728) P := by
  refine j_Lst (c' := (885, [(3, .int i), (2, .ref 75), (1, .ref 0), (0, .ref x_scr)], [], h, 98, 10728)) lr_884 rfl ?_
  refine j_Lst (c' := (2368, [(3, .int i), (2, .ref 75), (1, .ref 0), (0, .ref x_scr)], [], h, 98, 10728)) lr_885 rfl ?_
  refine j_Lst (c' := (2371, [(3, .int (i + Int32.ofInt (6))), (2, .ref 75), (1, .ref 0), (0, .ref x_scr)], [], h, 98, 10728)) lr_2368 rfl ?_
  refine j_Lst (c' := (18, [(3, .int (i + Int32.ofInt (6))), (2, .ref 75), (1, .ref 0), (0, .ref x_scr)], [], h, 98, 10728)) lr_2371 rfl ?_
  exact kk

set_option maxRecDepth 100000 in
theorem x_c20a (h : xH) (L : Nat) (xs : Nat → Int32) (i : Int32) (h0 : ¬ (i < 0 ∨ L ≤ (i).toNatClampNeg)) (h1 : ¬ (i + 1 < 0 ∨ L ≤ (i + 1).toNatClampNeg)) (h2 : ¬ (i + 2 < 0 ∨ L ≤ (i + 2).toNatClampNeg)) (h3 : ¬ (i + 3 < 0 ∨ L ≤ (i + 3).toNatClampNeg)) (h4 : ¬ (i + 4 < 0 ∨ L ≤ (i + 4).toNatClampNeg)) (h5 : ¬ (i + 5 < 0 ∨ L ≤ (i + 5).toNatClampNeg)) {P : Option Value × xH × Nat × Nat → Prop} (kk : x_R x_mt (some (L, xs)) 10 M_law (894, [(3, .int i), (2, .ref 75), (1, .ref 0), (0, .ref x_scr)], [.int (xs ((i + 1)).toNatClampNeg), .ref 0], h, 98, 10728) P) : x_R x_mt (some (L, xs)) 10 M_law (888, [(3, .int i), (2, .ref 75), (1, .ref 0), (0, .ref x_scr)], [], h, 98, 10728) P := by
  refine j_Lst (c' := (889, [(3, .int i), (2, .ref 75), (1, .ref 0), (0, .ref x_scr)], [.ref 0], h, 98, 10728)) lr_888 rfl ?_
  refine j_Lst (c' := (890, [(3, .int i), (2, .ref 75), (1, .ref 0), (0, .ref x_scr)], [.ref x_scr, .ref 0], h, 98, 10728)) lr_889 rfl ?_
  refine j_Lst (c' := (891, [(3, .int i), (2, .ref 75), (1, .ref 0), (0, .ref x_scr)], [.int i, .ref x_scr, .ref 0], h, 98, 10728)) lr_890 rfl ?_
  refine j_Lst (c' := (892, [(3, .int i), (2, .ref 75), (1, .ref 0), (0, .ref x_scr)], [.int 1, .int i, .ref x_scr, .ref 0], h, 98, 10728)) lr_891 rfl ?_
  refine j_Lst (c' := (893, [(3, .int i), (2, .ref 75), (1, .ref 0), (0, .ref x_scr)], [.int (i + 1), .ref x_scr, .ref 0], h, 98, 10728)) lr_892 rfl ?_
  refine j_Lsl (c' := (894, [(3, .int i), (2, .ref 75), (1, .ref 0), (0, .ref x_scr)], [.int (xs ((i + 1)).toNatClampNeg), .ref 0], h, 98, 10728)) lr_893 rfl h1 ?_
  exact kk

set_option maxRecDepth 100000 in
theorem x_c20b (h : xH) (L : Nat) (xs : Nat → Int32) (i : Int32) (h0 : ¬ (i < 0 ∨ L ≤ (i).toNatClampNeg)) (h1 : ¬ (i + 1 < 0 ∨ L ≤ (i + 1).toNatClampNeg)) (h2 : ¬ (i + 2 < 0 ∨ L ≤ (i + 2).toNatClampNeg)) (h3 : ¬ (i + 3 < 0 ∨ L ≤ (i + 3).toNatClampNeg)) (h4 : ¬ (i + 4 < 0 ∨ L ≤ (i + 4).toNatClampNeg)) (h5 : ¬ (i + 5 < 0 ∨ L ≤ (i + 5).toNatClampNeg)) (v : Int32) {P : Option Value × xH × Nat × Nat → Prop} (kk : x_R x_mt (some (L, xs)) 10 M_law (904, [(3, .int i), (2, .ref 75), (1, .ref 0), (0, .ref x_scr)], [.int (xs ((i + 1)).toNatClampNeg), .ref 75], h, 98, 10728) P) : x_R x_mt (some (L, xs)) 10 M_law (897, [(3, .int i), (2, .ref 75), (1, .ref 0), (0, .ref x_scr)], [.int v], h, 98, 10728) P := by
  refine j_Lst (c' := (898, [(3, .int i), (2, .ref 75), (1, .ref 0), (0, .ref x_scr)], [], h, 98, 10728)) lr_897 rfl ?_
  refine j_Lst (c' := (899, [(3, .int i), (2, .ref 75), (1, .ref 0), (0, .ref x_scr)], [.ref 75], h, 98, 10728)) lr_898 rfl ?_
  refine j_Lst (c' := (900, [(3, .int i), (2, .ref 75), (1, .ref 0), (0, .ref x_scr)], [.ref x_scr, .ref 75], h, 98, 10728)) lr_899 rfl ?_
  refine j_Lst (c' := (901, [(3, .int i), (2, .ref 75), (1, .ref 0), (0, .ref x_scr)], [.int i, .ref x_scr, .ref 75], h, 98, 10728)) lr_900 rfl ?_
  refine j_Lst (c' := (902, [(3, .int i), (2, .ref 75), (1, .ref 0), (0, .ref x_scr)], [.int 1, .int i, .ref x_scr, .ref 75], h, 98, 10728)) lr_901 rfl ?_
  refine j_Lst (c' := (903, [(3, .int i), (2, .ref 75), (1, .ref 0), (0, .ref x_scr)], [.int (i + 1), .ref x_scr, .ref 75], h, 98, 10728)) lr_902 rfl ?_
  refine j_Lsl (c' := (904, [(3, .int i), (2, .ref 75), (1, .ref 0), (0, .ref x_scr)], [.int (xs ((i + 1)).toNatClampNeg), .ref 75], h, 98, 10728)) lr_903 rfl h1 ?_
  exact kk

set_option maxRecDepth 100000 in
theorem x_c20d (h : xH) (L : Nat) (xs : Nat → Int32) (i : Int32) (h0 : ¬ (i < 0 ∨ L ≤ (i).toNatClampNeg)) (h1 : ¬ (i + 1 < 0 ∨ L ≤ (i + 1).toNatClampNeg)) (h2 : ¬ (i + 2 < 0 ∨ L ≤ (i + 2).toNatClampNeg)) (h3 : ¬ (i + 3 < 0 ∨ L ≤ (i + 3).toNatClampNeg)) (h4 : ¬ (i + 4 < 0 ∨ L ≤ (i + 4).toNatClampNeg)) (h5 : ¬ (i + 5 < 0 ∨ L ≤ (i + 5).toNatClampNeg)) (w : Int32) {P : Option Value × xH × Nat × Nat → Prop} (kk : x_R x_mt (some (L, xs)) 10 M_law (18, [(3, .int (i + Int32.ofInt (6))), (2, .ref 75), (1, .ref 0), (0, .ref x_scr)], [], h, 98, 10728) P) : x_R x_mt (some (L, xs)) 10 M_law (907, [(3, .int i), (2, .ref 75), (1, .ref 0), (0, .ref x_scr)], [.int w], h, 98, 10728) P := by
  refine j_Lst (c' := (908, [(3, .int i), (2, .ref 75), (1, .ref 0), (0, .ref x_scr)], [], h, 98, 10728)) lr_907 rfl ?_
  refine j_Lst (c' := (2368, [(3, .int i), (2, .ref 75), (1, .ref 0), (0, .ref x_scr)], [], h, 98, 10728)) lr_908 rfl ?_
  refine j_Lst (c' := (2371, [(3, .int (i + Int32.ofInt (6))), (2, .ref 75), (1, .ref 0), (0, .ref x_scr)], [], h, 98, 10728)) lr_2368 rfl ?_
  refine j_Lst (c' := (18, [(3, .int (i + Int32.ofInt (6))), (2, .ref 75), (1, .ref 0), (0, .ref x_scr)], [], h, 98, 10728)) lr_2371 rfl ?_
  exact kk

set_option maxRecDepth 100000 in
theorem x_c21a (h : xH) (L : Nat) (xs : Nat → Int32) (i : Int32) (h0 : ¬ (i < 0 ∨ L ≤ (i).toNatClampNeg)) (h1 : ¬ (i + 1 < 0 ∨ L ≤ (i + 1).toNatClampNeg)) (h2 : ¬ (i + 2 < 0 ∨ L ≤ (i + 2).toNatClampNeg)) (h3 : ¬ (i + 3 < 0 ∨ L ≤ (i + 3).toNatClampNeg)) (h4 : ¬ (i + 4 < 0 ∨ L ≤ (i + 4).toNatClampNeg)) (h5 : ¬ (i + 5 < 0 ∨ L ≤ (i + 5).toNatClampNeg)) {P : Option Value × xH × Nat × Nat → Prop} (kk : x_R x_mt (some (L, xs)) 10 M_law (922, [(3, .int i), (2, .ref 75), (1, .ref 0), (0, .ref x_scr)], [.int (xs ((i + 2)).toNatClampNeg), .int (xs ((i + 1)).toNatClampNeg), .ref 0], h, 98, 10728) P) : x_R x_mt (some (L, xs)) 10 M_law (911, [(3, .int i), (2, .ref 75), (1, .ref 0), (0, .ref x_scr)], [], h, 98, 10728) P := by
  refine j_Lst (c' := (912, [(3, .int i), (2, .ref 75), (1, .ref 0), (0, .ref x_scr)], [.ref 0], h, 98, 10728)) lr_911 rfl ?_
  refine j_Lst (c' := (913, [(3, .int i), (2, .ref 75), (1, .ref 0), (0, .ref x_scr)], [.ref x_scr, .ref 0], h, 98, 10728)) lr_912 rfl ?_
  refine j_Lst (c' := (914, [(3, .int i), (2, .ref 75), (1, .ref 0), (0, .ref x_scr)], [.int i, .ref x_scr, .ref 0], h, 98, 10728)) lr_913 rfl ?_
  refine j_Lst (c' := (915, [(3, .int i), (2, .ref 75), (1, .ref 0), (0, .ref x_scr)], [.int 1, .int i, .ref x_scr, .ref 0], h, 98, 10728)) lr_914 rfl ?_
  refine j_Lst (c' := (916, [(3, .int i), (2, .ref 75), (1, .ref 0), (0, .ref x_scr)], [.int (i + 1), .ref x_scr, .ref 0], h, 98, 10728)) lr_915 rfl ?_
  refine j_Lsl (c' := (917, [(3, .int i), (2, .ref 75), (1, .ref 0), (0, .ref x_scr)], [.int (xs ((i + 1)).toNatClampNeg), .ref 0], h, 98, 10728)) lr_916 rfl h1 ?_
  refine j_Lst (c' := (918, [(3, .int i), (2, .ref 75), (1, .ref 0), (0, .ref x_scr)], [.ref x_scr, .int (xs ((i + 1)).toNatClampNeg), .ref 0], h, 98, 10728)) lr_917 rfl ?_
  refine j_Lst (c' := (919, [(3, .int i), (2, .ref 75), (1, .ref 0), (0, .ref x_scr)], [.int i, .ref x_scr, .int (xs ((i + 1)).toNatClampNeg), .ref 0], h, 98, 10728)) lr_918 rfl ?_
  refine j_Lst (c' := (920, [(3, .int i), (2, .ref 75), (1, .ref 0), (0, .ref x_scr)], [.int 2, .int i, .ref x_scr, .int (xs ((i + 1)).toNatClampNeg), .ref 0], h, 98, 10728)) lr_919 rfl ?_
  refine j_Lst (c' := (921, [(3, .int i), (2, .ref 75), (1, .ref 0), (0, .ref x_scr)], [.int (i + 2), .ref x_scr, .int (xs ((i + 1)).toNatClampNeg), .ref 0], h, 98, 10728)) lr_920 rfl ?_
  refine j_Lsl (c' := (922, [(3, .int i), (2, .ref 75), (1, .ref 0), (0, .ref x_scr)], [.int (xs ((i + 2)).toNatClampNeg), .int (xs ((i + 1)).toNatClampNeg), .ref 0], h, 98, 10728)) lr_921 rfl h2 ?_
  exact kk

set_option maxRecDepth 100000 in
theorem x_c21b (h : xH) (L : Nat) (xs : Nat → Int32) (i : Int32) (h0 : ¬ (i < 0 ∨ L ≤ (i).toNatClampNeg)) (h1 : ¬ (i + 1 < 0 ∨ L ≤ (i + 1).toNatClampNeg)) (h2 : ¬ (i + 2 < 0 ∨ L ≤ (i + 2).toNatClampNeg)) (h3 : ¬ (i + 3 < 0 ∨ L ≤ (i + 3).toNatClampNeg)) (h4 : ¬ (i + 4 < 0 ∨ L ≤ (i + 4).toNatClampNeg)) (h5 : ¬ (i + 5 < 0 ∨ L ≤ (i + 5).toNatClampNeg)) (v : Int32) {P : Option Value × xH × Nat × Nat → Prop} (kk : x_R x_mt (some (L, xs)) 10 M_law (937, [(3, .int i), (2, .ref 75), (1, .ref 0), (0, .ref x_scr)], [.int (xs ((i + 2)).toNatClampNeg), .int (xs ((i + 1)).toNatClampNeg), .ref 75], h, 98, 10728) P) : x_R x_mt (some (L, xs)) 10 M_law (925, [(3, .int i), (2, .ref 75), (1, .ref 0), (0, .ref x_scr)], [.int v], h, 98, 10728) P := by
  refine j_Lst (c' := (926, [(3, .int i), (2, .ref 75), (1, .ref 0), (0, .ref x_scr)], [], h, 98, 10728)) lr_925 rfl ?_
  refine j_Lst (c' := (927, [(3, .int i), (2, .ref 75), (1, .ref 0), (0, .ref x_scr)], [.ref 75], h, 98, 10728)) lr_926 rfl ?_
  refine j_Lst (c' := (928, [(3, .int i), (2, .ref 75), (1, .ref 0), (0, .ref x_scr)], [.ref x_scr, .ref 75], h, 98, 10728)) lr_927 rfl ?_
  refine j_Lst (c' := (929, [(3, .int i), (2, .ref 75), (1, .ref 0), (0, .ref x_scr)], [.int i, .ref x_scr, .ref 75], h, 98, 10728)) lr_928 rfl ?_
  refine j_Lst (c' := (930, [(3, .int i), (2, .ref 75), (1, .ref 0), (0, .ref x_scr)], [.int 1, .int i, .ref x_scr, .ref 75], h, 98, 10728)) lr_929 rfl ?_
  refine j_Lst (c' := (931, [(3, .int i), (2, .ref 75), (1, .ref 0), (0, .ref x_scr)], [.int (i + 1), .ref x_scr, .ref 75], h, 98, 10728)) lr_930 rfl ?_
  refine j_Lsl (c' := (932, [(3, .int i), (2, .ref 75), (1, .ref 0), (0, .ref x_scr)], [.int (xs ((i + 1)).toNatClampNeg), .ref 75], h, 98, 10728)) lr_931 rfl h1 ?_
  refine j_Lst (c' := (933, [(3, .int i), (2, .ref 75), (1, .ref 0), (0, .ref x_scr)], [.ref x_scr, .int (xs ((i + 1)).toNatClampNeg), .ref 75], h, 98, 10728)) lr_932 rfl ?_
  refine j_Lst (c' := (934, [(3, .int i), (2, .ref 75), (1, .ref 0), (0, .ref x_scr)], [.int i, .ref x_scr, .int (xs ((i + 1)).toNatClampNeg), .ref 75], h, 98, 10728)) lr_933 rfl ?_
  refine j_Lst (c' := (935, [(3, .int i), (2, .ref 75), (1, .ref 0), (0, .ref x_scr)], [.int 2, .int i, .ref x_scr, .int (xs ((i + 1)).toNatClampNeg), .ref 75], h, 98, 10728)) lr_934 rfl ?_
  refine j_Lst (c' := (936, [(3, .int i), (2, .ref 75), (1, .ref 0), (0, .ref x_scr)], [.int (i + 2), .ref x_scr, .int (xs ((i + 1)).toNatClampNeg), .ref 75], h, 98, 10728)) lr_935 rfl ?_
  refine j_Lsl (c' := (937, [(3, .int i), (2, .ref 75), (1, .ref 0), (0, .ref x_scr)], [.int (xs ((i + 2)).toNatClampNeg), .int (xs ((i + 1)).toNatClampNeg), .ref 75], h, 98, 10728)) lr_936 rfl h2 ?_
  exact kk

set_option maxRecDepth 100000 in
theorem x_c21d (h : xH) (L : Nat) (xs : Nat → Int32) (i : Int32) (h0 : ¬ (i < 0 ∨ L ≤ (i).toNatClampNeg)) (h1 : ¬ (i + 1 < 0 ∨ L ≤ (i + 1).toNatClampNeg)) (h2 : ¬ (i + 2 < 0 ∨ L ≤ (i + 2).toNatClampNeg)) (h3 : ¬ (i + 3 < 0 ∨ L ≤ (i + 3).toNatClampNeg)) (h4 : ¬ (i + 4 < 0 ∨ L ≤ (i + 4).toNatClampNeg)) (h5 : ¬ (i + 5 < 0 ∨ L ≤ (i + 5).toNatClampNeg)) (w : Int32) {P : Option Value × xH × Nat × Nat → Prop} (kk : x_R x_mt (some (L, xs)) 10 M_law (18, [(3, .int (i + Int32.ofInt (6))), (2, .ref 75), (1, .ref 0), (0, .ref x_scr)], [], h, 98, 10728) P) : x_R x_mt (some (L, xs)) 10 M_law (940, [(3, .int i), (2, .ref 75), (1, .ref 0), (0, .ref x_scr)], [.int w], h, 98, 10728) P := by
  refine j_Lst (c' := (941, [(3, .int i), (2, .ref 75), (1, .ref 0), (0, .ref x_scr)], [], h, 98, 10728)) lr_940 rfl ?_
  refine j_Lst (c' := (2368, [(3, .int i), (2, .ref 75), (1, .ref 0), (0, .ref x_scr)], [], h, 98, 10728)) lr_941 rfl ?_
  refine j_Lst (c' := (2371, [(3, .int (i + Int32.ofInt (6))), (2, .ref 75), (1, .ref 0), (0, .ref x_scr)], [], h, 98, 10728)) lr_2368 rfl ?_
  refine j_Lst (c' := (18, [(3, .int (i + Int32.ofInt (6))), (2, .ref 75), (1, .ref 0), (0, .ref x_scr)], [], h, 98, 10728)) lr_2371 rfl ?_
  exact kk

set_option maxRecDepth 100000 in
theorem x_c22a (h : xH) (L : Nat) (xs : Nat → Int32) (i : Int32) (h0 : ¬ (i < 0 ∨ L ≤ (i).toNatClampNeg)) (h1 : ¬ (i + 1 < 0 ∨ L ≤ (i + 1).toNatClampNeg)) (h2 : ¬ (i + 2 < 0 ∨ L ≤ (i + 2).toNatClampNeg)) (h3 : ¬ (i + 3 < 0 ∨ L ≤ (i + 3).toNatClampNeg)) (h4 : ¬ (i + 4 < 0 ∨ L ≤ (i + 4).toNatClampNeg)) (h5 : ¬ (i + 5 < 0 ∨ L ≤ (i + 5).toNatClampNeg)) {P : Option Value × xH × Nat × Nat → Prop} (kk : x_R x_mt (some (L, xs)) 10 M_law (955, [(3, .int i), (2, .ref 75), (1, .ref 0), (0, .ref x_scr)], [.int (xs ((i + 2)).toNatClampNeg), .int (xs ((i + 1)).toNatClampNeg), .ref 0], h, 98, 10728) P) : x_R x_mt (some (L, xs)) 10 M_law (944, [(3, .int i), (2, .ref 75), (1, .ref 0), (0, .ref x_scr)], [], h, 98, 10728) P := by
  refine j_Lst (c' := (945, [(3, .int i), (2, .ref 75), (1, .ref 0), (0, .ref x_scr)], [.ref 0], h, 98, 10728)) lr_944 rfl ?_
  refine j_Lst (c' := (946, [(3, .int i), (2, .ref 75), (1, .ref 0), (0, .ref x_scr)], [.ref x_scr, .ref 0], h, 98, 10728)) lr_945 rfl ?_
  refine j_Lst (c' := (947, [(3, .int i), (2, .ref 75), (1, .ref 0), (0, .ref x_scr)], [.int i, .ref x_scr, .ref 0], h, 98, 10728)) lr_946 rfl ?_
  refine j_Lst (c' := (948, [(3, .int i), (2, .ref 75), (1, .ref 0), (0, .ref x_scr)], [.int 1, .int i, .ref x_scr, .ref 0], h, 98, 10728)) lr_947 rfl ?_
  refine j_Lst (c' := (949, [(3, .int i), (2, .ref 75), (1, .ref 0), (0, .ref x_scr)], [.int (i + 1), .ref x_scr, .ref 0], h, 98, 10728)) lr_948 rfl ?_
  refine j_Lsl (c' := (950, [(3, .int i), (2, .ref 75), (1, .ref 0), (0, .ref x_scr)], [.int (xs ((i + 1)).toNatClampNeg), .ref 0], h, 98, 10728)) lr_949 rfl h1 ?_
  refine j_Lst (c' := (951, [(3, .int i), (2, .ref 75), (1, .ref 0), (0, .ref x_scr)], [.ref x_scr, .int (xs ((i + 1)).toNatClampNeg), .ref 0], h, 98, 10728)) lr_950 rfl ?_
  refine j_Lst (c' := (952, [(3, .int i), (2, .ref 75), (1, .ref 0), (0, .ref x_scr)], [.int i, .ref x_scr, .int (xs ((i + 1)).toNatClampNeg), .ref 0], h, 98, 10728)) lr_951 rfl ?_
  refine j_Lst (c' := (953, [(3, .int i), (2, .ref 75), (1, .ref 0), (0, .ref x_scr)], [.int 2, .int i, .ref x_scr, .int (xs ((i + 1)).toNatClampNeg), .ref 0], h, 98, 10728)) lr_952 rfl ?_
  refine j_Lst (c' := (954, [(3, .int i), (2, .ref 75), (1, .ref 0), (0, .ref x_scr)], [.int (i + 2), .ref x_scr, .int (xs ((i + 1)).toNatClampNeg), .ref 0], h, 98, 10728)) lr_953 rfl ?_
  refine j_Lsl (c' := (955, [(3, .int i), (2, .ref 75), (1, .ref 0), (0, .ref x_scr)], [.int (xs ((i + 2)).toNatClampNeg), .int (xs ((i + 1)).toNatClampNeg), .ref 0], h, 98, 10728)) lr_954 rfl h2 ?_
  exact kk

set_option maxRecDepth 100000 in
theorem x_c22b (h : xH) (L : Nat) (xs : Nat → Int32) (i : Int32) (h0 : ¬ (i < 0 ∨ L ≤ (i).toNatClampNeg)) (h1 : ¬ (i + 1 < 0 ∨ L ≤ (i + 1).toNatClampNeg)) (h2 : ¬ (i + 2 < 0 ∨ L ≤ (i + 2).toNatClampNeg)) (h3 : ¬ (i + 3 < 0 ∨ L ≤ (i + 3).toNatClampNeg)) (h4 : ¬ (i + 4 < 0 ∨ L ≤ (i + 4).toNatClampNeg)) (h5 : ¬ (i + 5 < 0 ∨ L ≤ (i + 5).toNatClampNeg)) (v : Int32) {P : Option Value × xH × Nat × Nat → Prop} (kk : x_R x_mt (some (L, xs)) 10 M_law (970, [(3, .int i), (2, .ref 75), (1, .ref 0), (0, .ref x_scr)], [.int (xs ((i + 2)).toNatClampNeg), .int (xs ((i + 1)).toNatClampNeg), .ref 75], h, 98, 10728) P) : x_R x_mt (some (L, xs)) 10 M_law (958, [(3, .int i), (2, .ref 75), (1, .ref 0), (0, .ref x_scr)], [.int v], h, 98, 10728) P := by
  refine j_Lst (c' := (959, [(3, .int i), (2, .ref 75), (1, .ref 0), (0, .ref x_scr)], [], h, 98, 10728)) lr_958 rfl ?_
  refine j_Lst (c' := (960, [(3, .int i), (2, .ref 75), (1, .ref 0), (0, .ref x_scr)], [.ref 75], h, 98, 10728)) lr_959 rfl ?_
  refine j_Lst (c' := (961, [(3, .int i), (2, .ref 75), (1, .ref 0), (0, .ref x_scr)], [.ref x_scr, .ref 75], h, 98, 10728)) lr_960 rfl ?_
  refine j_Lst (c' := (962, [(3, .int i), (2, .ref 75), (1, .ref 0), (0, .ref x_scr)], [.int i, .ref x_scr, .ref 75], h, 98, 10728)) lr_961 rfl ?_
  refine j_Lst (c' := (963, [(3, .int i), (2, .ref 75), (1, .ref 0), (0, .ref x_scr)], [.int 1, .int i, .ref x_scr, .ref 75], h, 98, 10728)) lr_962 rfl ?_
  refine j_Lst (c' := (964, [(3, .int i), (2, .ref 75), (1, .ref 0), (0, .ref x_scr)], [.int (i + 1), .ref x_scr, .ref 75], h, 98, 10728)) lr_963 rfl ?_
  refine j_Lsl (c' := (965, [(3, .int i), (2, .ref 75), (1, .ref 0), (0, .ref x_scr)], [.int (xs ((i + 1)).toNatClampNeg), .ref 75], h, 98, 10728)) lr_964 rfl h1 ?_
  refine j_Lst (c' := (966, [(3, .int i), (2, .ref 75), (1, .ref 0), (0, .ref x_scr)], [.ref x_scr, .int (xs ((i + 1)).toNatClampNeg), .ref 75], h, 98, 10728)) lr_965 rfl ?_
  refine j_Lst (c' := (967, [(3, .int i), (2, .ref 75), (1, .ref 0), (0, .ref x_scr)], [.int i, .ref x_scr, .int (xs ((i + 1)).toNatClampNeg), .ref 75], h, 98, 10728)) lr_966 rfl ?_
  refine j_Lst (c' := (968, [(3, .int i), (2, .ref 75), (1, .ref 0), (0, .ref x_scr)], [.int 2, .int i, .ref x_scr, .int (xs ((i + 1)).toNatClampNeg), .ref 75], h, 98, 10728)) lr_967 rfl ?_
  refine j_Lst (c' := (969, [(3, .int i), (2, .ref 75), (1, .ref 0), (0, .ref x_scr)], [.int (i + 2), .ref x_scr, .int (xs ((i + 1)).toNatClampNeg), .ref 75], h, 98, 10728)) lr_968 rfl ?_
  refine j_Lsl (c' := (970, [(3, .int i), (2, .ref 75), (1, .ref 0), (0, .ref x_scr)], [.int (xs ((i + 2)).toNatClampNeg), .int (xs ((i + 1)).toNatClampNeg), .ref 75], h, 98, 10728)) lr_969 rfl h2 ?_
  exact kk

set_option maxRecDepth 100000 in
theorem x_c22d (h : xH) (L : Nat) (xs : Nat → Int32) (i : Int32) (h0 : ¬ (i < 0 ∨ L ≤ (i).toNatClampNeg)) (h1 : ¬ (i + 1 < 0 ∨ L ≤ (i + 1).toNatClampNeg)) (h2 : ¬ (i + 2 < 0 ∨ L ≤ (i + 2).toNatClampNeg)) (h3 : ¬ (i + 3 < 0 ∨ L ≤ (i + 3).toNatClampNeg)) (h4 : ¬ (i + 4 < 0 ∨ L ≤ (i + 4).toNatClampNeg)) (h5 : ¬ (i + 5 < 0 ∨ L ≤ (i + 5).toNatClampNeg)) (w : Int32) {P : Option Value × xH × Nat × Nat → Prop} (kk : x_R x_mt (some (L, xs)) 10 M_law (18, [(3, .int (i + Int32.ofInt (6))), (2, .ref 75), (1, .ref 0), (0, .ref x_scr)], [], h, 98, 10728) P) : x_R x_mt (some (L, xs)) 10 M_law (973, [(3, .int i), (2, .ref 75), (1, .ref 0), (0, .ref x_scr)], [.int w], h, 98, 10728) P := by
  refine j_Lst (c' := (974, [(3, .int i), (2, .ref 75), (1, .ref 0), (0, .ref x_scr)], [], h, 98, 10728)) lr_973 rfl ?_
  refine j_Lst (c' := (2368, [(3, .int i), (2, .ref 75), (1, .ref 0), (0, .ref x_scr)], [], h, 98, 10728)) lr_974 rfl ?_
  refine j_Lst (c' := (2371, [(3, .int (i + Int32.ofInt (6))), (2, .ref 75), (1, .ref 0), (0, .ref x_scr)], [], h, 98, 10728)) lr_2368 rfl ?_
  refine j_Lst (c' := (18, [(3, .int (i + Int32.ofInt (6))), (2, .ref 75), (1, .ref 0), (0, .ref x_scr)], [], h, 98, 10728)) lr_2371 rfl ?_
  exact kk

set_option maxRecDepth 100000 in
theorem x_c23a (h : xH) (L : Nat) (xs : Nat → Int32) (i : Int32) (h0 : ¬ (i < 0 ∨ L ≤ (i).toNatClampNeg)) (h1 : ¬ (i + 1 < 0 ∨ L ≤ (i + 1).toNatClampNeg)) (h2 : ¬ (i + 2 < 0 ∨ L ≤ (i + 2).toNatClampNeg)) (h3 : ¬ (i + 3 < 0 ∨ L ≤ (i + 3).toNatClampNeg)) (h4 : ¬ (i + 4 < 0 ∨ L ≤ (i + 4).toNatClampNeg)) (h5 : ¬ (i + 5 < 0 ∨ L ≤ (i + 5).toNatClampNeg)) {P : Option Value × xH × Nat × Nat → Prop} (kk : x_R x_mt (some (L, xs)) 10 M_law (983, [(3, .int i), (2, .ref 75), (1, .ref 0), (0, .ref x_scr)], [.int (xs ((i + 1)).toNatClampNeg), .ref 0], h, 98, 10728) P) : x_R x_mt (some (L, xs)) 10 M_law (977, [(3, .int i), (2, .ref 75), (1, .ref 0), (0, .ref x_scr)], [], h, 98, 10728) P := by
  refine j_Lst (c' := (978, [(3, .int i), (2, .ref 75), (1, .ref 0), (0, .ref x_scr)], [.ref 0], h, 98, 10728)) lr_977 rfl ?_
  refine j_Lst (c' := (979, [(3, .int i), (2, .ref 75), (1, .ref 0), (0, .ref x_scr)], [.ref x_scr, .ref 0], h, 98, 10728)) lr_978 rfl ?_
  refine j_Lst (c' := (980, [(3, .int i), (2, .ref 75), (1, .ref 0), (0, .ref x_scr)], [.int i, .ref x_scr, .ref 0], h, 98, 10728)) lr_979 rfl ?_
  refine j_Lst (c' := (981, [(3, .int i), (2, .ref 75), (1, .ref 0), (0, .ref x_scr)], [.int 1, .int i, .ref x_scr, .ref 0], h, 98, 10728)) lr_980 rfl ?_
  refine j_Lst (c' := (982, [(3, .int i), (2, .ref 75), (1, .ref 0), (0, .ref x_scr)], [.int (i + 1), .ref x_scr, .ref 0], h, 98, 10728)) lr_981 rfl ?_
  refine j_Lsl (c' := (983, [(3, .int i), (2, .ref 75), (1, .ref 0), (0, .ref x_scr)], [.int (xs ((i + 1)).toNatClampNeg), .ref 0], h, 98, 10728)) lr_982 rfl h1 ?_
  exact kk

set_option maxRecDepth 100000 in
theorem x_c23b (h : xH) (L : Nat) (xs : Nat → Int32) (i : Int32) (h0 : ¬ (i < 0 ∨ L ≤ (i).toNatClampNeg)) (h1 : ¬ (i + 1 < 0 ∨ L ≤ (i + 1).toNatClampNeg)) (h2 : ¬ (i + 2 < 0 ∨ L ≤ (i + 2).toNatClampNeg)) (h3 : ¬ (i + 3 < 0 ∨ L ≤ (i + 3).toNatClampNeg)) (h4 : ¬ (i + 4 < 0 ∨ L ≤ (i + 4).toNatClampNeg)) (h5 : ¬ (i + 5 < 0 ∨ L ≤ (i + 5).toNatClampNeg)) (v : Int32) {P : Option Value × xH × Nat × Nat → Prop} (kk : x_R x_mt (some (L, xs)) 10 M_law (993, [(3, .int i), (2, .ref 75), (1, .ref 0), (0, .ref x_scr)], [.int (xs ((i + 1)).toNatClampNeg), .ref 75], h, 98, 10728) P) : x_R x_mt (some (L, xs)) 10 M_law (986, [(3, .int i), (2, .ref 75), (1, .ref 0), (0, .ref x_scr)], [.int v], h, 98, 10728) P := by
  refine j_Lst (c' := (987, [(3, .int i), (2, .ref 75), (1, .ref 0), (0, .ref x_scr)], [], h, 98, 10728)) lr_986 rfl ?_
  refine j_Lst (c' := (988, [(3, .int i), (2, .ref 75), (1, .ref 0), (0, .ref x_scr)], [.ref 75], h, 98, 10728)) lr_987 rfl ?_
  refine j_Lst (c' := (989, [(3, .int i), (2, .ref 75), (1, .ref 0), (0, .ref x_scr)], [.ref x_scr, .ref 75], h, 98, 10728)) lr_988 rfl ?_
  refine j_Lst (c' := (990, [(3, .int i), (2, .ref 75), (1, .ref 0), (0, .ref x_scr)], [.int i, .ref x_scr, .ref 75], h, 98, 10728)) lr_989 rfl ?_
  refine j_Lst (c' := (991, [(3, .int i), (2, .ref 75), (1, .ref 0), (0, .ref x_scr)], [.int 1, .int i, .ref x_scr, .ref 75], h, 98, 10728)) lr_990 rfl ?_
  refine j_Lst (c' := (992, [(3, .int i), (2, .ref 75), (1, .ref 0), (0, .ref x_scr)], [.int (i + 1), .ref x_scr, .ref 75], h, 98, 10728)) lr_991 rfl ?_
  refine j_Lsl (c' := (993, [(3, .int i), (2, .ref 75), (1, .ref 0), (0, .ref x_scr)], [.int (xs ((i + 1)).toNatClampNeg), .ref 75], h, 98, 10728)) lr_992 rfl h1 ?_
  exact kk

set_option maxRecDepth 100000 in
theorem x_c23d (h : xH) (L : Nat) (xs : Nat → Int32) (i : Int32) (h0 : ¬ (i < 0 ∨ L ≤ (i).toNatClampNeg)) (h1 : ¬ (i + 1 < 0 ∨ L ≤ (i + 1).toNatClampNeg)) (h2 : ¬ (i + 2 < 0 ∨ L ≤ (i + 2).toNatClampNeg)) (h3 : ¬ (i + 3 < 0 ∨ L ≤ (i + 3).toNatClampNeg)) (h4 : ¬ (i + 4 < 0 ∨ L ≤ (i + 4).toNatClampNeg)) (h5 : ¬ (i + 5 < 0 ∨ L ≤ (i + 5).toNatClampNeg)) (w : Int32) {P : Option Value × xH × Nat × Nat → Prop} (kk : x_R x_mt (some (L, xs)) 10 M_law (18, [(3, .int (i + Int32.ofInt (6))), (2, .ref 75), (1, .ref 0), (0, .ref x_scr)], [], h, 98, 10728) P) : x_R x_mt (some (L, xs)) 10 M_law (996, [(3, .int i), (2, .ref 75), (1, .ref 0), (0, .ref x_scr)], [.int w], h, 98, 10728) P := by
  refine j_Lst (c' := (997, [(3, .int i), (2, .ref 75), (1, .ref 0), (0, .ref x_scr)], [], h, 98, 10728)) lr_996 rfl ?_
  refine j_Lst (c' := (2368, [(3, .int i), (2, .ref 75), (1, .ref 0), (0, .ref x_scr)], [], h, 98, 10728)) lr_997 rfl ?_
  refine j_Lst (c' := (2371, [(3, .int (i + Int32.ofInt (6))), (2, .ref 75), (1, .ref 0), (0, .ref x_scr)], [], h, 98, 10728)) lr_2368 rfl ?_
  refine j_Lst (c' := (18, [(3, .int (i + Int32.ofInt (6))), (2, .ref 75), (1, .ref 0), (0, .ref x_scr)], [], h, 98, 10728)) lr_2371 rfl ?_
  exact kk

set_option maxRecDepth 100000 in
theorem x_c24a (h : xH) (L : Nat) (xs : Nat → Int32) (i : Int32) (h0 : ¬ (i < 0 ∨ L ≤ (i).toNatClampNeg)) (h1 : ¬ (i + 1 < 0 ∨ L ≤ (i + 1).toNatClampNeg)) (h2 : ¬ (i + 2 < 0 ∨ L ≤ (i + 2).toNatClampNeg)) (h3 : ¬ (i + 3 < 0 ∨ L ≤ (i + 3).toNatClampNeg)) (h4 : ¬ (i + 4 < 0 ∨ L ≤ (i + 4).toNatClampNeg)) (h5 : ¬ (i + 5 < 0 ∨ L ≤ (i + 5).toNatClampNeg)) {P : Option Value × xH × Nat × Nat → Prop} (kk : x_R x_mt (some (L, xs)) 10 M_law (1011, [(3, .int i), (2, .ref 75), (1, .ref 0), (0, .ref x_scr)], [.int (xs ((i + 2)).toNatClampNeg), .int (xs ((i + 1)).toNatClampNeg), .ref 0], h, 98, 10728) P) : x_R x_mt (some (L, xs)) 10 M_law (1000, [(3, .int i), (2, .ref 75), (1, .ref 0), (0, .ref x_scr)], [], h, 98, 10728) P := by
  refine j_Lst (c' := (1001, [(3, .int i), (2, .ref 75), (1, .ref 0), (0, .ref x_scr)], [.ref 0], h, 98, 10728)) lr_1000 rfl ?_
  refine j_Lst (c' := (1002, [(3, .int i), (2, .ref 75), (1, .ref 0), (0, .ref x_scr)], [.ref x_scr, .ref 0], h, 98, 10728)) lr_1001 rfl ?_
  refine j_Lst (c' := (1003, [(3, .int i), (2, .ref 75), (1, .ref 0), (0, .ref x_scr)], [.int i, .ref x_scr, .ref 0], h, 98, 10728)) lr_1002 rfl ?_
  refine j_Lst (c' := (1004, [(3, .int i), (2, .ref 75), (1, .ref 0), (0, .ref x_scr)], [.int 1, .int i, .ref x_scr, .ref 0], h, 98, 10728)) lr_1003 rfl ?_
  refine j_Lst (c' := (1005, [(3, .int i), (2, .ref 75), (1, .ref 0), (0, .ref x_scr)], [.int (i + 1), .ref x_scr, .ref 0], h, 98, 10728)) lr_1004 rfl ?_
  refine j_Lsl (c' := (1006, [(3, .int i), (2, .ref 75), (1, .ref 0), (0, .ref x_scr)], [.int (xs ((i + 1)).toNatClampNeg), .ref 0], h, 98, 10728)) lr_1005 rfl h1 ?_
  refine j_Lst (c' := (1007, [(3, .int i), (2, .ref 75), (1, .ref 0), (0, .ref x_scr)], [.ref x_scr, .int (xs ((i + 1)).toNatClampNeg), .ref 0], h, 98, 10728)) lr_1006 rfl ?_
  refine j_Lst (c' := (1008, [(3, .int i), (2, .ref 75), (1, .ref 0), (0, .ref x_scr)], [.int i, .ref x_scr, .int (xs ((i + 1)).toNatClampNeg), .ref 0], h, 98, 10728)) lr_1007 rfl ?_
  refine j_Lst (c' := (1009, [(3, .int i), (2, .ref 75), (1, .ref 0), (0, .ref x_scr)], [.int 2, .int i, .ref x_scr, .int (xs ((i + 1)).toNatClampNeg), .ref 0], h, 98, 10728)) lr_1008 rfl ?_
  refine j_Lst (c' := (1010, [(3, .int i), (2, .ref 75), (1, .ref 0), (0, .ref x_scr)], [.int (i + 2), .ref x_scr, .int (xs ((i + 1)).toNatClampNeg), .ref 0], h, 98, 10728)) lr_1009 rfl ?_
  refine j_Lsl (c' := (1011, [(3, .int i), (2, .ref 75), (1, .ref 0), (0, .ref x_scr)], [.int (xs ((i + 2)).toNatClampNeg), .int (xs ((i + 1)).toNatClampNeg), .ref 0], h, 98, 10728)) lr_1010 rfl h2 ?_
  exact kk

set_option maxRecDepth 100000 in
theorem x_c24b (h : xH) (L : Nat) (xs : Nat → Int32) (i : Int32) (h0 : ¬ (i < 0 ∨ L ≤ (i).toNatClampNeg)) (h1 : ¬ (i + 1 < 0 ∨ L ≤ (i + 1).toNatClampNeg)) (h2 : ¬ (i + 2 < 0 ∨ L ≤ (i + 2).toNatClampNeg)) (h3 : ¬ (i + 3 < 0 ∨ L ≤ (i + 3).toNatClampNeg)) (h4 : ¬ (i + 4 < 0 ∨ L ≤ (i + 4).toNatClampNeg)) (h5 : ¬ (i + 5 < 0 ∨ L ≤ (i + 5).toNatClampNeg)) (v : Int32) {P : Option Value × xH × Nat × Nat → Prop} (kk : x_R x_mt (some (L, xs)) 10 M_law (1026, [(3, .int i), (2, .ref 75), (1, .ref 0), (0, .ref x_scr)], [.int (xs ((i + 2)).toNatClampNeg), .int (xs ((i + 1)).toNatClampNeg), .ref 75], h, 98, 10728) P) : x_R x_mt (some (L, xs)) 10 M_law (1014, [(3, .int i), (2, .ref 75), (1, .ref 0), (0, .ref x_scr)], [.int v], h, 98, 10728) P := by
  refine j_Lst (c' := (1015, [(3, .int i), (2, .ref 75), (1, .ref 0), (0, .ref x_scr)], [], h, 98, 10728)) lr_1014 rfl ?_
  refine j_Lst (c' := (1016, [(3, .int i), (2, .ref 75), (1, .ref 0), (0, .ref x_scr)], [.ref 75], h, 98, 10728)) lr_1015 rfl ?_
  refine j_Lst (c' := (1017, [(3, .int i), (2, .ref 75), (1, .ref 0), (0, .ref x_scr)], [.ref x_scr, .ref 75], h, 98, 10728)) lr_1016 rfl ?_
  refine j_Lst (c' := (1018, [(3, .int i), (2, .ref 75), (1, .ref 0), (0, .ref x_scr)], [.int i, .ref x_scr, .ref 75], h, 98, 10728)) lr_1017 rfl ?_
  refine j_Lst (c' := (1019, [(3, .int i), (2, .ref 75), (1, .ref 0), (0, .ref x_scr)], [.int 1, .int i, .ref x_scr, .ref 75], h, 98, 10728)) lr_1018 rfl ?_
  refine j_Lst (c' := (1020, [(3, .int i), (2, .ref 75), (1, .ref 0), (0, .ref x_scr)], [.int (i + 1), .ref x_scr, .ref 75], h, 98, 10728)) lr_1019 rfl ?_
  refine j_Lsl (c' := (1021, [(3, .int i), (2, .ref 75), (1, .ref 0), (0, .ref x_scr)], [.int (xs ((i + 1)).toNatClampNeg), .ref 75], h, 98, 10728)) lr_1020 rfl h1 ?_
  refine j_Lst (c' := (1022, [(3, .int i), (2, .ref 75), (1, .ref 0), (0, .ref x_scr)], [.ref x_scr, .int (xs ((i + 1)).toNatClampNeg), .ref 75], h, 98, 10728)) lr_1021 rfl ?_
  refine j_Lst (c' := (1023, [(3, .int i), (2, .ref 75), (1, .ref 0), (0, .ref x_scr)], [.int i, .ref x_scr, .int (xs ((i + 1)).toNatClampNeg), .ref 75], h, 98, 10728)) lr_1022 rfl ?_
  refine j_Lst (c' := (1024, [(3, .int i), (2, .ref 75), (1, .ref 0), (0, .ref x_scr)], [.int 2, .int i, .ref x_scr, .int (xs ((i + 1)).toNatClampNeg), .ref 75], h, 98, 10728)) lr_1023 rfl ?_
  refine j_Lst (c' := (1025, [(3, .int i), (2, .ref 75), (1, .ref 0), (0, .ref x_scr)], [.int (i + 2), .ref x_scr, .int (xs ((i + 1)).toNatClampNeg), .ref 75], h, 98, 10728)) lr_1024 rfl ?_
  refine j_Lsl (c' := (1026, [(3, .int i), (2, .ref 75), (1, .ref 0), (0, .ref x_scr)], [.int (xs ((i + 2)).toNatClampNeg), .int (xs ((i + 1)).toNatClampNeg), .ref 75], h, 98, 10728)) lr_1025 rfl h2 ?_
  exact kk

set_option maxRecDepth 100000 in
theorem x_c24d (h : xH) (L : Nat) (xs : Nat → Int32) (i : Int32) (h0 : ¬ (i < 0 ∨ L ≤ (i).toNatClampNeg)) (h1 : ¬ (i + 1 < 0 ∨ L ≤ (i + 1).toNatClampNeg)) (h2 : ¬ (i + 2 < 0 ∨ L ≤ (i + 2).toNatClampNeg)) (h3 : ¬ (i + 3 < 0 ∨ L ≤ (i + 3).toNatClampNeg)) (h4 : ¬ (i + 4 < 0 ∨ L ≤ (i + 4).toNatClampNeg)) (h5 : ¬ (i + 5 < 0 ∨ L ≤ (i + 5).toNatClampNeg)) (w : Int32) {P : Option Value × xH × Nat × Nat → Prop} (kk : x_R x_mt (some (L, xs)) 10 M_law (18, [(3, .int (i + Int32.ofInt (6))), (2, .ref 75), (1, .ref 0), (0, .ref x_scr)], [], h, 98, 10728) P) : x_R x_mt (some (L, xs)) 10 M_law (1029, [(3, .int i), (2, .ref 75), (1, .ref 0), (0, .ref x_scr)], [.int w], h, 98, 10728) P := by
  refine j_Lst (c' := (1030, [(3, .int i), (2, .ref 75), (1, .ref 0), (0, .ref x_scr)], [], h, 98, 10728)) lr_1029 rfl ?_
  refine j_Lst (c' := (2368, [(3, .int i), (2, .ref 75), (1, .ref 0), (0, .ref x_scr)], [], h, 98, 10728)) lr_1030 rfl ?_
  refine j_Lst (c' := (2371, [(3, .int (i + Int32.ofInt (6))), (2, .ref 75), (1, .ref 0), (0, .ref x_scr)], [], h, 98, 10728)) lr_2368 rfl ?_
  refine j_Lst (c' := (18, [(3, .int (i + Int32.ofInt (6))), (2, .ref 75), (1, .ref 0), (0, .ref x_scr)], [], h, 98, 10728)) lr_2371 rfl ?_
  exact kk

set_option maxRecDepth 100000 in
theorem x_c25a (h : xH) (L : Nat) (xs : Nat → Int32) (i : Int32) (h0 : ¬ (i < 0 ∨ L ≤ (i).toNatClampNeg)) (h1 : ¬ (i + 1 < 0 ∨ L ≤ (i + 1).toNatClampNeg)) (h2 : ¬ (i + 2 < 0 ∨ L ≤ (i + 2).toNatClampNeg)) (h3 : ¬ (i + 3 < 0 ∨ L ≤ (i + 3).toNatClampNeg)) (h4 : ¬ (i + 4 < 0 ∨ L ≤ (i + 4).toNatClampNeg)) (h5 : ¬ (i + 5 < 0 ∨ L ≤ (i + 5).toNatClampNeg)) {P : Option Value × xH × Nat × Nat → Prop} (kk : x_R x_mt (some (L, xs)) 10 M_law (1044, [(3, .int i), (2, .ref 75), (1, .ref 0), (0, .ref x_scr)], [.int (xs ((i + 2)).toNatClampNeg), .int (xs ((i + 1)).toNatClampNeg), .ref 0], h, 98, 10728) P) : x_R x_mt (some (L, xs)) 10 M_law (1033, [(3, .int i), (2, .ref 75), (1, .ref 0), (0, .ref x_scr)], [], h, 98, 10728) P := by
  refine j_Lst (c' := (1034, [(3, .int i), (2, .ref 75), (1, .ref 0), (0, .ref x_scr)], [.ref 0], h, 98, 10728)) lr_1033 rfl ?_
  refine j_Lst (c' := (1035, [(3, .int i), (2, .ref 75), (1, .ref 0), (0, .ref x_scr)], [.ref x_scr, .ref 0], h, 98, 10728)) lr_1034 rfl ?_
  refine j_Lst (c' := (1036, [(3, .int i), (2, .ref 75), (1, .ref 0), (0, .ref x_scr)], [.int i, .ref x_scr, .ref 0], h, 98, 10728)) lr_1035 rfl ?_
  refine j_Lst (c' := (1037, [(3, .int i), (2, .ref 75), (1, .ref 0), (0, .ref x_scr)], [.int 1, .int i, .ref x_scr, .ref 0], h, 98, 10728)) lr_1036 rfl ?_
  refine j_Lst (c' := (1038, [(3, .int i), (2, .ref 75), (1, .ref 0), (0, .ref x_scr)], [.int (i + 1), .ref x_scr, .ref 0], h, 98, 10728)) lr_1037 rfl ?_
  refine j_Lsl (c' := (1039, [(3, .int i), (2, .ref 75), (1, .ref 0), (0, .ref x_scr)], [.int (xs ((i + 1)).toNatClampNeg), .ref 0], h, 98, 10728)) lr_1038 rfl h1 ?_
  refine j_Lst (c' := (1040, [(3, .int i), (2, .ref 75), (1, .ref 0), (0, .ref x_scr)], [.ref x_scr, .int (xs ((i + 1)).toNatClampNeg), .ref 0], h, 98, 10728)) lr_1039 rfl ?_
  refine j_Lst (c' := (1041, [(3, .int i), (2, .ref 75), (1, .ref 0), (0, .ref x_scr)], [.int i, .ref x_scr, .int (xs ((i + 1)).toNatClampNeg), .ref 0], h, 98, 10728)) lr_1040 rfl ?_
  refine j_Lst (c' := (1042, [(3, .int i), (2, .ref 75), (1, .ref 0), (0, .ref x_scr)], [.int 2, .int i, .ref x_scr, .int (xs ((i + 1)).toNatClampNeg), .ref 0], h, 98, 10728)) lr_1041 rfl ?_
  refine j_Lst (c' := (1043, [(3, .int i), (2, .ref 75), (1, .ref 0), (0, .ref x_scr)], [.int (i + 2), .ref x_scr, .int (xs ((i + 1)).toNatClampNeg), .ref 0], h, 98, 10728)) lr_1042 rfl ?_
  refine j_Lsl (c' := (1044, [(3, .int i), (2, .ref 75), (1, .ref 0), (0, .ref x_scr)], [.int (xs ((i + 2)).toNatClampNeg), .int (xs ((i + 1)).toNatClampNeg), .ref 0], h, 98, 10728)) lr_1043 rfl h2 ?_
  exact kk

set_option maxRecDepth 100000 in
theorem x_c25b (h : xH) (L : Nat) (xs : Nat → Int32) (i : Int32) (h0 : ¬ (i < 0 ∨ L ≤ (i).toNatClampNeg)) (h1 : ¬ (i + 1 < 0 ∨ L ≤ (i + 1).toNatClampNeg)) (h2 : ¬ (i + 2 < 0 ∨ L ≤ (i + 2).toNatClampNeg)) (h3 : ¬ (i + 3 < 0 ∨ L ≤ (i + 3).toNatClampNeg)) (h4 : ¬ (i + 4 < 0 ∨ L ≤ (i + 4).toNatClampNeg)) (h5 : ¬ (i + 5 < 0 ∨ L ≤ (i + 5).toNatClampNeg)) (v : Int32) {P : Option Value × xH × Nat × Nat → Prop} (kk : x_R x_mt (some (L, xs)) 10 M_law (1059, [(3, .int i), (2, .ref 75), (1, .ref 0), (0, .ref x_scr)], [.int (xs ((i + 2)).toNatClampNeg), .int (xs ((i + 1)).toNatClampNeg), .ref 75], h, 98, 10728) P) : x_R x_mt (some (L, xs)) 10 M_law (1047, [(3, .int i), (2, .ref 75), (1, .ref 0), (0, .ref x_scr)], [.int v], h, 98, 10728) P := by
  refine j_Lst (c' := (1048, [(3, .int i), (2, .ref 75), (1, .ref 0), (0, .ref x_scr)], [], h, 98, 10728)) lr_1047 rfl ?_
  refine j_Lst (c' := (1049, [(3, .int i), (2, .ref 75), (1, .ref 0), (0, .ref x_scr)], [.ref 75], h, 98, 10728)) lr_1048 rfl ?_
  refine j_Lst (c' := (1050, [(3, .int i), (2, .ref 75), (1, .ref 0), (0, .ref x_scr)], [.ref x_scr, .ref 75], h, 98, 10728)) lr_1049 rfl ?_
  refine j_Lst (c' := (1051, [(3, .int i), (2, .ref 75), (1, .ref 0), (0, .ref x_scr)], [.int i, .ref x_scr, .ref 75], h, 98, 10728)) lr_1050 rfl ?_
  refine j_Lst (c' := (1052, [(3, .int i), (2, .ref 75), (1, .ref 0), (0, .ref x_scr)], [.int 1, .int i, .ref x_scr, .ref 75], h, 98, 10728)) lr_1051 rfl ?_
  refine j_Lst (c' := (1053, [(3, .int i), (2, .ref 75), (1, .ref 0), (0, .ref x_scr)], [.int (i + 1), .ref x_scr, .ref 75], h, 98, 10728)) lr_1052 rfl ?_
  refine j_Lsl (c' := (1054, [(3, .int i), (2, .ref 75), (1, .ref 0), (0, .ref x_scr)], [.int (xs ((i + 1)).toNatClampNeg), .ref 75], h, 98, 10728)) lr_1053 rfl h1 ?_
  refine j_Lst (c' := (1055, [(3, .int i), (2, .ref 75), (1, .ref 0), (0, .ref x_scr)], [.ref x_scr, .int (xs ((i + 1)).toNatClampNeg), .ref 75], h, 98, 10728)) lr_1054 rfl ?_
  refine j_Lst (c' := (1056, [(3, .int i), (2, .ref 75), (1, .ref 0), (0, .ref x_scr)], [.int i, .ref x_scr, .int (xs ((i + 1)).toNatClampNeg), .ref 75], h, 98, 10728)) lr_1055 rfl ?_
  refine j_Lst (c' := (1057, [(3, .int i), (2, .ref 75), (1, .ref 0), (0, .ref x_scr)], [.int 2, .int i, .ref x_scr, .int (xs ((i + 1)).toNatClampNeg), .ref 75], h, 98, 10728)) lr_1056 rfl ?_
  refine j_Lst (c' := (1058, [(3, .int i), (2, .ref 75), (1, .ref 0), (0, .ref x_scr)], [.int (i + 2), .ref x_scr, .int (xs ((i + 1)).toNatClampNeg), .ref 75], h, 98, 10728)) lr_1057 rfl ?_
  refine j_Lsl (c' := (1059, [(3, .int i), (2, .ref 75), (1, .ref 0), (0, .ref x_scr)], [.int (xs ((i + 2)).toNatClampNeg), .int (xs ((i + 1)).toNatClampNeg), .ref 75], h, 98, 10728)) lr_1058 rfl h2 ?_
  exact kk

set_option maxRecDepth 100000 in
theorem x_c25d (h : xH) (L : Nat) (xs : Nat → Int32) (i : Int32) (h0 : ¬ (i < 0 ∨ L ≤ (i).toNatClampNeg)) (h1 : ¬ (i + 1 < 0 ∨ L ≤ (i + 1).toNatClampNeg)) (h2 : ¬ (i + 2 < 0 ∨ L ≤ (i + 2).toNatClampNeg)) (h3 : ¬ (i + 3 < 0 ∨ L ≤ (i + 3).toNatClampNeg)) (h4 : ¬ (i + 4 < 0 ∨ L ≤ (i + 4).toNatClampNeg)) (h5 : ¬ (i + 5 < 0 ∨ L ≤ (i + 5).toNatClampNeg)) (w : Int32) {P : Option Value × xH × Nat × Nat → Prop} (kk : x_R x_mt (some (L, xs)) 10 M_law (18, [(3, .int (i + Int32.ofInt (6))), (2, .ref 75), (1, .ref 0), (0, .ref x_scr)], [], h, 98, 10728) P) : x_R x_mt (some (L, xs)) 10 M_law (1062, [(3, .int i), (2, .ref 75), (1, .ref 0), (0, .ref x_scr)], [.int w], h, 98, 10728) P := by
  refine j_Lst (c' := (1063, [(3, .int i), (2, .ref 75), (1, .ref 0), (0, .ref x_scr)], [], h, 98, 10728)) lr_1062 rfl ?_
  refine j_Lst (c' := (2368, [(3, .int i), (2, .ref 75), (1, .ref 0), (0, .ref x_scr)], [], h, 98, 10728)) lr_1063 rfl ?_
  refine j_Lst (c' := (2371, [(3, .int (i + Int32.ofInt (6))), (2, .ref 75), (1, .ref 0), (0, .ref x_scr)], [], h, 98, 10728)) lr_2368 rfl ?_
  refine j_Lst (c' := (18, [(3, .int (i + Int32.ofInt (6))), (2, .ref 75), (1, .ref 0), (0, .ref x_scr)], [], h, 98, 10728)) lr_2371 rfl ?_
  exact kk

set_option maxRecDepth 100000 in
theorem x_c26a (h : xH) (L : Nat) (xs : Nat → Int32) (i : Int32) (h0 : ¬ (i < 0 ∨ L ≤ (i).toNatClampNeg)) (h1 : ¬ (i + 1 < 0 ∨ L ≤ (i + 1).toNatClampNeg)) (h2 : ¬ (i + 2 < 0 ∨ L ≤ (i + 2).toNatClampNeg)) (h3 : ¬ (i + 3 < 0 ∨ L ≤ (i + 3).toNatClampNeg)) (h4 : ¬ (i + 4 < 0 ∨ L ≤ (i + 4).toNatClampNeg)) (h5 : ¬ (i + 5 < 0 ∨ L ≤ (i + 5).toNatClampNeg)) {P : Option Value × xH × Nat × Nat → Prop} (kk : x_R x_mt (some (L, xs)) 10 M_law (1072, [(3, .int i), (2, .ref 75), (1, .ref 0), (0, .ref x_scr)], [.int (xs ((i + 1)).toNatClampNeg), .ref 0], h, 98, 10728) P) : x_R x_mt (some (L, xs)) 10 M_law (1066, [(3, .int i), (2, .ref 75), (1, .ref 0), (0, .ref x_scr)], [], h, 98, 10728) P := by
  refine j_Lst (c' := (1067, [(3, .int i), (2, .ref 75), (1, .ref 0), (0, .ref x_scr)], [.ref 0], h, 98, 10728)) lr_1066 rfl ?_
  refine j_Lst (c' := (1068, [(3, .int i), (2, .ref 75), (1, .ref 0), (0, .ref x_scr)], [.ref x_scr, .ref 0], h, 98, 10728)) lr_1067 rfl ?_
  refine j_Lst (c' := (1069, [(3, .int i), (2, .ref 75), (1, .ref 0), (0, .ref x_scr)], [.int i, .ref x_scr, .ref 0], h, 98, 10728)) lr_1068 rfl ?_
  refine j_Lst (c' := (1070, [(3, .int i), (2, .ref 75), (1, .ref 0), (0, .ref x_scr)], [.int 1, .int i, .ref x_scr, .ref 0], h, 98, 10728)) lr_1069 rfl ?_
  refine j_Lst (c' := (1071, [(3, .int i), (2, .ref 75), (1, .ref 0), (0, .ref x_scr)], [.int (i + 1), .ref x_scr, .ref 0], h, 98, 10728)) lr_1070 rfl ?_
  refine j_Lsl (c' := (1072, [(3, .int i), (2, .ref 75), (1, .ref 0), (0, .ref x_scr)], [.int (xs ((i + 1)).toNatClampNeg), .ref 0], h, 98, 10728)) lr_1071 rfl h1 ?_
  exact kk

set_option maxRecDepth 100000 in
theorem x_c26b (h : xH) (L : Nat) (xs : Nat → Int32) (i : Int32) (h0 : ¬ (i < 0 ∨ L ≤ (i).toNatClampNeg)) (h1 : ¬ (i + 1 < 0 ∨ L ≤ (i + 1).toNatClampNeg)) (h2 : ¬ (i + 2 < 0 ∨ L ≤ (i + 2).toNatClampNeg)) (h3 : ¬ (i + 3 < 0 ∨ L ≤ (i + 3).toNatClampNeg)) (h4 : ¬ (i + 4 < 0 ∨ L ≤ (i + 4).toNatClampNeg)) (h5 : ¬ (i + 5 < 0 ∨ L ≤ (i + 5).toNatClampNeg)) (v : Int32) {P : Option Value × xH × Nat × Nat → Prop} (kk : x_R x_mt (some (L, xs)) 10 M_law (1082, [(3, .int i), (2, .ref 75), (1, .ref 0), (0, .ref x_scr)], [.int (xs ((i + 1)).toNatClampNeg), .ref 75], h, 98, 10728) P) : x_R x_mt (some (L, xs)) 10 M_law (1075, [(3, .int i), (2, .ref 75), (1, .ref 0), (0, .ref x_scr)], [.int v], h, 98, 10728) P := by
  refine j_Lst (c' := (1076, [(3, .int i), (2, .ref 75), (1, .ref 0), (0, .ref x_scr)], [], h, 98, 10728)) lr_1075 rfl ?_
  refine j_Lst (c' := (1077, [(3, .int i), (2, .ref 75), (1, .ref 0), (0, .ref x_scr)], [.ref 75], h, 98, 10728)) lr_1076 rfl ?_
  refine j_Lst (c' := (1078, [(3, .int i), (2, .ref 75), (1, .ref 0), (0, .ref x_scr)], [.ref x_scr, .ref 75], h, 98, 10728)) lr_1077 rfl ?_
  refine j_Lst (c' := (1079, [(3, .int i), (2, .ref 75), (1, .ref 0), (0, .ref x_scr)], [.int i, .ref x_scr, .ref 75], h, 98, 10728)) lr_1078 rfl ?_
  refine j_Lst (c' := (1080, [(3, .int i), (2, .ref 75), (1, .ref 0), (0, .ref x_scr)], [.int 1, .int i, .ref x_scr, .ref 75], h, 98, 10728)) lr_1079 rfl ?_
  refine j_Lst (c' := (1081, [(3, .int i), (2, .ref 75), (1, .ref 0), (0, .ref x_scr)], [.int (i + 1), .ref x_scr, .ref 75], h, 98, 10728)) lr_1080 rfl ?_
  refine j_Lsl (c' := (1082, [(3, .int i), (2, .ref 75), (1, .ref 0), (0, .ref x_scr)], [.int (xs ((i + 1)).toNatClampNeg), .ref 75], h, 98, 10728)) lr_1081 rfl h1 ?_
  exact kk

set_option maxRecDepth 100000 in
theorem x_c26d (h : xH) (L : Nat) (xs : Nat → Int32) (i : Int32) (h0 : ¬ (i < 0 ∨ L ≤ (i).toNatClampNeg)) (h1 : ¬ (i + 1 < 0 ∨ L ≤ (i + 1).toNatClampNeg)) (h2 : ¬ (i + 2 < 0 ∨ L ≤ (i + 2).toNatClampNeg)) (h3 : ¬ (i + 3 < 0 ∨ L ≤ (i + 3).toNatClampNeg)) (h4 : ¬ (i + 4 < 0 ∨ L ≤ (i + 4).toNatClampNeg)) (h5 : ¬ (i + 5 < 0 ∨ L ≤ (i + 5).toNatClampNeg)) (w : Int32) {P : Option Value × xH × Nat × Nat → Prop} (kk : x_R x_mt (some (L, xs)) 10 M_law (18, [(3, .int (i + Int32.ofInt (6))), (2, .ref 75), (1, .ref 0), (0, .ref x_scr)], [], h, 98, 10728) P) : x_R x_mt (some (L, xs)) 10 M_law (1085, [(3, .int i), (2, .ref 75), (1, .ref 0), (0, .ref x_scr)], [.int w], h, 98, 10728) P := by
  refine j_Lst (c' := (1086, [(3, .int i), (2, .ref 75), (1, .ref 0), (0, .ref x_scr)], [], h, 98, 10728)) lr_1085 rfl ?_
  refine j_Lst (c' := (2368, [(3, .int i), (2, .ref 75), (1, .ref 0), (0, .ref x_scr)], [], h, 98, 10728)) lr_1086 rfl ?_
  refine j_Lst (c' := (2371, [(3, .int (i + Int32.ofInt (6))), (2, .ref 75), (1, .ref 0), (0, .ref x_scr)], [], h, 98, 10728)) lr_2368 rfl ?_
  refine j_Lst (c' := (18, [(3, .int (i + Int32.ofInt (6))), (2, .ref 75), (1, .ref 0), (0, .ref x_scr)], [], h, 98, 10728)) lr_2371 rfl ?_
  exact kk

set_option maxRecDepth 100000 in
theorem x_c27a (h : xH) (L : Nat) (xs : Nat → Int32) (i : Int32) (h0 : ¬ (i < 0 ∨ L ≤ (i).toNatClampNeg)) (h1 : ¬ (i + 1 < 0 ∨ L ≤ (i + 1).toNatClampNeg)) (h2 : ¬ (i + 2 < 0 ∨ L ≤ (i + 2).toNatClampNeg)) (h3 : ¬ (i + 3 < 0 ∨ L ≤ (i + 3).toNatClampNeg)) (h4 : ¬ (i + 4 < 0 ∨ L ≤ (i + 4).toNatClampNeg)) (h5 : ¬ (i + 5 < 0 ∨ L ≤ (i + 5).toNatClampNeg)) {P : Option Value × xH × Nat × Nat → Prop} (kk : x_R x_mt (some (L, xs)) 10 M_law (1100, [(3, .int i), (2, .ref 75), (1, .ref 0), (0, .ref x_scr)], [.int (xs ((i + 2)).toNatClampNeg), .int (xs ((i + 1)).toNatClampNeg), .ref 0], h, 98, 10728) P) : x_R x_mt (some (L, xs)) 10 M_law (1089, [(3, .int i), (2, .ref 75), (1, .ref 0), (0, .ref x_scr)], [], h, 98, 10728) P := by
  refine j_Lst (c' := (1090, [(3, .int i), (2, .ref 75), (1, .ref 0), (0, .ref x_scr)], [.ref 0], h, 98, 10728)) lr_1089 rfl ?_
  refine j_Lst (c' := (1091, [(3, .int i), (2, .ref 75), (1, .ref 0), (0, .ref x_scr)], [.ref x_scr, .ref 0], h, 98, 10728)) lr_1090 rfl ?_
  refine j_Lst (c' := (1092, [(3, .int i), (2, .ref 75), (1, .ref 0), (0, .ref x_scr)], [.int i, .ref x_scr, .ref 0], h, 98, 10728)) lr_1091 rfl ?_
  refine j_Lst (c' := (1093, [(3, .int i), (2, .ref 75), (1, .ref 0), (0, .ref x_scr)], [.int 1, .int i, .ref x_scr, .ref 0], h, 98, 10728)) lr_1092 rfl ?_
  refine j_Lst (c' := (1094, [(3, .int i), (2, .ref 75), (1, .ref 0), (0, .ref x_scr)], [.int (i + 1), .ref x_scr, .ref 0], h, 98, 10728)) lr_1093 rfl ?_
  refine j_Lsl (c' := (1095, [(3, .int i), (2, .ref 75), (1, .ref 0), (0, .ref x_scr)], [.int (xs ((i + 1)).toNatClampNeg), .ref 0], h, 98, 10728)) lr_1094 rfl h1 ?_
  refine j_Lst (c' := (1096, [(3, .int i), (2, .ref 75), (1, .ref 0), (0, .ref x_scr)], [.ref x_scr, .int (xs ((i + 1)).toNatClampNeg), .ref 0], h, 98, 10728)) lr_1095 rfl ?_
  refine j_Lst (c' := (1097, [(3, .int i), (2, .ref 75), (1, .ref 0), (0, .ref x_scr)], [.int i, .ref x_scr, .int (xs ((i + 1)).toNatClampNeg), .ref 0], h, 98, 10728)) lr_1096 rfl ?_
  refine j_Lst (c' := (1098, [(3, .int i), (2, .ref 75), (1, .ref 0), (0, .ref x_scr)], [.int 2, .int i, .ref x_scr, .int (xs ((i + 1)).toNatClampNeg), .ref 0], h, 98, 10728)) lr_1097 rfl ?_
  refine j_Lst (c' := (1099, [(3, .int i), (2, .ref 75), (1, .ref 0), (0, .ref x_scr)], [.int (i + 2), .ref x_scr, .int (xs ((i + 1)).toNatClampNeg), .ref 0], h, 98, 10728)) lr_1098 rfl ?_
  refine j_Lsl (c' := (1100, [(3, .int i), (2, .ref 75), (1, .ref 0), (0, .ref x_scr)], [.int (xs ((i + 2)).toNatClampNeg), .int (xs ((i + 1)).toNatClampNeg), .ref 0], h, 98, 10728)) lr_1099 rfl h2 ?_
  exact kk

set_option maxRecDepth 100000 in
theorem x_c27b (h : xH) (L : Nat) (xs : Nat → Int32) (i : Int32) (h0 : ¬ (i < 0 ∨ L ≤ (i).toNatClampNeg)) (h1 : ¬ (i + 1 < 0 ∨ L ≤ (i + 1).toNatClampNeg)) (h2 : ¬ (i + 2 < 0 ∨ L ≤ (i + 2).toNatClampNeg)) (h3 : ¬ (i + 3 < 0 ∨ L ≤ (i + 3).toNatClampNeg)) (h4 : ¬ (i + 4 < 0 ∨ L ≤ (i + 4).toNatClampNeg)) (h5 : ¬ (i + 5 < 0 ∨ L ≤ (i + 5).toNatClampNeg)) (v : Int32) {P : Option Value × xH × Nat × Nat → Prop} (kk : x_R x_mt (some (L, xs)) 10 M_law (1115, [(3, .int i), (2, .ref 75), (1, .ref 0), (0, .ref x_scr)], [.int (xs ((i + 2)).toNatClampNeg), .int (xs ((i + 1)).toNatClampNeg), .ref 75], h, 98, 10728) P) : x_R x_mt (some (L, xs)) 10 M_law (1103, [(3, .int i), (2, .ref 75), (1, .ref 0), (0, .ref x_scr)], [.int v], h, 98, 10728) P := by
  refine j_Lst (c' := (1104, [(3, .int i), (2, .ref 75), (1, .ref 0), (0, .ref x_scr)], [], h, 98, 10728)) lr_1103 rfl ?_
  refine j_Lst (c' := (1105, [(3, .int i), (2, .ref 75), (1, .ref 0), (0, .ref x_scr)], [.ref 75], h, 98, 10728)) lr_1104 rfl ?_
  refine j_Lst (c' := (1106, [(3, .int i), (2, .ref 75), (1, .ref 0), (0, .ref x_scr)], [.ref x_scr, .ref 75], h, 98, 10728)) lr_1105 rfl ?_
  refine j_Lst (c' := (1107, [(3, .int i), (2, .ref 75), (1, .ref 0), (0, .ref x_scr)], [.int i, .ref x_scr, .ref 75], h, 98, 10728)) lr_1106 rfl ?_
  refine j_Lst (c' := (1108, [(3, .int i), (2, .ref 75), (1, .ref 0), (0, .ref x_scr)], [.int 1, .int i, .ref x_scr, .ref 75], h, 98, 10728)) lr_1107 rfl ?_
  refine j_Lst (c' := (1109, [(3, .int i), (2, .ref 75), (1, .ref 0), (0, .ref x_scr)], [.int (i + 1), .ref x_scr, .ref 75], h, 98, 10728)) lr_1108 rfl ?_
  refine j_Lsl (c' := (1110, [(3, .int i), (2, .ref 75), (1, .ref 0), (0, .ref x_scr)], [.int (xs ((i + 1)).toNatClampNeg), .ref 75], h, 98, 10728)) lr_1109 rfl h1 ?_
  refine j_Lst (c' := (1111, [(3, .int i), (2, .ref 75), (1, .ref 0), (0, .ref x_scr)], [.ref x_scr, .int (xs ((i + 1)).toNatClampNeg), .ref 75], h, 98, 10728)) lr_1110 rfl ?_
  refine j_Lst (c' := (1112, [(3, .int i), (2, .ref 75), (1, .ref 0), (0, .ref x_scr)], [.int i, .ref x_scr, .int (xs ((i + 1)).toNatClampNeg), .ref 75], h, 98, 10728)) lr_1111 rfl ?_
  refine j_Lst (c' := (1113, [(3, .int i), (2, .ref 75), (1, .ref 0), (0, .ref x_scr)], [.int 2, .int i, .ref x_scr, .int (xs ((i + 1)).toNatClampNeg), .ref 75], h, 98, 10728)) lr_1112 rfl ?_
  refine j_Lst (c' := (1114, [(3, .int i), (2, .ref 75), (1, .ref 0), (0, .ref x_scr)], [.int (i + 2), .ref x_scr, .int (xs ((i + 1)).toNatClampNeg), .ref 75], h, 98, 10728)) lr_1113 rfl ?_
  refine j_Lsl (c' := (1115, [(3, .int i), (2, .ref 75), (1, .ref 0), (0, .ref x_scr)], [.int (xs ((i + 2)).toNatClampNeg), .int (xs ((i + 1)).toNatClampNeg), .ref 75], h, 98, 10728)) lr_1114 rfl h2 ?_
  exact kk

set_option maxRecDepth 100000 in
theorem x_c27d (h : xH) (L : Nat) (xs : Nat → Int32) (i : Int32) (h0 : ¬ (i < 0 ∨ L ≤ (i).toNatClampNeg)) (h1 : ¬ (i + 1 < 0 ∨ L ≤ (i + 1).toNatClampNeg)) (h2 : ¬ (i + 2 < 0 ∨ L ≤ (i + 2).toNatClampNeg)) (h3 : ¬ (i + 3 < 0 ∨ L ≤ (i + 3).toNatClampNeg)) (h4 : ¬ (i + 4 < 0 ∨ L ≤ (i + 4).toNatClampNeg)) (h5 : ¬ (i + 5 < 0 ∨ L ≤ (i + 5).toNatClampNeg)) (w : Int32) {P : Option Value × xH × Nat × Nat → Prop} (kk : x_R x_mt (some (L, xs)) 10 M_law (18, [(3, .int (i + Int32.ofInt (6))), (2, .ref 75), (1, .ref 0), (0, .ref x_scr)], [], h, 98, 10728) P) : x_R x_mt (some (L, xs)) 10 M_law (1118, [(3, .int i), (2, .ref 75), (1, .ref 0), (0, .ref x_scr)], [.int w], h, 98, 10728) P := by
  refine j_Lst (c' := (1119, [(3, .int i), (2, .ref 75), (1, .ref 0), (0, .ref x_scr)], [], h, 98, 10728)) lr_1118 rfl ?_
  refine j_Lst (c' := (2368, [(3, .int i), (2, .ref 75), (1, .ref 0), (0, .ref x_scr)], [], h, 98, 10728)) lr_1119 rfl ?_
  refine j_Lst (c' := (2371, [(3, .int (i + Int32.ofInt (6))), (2, .ref 75), (1, .ref 0), (0, .ref x_scr)], [], h, 98, 10728)) lr_2368 rfl ?_
  refine j_Lst (c' := (18, [(3, .int (i + Int32.ofInt (6))), (2, .ref 75), (1, .ref 0), (0, .ref x_scr)], [], h, 98, 10728)) lr_2371 rfl ?_
  exact kk

set_option maxRecDepth 100000 in
theorem x_c28a (h : xH) (L : Nat) (xs : Nat → Int32) (i : Int32) (h0 : ¬ (i < 0 ∨ L ≤ (i).toNatClampNeg)) (h1 : ¬ (i + 1 < 0 ∨ L ≤ (i + 1).toNatClampNeg)) (h2 : ¬ (i + 2 < 0 ∨ L ≤ (i + 2).toNatClampNeg)) (h3 : ¬ (i + 3 < 0 ∨ L ≤ (i + 3).toNatClampNeg)) (h4 : ¬ (i + 4 < 0 ∨ L ≤ (i + 4).toNatClampNeg)) (h5 : ¬ (i + 5 < 0 ∨ L ≤ (i + 5).toNatClampNeg)) {P : Option Value × xH × Nat × Nat → Prop} (kk : x_R x_mt (some (L, xs)) 10 M_law (1128, [(3, .int i), (2, .ref 75), (1, .ref 0), (0, .ref x_scr)], [.int (xs ((i + 1)).toNatClampNeg), .ref 0], h, 98, 10728) P) : x_R x_mt (some (L, xs)) 10 M_law (1122, [(3, .int i), (2, .ref 75), (1, .ref 0), (0, .ref x_scr)], [], h, 98, 10728) P := by
  refine j_Lst (c' := (1123, [(3, .int i), (2, .ref 75), (1, .ref 0), (0, .ref x_scr)], [.ref 0], h, 98, 10728)) lr_1122 rfl ?_
  refine j_Lst (c' := (1124, [(3, .int i), (2, .ref 75), (1, .ref 0), (0, .ref x_scr)], [.ref x_scr, .ref 0], h, 98, 10728)) lr_1123 rfl ?_
  refine j_Lst (c' := (1125, [(3, .int i), (2, .ref 75), (1, .ref 0), (0, .ref x_scr)], [.int i, .ref x_scr, .ref 0], h, 98, 10728)) lr_1124 rfl ?_
  refine j_Lst (c' := (1126, [(3, .int i), (2, .ref 75), (1, .ref 0), (0, .ref x_scr)], [.int 1, .int i, .ref x_scr, .ref 0], h, 98, 10728)) lr_1125 rfl ?_
  refine j_Lst (c' := (1127, [(3, .int i), (2, .ref 75), (1, .ref 0), (0, .ref x_scr)], [.int (i + 1), .ref x_scr, .ref 0], h, 98, 10728)) lr_1126 rfl ?_
  refine j_Lsl (c' := (1128, [(3, .int i), (2, .ref 75), (1, .ref 0), (0, .ref x_scr)], [.int (xs ((i + 1)).toNatClampNeg), .ref 0], h, 98, 10728)) lr_1127 rfl h1 ?_
  exact kk

set_option maxRecDepth 100000 in
theorem x_c28b (h : xH) (L : Nat) (xs : Nat → Int32) (i : Int32) (h0 : ¬ (i < 0 ∨ L ≤ (i).toNatClampNeg)) (h1 : ¬ (i + 1 < 0 ∨ L ≤ (i + 1).toNatClampNeg)) (h2 : ¬ (i + 2 < 0 ∨ L ≤ (i + 2).toNatClampNeg)) (h3 : ¬ (i + 3 < 0 ∨ L ≤ (i + 3).toNatClampNeg)) (h4 : ¬ (i + 4 < 0 ∨ L ≤ (i + 4).toNatClampNeg)) (h5 : ¬ (i + 5 < 0 ∨ L ≤ (i + 5).toNatClampNeg)) (v : Int32) {P : Option Value × xH × Nat × Nat → Prop} (kk : x_R x_mt (some (L, xs)) 10 M_law (1138, [(3, .int i), (2, .ref 75), (1, .ref 0), (0, .ref x_scr)], [.int (xs ((i + 1)).toNatClampNeg), .ref 75], h, 98, 10728) P) : x_R x_mt (some (L, xs)) 10 M_law (1131, [(3, .int i), (2, .ref 75), (1, .ref 0), (0, .ref x_scr)], [.int v], h, 98, 10728) P := by
  refine j_Lst (c' := (1132, [(3, .int i), (2, .ref 75), (1, .ref 0), (0, .ref x_scr)], [], h, 98, 10728)) lr_1131 rfl ?_
  refine j_Lst (c' := (1133, [(3, .int i), (2, .ref 75), (1, .ref 0), (0, .ref x_scr)], [.ref 75], h, 98, 10728)) lr_1132 rfl ?_
  refine j_Lst (c' := (1134, [(3, .int i), (2, .ref 75), (1, .ref 0), (0, .ref x_scr)], [.ref x_scr, .ref 75], h, 98, 10728)) lr_1133 rfl ?_
  refine j_Lst (c' := (1135, [(3, .int i), (2, .ref 75), (1, .ref 0), (0, .ref x_scr)], [.int i, .ref x_scr, .ref 75], h, 98, 10728)) lr_1134 rfl ?_
  refine j_Lst (c' := (1136, [(3, .int i), (2, .ref 75), (1, .ref 0), (0, .ref x_scr)], [.int 1, .int i, .ref x_scr, .ref 75], h, 98, 10728)) lr_1135 rfl ?_
  refine j_Lst (c' := (1137, [(3, .int i), (2, .ref 75), (1, .ref 0), (0, .ref x_scr)], [.int (i + 1), .ref x_scr, .ref 75], h, 98, 10728)) lr_1136 rfl ?_
  refine j_Lsl (c' := (1138, [(3, .int i), (2, .ref 75), (1, .ref 0), (0, .ref x_scr)], [.int (xs ((i + 1)).toNatClampNeg), .ref 75], h, 98, 10728)) lr_1137 rfl h1 ?_
  exact kk

set_option maxRecDepth 100000 in
theorem x_c28d (h : xH) (L : Nat) (xs : Nat → Int32) (i : Int32) (h0 : ¬ (i < 0 ∨ L ≤ (i).toNatClampNeg)) (h1 : ¬ (i + 1 < 0 ∨ L ≤ (i + 1).toNatClampNeg)) (h2 : ¬ (i + 2 < 0 ∨ L ≤ (i + 2).toNatClampNeg)) (h3 : ¬ (i + 3 < 0 ∨ L ≤ (i + 3).toNatClampNeg)) (h4 : ¬ (i + 4 < 0 ∨ L ≤ (i + 4).toNatClampNeg)) (h5 : ¬ (i + 5 < 0 ∨ L ≤ (i + 5).toNatClampNeg)) (w : Int32) {P : Option Value × xH × Nat × Nat → Prop} (kk : x_R x_mt (some (L, xs)) 10 M_law (18, [(3, .int (i + Int32.ofInt (6))), (2, .ref 75), (1, .ref 0), (0, .ref x_scr)], [], h, 98, 10728) P) : x_R x_mt (some (L, xs)) 10 M_law (1141, [(3, .int i), (2, .ref 75), (1, .ref 0), (0, .ref x_scr)], [.int w], h, 98, 10728) P := by
  refine j_Lst (c' := (1142, [(3, .int i), (2, .ref 75), (1, .ref 0), (0, .ref x_scr)], [], h, 98, 10728)) lr_1141 rfl ?_
  refine j_Lst (c' := (2368, [(3, .int i), (2, .ref 75), (1, .ref 0), (0, .ref x_scr)], [], h, 98, 10728)) lr_1142 rfl ?_
  refine j_Lst (c' := (2371, [(3, .int (i + Int32.ofInt (6))), (2, .ref 75), (1, .ref 0), (0, .ref x_scr)], [], h, 98, 10728)) lr_2368 rfl ?_
  refine j_Lst (c' := (18, [(3, .int (i + Int32.ofInt (6))), (2, .ref 75), (1, .ref 0), (0, .ref x_scr)], [], h, 98, 10728)) lr_2371 rfl ?_
  exact kk

set_option maxRecDepth 100000 in
theorem x_c29a (h : xH) (L : Nat) (xs : Nat → Int32) (i : Int32) (h0 : ¬ (i < 0 ∨ L ≤ (i).toNatClampNeg)) (h1 : ¬ (i + 1 < 0 ∨ L ≤ (i + 1).toNatClampNeg)) (h2 : ¬ (i + 2 < 0 ∨ L ≤ (i + 2).toNatClampNeg)) (h3 : ¬ (i + 3 < 0 ∨ L ≤ (i + 3).toNatClampNeg)) (h4 : ¬ (i + 4 < 0 ∨ L ≤ (i + 4).toNatClampNeg)) (h5 : ¬ (i + 5 < 0 ∨ L ≤ (i + 5).toNatClampNeg)) {P : Option Value × xH × Nat × Nat → Prop} (kk : x_R x_mt (some (L, xs)) 10 M_law (1151, [(3, .int i), (2, .ref 75), (1, .ref 0), (0, .ref x_scr)], [.int (xs ((i + 1)).toNatClampNeg), .ref 0], h, 98, 10728) P) : x_R x_mt (some (L, xs)) 10 M_law (1145, [(3, .int i), (2, .ref 75), (1, .ref 0), (0, .ref x_scr)], [], h, 98, 10728) P := by
  refine j_Lst (c' := (1146, [(3, .int i), (2, .ref 75), (1, .ref 0), (0, .ref x_scr)], [.ref 0], h, 98, 10728)) lr_1145 rfl ?_
  refine j_Lst (c' := (1147, [(3, .int i), (2, .ref 75), (1, .ref 0), (0, .ref x_scr)], [.ref x_scr, .ref 0], h, 98, 10728)) lr_1146 rfl ?_
  refine j_Lst (c' := (1148, [(3, .int i), (2, .ref 75), (1, .ref 0), (0, .ref x_scr)], [.int i, .ref x_scr, .ref 0], h, 98, 10728)) lr_1147 rfl ?_
  refine j_Lst (c' := (1149, [(3, .int i), (2, .ref 75), (1, .ref 0), (0, .ref x_scr)], [.int 1, .int i, .ref x_scr, .ref 0], h, 98, 10728)) lr_1148 rfl ?_
  refine j_Lst (c' := (1150, [(3, .int i), (2, .ref 75), (1, .ref 0), (0, .ref x_scr)], [.int (i + 1), .ref x_scr, .ref 0], h, 98, 10728)) lr_1149 rfl ?_
  refine j_Lsl (c' := (1151, [(3, .int i), (2, .ref 75), (1, .ref 0), (0, .ref x_scr)], [.int (xs ((i + 1)).toNatClampNeg), .ref 0], h, 98, 10728)) lr_1150 rfl h1 ?_
  exact kk

set_option maxRecDepth 100000 in
theorem x_c29b (h : xH) (L : Nat) (xs : Nat → Int32) (i : Int32) (h0 : ¬ (i < 0 ∨ L ≤ (i).toNatClampNeg)) (h1 : ¬ (i + 1 < 0 ∨ L ≤ (i + 1).toNatClampNeg)) (h2 : ¬ (i + 2 < 0 ∨ L ≤ (i + 2).toNatClampNeg)) (h3 : ¬ (i + 3 < 0 ∨ L ≤ (i + 3).toNatClampNeg)) (h4 : ¬ (i + 4 < 0 ∨ L ≤ (i + 4).toNatClampNeg)) (h5 : ¬ (i + 5 < 0 ∨ L ≤ (i + 5).toNatClampNeg)) (v : Int32) {P : Option Value × xH × Nat × Nat → Prop} (kk : x_R x_mt (some (L, xs)) 10 M_law (1161, [(3, .int i), (2, .ref 75), (1, .ref 0), (0, .ref x_scr)], [.int (xs ((i + 1)).toNatClampNeg), .ref 75], h, 98, 10728) P) : x_R x_mt (some (L, xs)) 10 M_law (1154, [(3, .int i), (2, .ref 75), (1, .ref 0), (0, .ref x_scr)], [.int v], h, 98, 10728) P := by
  refine j_Lst (c' := (1155, [(3, .int i), (2, .ref 75), (1, .ref 0), (0, .ref x_scr)], [], h, 98, 10728)) lr_1154 rfl ?_
  refine j_Lst (c' := (1156, [(3, .int i), (2, .ref 75), (1, .ref 0), (0, .ref x_scr)], [.ref 75], h, 98, 10728)) lr_1155 rfl ?_
  refine j_Lst (c' := (1157, [(3, .int i), (2, .ref 75), (1, .ref 0), (0, .ref x_scr)], [.ref x_scr, .ref 75], h, 98, 10728)) lr_1156 rfl ?_
  refine j_Lst (c' := (1158, [(3, .int i), (2, .ref 75), (1, .ref 0), (0, .ref x_scr)], [.int i, .ref x_scr, .ref 75], h, 98, 10728)) lr_1157 rfl ?_
  refine j_Lst (c' := (1159, [(3, .int i), (2, .ref 75), (1, .ref 0), (0, .ref x_scr)], [.int 1, .int i, .ref x_scr, .ref 75], h, 98, 10728)) lr_1158 rfl ?_
  refine j_Lst (c' := (1160, [(3, .int i), (2, .ref 75), (1, .ref 0), (0, .ref x_scr)], [.int (i + 1), .ref x_scr, .ref 75], h, 98, 10728)) lr_1159 rfl ?_
  refine j_Lsl (c' := (1161, [(3, .int i), (2, .ref 75), (1, .ref 0), (0, .ref x_scr)], [.int (xs ((i + 1)).toNatClampNeg), .ref 75], h, 98, 10728)) lr_1160 rfl h1 ?_
  exact kk

set_option maxRecDepth 100000 in
theorem x_c29d (h : xH) (L : Nat) (xs : Nat → Int32) (i : Int32) (h0 : ¬ (i < 0 ∨ L ≤ (i).toNatClampNeg)) (h1 : ¬ (i + 1 < 0 ∨ L ≤ (i + 1).toNatClampNeg)) (h2 : ¬ (i + 2 < 0 ∨ L ≤ (i + 2).toNatClampNeg)) (h3 : ¬ (i + 3 < 0 ∨ L ≤ (i + 3).toNatClampNeg)) (h4 : ¬ (i + 4 < 0 ∨ L ≤ (i + 4).toNatClampNeg)) (h5 : ¬ (i + 5 < 0 ∨ L ≤ (i + 5).toNatClampNeg)) (w : Int32) {P : Option Value × xH × Nat × Nat → Prop} (kk : x_R x_mt (some (L, xs)) 10 M_law (18, [(3, .int (i + Int32.ofInt (6))), (2, .ref 75), (1, .ref 0), (0, .ref x_scr)], [], h, 98, 10728) P) : x_R x_mt (some (L, xs)) 10 M_law (1164, [(3, .int i), (2, .ref 75), (1, .ref 0), (0, .ref x_scr)], [.int w], h, 98, 10728) P := by
  refine j_Lst (c' := (1165, [(3, .int i), (2, .ref 75), (1, .ref 0), (0, .ref x_scr)], [], h, 98, 10728)) lr_1164 rfl ?_
  refine j_Lst (c' := (2368, [(3, .int i), (2, .ref 75), (1, .ref 0), (0, .ref x_scr)], [], h, 98, 10728)) lr_1165 rfl ?_
  refine j_Lst (c' := (2371, [(3, .int (i + Int32.ofInt (6))), (2, .ref 75), (1, .ref 0), (0, .ref x_scr)], [], h, 98, 10728)) lr_2368 rfl ?_
  refine j_Lst (c' := (18, [(3, .int (i + Int32.ofInt (6))), (2, .ref 75), (1, .ref 0), (0, .ref x_scr)], [], h, 98, 10728)) lr_2371 rfl ?_
  exact kk

set_option maxRecDepth 100000 in
theorem x_c30a (h : xH) (L : Nat) (xs : Nat → Int32) (i : Int32) (h0 : ¬ (i < 0 ∨ L ≤ (i).toNatClampNeg)) (h1 : ¬ (i + 1 < 0 ∨ L ≤ (i + 1).toNatClampNeg)) (h2 : ¬ (i + 2 < 0 ∨ L ≤ (i + 2).toNatClampNeg)) (h3 : ¬ (i + 3 < 0 ∨ L ≤ (i + 3).toNatClampNeg)) (h4 : ¬ (i + 4 < 0 ∨ L ≤ (i + 4).toNatClampNeg)) (h5 : ¬ (i + 5 < 0 ∨ L ≤ (i + 5).toNatClampNeg)) {P : Option Value × xH × Nat × Nat → Prop} (kk : x_R x_mt (some (L, xs)) 10 M_law (1179, [(3, .int i), (2, .ref 75), (1, .ref 0), (0, .ref x_scr)], [.int (xs ((i + 2)).toNatClampNeg), .int (xs ((i + 1)).toNatClampNeg), .ref 0], h, 98, 10728) P) : x_R x_mt (some (L, xs)) 10 M_law (1168, [(3, .int i), (2, .ref 75), (1, .ref 0), (0, .ref x_scr)], [], h, 98, 10728) P := by
  refine j_Lst (c' := (1169, [(3, .int i), (2, .ref 75), (1, .ref 0), (0, .ref x_scr)], [.ref 0], h, 98, 10728)) lr_1168 rfl ?_
  refine j_Lst (c' := (1170, [(3, .int i), (2, .ref 75), (1, .ref 0), (0, .ref x_scr)], [.ref x_scr, .ref 0], h, 98, 10728)) lr_1169 rfl ?_
  refine j_Lst (c' := (1171, [(3, .int i), (2, .ref 75), (1, .ref 0), (0, .ref x_scr)], [.int i, .ref x_scr, .ref 0], h, 98, 10728)) lr_1170 rfl ?_
  refine j_Lst (c' := (1172, [(3, .int i), (2, .ref 75), (1, .ref 0), (0, .ref x_scr)], [.int 1, .int i, .ref x_scr, .ref 0], h, 98, 10728)) lr_1171 rfl ?_
  refine j_Lst (c' := (1173, [(3, .int i), (2, .ref 75), (1, .ref 0), (0, .ref x_scr)], [.int (i + 1), .ref x_scr, .ref 0], h, 98, 10728)) lr_1172 rfl ?_
  refine j_Lsl (c' := (1174, [(3, .int i), (2, .ref 75), (1, .ref 0), (0, .ref x_scr)], [.int (xs ((i + 1)).toNatClampNeg), .ref 0], h, 98, 10728)) lr_1173 rfl h1 ?_
  refine j_Lst (c' := (1175, [(3, .int i), (2, .ref 75), (1, .ref 0), (0, .ref x_scr)], [.ref x_scr, .int (xs ((i + 1)).toNatClampNeg), .ref 0], h, 98, 10728)) lr_1174 rfl ?_
  refine j_Lst (c' := (1176, [(3, .int i), (2, .ref 75), (1, .ref 0), (0, .ref x_scr)], [.int i, .ref x_scr, .int (xs ((i + 1)).toNatClampNeg), .ref 0], h, 98, 10728)) lr_1175 rfl ?_
  refine j_Lst (c' := (1177, [(3, .int i), (2, .ref 75), (1, .ref 0), (0, .ref x_scr)], [.int 2, .int i, .ref x_scr, .int (xs ((i + 1)).toNatClampNeg), .ref 0], h, 98, 10728)) lr_1176 rfl ?_
  refine j_Lst (c' := (1178, [(3, .int i), (2, .ref 75), (1, .ref 0), (0, .ref x_scr)], [.int (i + 2), .ref x_scr, .int (xs ((i + 1)).toNatClampNeg), .ref 0], h, 98, 10728)) lr_1177 rfl ?_
  refine j_Lsl (c' := (1179, [(3, .int i), (2, .ref 75), (1, .ref 0), (0, .ref x_scr)], [.int (xs ((i + 2)).toNatClampNeg), .int (xs ((i + 1)).toNatClampNeg), .ref 0], h, 98, 10728)) lr_1178 rfl h2 ?_
  exact kk

set_option maxRecDepth 100000 in
theorem x_c30b (h : xH) (L : Nat) (xs : Nat → Int32) (i : Int32) (h0 : ¬ (i < 0 ∨ L ≤ (i).toNatClampNeg)) (h1 : ¬ (i + 1 < 0 ∨ L ≤ (i + 1).toNatClampNeg)) (h2 : ¬ (i + 2 < 0 ∨ L ≤ (i + 2).toNatClampNeg)) (h3 : ¬ (i + 3 < 0 ∨ L ≤ (i + 3).toNatClampNeg)) (h4 : ¬ (i + 4 < 0 ∨ L ≤ (i + 4).toNatClampNeg)) (h5 : ¬ (i + 5 < 0 ∨ L ≤ (i + 5).toNatClampNeg)) (v : Int64) {P : Option Value × xH × Nat × Nat → Prop} (kk : x_R x_mt (some (L, xs)) 10 M_law (1194, [(3, .int i), (2, .ref 75), (1, .ref 0), (0, .ref x_scr)], [.int (xs ((i + 2)).toNatClampNeg), .int (xs ((i + 1)).toNatClampNeg), .ref 75], h, 98, 10728) P) : x_R x_mt (some (L, xs)) 10 M_law (1182, [(3, .int i), (2, .ref 75), (1, .ref 0), (0, .ref x_scr)], [.long v], h, 98, 10728) P := by
  refine j_Lst (c' := (1183, [(3, .int i), (2, .ref 75), (1, .ref 0), (0, .ref x_scr)], [], h, 98, 10728)) lr_1182 rfl ?_
  refine j_Lst (c' := (1184, [(3, .int i), (2, .ref 75), (1, .ref 0), (0, .ref x_scr)], [.ref 75], h, 98, 10728)) lr_1183 rfl ?_
  refine j_Lst (c' := (1185, [(3, .int i), (2, .ref 75), (1, .ref 0), (0, .ref x_scr)], [.ref x_scr, .ref 75], h, 98, 10728)) lr_1184 rfl ?_
  refine j_Lst (c' := (1186, [(3, .int i), (2, .ref 75), (1, .ref 0), (0, .ref x_scr)], [.int i, .ref x_scr, .ref 75], h, 98, 10728)) lr_1185 rfl ?_
  refine j_Lst (c' := (1187, [(3, .int i), (2, .ref 75), (1, .ref 0), (0, .ref x_scr)], [.int 1, .int i, .ref x_scr, .ref 75], h, 98, 10728)) lr_1186 rfl ?_
  refine j_Lst (c' := (1188, [(3, .int i), (2, .ref 75), (1, .ref 0), (0, .ref x_scr)], [.int (i + 1), .ref x_scr, .ref 75], h, 98, 10728)) lr_1187 rfl ?_
  refine j_Lsl (c' := (1189, [(3, .int i), (2, .ref 75), (1, .ref 0), (0, .ref x_scr)], [.int (xs ((i + 1)).toNatClampNeg), .ref 75], h, 98, 10728)) lr_1188 rfl h1 ?_
  refine j_Lst (c' := (1190, [(3, .int i), (2, .ref 75), (1, .ref 0), (0, .ref x_scr)], [.ref x_scr, .int (xs ((i + 1)).toNatClampNeg), .ref 75], h, 98, 10728)) lr_1189 rfl ?_
  refine j_Lst (c' := (1191, [(3, .int i), (2, .ref 75), (1, .ref 0), (0, .ref x_scr)], [.int i, .ref x_scr, .int (xs ((i + 1)).toNatClampNeg), .ref 75], h, 98, 10728)) lr_1190 rfl ?_
  refine j_Lst (c' := (1192, [(3, .int i), (2, .ref 75), (1, .ref 0), (0, .ref x_scr)], [.int 2, .int i, .ref x_scr, .int (xs ((i + 1)).toNatClampNeg), .ref 75], h, 98, 10728)) lr_1191 rfl ?_
  refine j_Lst (c' := (1193, [(3, .int i), (2, .ref 75), (1, .ref 0), (0, .ref x_scr)], [.int (i + 2), .ref x_scr, .int (xs ((i + 1)).toNatClampNeg), .ref 75], h, 98, 10728)) lr_1192 rfl ?_
  refine j_Lsl (c' := (1194, [(3, .int i), (2, .ref 75), (1, .ref 0), (0, .ref x_scr)], [.int (xs ((i + 2)).toNatClampNeg), .int (xs ((i + 1)).toNatClampNeg), .ref 75], h, 98, 10728)) lr_1193 rfl h2 ?_
  exact kk

set_option maxRecDepth 100000 in
theorem x_c30d (h : xH) (L : Nat) (xs : Nat → Int32) (i : Int32) (h0 : ¬ (i < 0 ∨ L ≤ (i).toNatClampNeg)) (h1 : ¬ (i + 1 < 0 ∨ L ≤ (i + 1).toNatClampNeg)) (h2 : ¬ (i + 2 < 0 ∨ L ≤ (i + 2).toNatClampNeg)) (h3 : ¬ (i + 3 < 0 ∨ L ≤ (i + 3).toNatClampNeg)) (h4 : ¬ (i + 4 < 0 ∨ L ≤ (i + 4).toNatClampNeg)) (h5 : ¬ (i + 5 < 0 ∨ L ≤ (i + 5).toNatClampNeg)) (w : Int64) {P : Option Value × xH × Nat × Nat → Prop} (kk : x_R x_mt (some (L, xs)) 10 M_law (18, [(3, .int (i + Int32.ofInt (6))), (2, .ref 75), (1, .ref 0), (0, .ref x_scr)], [], h, 98, 10728) P) : x_R x_mt (some (L, xs)) 10 M_law (1197, [(3, .int i), (2, .ref 75), (1, .ref 0), (0, .ref x_scr)], [.long w], h, 98, 10728) P := by
  refine j_Lst (c' := (1198, [(3, .int i), (2, .ref 75), (1, .ref 0), (0, .ref x_scr)], [], h, 98, 10728)) lr_1197 rfl ?_
  refine j_Lst (c' := (2368, [(3, .int i), (2, .ref 75), (1, .ref 0), (0, .ref x_scr)], [], h, 98, 10728)) lr_1198 rfl ?_
  refine j_Lst (c' := (2371, [(3, .int (i + Int32.ofInt (6))), (2, .ref 75), (1, .ref 0), (0, .ref x_scr)], [], h, 98, 10728)) lr_2368 rfl ?_
  refine j_Lst (c' := (18, [(3, .int (i + Int32.ofInt (6))), (2, .ref 75), (1, .ref 0), (0, .ref x_scr)], [], h, 98, 10728)) lr_2371 rfl ?_
  exact kk

set_option maxRecDepth 100000 in
theorem x_c31a (h : xH) (L : Nat) (xs : Nat → Int32) (i : Int32) (h0 : ¬ (i < 0 ∨ L ≤ (i).toNatClampNeg)) (h1 : ¬ (i + 1 < 0 ∨ L ≤ (i + 1).toNatClampNeg)) (h2 : ¬ (i + 2 < 0 ∨ L ≤ (i + 2).toNatClampNeg)) (h3 : ¬ (i + 3 < 0 ∨ L ≤ (i + 3).toNatClampNeg)) (h4 : ¬ (i + 4 < 0 ∨ L ≤ (i + 4).toNatClampNeg)) (h5 : ¬ (i + 5 < 0 ∨ L ≤ (i + 5).toNatClampNeg)) {P : Option Value × xH × Nat × Nat → Prop} (kk : x_R x_mt (some (L, xs)) 10 M_law (1217, [(3, .int i), (2, .ref 75), (1, .ref 0), (0, .ref x_scr)], [.int (xs ((i + 3)).toNatClampNeg), .int (xs ((i + 2)).toNatClampNeg), .int (xs ((i + 1)).toNatClampNeg), .ref 0], h, 98, 10728) P) : x_R x_mt (some (L, xs)) 10 M_law (1201, [(3, .int i), (2, .ref 75), (1, .ref 0), (0, .ref x_scr)], [], h, 98, 10728) P := by
  refine j_Lst (c' := (1202, [(3, .int i), (2, .ref 75), (1, .ref 0), (0, .ref x_scr)], [.ref 0], h, 98, 10728)) lr_1201 rfl ?_
  refine j_Lst (c' := (1203, [(3, .int i), (2, .ref 75), (1, .ref 0), (0, .ref x_scr)], [.ref x_scr, .ref 0], h, 98, 10728)) lr_1202 rfl ?_
  refine j_Lst (c' := (1204, [(3, .int i), (2, .ref 75), (1, .ref 0), (0, .ref x_scr)], [.int i, .ref x_scr, .ref 0], h, 98, 10728)) lr_1203 rfl ?_
  refine j_Lst (c' := (1205, [(3, .int i), (2, .ref 75), (1, .ref 0), (0, .ref x_scr)], [.int 1, .int i, .ref x_scr, .ref 0], h, 98, 10728)) lr_1204 rfl ?_
  refine j_Lst (c' := (1206, [(3, .int i), (2, .ref 75), (1, .ref 0), (0, .ref x_scr)], [.int (i + 1), .ref x_scr, .ref 0], h, 98, 10728)) lr_1205 rfl ?_
  refine j_Lsl (c' := (1207, [(3, .int i), (2, .ref 75), (1, .ref 0), (0, .ref x_scr)], [.int (xs ((i + 1)).toNatClampNeg), .ref 0], h, 98, 10728)) lr_1206 rfl h1 ?_
  refine j_Lst (c' := (1208, [(3, .int i), (2, .ref 75), (1, .ref 0), (0, .ref x_scr)], [.ref x_scr, .int (xs ((i + 1)).toNatClampNeg), .ref 0], h, 98, 10728)) lr_1207 rfl ?_
  refine j_Lst (c' := (1209, [(3, .int i), (2, .ref 75), (1, .ref 0), (0, .ref x_scr)], [.int i, .ref x_scr, .int (xs ((i + 1)).toNatClampNeg), .ref 0], h, 98, 10728)) lr_1208 rfl ?_
  refine j_Lst (c' := (1210, [(3, .int i), (2, .ref 75), (1, .ref 0), (0, .ref x_scr)], [.int 2, .int i, .ref x_scr, .int (xs ((i + 1)).toNatClampNeg), .ref 0], h, 98, 10728)) lr_1209 rfl ?_
  refine j_Lst (c' := (1211, [(3, .int i), (2, .ref 75), (1, .ref 0), (0, .ref x_scr)], [.int (i + 2), .ref x_scr, .int (xs ((i + 1)).toNatClampNeg), .ref 0], h, 98, 10728)) lr_1210 rfl ?_
  refine j_Lsl (c' := (1212, [(3, .int i), (2, .ref 75), (1, .ref 0), (0, .ref x_scr)], [.int (xs ((i + 2)).toNatClampNeg), .int (xs ((i + 1)).toNatClampNeg), .ref 0], h, 98, 10728)) lr_1211 rfl h2 ?_
  refine j_Lst (c' := (1213, [(3, .int i), (2, .ref 75), (1, .ref 0), (0, .ref x_scr)], [.ref x_scr, .int (xs ((i + 2)).toNatClampNeg), .int (xs ((i + 1)).toNatClampNeg), .ref 0], h, 98, 10728)) lr_1212 rfl ?_
  refine j_Lst (c' := (1214, [(3, .int i), (2, .ref 75), (1, .ref 0), (0, .ref x_scr)], [.int i, .ref x_scr, .int (xs ((i + 2)).toNatClampNeg), .int (xs ((i + 1)).toNatClampNeg), .ref 0], h, 98, 10728)) lr_1213 rfl ?_
  refine j_Lst (c' := (1215, [(3, .int i), (2, .ref 75), (1, .ref 0), (0, .ref x_scr)], [.int 3, .int i, .ref x_scr, .int (xs ((i + 2)).toNatClampNeg), .int (xs ((i + 1)).toNatClampNeg), .ref 0], h, 98, 10728)) lr_1214 rfl ?_
  refine j_Lst (c' := (1216, [(3, .int i), (2, .ref 75), (1, .ref 0), (0, .ref x_scr)], [.int (i + 3), .ref x_scr, .int (xs ((i + 2)).toNatClampNeg), .int (xs ((i + 1)).toNatClampNeg), .ref 0], h, 98, 10728)) lr_1215 rfl ?_
  refine j_Lsl (c' := (1217, [(3, .int i), (2, .ref 75), (1, .ref 0), (0, .ref x_scr)], [.int (xs ((i + 3)).toNatClampNeg), .int (xs ((i + 2)).toNatClampNeg), .int (xs ((i + 1)).toNatClampNeg), .ref 0], h, 98, 10728)) lr_1216 rfl h3 ?_
  exact kk

set_option maxRecDepth 100000 in
theorem x_c31b (h : xH) (L : Nat) (xs : Nat → Int32) (i : Int32) (h0 : ¬ (i < 0 ∨ L ≤ (i).toNatClampNeg)) (h1 : ¬ (i + 1 < 0 ∨ L ≤ (i + 1).toNatClampNeg)) (h2 : ¬ (i + 2 < 0 ∨ L ≤ (i + 2).toNatClampNeg)) (h3 : ¬ (i + 3 < 0 ∨ L ≤ (i + 3).toNatClampNeg)) (h4 : ¬ (i + 4 < 0 ∨ L ≤ (i + 4).toNatClampNeg)) (h5 : ¬ (i + 5 < 0 ∨ L ≤ (i + 5).toNatClampNeg)) (v : Int64) {P : Option Value × xH × Nat × Nat → Prop} (kk : x_R x_mt (some (L, xs)) 10 M_law (1237, [(3, .int i), (2, .ref 75), (1, .ref 0), (0, .ref x_scr)], [.int (xs ((i + 3)).toNatClampNeg), .int (xs ((i + 2)).toNatClampNeg), .int (xs ((i + 1)).toNatClampNeg), .ref 75], h, 98, 10728) P) : x_R x_mt (some (L, xs)) 10 M_law (1220, [(3, .int i), (2, .ref 75), (1, .ref 0), (0, .ref x_scr)], [.long v], h, 98, 10728) P := by
  refine j_Lst (c' := (1221, [(3, .int i), (2, .ref 75), (1, .ref 0), (0, .ref x_scr)], [], h, 98, 10728)) lr_1220 rfl ?_
  refine j_Lst (c' := (1222, [(3, .int i), (2, .ref 75), (1, .ref 0), (0, .ref x_scr)], [.ref 75], h, 98, 10728)) lr_1221 rfl ?_
  refine j_Lst (c' := (1223, [(3, .int i), (2, .ref 75), (1, .ref 0), (0, .ref x_scr)], [.ref x_scr, .ref 75], h, 98, 10728)) lr_1222 rfl ?_
  refine j_Lst (c' := (1224, [(3, .int i), (2, .ref 75), (1, .ref 0), (0, .ref x_scr)], [.int i, .ref x_scr, .ref 75], h, 98, 10728)) lr_1223 rfl ?_
  refine j_Lst (c' := (1225, [(3, .int i), (2, .ref 75), (1, .ref 0), (0, .ref x_scr)], [.int 1, .int i, .ref x_scr, .ref 75], h, 98, 10728)) lr_1224 rfl ?_
  refine j_Lst (c' := (1226, [(3, .int i), (2, .ref 75), (1, .ref 0), (0, .ref x_scr)], [.int (i + 1), .ref x_scr, .ref 75], h, 98, 10728)) lr_1225 rfl ?_
  refine j_Lsl (c' := (1227, [(3, .int i), (2, .ref 75), (1, .ref 0), (0, .ref x_scr)], [.int (xs ((i + 1)).toNatClampNeg), .ref 75], h, 98, 10728)) lr_1226 rfl h1 ?_
  refine j_Lst (c' := (1228, [(3, .int i), (2, .ref 75), (1, .ref 0), (0, .ref x_scr)], [.ref x_scr, .int (xs ((i + 1)).toNatClampNeg), .ref 75], h, 98, 10728)) lr_1227 rfl ?_
  refine j_Lst (c' := (1229, [(3, .int i), (2, .ref 75), (1, .ref 0), (0, .ref x_scr)], [.int i, .ref x_scr, .int (xs ((i + 1)).toNatClampNeg), .ref 75], h, 98, 10728)) lr_1228 rfl ?_
  refine j_Lst (c' := (1230, [(3, .int i), (2, .ref 75), (1, .ref 0), (0, .ref x_scr)], [.int 2, .int i, .ref x_scr, .int (xs ((i + 1)).toNatClampNeg), .ref 75], h, 98, 10728)) lr_1229 rfl ?_
  refine j_Lst (c' := (1231, [(3, .int i), (2, .ref 75), (1, .ref 0), (0, .ref x_scr)], [.int (i + 2), .ref x_scr, .int (xs ((i + 1)).toNatClampNeg), .ref 75], h, 98, 10728)) lr_1230 rfl ?_
  refine j_Lsl (c' := (1232, [(3, .int i), (2, .ref 75), (1, .ref 0), (0, .ref x_scr)], [.int (xs ((i + 2)).toNatClampNeg), .int (xs ((i + 1)).toNatClampNeg), .ref 75], h, 98, 10728)) lr_1231 rfl h2 ?_
  refine j_Lst (c' := (1233, [(3, .int i), (2, .ref 75), (1, .ref 0), (0, .ref x_scr)], [.ref x_scr, .int (xs ((i + 2)).toNatClampNeg), .int (xs ((i + 1)).toNatClampNeg), .ref 75], h, 98, 10728)) lr_1232 rfl ?_
  refine j_Lst (c' := (1234, [(3, .int i), (2, .ref 75), (1, .ref 0), (0, .ref x_scr)], [.int i, .ref x_scr, .int (xs ((i + 2)).toNatClampNeg), .int (xs ((i + 1)).toNatClampNeg), .ref 75], h, 98, 10728)) lr_1233 rfl ?_
  refine j_Lst (c' := (1235, [(3, .int i), (2, .ref 75), (1, .ref 0), (0, .ref x_scr)], [.int 3, .int i, .ref x_scr, .int (xs ((i + 2)).toNatClampNeg), .int (xs ((i + 1)).toNatClampNeg), .ref 75], h, 98, 10728)) lr_1234 rfl ?_
  refine j_Lst (c' := (1236, [(3, .int i), (2, .ref 75), (1, .ref 0), (0, .ref x_scr)], [.int (i + 3), .ref x_scr, .int (xs ((i + 2)).toNatClampNeg), .int (xs ((i + 1)).toNatClampNeg), .ref 75], h, 98, 10728)) lr_1235 rfl ?_
  refine j_Lsl (c' := (1237, [(3, .int i), (2, .ref 75), (1, .ref 0), (0, .ref x_scr)], [.int (xs ((i + 3)).toNatClampNeg), .int (xs ((i + 2)).toNatClampNeg), .int (xs ((i + 1)).toNatClampNeg), .ref 75], h, 98, 10728)) lr_1236 rfl h3 ?_
  exact kk

set_option maxRecDepth 100000 in
theorem x_c31d (h : xH) (L : Nat) (xs : Nat → Int32) (i : Int32) (h0 : ¬ (i < 0 ∨ L ≤ (i).toNatClampNeg)) (h1 : ¬ (i + 1 < 0 ∨ L ≤ (i + 1).toNatClampNeg)) (h2 : ¬ (i + 2 < 0 ∨ L ≤ (i + 2).toNatClampNeg)) (h3 : ¬ (i + 3 < 0 ∨ L ≤ (i + 3).toNatClampNeg)) (h4 : ¬ (i + 4 < 0 ∨ L ≤ (i + 4).toNatClampNeg)) (h5 : ¬ (i + 5 < 0 ∨ L ≤ (i + 5).toNatClampNeg)) (w : Int64) {P : Option Value × xH × Nat × Nat → Prop} (kk : x_R x_mt (some (L, xs)) 10 M_law (18, [(3, .int (i + Int32.ofInt (6))), (2, .ref 75), (1, .ref 0), (0, .ref x_scr)], [], h, 98, 10728) P) : x_R x_mt (some (L, xs)) 10 M_law (1240, [(3, .int i), (2, .ref 75), (1, .ref 0), (0, .ref x_scr)], [.long w], h, 98, 10728) P := by
  refine j_Lst (c' := (1241, [(3, .int i), (2, .ref 75), (1, .ref 0), (0, .ref x_scr)], [], h, 98, 10728)) lr_1240 rfl ?_
  refine j_Lst (c' := (2368, [(3, .int i), (2, .ref 75), (1, .ref 0), (0, .ref x_scr)], [], h, 98, 10728)) lr_1241 rfl ?_
  refine j_Lst (c' := (2371, [(3, .int (i + Int32.ofInt (6))), (2, .ref 75), (1, .ref 0), (0, .ref x_scr)], [], h, 98, 10728)) lr_2368 rfl ?_
  refine j_Lst (c' := (18, [(3, .int (i + Int32.ofInt (6))), (2, .ref 75), (1, .ref 0), (0, .ref x_scr)], [], h, 98, 10728)) lr_2371 rfl ?_
  exact kk

set_option maxRecDepth 100000 in
theorem x_c32a (h : xH) (L : Nat) (xs : Nat → Int32) (i : Int32) (h0 : ¬ (i < 0 ∨ L ≤ (i).toNatClampNeg)) (h1 : ¬ (i + 1 < 0 ∨ L ≤ (i + 1).toNatClampNeg)) (h2 : ¬ (i + 2 < 0 ∨ L ≤ (i + 2).toNatClampNeg)) (h3 : ¬ (i + 3 < 0 ∨ L ≤ (i + 3).toNatClampNeg)) (h4 : ¬ (i + 4 < 0 ∨ L ≤ (i + 4).toNatClampNeg)) (h5 : ¬ (i + 5 < 0 ∨ L ≤ (i + 5).toNatClampNeg)) {P : Option Value × xH × Nat × Nat → Prop} (kk : x_R x_mt (some (L, xs)) 10 M_law (1250, [(3, .int i), (2, .ref 75), (1, .ref 0), (0, .ref x_scr)], [.int (xs ((i + 1)).toNatClampNeg), .ref 0], h, 98, 10728) P) : x_R x_mt (some (L, xs)) 10 M_law (1244, [(3, .int i), (2, .ref 75), (1, .ref 0), (0, .ref x_scr)], [], h, 98, 10728) P := by
  refine j_Lst (c' := (1245, [(3, .int i), (2, .ref 75), (1, .ref 0), (0, .ref x_scr)], [.ref 0], h, 98, 10728)) lr_1244 rfl ?_
  refine j_Lst (c' := (1246, [(3, .int i), (2, .ref 75), (1, .ref 0), (0, .ref x_scr)], [.ref x_scr, .ref 0], h, 98, 10728)) lr_1245 rfl ?_
  refine j_Lst (c' := (1247, [(3, .int i), (2, .ref 75), (1, .ref 0), (0, .ref x_scr)], [.int i, .ref x_scr, .ref 0], h, 98, 10728)) lr_1246 rfl ?_
  refine j_Lst (c' := (1248, [(3, .int i), (2, .ref 75), (1, .ref 0), (0, .ref x_scr)], [.int 1, .int i, .ref x_scr, .ref 0], h, 98, 10728)) lr_1247 rfl ?_
  refine j_Lst (c' := (1249, [(3, .int i), (2, .ref 75), (1, .ref 0), (0, .ref x_scr)], [.int (i + 1), .ref x_scr, .ref 0], h, 98, 10728)) lr_1248 rfl ?_
  refine j_Lsl (c' := (1250, [(3, .int i), (2, .ref 75), (1, .ref 0), (0, .ref x_scr)], [.int (xs ((i + 1)).toNatClampNeg), .ref 0], h, 98, 10728)) lr_1249 rfl h1 ?_
  exact kk

set_option maxRecDepth 100000 in
theorem x_c32b (h : xH) (L : Nat) (xs : Nat → Int32) (i : Int32) (h0 : ¬ (i < 0 ∨ L ≤ (i).toNatClampNeg)) (h1 : ¬ (i + 1 < 0 ∨ L ≤ (i + 1).toNatClampNeg)) (h2 : ¬ (i + 2 < 0 ∨ L ≤ (i + 2).toNatClampNeg)) (h3 : ¬ (i + 3 < 0 ∨ L ≤ (i + 3).toNatClampNeg)) (h4 : ¬ (i + 4 < 0 ∨ L ≤ (i + 4).toNatClampNeg)) (h5 : ¬ (i + 5 < 0 ∨ L ≤ (i + 5).toNatClampNeg)) (v : Int32) {P : Option Value × xH × Nat × Nat → Prop} (kk : x_R x_mt (some (L, xs)) 10 M_law (1260, [(3, .int i), (2, .ref 75), (1, .ref 0), (0, .ref x_scr)], [.int (xs ((i + 1)).toNatClampNeg), .ref 75], h, 98, 10728) P) : x_R x_mt (some (L, xs)) 10 M_law (1253, [(3, .int i), (2, .ref 75), (1, .ref 0), (0, .ref x_scr)], [.int v], h, 98, 10728) P := by
  refine j_Lst (c' := (1254, [(3, .int i), (2, .ref 75), (1, .ref 0), (0, .ref x_scr)], [], h, 98, 10728)) lr_1253 rfl ?_
  refine j_Lst (c' := (1255, [(3, .int i), (2, .ref 75), (1, .ref 0), (0, .ref x_scr)], [.ref 75], h, 98, 10728)) lr_1254 rfl ?_
  refine j_Lst (c' := (1256, [(3, .int i), (2, .ref 75), (1, .ref 0), (0, .ref x_scr)], [.ref x_scr, .ref 75], h, 98, 10728)) lr_1255 rfl ?_
  refine j_Lst (c' := (1257, [(3, .int i), (2, .ref 75), (1, .ref 0), (0, .ref x_scr)], [.int i, .ref x_scr, .ref 75], h, 98, 10728)) lr_1256 rfl ?_
  refine j_Lst (c' := (1258, [(3, .int i), (2, .ref 75), (1, .ref 0), (0, .ref x_scr)], [.int 1, .int i, .ref x_scr, .ref 75], h, 98, 10728)) lr_1257 rfl ?_
  refine j_Lst (c' := (1259, [(3, .int i), (2, .ref 75), (1, .ref 0), (0, .ref x_scr)], [.int (i + 1), .ref x_scr, .ref 75], h, 98, 10728)) lr_1258 rfl ?_
  refine j_Lsl (c' := (1260, [(3, .int i), (2, .ref 75), (1, .ref 0), (0, .ref x_scr)], [.int (xs ((i + 1)).toNatClampNeg), .ref 75], h, 98, 10728)) lr_1259 rfl h1 ?_
  exact kk

set_option maxRecDepth 100000 in
theorem x_c32d (h : xH) (L : Nat) (xs : Nat → Int32) (i : Int32) (h0 : ¬ (i < 0 ∨ L ≤ (i).toNatClampNeg)) (h1 : ¬ (i + 1 < 0 ∨ L ≤ (i + 1).toNatClampNeg)) (h2 : ¬ (i + 2 < 0 ∨ L ≤ (i + 2).toNatClampNeg)) (h3 : ¬ (i + 3 < 0 ∨ L ≤ (i + 3).toNatClampNeg)) (h4 : ¬ (i + 4 < 0 ∨ L ≤ (i + 4).toNatClampNeg)) (h5 : ¬ (i + 5 < 0 ∨ L ≤ (i + 5).toNatClampNeg)) (w : Int32) {P : Option Value × xH × Nat × Nat → Prop} (kk : x_R x_mt (some (L, xs)) 10 M_law (18, [(3, .int (i + Int32.ofInt (6))), (2, .ref 75), (1, .ref 0), (0, .ref x_scr)], [], h, 98, 10728) P) : x_R x_mt (some (L, xs)) 10 M_law (1263, [(3, .int i), (2, .ref 75), (1, .ref 0), (0, .ref x_scr)], [.int w], h, 98, 10728) P := by
  refine j_Lst (c' := (1264, [(3, .int i), (2, .ref 75), (1, .ref 0), (0, .ref x_scr)], [], h, 98, 10728)) lr_1263 rfl ?_
  refine j_Lst (c' := (2368, [(3, .int i), (2, .ref 75), (1, .ref 0), (0, .ref x_scr)], [], h, 98, 10728)) lr_1264 rfl ?_
  refine j_Lst (c' := (2371, [(3, .int (i + Int32.ofInt (6))), (2, .ref 75), (1, .ref 0), (0, .ref x_scr)], [], h, 98, 10728)) lr_2368 rfl ?_
  refine j_Lst (c' := (18, [(3, .int (i + Int32.ofInt (6))), (2, .ref 75), (1, .ref 0), (0, .ref x_scr)], [], h, 98, 10728)) lr_2371 rfl ?_
  exact kk

set_option maxRecDepth 100000 in
theorem x_c33a (h : xH) (L : Nat) (xs : Nat → Int32) (i : Int32) (h0 : ¬ (i < 0 ∨ L ≤ (i).toNatClampNeg)) (h1 : ¬ (i + 1 < 0 ∨ L ≤ (i + 1).toNatClampNeg)) (h2 : ¬ (i + 2 < 0 ∨ L ≤ (i + 2).toNatClampNeg)) (h3 : ¬ (i + 3 < 0 ∨ L ≤ (i + 3).toNatClampNeg)) (h4 : ¬ (i + 4 < 0 ∨ L ≤ (i + 4).toNatClampNeg)) (h5 : ¬ (i + 5 < 0 ∨ L ≤ (i + 5).toNatClampNeg)) {P : Option Value × xH × Nat × Nat → Prop} (kk : x_R x_mt (some (L, xs)) 10 M_law (1273, [(3, .int i), (2, .ref 75), (1, .ref 0), (0, .ref x_scr)], [.int (xs ((i + 1)).toNatClampNeg), .ref 0], h, 98, 10728) P) : x_R x_mt (some (L, xs)) 10 M_law (1267, [(3, .int i), (2, .ref 75), (1, .ref 0), (0, .ref x_scr)], [], h, 98, 10728) P := by
  refine j_Lst (c' := (1268, [(3, .int i), (2, .ref 75), (1, .ref 0), (0, .ref x_scr)], [.ref 0], h, 98, 10728)) lr_1267 rfl ?_
  refine j_Lst (c' := (1269, [(3, .int i), (2, .ref 75), (1, .ref 0), (0, .ref x_scr)], [.ref x_scr, .ref 0], h, 98, 10728)) lr_1268 rfl ?_
  refine j_Lst (c' := (1270, [(3, .int i), (2, .ref 75), (1, .ref 0), (0, .ref x_scr)], [.int i, .ref x_scr, .ref 0], h, 98, 10728)) lr_1269 rfl ?_
  refine j_Lst (c' := (1271, [(3, .int i), (2, .ref 75), (1, .ref 0), (0, .ref x_scr)], [.int 1, .int i, .ref x_scr, .ref 0], h, 98, 10728)) lr_1270 rfl ?_
  refine j_Lst (c' := (1272, [(3, .int i), (2, .ref 75), (1, .ref 0), (0, .ref x_scr)], [.int (i + 1), .ref x_scr, .ref 0], h, 98, 10728)) lr_1271 rfl ?_
  refine j_Lsl (c' := (1273, [(3, .int i), (2, .ref 75), (1, .ref 0), (0, .ref x_scr)], [.int (xs ((i + 1)).toNatClampNeg), .ref 0], h, 98, 10728)) lr_1272 rfl h1 ?_
  exact kk

set_option maxRecDepth 100000 in
theorem x_c33b (h : xH) (L : Nat) (xs : Nat → Int32) (i : Int32) (h0 : ¬ (i < 0 ∨ L ≤ (i).toNatClampNeg)) (h1 : ¬ (i + 1 < 0 ∨ L ≤ (i + 1).toNatClampNeg)) (h2 : ¬ (i + 2 < 0 ∨ L ≤ (i + 2).toNatClampNeg)) (h3 : ¬ (i + 3 < 0 ∨ L ≤ (i + 3).toNatClampNeg)) (h4 : ¬ (i + 4 < 0 ∨ L ≤ (i + 4).toNatClampNeg)) (h5 : ¬ (i + 5 < 0 ∨ L ≤ (i + 5).toNatClampNeg)) (v : Int32) {P : Option Value × xH × Nat × Nat → Prop} (kk : x_R x_mt (some (L, xs)) 10 M_law (1283, [(3, .int i), (2, .ref 75), (1, .ref 0), (0, .ref x_scr)], [.int (xs ((i + 1)).toNatClampNeg), .ref 75], h, 98, 10728) P) : x_R x_mt (some (L, xs)) 10 M_law (1276, [(3, .int i), (2, .ref 75), (1, .ref 0), (0, .ref x_scr)], [.int v], h, 98, 10728) P := by
  refine j_Lst (c' := (1277, [(3, .int i), (2, .ref 75), (1, .ref 0), (0, .ref x_scr)], [], h, 98, 10728)) lr_1276 rfl ?_
  refine j_Lst (c' := (1278, [(3, .int i), (2, .ref 75), (1, .ref 0), (0, .ref x_scr)], [.ref 75], h, 98, 10728)) lr_1277 rfl ?_
  refine j_Lst (c' := (1279, [(3, .int i), (2, .ref 75), (1, .ref 0), (0, .ref x_scr)], [.ref x_scr, .ref 75], h, 98, 10728)) lr_1278 rfl ?_
  refine j_Lst (c' := (1280, [(3, .int i), (2, .ref 75), (1, .ref 0), (0, .ref x_scr)], [.int i, .ref x_scr, .ref 75], h, 98, 10728)) lr_1279 rfl ?_
  refine j_Lst (c' := (1281, [(3, .int i), (2, .ref 75), (1, .ref 0), (0, .ref x_scr)], [.int 1, .int i, .ref x_scr, .ref 75], h, 98, 10728)) lr_1280 rfl ?_
  refine j_Lst (c' := (1282, [(3, .int i), (2, .ref 75), (1, .ref 0), (0, .ref x_scr)], [.int (i + 1), .ref x_scr, .ref 75], h, 98, 10728)) lr_1281 rfl ?_
  refine j_Lsl (c' := (1283, [(3, .int i), (2, .ref 75), (1, .ref 0), (0, .ref x_scr)], [.int (xs ((i + 1)).toNatClampNeg), .ref 75], h, 98, 10728)) lr_1282 rfl h1 ?_
  exact kk

set_option maxRecDepth 100000 in
theorem x_c33d (h : xH) (L : Nat) (xs : Nat → Int32) (i : Int32) (h0 : ¬ (i < 0 ∨ L ≤ (i).toNatClampNeg)) (h1 : ¬ (i + 1 < 0 ∨ L ≤ (i + 1).toNatClampNeg)) (h2 : ¬ (i + 2 < 0 ∨ L ≤ (i + 2).toNatClampNeg)) (h3 : ¬ (i + 3 < 0 ∨ L ≤ (i + 3).toNatClampNeg)) (h4 : ¬ (i + 4 < 0 ∨ L ≤ (i + 4).toNatClampNeg)) (h5 : ¬ (i + 5 < 0 ∨ L ≤ (i + 5).toNatClampNeg)) (w : Int32) {P : Option Value × xH × Nat × Nat → Prop} (kk : x_R x_mt (some (L, xs)) 10 M_law (18, [(3, .int (i + Int32.ofInt (6))), (2, .ref 75), (1, .ref 0), (0, .ref x_scr)], [], h, 98, 10728) P) : x_R x_mt (some (L, xs)) 10 M_law (1286, [(3, .int i), (2, .ref 75), (1, .ref 0), (0, .ref x_scr)], [.int w], h, 98, 10728) P := by
  refine j_Lst (c' := (1287, [(3, .int i), (2, .ref 75), (1, .ref 0), (0, .ref x_scr)], [], h, 98, 10728)) lr_1286 rfl ?_
  refine j_Lst (c' := (2368, [(3, .int i), (2, .ref 75), (1, .ref 0), (0, .ref x_scr)], [], h, 98, 10728)) lr_1287 rfl ?_
  refine j_Lst (c' := (2371, [(3, .int (i + Int32.ofInt (6))), (2, .ref 75), (1, .ref 0), (0, .ref x_scr)], [], h, 98, 10728)) lr_2368 rfl ?_
  refine j_Lst (c' := (18, [(3, .int (i + Int32.ofInt (6))), (2, .ref 75), (1, .ref 0), (0, .ref x_scr)], [], h, 98, 10728)) lr_2371 rfl ?_
  exact kk

set_option maxRecDepth 100000 in
theorem x_c34a (h : xH) (L : Nat) (xs : Nat → Int32) (i : Int32) (h0 : ¬ (i < 0 ∨ L ≤ (i).toNatClampNeg)) (h1 : ¬ (i + 1 < 0 ∨ L ≤ (i + 1).toNatClampNeg)) (h2 : ¬ (i + 2 < 0 ∨ L ≤ (i + 2).toNatClampNeg)) (h3 : ¬ (i + 3 < 0 ∨ L ≤ (i + 3).toNatClampNeg)) (h4 : ¬ (i + 4 < 0 ∨ L ≤ (i + 4).toNatClampNeg)) (h5 : ¬ (i + 5 < 0 ∨ L ≤ (i + 5).toNatClampNeg)) {P : Option Value × xH × Nat × Nat → Prop} (kk : x_R x_mt (some (L, xs)) 10 M_law (1296, [(3, .int i), (2, .ref 75), (1, .ref 0), (0, .ref x_scr)], [.int (xs ((i + 1)).toNatClampNeg), .ref 0], h, 98, 10728) P) : x_R x_mt (some (L, xs)) 10 M_law (1290, [(3, .int i), (2, .ref 75), (1, .ref 0), (0, .ref x_scr)], [], h, 98, 10728) P := by
  refine j_Lst (c' := (1291, [(3, .int i), (2, .ref 75), (1, .ref 0), (0, .ref x_scr)], [.ref 0], h, 98, 10728)) lr_1290 rfl ?_
  refine j_Lst (c' := (1292, [(3, .int i), (2, .ref 75), (1, .ref 0), (0, .ref x_scr)], [.ref x_scr, .ref 0], h, 98, 10728)) lr_1291 rfl ?_
  refine j_Lst (c' := (1293, [(3, .int i), (2, .ref 75), (1, .ref 0), (0, .ref x_scr)], [.int i, .ref x_scr, .ref 0], h, 98, 10728)) lr_1292 rfl ?_
  refine j_Lst (c' := (1294, [(3, .int i), (2, .ref 75), (1, .ref 0), (0, .ref x_scr)], [.int 1, .int i, .ref x_scr, .ref 0], h, 98, 10728)) lr_1293 rfl ?_
  refine j_Lst (c' := (1295, [(3, .int i), (2, .ref 75), (1, .ref 0), (0, .ref x_scr)], [.int (i + 1), .ref x_scr, .ref 0], h, 98, 10728)) lr_1294 rfl ?_
  refine j_Lsl (c' := (1296, [(3, .int i), (2, .ref 75), (1, .ref 0), (0, .ref x_scr)], [.int (xs ((i + 1)).toNatClampNeg), .ref 0], h, 98, 10728)) lr_1295 rfl h1 ?_
  exact kk

set_option maxRecDepth 100000 in
theorem x_c34b (h : xH) (L : Nat) (xs : Nat → Int32) (i : Int32) (h0 : ¬ (i < 0 ∨ L ≤ (i).toNatClampNeg)) (h1 : ¬ (i + 1 < 0 ∨ L ≤ (i + 1).toNatClampNeg)) (h2 : ¬ (i + 2 < 0 ∨ L ≤ (i + 2).toNatClampNeg)) (h3 : ¬ (i + 3 < 0 ∨ L ≤ (i + 3).toNatClampNeg)) (h4 : ¬ (i + 4 < 0 ∨ L ≤ (i + 4).toNatClampNeg)) (h5 : ¬ (i + 5 < 0 ∨ L ≤ (i + 5).toNatClampNeg)) (v : Int32) {P : Option Value × xH × Nat × Nat → Prop} (kk : x_R x_mt (some (L, xs)) 10 M_law (1306, [(3, .int i), (2, .ref 75), (1, .ref 0), (0, .ref x_scr)], [.int (xs ((i + 1)).toNatClampNeg), .ref 75], h, 98, 10728) P) : x_R x_mt (some (L, xs)) 10 M_law (1299, [(3, .int i), (2, .ref 75), (1, .ref 0), (0, .ref x_scr)], [.int v], h, 98, 10728) P := by
  refine j_Lst (c' := (1300, [(3, .int i), (2, .ref 75), (1, .ref 0), (0, .ref x_scr)], [], h, 98, 10728)) lr_1299 rfl ?_
  refine j_Lst (c' := (1301, [(3, .int i), (2, .ref 75), (1, .ref 0), (0, .ref x_scr)], [.ref 75], h, 98, 10728)) lr_1300 rfl ?_
  refine j_Lst (c' := (1302, [(3, .int i), (2, .ref 75), (1, .ref 0), (0, .ref x_scr)], [.ref x_scr, .ref 75], h, 98, 10728)) lr_1301 rfl ?_
  refine j_Lst (c' := (1303, [(3, .int i), (2, .ref 75), (1, .ref 0), (0, .ref x_scr)], [.int i, .ref x_scr, .ref 75], h, 98, 10728)) lr_1302 rfl ?_
  refine j_Lst (c' := (1304, [(3, .int i), (2, .ref 75), (1, .ref 0), (0, .ref x_scr)], [.int 1, .int i, .ref x_scr, .ref 75], h, 98, 10728)) lr_1303 rfl ?_
  refine j_Lst (c' := (1305, [(3, .int i), (2, .ref 75), (1, .ref 0), (0, .ref x_scr)], [.int (i + 1), .ref x_scr, .ref 75], h, 98, 10728)) lr_1304 rfl ?_
  refine j_Lsl (c' := (1306, [(3, .int i), (2, .ref 75), (1, .ref 0), (0, .ref x_scr)], [.int (xs ((i + 1)).toNatClampNeg), .ref 75], h, 98, 10728)) lr_1305 rfl h1 ?_
  exact kk

set_option maxRecDepth 100000 in
theorem x_c34d (h : xH) (L : Nat) (xs : Nat → Int32) (i : Int32) (h0 : ¬ (i < 0 ∨ L ≤ (i).toNatClampNeg)) (h1 : ¬ (i + 1 < 0 ∨ L ≤ (i + 1).toNatClampNeg)) (h2 : ¬ (i + 2 < 0 ∨ L ≤ (i + 2).toNatClampNeg)) (h3 : ¬ (i + 3 < 0 ∨ L ≤ (i + 3).toNatClampNeg)) (h4 : ¬ (i + 4 < 0 ∨ L ≤ (i + 4).toNatClampNeg)) (h5 : ¬ (i + 5 < 0 ∨ L ≤ (i + 5).toNatClampNeg)) (w : Int32) {P : Option Value × xH × Nat × Nat → Prop} (kk : x_R x_mt (some (L, xs)) 10 M_law (18, [(3, .int (i + Int32.ofInt (6))), (2, .ref 75), (1, .ref 0), (0, .ref x_scr)], [], h, 98, 10728) P) : x_R x_mt (some (L, xs)) 10 M_law (1309, [(3, .int i), (2, .ref 75), (1, .ref 0), (0, .ref x_scr)], [.int w], h, 98, 10728) P := by
  refine j_Lst (c' := (1310, [(3, .int i), (2, .ref 75), (1, .ref 0), (0, .ref x_scr)], [], h, 98, 10728)) lr_1309 rfl ?_
  refine j_Lst (c' := (2368, [(3, .int i), (2, .ref 75), (1, .ref 0), (0, .ref x_scr)], [], h, 98, 10728)) lr_1310 rfl ?_
  refine j_Lst (c' := (2371, [(3, .int (i + Int32.ofInt (6))), (2, .ref 75), (1, .ref 0), (0, .ref x_scr)], [], h, 98, 10728)) lr_2368 rfl ?_
  refine j_Lst (c' := (18, [(3, .int (i + Int32.ofInt (6))), (2, .ref 75), (1, .ref 0), (0, .ref x_scr)], [], h, 98, 10728)) lr_2371 rfl ?_
  exact kk

set_option maxRecDepth 100000 in
theorem x_c35a (h : xH) (L : Nat) (xs : Nat → Int32) (i : Int32) (h0 : ¬ (i < 0 ∨ L ≤ (i).toNatClampNeg)) (h1 : ¬ (i + 1 < 0 ∨ L ≤ (i + 1).toNatClampNeg)) (h2 : ¬ (i + 2 < 0 ∨ L ≤ (i + 2).toNatClampNeg)) (h3 : ¬ (i + 3 < 0 ∨ L ≤ (i + 3).toNatClampNeg)) (h4 : ¬ (i + 4 < 0 ∨ L ≤ (i + 4).toNatClampNeg)) (h5 : ¬ (i + 5 < 0 ∨ L ≤ (i + 5).toNatClampNeg)) {P : Option Value × xH × Nat × Nat → Prop} (kk : x_R x_mt (some (L, xs)) 10 M_law (1319, [(3, .int i), (2, .ref 75), (1, .ref 0), (0, .ref x_scr)], [.int (xs ((i + 1)).toNatClampNeg), .ref 0], h, 98, 10728) P) : x_R x_mt (some (L, xs)) 10 M_law (1313, [(3, .int i), (2, .ref 75), (1, .ref 0), (0, .ref x_scr)], [], h, 98, 10728) P := by
  refine j_Lst (c' := (1314, [(3, .int i), (2, .ref 75), (1, .ref 0), (0, .ref x_scr)], [.ref 0], h, 98, 10728)) lr_1313 rfl ?_
  refine j_Lst (c' := (1315, [(3, .int i), (2, .ref 75), (1, .ref 0), (0, .ref x_scr)], [.ref x_scr, .ref 0], h, 98, 10728)) lr_1314 rfl ?_
  refine j_Lst (c' := (1316, [(3, .int i), (2, .ref 75), (1, .ref 0), (0, .ref x_scr)], [.int i, .ref x_scr, .ref 0], h, 98, 10728)) lr_1315 rfl ?_
  refine j_Lst (c' := (1317, [(3, .int i), (2, .ref 75), (1, .ref 0), (0, .ref x_scr)], [.int 1, .int i, .ref x_scr, .ref 0], h, 98, 10728)) lr_1316 rfl ?_
  refine j_Lst (c' := (1318, [(3, .int i), (2, .ref 75), (1, .ref 0), (0, .ref x_scr)], [.int (i + 1), .ref x_scr, .ref 0], h, 98, 10728)) lr_1317 rfl ?_
  refine j_Lsl (c' := (1319, [(3, .int i), (2, .ref 75), (1, .ref 0), (0, .ref x_scr)], [.int (xs ((i + 1)).toNatClampNeg), .ref 0], h, 98, 10728)) lr_1318 rfl h1 ?_
  exact kk

set_option maxRecDepth 100000 in
theorem x_c35b (h : xH) (L : Nat) (xs : Nat → Int32) (i : Int32) (h0 : ¬ (i < 0 ∨ L ≤ (i).toNatClampNeg)) (h1 : ¬ (i + 1 < 0 ∨ L ≤ (i + 1).toNatClampNeg)) (h2 : ¬ (i + 2 < 0 ∨ L ≤ (i + 2).toNatClampNeg)) (h3 : ¬ (i + 3 < 0 ∨ L ≤ (i + 3).toNatClampNeg)) (h4 : ¬ (i + 4 < 0 ∨ L ≤ (i + 4).toNatClampNeg)) (h5 : ¬ (i + 5 < 0 ∨ L ≤ (i + 5).toNatClampNeg)) (v : Int32) {P : Option Value × xH × Nat × Nat → Prop} (kk : x_R x_mt (some (L, xs)) 10 M_law (1329, [(3, .int i), (2, .ref 75), (1, .ref 0), (0, .ref x_scr)], [.int (xs ((i + 1)).toNatClampNeg), .ref 75], h, 98, 10728) P) : x_R x_mt (some (L, xs)) 10 M_law (1322, [(3, .int i), (2, .ref 75), (1, .ref 0), (0, .ref x_scr)], [.int v], h, 98, 10728) P := by
  refine j_Lst (c' := (1323, [(3, .int i), (2, .ref 75), (1, .ref 0), (0, .ref x_scr)], [], h, 98, 10728)) lr_1322 rfl ?_
  refine j_Lst (c' := (1324, [(3, .int i), (2, .ref 75), (1, .ref 0), (0, .ref x_scr)], [.ref 75], h, 98, 10728)) lr_1323 rfl ?_
  refine j_Lst (c' := (1325, [(3, .int i), (2, .ref 75), (1, .ref 0), (0, .ref x_scr)], [.ref x_scr, .ref 75], h, 98, 10728)) lr_1324 rfl ?_
  refine j_Lst (c' := (1326, [(3, .int i), (2, .ref 75), (1, .ref 0), (0, .ref x_scr)], [.int i, .ref x_scr, .ref 75], h, 98, 10728)) lr_1325 rfl ?_
  refine j_Lst (c' := (1327, [(3, .int i), (2, .ref 75), (1, .ref 0), (0, .ref x_scr)], [.int 1, .int i, .ref x_scr, .ref 75], h, 98, 10728)) lr_1326 rfl ?_
  refine j_Lst (c' := (1328, [(3, .int i), (2, .ref 75), (1, .ref 0), (0, .ref x_scr)], [.int (i + 1), .ref x_scr, .ref 75], h, 98, 10728)) lr_1327 rfl ?_
  refine j_Lsl (c' := (1329, [(3, .int i), (2, .ref 75), (1, .ref 0), (0, .ref x_scr)], [.int (xs ((i + 1)).toNatClampNeg), .ref 75], h, 98, 10728)) lr_1328 rfl h1 ?_
  exact kk

set_option maxRecDepth 100000 in
theorem x_c35d (h : xH) (L : Nat) (xs : Nat → Int32) (i : Int32) (h0 : ¬ (i < 0 ∨ L ≤ (i).toNatClampNeg)) (h1 : ¬ (i + 1 < 0 ∨ L ≤ (i + 1).toNatClampNeg)) (h2 : ¬ (i + 2 < 0 ∨ L ≤ (i + 2).toNatClampNeg)) (h3 : ¬ (i + 3 < 0 ∨ L ≤ (i + 3).toNatClampNeg)) (h4 : ¬ (i + 4 < 0 ∨ L ≤ (i + 4).toNatClampNeg)) (h5 : ¬ (i + 5 < 0 ∨ L ≤ (i + 5).toNatClampNeg)) (w : Int32) {P : Option Value × xH × Nat × Nat → Prop} (kk : x_R x_mt (some (L, xs)) 10 M_law (18, [(3, .int (i + Int32.ofInt (6))), (2, .ref 75), (1, .ref 0), (0, .ref x_scr)], [], h, 98, 10728) P) : x_R x_mt (some (L, xs)) 10 M_law (1332, [(3, .int i), (2, .ref 75), (1, .ref 0), (0, .ref x_scr)], [.int w], h, 98, 10728) P := by
  refine j_Lst (c' := (1333, [(3, .int i), (2, .ref 75), (1, .ref 0), (0, .ref x_scr)], [], h, 98, 10728)) lr_1332 rfl ?_
  refine j_Lst (c' := (2368, [(3, .int i), (2, .ref 75), (1, .ref 0), (0, .ref x_scr)], [], h, 98, 10728)) lr_1333 rfl ?_
  refine j_Lst (c' := (2371, [(3, .int (i + Int32.ofInt (6))), (2, .ref 75), (1, .ref 0), (0, .ref x_scr)], [], h, 98, 10728)) lr_2368 rfl ?_
  refine j_Lst (c' := (18, [(3, .int (i + Int32.ofInt (6))), (2, .ref 75), (1, .ref 0), (0, .ref x_scr)], [], h, 98, 10728)) lr_2371 rfl ?_
  exact kk

set_option maxRecDepth 100000 in
theorem x_c36a (h : xH) (L : Nat) (xs : Nat → Int32) (i : Int32) (h0 : ¬ (i < 0 ∨ L ≤ (i).toNatClampNeg)) (h1 : ¬ (i + 1 < 0 ∨ L ≤ (i + 1).toNatClampNeg)) (h2 : ¬ (i + 2 < 0 ∨ L ≤ (i + 2).toNatClampNeg)) (h3 : ¬ (i + 3 < 0 ∨ L ≤ (i + 3).toNatClampNeg)) (h4 : ¬ (i + 4 < 0 ∨ L ≤ (i + 4).toNatClampNeg)) (h5 : ¬ (i + 5 < 0 ∨ L ≤ (i + 5).toNatClampNeg)) {P : Option Value × xH × Nat × Nat → Prop} (kk : x_R x_mt (some (L, xs)) 10 M_law (1342, [(3, .int i), (2, .ref 75), (1, .ref 0), (0, .ref x_scr)], [.int (xs ((i + 1)).toNatClampNeg), .ref 0], h, 98, 10728) P) : x_R x_mt (some (L, xs)) 10 M_law (1336, [(3, .int i), (2, .ref 75), (1, .ref 0), (0, .ref x_scr)], [], h, 98, 10728) P := by
  refine j_Lst (c' := (1337, [(3, .int i), (2, .ref 75), (1, .ref 0), (0, .ref x_scr)], [.ref 0], h, 98, 10728)) lr_1336 rfl ?_
  refine j_Lst (c' := (1338, [(3, .int i), (2, .ref 75), (1, .ref 0), (0, .ref x_scr)], [.ref x_scr, .ref 0], h, 98, 10728)) lr_1337 rfl ?_
  refine j_Lst (c' := (1339, [(3, .int i), (2, .ref 75), (1, .ref 0), (0, .ref x_scr)], [.int i, .ref x_scr, .ref 0], h, 98, 10728)) lr_1338 rfl ?_
  refine j_Lst (c' := (1340, [(3, .int i), (2, .ref 75), (1, .ref 0), (0, .ref x_scr)], [.int 1, .int i, .ref x_scr, .ref 0], h, 98, 10728)) lr_1339 rfl ?_
  refine j_Lst (c' := (1341, [(3, .int i), (2, .ref 75), (1, .ref 0), (0, .ref x_scr)], [.int (i + 1), .ref x_scr, .ref 0], h, 98, 10728)) lr_1340 rfl ?_
  refine j_Lsl (c' := (1342, [(3, .int i), (2, .ref 75), (1, .ref 0), (0, .ref x_scr)], [.int (xs ((i + 1)).toNatClampNeg), .ref 0], h, 98, 10728)) lr_1341 rfl h1 ?_
  exact kk

set_option maxRecDepth 100000 in
theorem x_c36b (h : xH) (L : Nat) (xs : Nat → Int32) (i : Int32) (h0 : ¬ (i < 0 ∨ L ≤ (i).toNatClampNeg)) (h1 : ¬ (i + 1 < 0 ∨ L ≤ (i + 1).toNatClampNeg)) (h2 : ¬ (i + 2 < 0 ∨ L ≤ (i + 2).toNatClampNeg)) (h3 : ¬ (i + 3 < 0 ∨ L ≤ (i + 3).toNatClampNeg)) (h4 : ¬ (i + 4 < 0 ∨ L ≤ (i + 4).toNatClampNeg)) (h5 : ¬ (i + 5 < 0 ∨ L ≤ (i + 5).toNatClampNeg)) (v : Int32) {P : Option Value × xH × Nat × Nat → Prop} (kk : x_R x_mt (some (L, xs)) 10 M_law (1352, [(3, .int i), (2, .ref 75), (1, .ref 0), (0, .ref x_scr)], [.int (xs ((i + 1)).toNatClampNeg), .ref 75], h, 98, 10728) P) : x_R x_mt (some (L, xs)) 10 M_law (1345, [(3, .int i), (2, .ref 75), (1, .ref 0), (0, .ref x_scr)], [.int v], h, 98, 10728) P := by
  refine j_Lst (c' := (1346, [(3, .int i), (2, .ref 75), (1, .ref 0), (0, .ref x_scr)], [], h, 98, 10728)) lr_1345 rfl ?_
  refine j_Lst (c' := (1347, [(3, .int i), (2, .ref 75), (1, .ref 0), (0, .ref x_scr)], [.ref 75], h, 98, 10728)) lr_1346 rfl ?_
  refine j_Lst (c' := (1348, [(3, .int i), (2, .ref 75), (1, .ref 0), (0, .ref x_scr)], [.ref x_scr, .ref 75], h, 98, 10728)) lr_1347 rfl ?_
  refine j_Lst (c' := (1349, [(3, .int i), (2, .ref 75), (1, .ref 0), (0, .ref x_scr)], [.int i, .ref x_scr, .ref 75], h, 98, 10728)) lr_1348 rfl ?_
  refine j_Lst (c' := (1350, [(3, .int i), (2, .ref 75), (1, .ref 0), (0, .ref x_scr)], [.int 1, .int i, .ref x_scr, .ref 75], h, 98, 10728)) lr_1349 rfl ?_
  refine j_Lst (c' := (1351, [(3, .int i), (2, .ref 75), (1, .ref 0), (0, .ref x_scr)], [.int (i + 1), .ref x_scr, .ref 75], h, 98, 10728)) lr_1350 rfl ?_
  refine j_Lsl (c' := (1352, [(3, .int i), (2, .ref 75), (1, .ref 0), (0, .ref x_scr)], [.int (xs ((i + 1)).toNatClampNeg), .ref 75], h, 98, 10728)) lr_1351 rfl h1 ?_
  exact kk

set_option maxRecDepth 100000 in
theorem x_c36d (h : xH) (L : Nat) (xs : Nat → Int32) (i : Int32) (h0 : ¬ (i < 0 ∨ L ≤ (i).toNatClampNeg)) (h1 : ¬ (i + 1 < 0 ∨ L ≤ (i + 1).toNatClampNeg)) (h2 : ¬ (i + 2 < 0 ∨ L ≤ (i + 2).toNatClampNeg)) (h3 : ¬ (i + 3 < 0 ∨ L ≤ (i + 3).toNatClampNeg)) (h4 : ¬ (i + 4 < 0 ∨ L ≤ (i + 4).toNatClampNeg)) (h5 : ¬ (i + 5 < 0 ∨ L ≤ (i + 5).toNatClampNeg)) (w : Int32) {P : Option Value × xH × Nat × Nat → Prop} (kk : x_R x_mt (some (L, xs)) 10 M_law (18, [(3, .int (i + Int32.ofInt (6))), (2, .ref 75), (1, .ref 0), (0, .ref x_scr)], [], h, 98, 10728) P) : x_R x_mt (some (L, xs)) 10 M_law (1355, [(3, .int i), (2, .ref 75), (1, .ref 0), (0, .ref x_scr)], [.int w], h, 98, 10728) P := by
  refine j_Lst (c' := (1356, [(3, .int i), (2, .ref 75), (1, .ref 0), (0, .ref x_scr)], [], h, 98, 10728)) lr_1355 rfl ?_
  refine j_Lst (c' := (2368, [(3, .int i), (2, .ref 75), (1, .ref 0), (0, .ref x_scr)], [], h, 98, 10728)) lr_1356 rfl ?_
  refine j_Lst (c' := (2371, [(3, .int (i + Int32.ofInt (6))), (2, .ref 75), (1, .ref 0), (0, .ref x_scr)], [], h, 98, 10728)) lr_2368 rfl ?_
  refine j_Lst (c' := (18, [(3, .int (i + Int32.ofInt (6))), (2, .ref 75), (1, .ref 0), (0, .ref x_scr)], [], h, 98, 10728)) lr_2371 rfl ?_
  exact kk

set_option maxRecDepth 100000 in
theorem x_c37a (h : xH) (L : Nat) (xs : Nat → Int32) (i : Int32) (h0 : ¬ (i < 0 ∨ L ≤ (i).toNatClampNeg)) (h1 : ¬ (i + 1 < 0 ∨ L ≤ (i + 1).toNatClampNeg)) (h2 : ¬ (i + 2 < 0 ∨ L ≤ (i + 2).toNatClampNeg)) (h3 : ¬ (i + 3 < 0 ∨ L ≤ (i + 3).toNatClampNeg)) (h4 : ¬ (i + 4 < 0 ∨ L ≤ (i + 4).toNatClampNeg)) (h5 : ¬ (i + 5 < 0 ∨ L ≤ (i + 5).toNatClampNeg)) {P : Option Value × xH × Nat × Nat → Prop} (kk : x_R x_mt (some (L, xs)) 10 M_law (1365, [(3, .int i), (2, .ref 75), (1, .ref 0), (0, .ref x_scr)], [.int (xs ((i + 1)).toNatClampNeg), .ref 0], h, 98, 10728) P) : x_R x_mt (some (L, xs)) 10 M_law (1359, [(3, .int i), (2, .ref 75), (1, .ref 0), (0, .ref x_scr)], [], h, 98, 10728) P := by
  refine j_Lst (c' := (1360, [(3, .int i), (2, .ref 75), (1, .ref 0), (0, .ref x_scr)], [.ref 0], h, 98, 10728)) lr_1359 rfl ?_
  refine j_Lst (c' := (1361, [(3, .int i), (2, .ref 75), (1, .ref 0), (0, .ref x_scr)], [.ref x_scr, .ref 0], h, 98, 10728)) lr_1360 rfl ?_
  refine j_Lst (c' := (1362, [(3, .int i), (2, .ref 75), (1, .ref 0), (0, .ref x_scr)], [.int i, .ref x_scr, .ref 0], h, 98, 10728)) lr_1361 rfl ?_
  refine j_Lst (c' := (1363, [(3, .int i), (2, .ref 75), (1, .ref 0), (0, .ref x_scr)], [.int 1, .int i, .ref x_scr, .ref 0], h, 98, 10728)) lr_1362 rfl ?_
  refine j_Lst (c' := (1364, [(3, .int i), (2, .ref 75), (1, .ref 0), (0, .ref x_scr)], [.int (i + 1), .ref x_scr, .ref 0], h, 98, 10728)) lr_1363 rfl ?_
  refine j_Lsl (c' := (1365, [(3, .int i), (2, .ref 75), (1, .ref 0), (0, .ref x_scr)], [.int (xs ((i + 1)).toNatClampNeg), .ref 0], h, 98, 10728)) lr_1364 rfl h1 ?_
  exact kk

set_option maxRecDepth 100000 in
theorem x_c37b (h : xH) (L : Nat) (xs : Nat → Int32) (i : Int32) (h0 : ¬ (i < 0 ∨ L ≤ (i).toNatClampNeg)) (h1 : ¬ (i + 1 < 0 ∨ L ≤ (i + 1).toNatClampNeg)) (h2 : ¬ (i + 2 < 0 ∨ L ≤ (i + 2).toNatClampNeg)) (h3 : ¬ (i + 3 < 0 ∨ L ≤ (i + 3).toNatClampNeg)) (h4 : ¬ (i + 4 < 0 ∨ L ≤ (i + 4).toNatClampNeg)) (h5 : ¬ (i + 5 < 0 ∨ L ≤ (i + 5).toNatClampNeg)) (v : Int32) {P : Option Value × xH × Nat × Nat → Prop} (kk : x_R x_mt (some (L, xs)) 10 M_law (1375, [(3, .int i), (2, .ref 75), (1, .ref 0), (0, .ref x_scr)], [.int (xs ((i + 1)).toNatClampNeg), .ref 75], h, 98, 10728) P) : x_R x_mt (some (L, xs)) 10 M_law (1368, [(3, .int i), (2, .ref 75), (1, .ref 0), (0, .ref x_scr)], [.int v], h, 98, 10728) P := by
  refine j_Lst (c' := (1369, [(3, .int i), (2, .ref 75), (1, .ref 0), (0, .ref x_scr)], [], h, 98, 10728)) lr_1368 rfl ?_
  refine j_Lst (c' := (1370, [(3, .int i), (2, .ref 75), (1, .ref 0), (0, .ref x_scr)], [.ref 75], h, 98, 10728)) lr_1369 rfl ?_
  refine j_Lst (c' := (1371, [(3, .int i), (2, .ref 75), (1, .ref 0), (0, .ref x_scr)], [.ref x_scr, .ref 75], h, 98, 10728)) lr_1370 rfl ?_
  refine j_Lst (c' := (1372, [(3, .int i), (2, .ref 75), (1, .ref 0), (0, .ref x_scr)], [.int i, .ref x_scr, .ref 75], h, 98, 10728)) lr_1371 rfl ?_
  refine j_Lst (c' := (1373, [(3, .int i), (2, .ref 75), (1, .ref 0), (0, .ref x_scr)], [.int 1, .int i, .ref x_scr, .ref 75], h, 98, 10728)) lr_1372 rfl ?_
  refine j_Lst (c' := (1374, [(3, .int i), (2, .ref 75), (1, .ref 0), (0, .ref x_scr)], [.int (i + 1), .ref x_scr, .ref 75], h, 98, 10728)) lr_1373 rfl ?_
  refine j_Lsl (c' := (1375, [(3, .int i), (2, .ref 75), (1, .ref 0), (0, .ref x_scr)], [.int (xs ((i + 1)).toNatClampNeg), .ref 75], h, 98, 10728)) lr_1374 rfl h1 ?_
  exact kk

set_option maxRecDepth 100000 in
theorem x_c37d (h : xH) (L : Nat) (xs : Nat → Int32) (i : Int32) (h0 : ¬ (i < 0 ∨ L ≤ (i).toNatClampNeg)) (h1 : ¬ (i + 1 < 0 ∨ L ≤ (i + 1).toNatClampNeg)) (h2 : ¬ (i + 2 < 0 ∨ L ≤ (i + 2).toNatClampNeg)) (h3 : ¬ (i + 3 < 0 ∨ L ≤ (i + 3).toNatClampNeg)) (h4 : ¬ (i + 4 < 0 ∨ L ≤ (i + 4).toNatClampNeg)) (h5 : ¬ (i + 5 < 0 ∨ L ≤ (i + 5).toNatClampNeg)) (w : Int32) {P : Option Value × xH × Nat × Nat → Prop} (kk : x_R x_mt (some (L, xs)) 10 M_law (18, [(3, .int (i + Int32.ofInt (6))), (2, .ref 75), (1, .ref 0), (0, .ref x_scr)], [], h, 98, 10728) P) : x_R x_mt (some (L, xs)) 10 M_law (1378, [(3, .int i), (2, .ref 75), (1, .ref 0), (0, .ref x_scr)], [.int w], h, 98, 10728) P := by
  refine j_Lst (c' := (1379, [(3, .int i), (2, .ref 75), (1, .ref 0), (0, .ref x_scr)], [], h, 98, 10728)) lr_1378 rfl ?_
  refine j_Lst (c' := (2368, [(3, .int i), (2, .ref 75), (1, .ref 0), (0, .ref x_scr)], [], h, 98, 10728)) lr_1379 rfl ?_
  refine j_Lst (c' := (2371, [(3, .int (i + Int32.ofInt (6))), (2, .ref 75), (1, .ref 0), (0, .ref x_scr)], [], h, 98, 10728)) lr_2368 rfl ?_
  refine j_Lst (c' := (18, [(3, .int (i + Int32.ofInt (6))), (2, .ref 75), (1, .ref 0), (0, .ref x_scr)], [], h, 98, 10728)) lr_2371 rfl ?_
  exact kk

set_option maxRecDepth 100000 in
theorem x_c38a (h : xH) (L : Nat) (xs : Nat → Int32) (i : Int32) (h0 : ¬ (i < 0 ∨ L ≤ (i).toNatClampNeg)) (h1 : ¬ (i + 1 < 0 ∨ L ≤ (i + 1).toNatClampNeg)) (h2 : ¬ (i + 2 < 0 ∨ L ≤ (i + 2).toNatClampNeg)) (h3 : ¬ (i + 3 < 0 ∨ L ≤ (i + 3).toNatClampNeg)) (h4 : ¬ (i + 4 < 0 ∨ L ≤ (i + 4).toNatClampNeg)) (h5 : ¬ (i + 5 < 0 ∨ L ≤ (i + 5).toNatClampNeg)) {P : Option Value × xH × Nat × Nat → Prop} (kk : x_R x_mt (some (L, xs)) 10 M_law (1393, [(3, .int i), (2, .ref 75), (1, .ref 0), (0, .ref x_scr)], [.int (xs ((i + 2)).toNatClampNeg), .int (xs ((i + 1)).toNatClampNeg), .ref 0], h, 98, 10728) P) : x_R x_mt (some (L, xs)) 10 M_law (1382, [(3, .int i), (2, .ref 75), (1, .ref 0), (0, .ref x_scr)], [], h, 98, 10728) P := by
  refine j_Lst (c' := (1383, [(3, .int i), (2, .ref 75), (1, .ref 0), (0, .ref x_scr)], [.ref 0], h, 98, 10728)) lr_1382 rfl ?_
  refine j_Lst (c' := (1384, [(3, .int i), (2, .ref 75), (1, .ref 0), (0, .ref x_scr)], [.ref x_scr, .ref 0], h, 98, 10728)) lr_1383 rfl ?_
  refine j_Lst (c' := (1385, [(3, .int i), (2, .ref 75), (1, .ref 0), (0, .ref x_scr)], [.int i, .ref x_scr, .ref 0], h, 98, 10728)) lr_1384 rfl ?_
  refine j_Lst (c' := (1386, [(3, .int i), (2, .ref 75), (1, .ref 0), (0, .ref x_scr)], [.int 1, .int i, .ref x_scr, .ref 0], h, 98, 10728)) lr_1385 rfl ?_
  refine j_Lst (c' := (1387, [(3, .int i), (2, .ref 75), (1, .ref 0), (0, .ref x_scr)], [.int (i + 1), .ref x_scr, .ref 0], h, 98, 10728)) lr_1386 rfl ?_
  refine j_Lsl (c' := (1388, [(3, .int i), (2, .ref 75), (1, .ref 0), (0, .ref x_scr)], [.int (xs ((i + 1)).toNatClampNeg), .ref 0], h, 98, 10728)) lr_1387 rfl h1 ?_
  refine j_Lst (c' := (1389, [(3, .int i), (2, .ref 75), (1, .ref 0), (0, .ref x_scr)], [.ref x_scr, .int (xs ((i + 1)).toNatClampNeg), .ref 0], h, 98, 10728)) lr_1388 rfl ?_
  refine j_Lst (c' := (1390, [(3, .int i), (2, .ref 75), (1, .ref 0), (0, .ref x_scr)], [.int i, .ref x_scr, .int (xs ((i + 1)).toNatClampNeg), .ref 0], h, 98, 10728)) lr_1389 rfl ?_
  refine j_Lst (c' := (1391, [(3, .int i), (2, .ref 75), (1, .ref 0), (0, .ref x_scr)], [.int 2, .int i, .ref x_scr, .int (xs ((i + 1)).toNatClampNeg), .ref 0], h, 98, 10728)) lr_1390 rfl ?_
  refine j_Lst (c' := (1392, [(3, .int i), (2, .ref 75), (1, .ref 0), (0, .ref x_scr)], [.int (i + 2), .ref x_scr, .int (xs ((i + 1)).toNatClampNeg), .ref 0], h, 98, 10728)) lr_1391 rfl ?_
  refine j_Lsl (c' := (1393, [(3, .int i), (2, .ref 75), (1, .ref 0), (0, .ref x_scr)], [.int (xs ((i + 2)).toNatClampNeg), .int (xs ((i + 1)).toNatClampNeg), .ref 0], h, 98, 10728)) lr_1392 rfl h2 ?_
  exact kk

set_option maxRecDepth 100000 in
theorem x_c38b (h : xH) (L : Nat) (xs : Nat → Int32) (i : Int32) (h0 : ¬ (i < 0 ∨ L ≤ (i).toNatClampNeg)) (h1 : ¬ (i + 1 < 0 ∨ L ≤ (i + 1).toNatClampNeg)) (h2 : ¬ (i + 2 < 0 ∨ L ≤ (i + 2).toNatClampNeg)) (h3 : ¬ (i + 3 < 0 ∨ L ≤ (i + 3).toNatClampNeg)) (h4 : ¬ (i + 4 < 0 ∨ L ≤ (i + 4).toNatClampNeg)) (h5 : ¬ (i + 5 < 0 ∨ L ≤ (i + 5).toNatClampNeg)) (v : Int32) {P : Option Value × xH × Nat × Nat → Prop} (kk : x_R x_mt (some (L, xs)) 10 M_law (1408, [(3, .int i), (2, .ref 75), (1, .ref 0), (0, .ref x_scr)], [.int (xs ((i + 2)).toNatClampNeg), .int (xs ((i + 1)).toNatClampNeg), .ref 75], h, 98, 10728) P) : x_R x_mt (some (L, xs)) 10 M_law (1396, [(3, .int i), (2, .ref 75), (1, .ref 0), (0, .ref x_scr)], [.int v], h, 98, 10728) P := by
  refine j_Lst (c' := (1397, [(3, .int i), (2, .ref 75), (1, .ref 0), (0, .ref x_scr)], [], h, 98, 10728)) lr_1396 rfl ?_
  refine j_Lst (c' := (1398, [(3, .int i), (2, .ref 75), (1, .ref 0), (0, .ref x_scr)], [.ref 75], h, 98, 10728)) lr_1397 rfl ?_
  refine j_Lst (c' := (1399, [(3, .int i), (2, .ref 75), (1, .ref 0), (0, .ref x_scr)], [.ref x_scr, .ref 75], h, 98, 10728)) lr_1398 rfl ?_
  refine j_Lst (c' := (1400, [(3, .int i), (2, .ref 75), (1, .ref 0), (0, .ref x_scr)], [.int i, .ref x_scr, .ref 75], h, 98, 10728)) lr_1399 rfl ?_
  refine j_Lst (c' := (1401, [(3, .int i), (2, .ref 75), (1, .ref 0), (0, .ref x_scr)], [.int 1, .int i, .ref x_scr, .ref 75], h, 98, 10728)) lr_1400 rfl ?_
  refine j_Lst (c' := (1402, [(3, .int i), (2, .ref 75), (1, .ref 0), (0, .ref x_scr)], [.int (i + 1), .ref x_scr, .ref 75], h, 98, 10728)) lr_1401 rfl ?_
  refine j_Lsl (c' := (1403, [(3, .int i), (2, .ref 75), (1, .ref 0), (0, .ref x_scr)], [.int (xs ((i + 1)).toNatClampNeg), .ref 75], h, 98, 10728)) lr_1402 rfl h1 ?_
  refine j_Lst (c' := (1404, [(3, .int i), (2, .ref 75), (1, .ref 0), (0, .ref x_scr)], [.ref x_scr, .int (xs ((i + 1)).toNatClampNeg), .ref 75], h, 98, 10728)) lr_1403 rfl ?_
  refine j_Lst (c' := (1405, [(3, .int i), (2, .ref 75), (1, .ref 0), (0, .ref x_scr)], [.int i, .ref x_scr, .int (xs ((i + 1)).toNatClampNeg), .ref 75], h, 98, 10728)) lr_1404 rfl ?_
  refine j_Lst (c' := (1406, [(3, .int i), (2, .ref 75), (1, .ref 0), (0, .ref x_scr)], [.int 2, .int i, .ref x_scr, .int (xs ((i + 1)).toNatClampNeg), .ref 75], h, 98, 10728)) lr_1405 rfl ?_
  refine j_Lst (c' := (1407, [(3, .int i), (2, .ref 75), (1, .ref 0), (0, .ref x_scr)], [.int (i + 2), .ref x_scr, .int (xs ((i + 1)).toNatClampNeg), .ref 75], h, 98, 10728)) lr_1406 rfl ?_
  refine j_Lsl (c' := (1408, [(3, .int i), (2, .ref 75), (1, .ref 0), (0, .ref x_scr)], [.int (xs ((i + 2)).toNatClampNeg), .int (xs ((i + 1)).toNatClampNeg), .ref 75], h, 98, 10728)) lr_1407 rfl h2 ?_
  exact kk

set_option maxRecDepth 100000 in
theorem x_c38d (h : xH) (L : Nat) (xs : Nat → Int32) (i : Int32) (h0 : ¬ (i < 0 ∨ L ≤ (i).toNatClampNeg)) (h1 : ¬ (i + 1 < 0 ∨ L ≤ (i + 1).toNatClampNeg)) (h2 : ¬ (i + 2 < 0 ∨ L ≤ (i + 2).toNatClampNeg)) (h3 : ¬ (i + 3 < 0 ∨ L ≤ (i + 3).toNatClampNeg)) (h4 : ¬ (i + 4 < 0 ∨ L ≤ (i + 4).toNatClampNeg)) (h5 : ¬ (i + 5 < 0 ∨ L ≤ (i + 5).toNatClampNeg)) (w : Int32) {P : Option Value × xH × Nat × Nat → Prop} (kk : x_R x_mt (some (L, xs)) 10 M_law (18, [(3, .int (i + Int32.ofInt (6))), (2, .ref 75), (1, .ref 0), (0, .ref x_scr)], [], h, 98, 10728) P) : x_R x_mt (some (L, xs)) 10 M_law (1411, [(3, .int i), (2, .ref 75), (1, .ref 0), (0, .ref x_scr)], [.int w], h, 98, 10728) P := by
  refine j_Lst (c' := (1412, [(3, .int i), (2, .ref 75), (1, .ref 0), (0, .ref x_scr)], [], h, 98, 10728)) lr_1411 rfl ?_
  refine j_Lst (c' := (2368, [(3, .int i), (2, .ref 75), (1, .ref 0), (0, .ref x_scr)], [], h, 98, 10728)) lr_1412 rfl ?_
  refine j_Lst (c' := (2371, [(3, .int (i + Int32.ofInt (6))), (2, .ref 75), (1, .ref 0), (0, .ref x_scr)], [], h, 98, 10728)) lr_2368 rfl ?_
  refine j_Lst (c' := (18, [(3, .int (i + Int32.ofInt (6))), (2, .ref 75), (1, .ref 0), (0, .ref x_scr)], [], h, 98, 10728)) lr_2371 rfl ?_
  exact kk

set_option maxRecDepth 100000 in
theorem x_c39a (h : xH) (L : Nat) (xs : Nat → Int32) (i : Int32) (h0 : ¬ (i < 0 ∨ L ≤ (i).toNatClampNeg)) (h1 : ¬ (i + 1 < 0 ∨ L ≤ (i + 1).toNatClampNeg)) (h2 : ¬ (i + 2 < 0 ∨ L ≤ (i + 2).toNatClampNeg)) (h3 : ¬ (i + 3 < 0 ∨ L ≤ (i + 3).toNatClampNeg)) (h4 : ¬ (i + 4 < 0 ∨ L ≤ (i + 4).toNatClampNeg)) (h5 : ¬ (i + 5 < 0 ∨ L ≤ (i + 5).toNatClampNeg)) {P : Option Value × xH × Nat × Nat → Prop} (kk : x_R x_mt (some (L, xs)) 10 M_law (1421, [(3, .int i), (2, .ref 75), (1, .ref 0), (0, .ref x_scr)], [.int (xs ((i + 1)).toNatClampNeg), .ref 0], h, 98, 10728) P) : x_R x_mt (some (L, xs)) 10 M_law (1415, [(3, .int i), (2, .ref 75), (1, .ref 0), (0, .ref x_scr)], [], h, 98, 10728) P := by
  refine j_Lst (c' := (1416, [(3, .int i), (2, .ref 75), (1, .ref 0), (0, .ref x_scr)], [.ref 0], h, 98, 10728)) lr_1415 rfl ?_
  refine j_Lst (c' := (1417, [(3, .int i), (2, .ref 75), (1, .ref 0), (0, .ref x_scr)], [.ref x_scr, .ref 0], h, 98, 10728)) lr_1416 rfl ?_
  refine j_Lst (c' := (1418, [(3, .int i), (2, .ref 75), (1, .ref 0), (0, .ref x_scr)], [.int i, .ref x_scr, .ref 0], h, 98, 10728)) lr_1417 rfl ?_
  refine j_Lst (c' := (1419, [(3, .int i), (2, .ref 75), (1, .ref 0), (0, .ref x_scr)], [.int 1, .int i, .ref x_scr, .ref 0], h, 98, 10728)) lr_1418 rfl ?_
  refine j_Lst (c' := (1420, [(3, .int i), (2, .ref 75), (1, .ref 0), (0, .ref x_scr)], [.int (i + 1), .ref x_scr, .ref 0], h, 98, 10728)) lr_1419 rfl ?_
  refine j_Lsl (c' := (1421, [(3, .int i), (2, .ref 75), (1, .ref 0), (0, .ref x_scr)], [.int (xs ((i + 1)).toNatClampNeg), .ref 0], h, 98, 10728)) lr_1420 rfl h1 ?_
  exact kk

set_option maxRecDepth 100000 in
theorem x_c39b (h : xH) (L : Nat) (xs : Nat → Int32) (i : Int32) (h0 : ¬ (i < 0 ∨ L ≤ (i).toNatClampNeg)) (h1 : ¬ (i + 1 < 0 ∨ L ≤ (i + 1).toNatClampNeg)) (h2 : ¬ (i + 2 < 0 ∨ L ≤ (i + 2).toNatClampNeg)) (h3 : ¬ (i + 3 < 0 ∨ L ≤ (i + 3).toNatClampNeg)) (h4 : ¬ (i + 4 < 0 ∨ L ≤ (i + 4).toNatClampNeg)) (h5 : ¬ (i + 5 < 0 ∨ L ≤ (i + 5).toNatClampNeg)) (v : Int32) {P : Option Value × xH × Nat × Nat → Prop} (kk : x_R x_mt (some (L, xs)) 10 M_law (1431, [(3, .int i), (2, .ref 75), (1, .ref 0), (0, .ref x_scr)], [.int (xs ((i + 1)).toNatClampNeg), .ref 75], h, 98, 10728) P) : x_R x_mt (some (L, xs)) 10 M_law (1424, [(3, .int i), (2, .ref 75), (1, .ref 0), (0, .ref x_scr)], [.int v], h, 98, 10728) P := by
  refine j_Lst (c' := (1425, [(3, .int i), (2, .ref 75), (1, .ref 0), (0, .ref x_scr)], [], h, 98, 10728)) lr_1424 rfl ?_
  refine j_Lst (c' := (1426, [(3, .int i), (2, .ref 75), (1, .ref 0), (0, .ref x_scr)], [.ref 75], h, 98, 10728)) lr_1425 rfl ?_
  refine j_Lst (c' := (1427, [(3, .int i), (2, .ref 75), (1, .ref 0), (0, .ref x_scr)], [.ref x_scr, .ref 75], h, 98, 10728)) lr_1426 rfl ?_
  refine j_Lst (c' := (1428, [(3, .int i), (2, .ref 75), (1, .ref 0), (0, .ref x_scr)], [.int i, .ref x_scr, .ref 75], h, 98, 10728)) lr_1427 rfl ?_
  refine j_Lst (c' := (1429, [(3, .int i), (2, .ref 75), (1, .ref 0), (0, .ref x_scr)], [.int 1, .int i, .ref x_scr, .ref 75], h, 98, 10728)) lr_1428 rfl ?_
  refine j_Lst (c' := (1430, [(3, .int i), (2, .ref 75), (1, .ref 0), (0, .ref x_scr)], [.int (i + 1), .ref x_scr, .ref 75], h, 98, 10728)) lr_1429 rfl ?_
  refine j_Lsl (c' := (1431, [(3, .int i), (2, .ref 75), (1, .ref 0), (0, .ref x_scr)], [.int (xs ((i + 1)).toNatClampNeg), .ref 75], h, 98, 10728)) lr_1430 rfl h1 ?_
  exact kk

set_option maxRecDepth 100000 in
theorem x_c39d (h : xH) (L : Nat) (xs : Nat → Int32) (i : Int32) (h0 : ¬ (i < 0 ∨ L ≤ (i).toNatClampNeg)) (h1 : ¬ (i + 1 < 0 ∨ L ≤ (i + 1).toNatClampNeg)) (h2 : ¬ (i + 2 < 0 ∨ L ≤ (i + 2).toNatClampNeg)) (h3 : ¬ (i + 3 < 0 ∨ L ≤ (i + 3).toNatClampNeg)) (h4 : ¬ (i + 4 < 0 ∨ L ≤ (i + 4).toNatClampNeg)) (h5 : ¬ (i + 5 < 0 ∨ L ≤ (i + 5).toNatClampNeg)) (w : Int32) {P : Option Value × xH × Nat × Nat → Prop} (kk : x_R x_mt (some (L, xs)) 10 M_law (18, [(3, .int (i + Int32.ofInt (6))), (2, .ref 75), (1, .ref 0), (0, .ref x_scr)], [], h, 98, 10728) P) : x_R x_mt (some (L, xs)) 10 M_law (1434, [(3, .int i), (2, .ref 75), (1, .ref 0), (0, .ref x_scr)], [.int w], h, 98, 10728) P := by
  refine j_Lst (c' := (1435, [(3, .int i), (2, .ref 75), (1, .ref 0), (0, .ref x_scr)], [], h, 98, 10728)) lr_1434 rfl ?_
  refine j_Lst (c' := (2368, [(3, .int i), (2, .ref 75), (1, .ref 0), (0, .ref x_scr)], [], h, 98, 10728)) lr_1435 rfl ?_
  refine j_Lst (c' := (2371, [(3, .int (i + Int32.ofInt (6))), (2, .ref 75), (1, .ref 0), (0, .ref x_scr)], [], h, 98, 10728)) lr_2368 rfl ?_
  refine j_Lst (c' := (18, [(3, .int (i + Int32.ofInt (6))), (2, .ref 75), (1, .ref 0), (0, .ref x_scr)], [], h, 98, 10728)) lr_2371 rfl ?_
  exact kk

set_option maxRecDepth 100000 in
theorem x_c40a (h : xH) (L : Nat) (xs : Nat → Int32) (i : Int32) (h0 : ¬ (i < 0 ∨ L ≤ (i).toNatClampNeg)) (h1 : ¬ (i + 1 < 0 ∨ L ≤ (i + 1).toNatClampNeg)) (h2 : ¬ (i + 2 < 0 ∨ L ≤ (i + 2).toNatClampNeg)) (h3 : ¬ (i + 3 < 0 ∨ L ≤ (i + 3).toNatClampNeg)) (h4 : ¬ (i + 4 < 0 ∨ L ≤ (i + 4).toNatClampNeg)) (h5 : ¬ (i + 5 < 0 ∨ L ≤ (i + 5).toNatClampNeg)) {P : Option Value × xH × Nat × Nat → Prop} (kk : x_R x_mt (some (L, xs)) 10 M_law (1444, [(3, .int i), (2, .ref 75), (1, .ref 0), (0, .ref x_scr)], [.int (xs ((i + 1)).toNatClampNeg), .ref 0], h, 98, 10728) P) : x_R x_mt (some (L, xs)) 10 M_law (1438, [(3, .int i), (2, .ref 75), (1, .ref 0), (0, .ref x_scr)], [], h, 98, 10728) P := by
  refine j_Lst (c' := (1439, [(3, .int i), (2, .ref 75), (1, .ref 0), (0, .ref x_scr)], [.ref 0], h, 98, 10728)) lr_1438 rfl ?_
  refine j_Lst (c' := (1440, [(3, .int i), (2, .ref 75), (1, .ref 0), (0, .ref x_scr)], [.ref x_scr, .ref 0], h, 98, 10728)) lr_1439 rfl ?_
  refine j_Lst (c' := (1441, [(3, .int i), (2, .ref 75), (1, .ref 0), (0, .ref x_scr)], [.int i, .ref x_scr, .ref 0], h, 98, 10728)) lr_1440 rfl ?_
  refine j_Lst (c' := (1442, [(3, .int i), (2, .ref 75), (1, .ref 0), (0, .ref x_scr)], [.int 1, .int i, .ref x_scr, .ref 0], h, 98, 10728)) lr_1441 rfl ?_
  refine j_Lst (c' := (1443, [(3, .int i), (2, .ref 75), (1, .ref 0), (0, .ref x_scr)], [.int (i + 1), .ref x_scr, .ref 0], h, 98, 10728)) lr_1442 rfl ?_
  refine j_Lsl (c' := (1444, [(3, .int i), (2, .ref 75), (1, .ref 0), (0, .ref x_scr)], [.int (xs ((i + 1)).toNatClampNeg), .ref 0], h, 98, 10728)) lr_1443 rfl h1 ?_
  exact kk

set_option maxRecDepth 100000 in
theorem x_c40b (h : xH) (L : Nat) (xs : Nat → Int32) (i : Int32) (h0 : ¬ (i < 0 ∨ L ≤ (i).toNatClampNeg)) (h1 : ¬ (i + 1 < 0 ∨ L ≤ (i + 1).toNatClampNeg)) (h2 : ¬ (i + 2 < 0 ∨ L ≤ (i + 2).toNatClampNeg)) (h3 : ¬ (i + 3 < 0 ∨ L ≤ (i + 3).toNatClampNeg)) (h4 : ¬ (i + 4 < 0 ∨ L ≤ (i + 4).toNatClampNeg)) (h5 : ¬ (i + 5 < 0 ∨ L ≤ (i + 5).toNatClampNeg)) (v : Int32) {P : Option Value × xH × Nat × Nat → Prop} (kk : x_R x_mt (some (L, xs)) 10 M_law (1454, [(3, .int i), (2, .ref 75), (1, .ref 0), (0, .ref x_scr)], [.int (xs ((i + 1)).toNatClampNeg), .ref 75], h, 98, 10728) P) : x_R x_mt (some (L, xs)) 10 M_law (1447, [(3, .int i), (2, .ref 75), (1, .ref 0), (0, .ref x_scr)], [.int v], h, 98, 10728) P := by
  refine j_Lst (c' := (1448, [(3, .int i), (2, .ref 75), (1, .ref 0), (0, .ref x_scr)], [], h, 98, 10728)) lr_1447 rfl ?_
  refine j_Lst (c' := (1449, [(3, .int i), (2, .ref 75), (1, .ref 0), (0, .ref x_scr)], [.ref 75], h, 98, 10728)) lr_1448 rfl ?_
  refine j_Lst (c' := (1450, [(3, .int i), (2, .ref 75), (1, .ref 0), (0, .ref x_scr)], [.ref x_scr, .ref 75], h, 98, 10728)) lr_1449 rfl ?_
  refine j_Lst (c' := (1451, [(3, .int i), (2, .ref 75), (1, .ref 0), (0, .ref x_scr)], [.int i, .ref x_scr, .ref 75], h, 98, 10728)) lr_1450 rfl ?_
  refine j_Lst (c' := (1452, [(3, .int i), (2, .ref 75), (1, .ref 0), (0, .ref x_scr)], [.int 1, .int i, .ref x_scr, .ref 75], h, 98, 10728)) lr_1451 rfl ?_
  refine j_Lst (c' := (1453, [(3, .int i), (2, .ref 75), (1, .ref 0), (0, .ref x_scr)], [.int (i + 1), .ref x_scr, .ref 75], h, 98, 10728)) lr_1452 rfl ?_
  refine j_Lsl (c' := (1454, [(3, .int i), (2, .ref 75), (1, .ref 0), (0, .ref x_scr)], [.int (xs ((i + 1)).toNatClampNeg), .ref 75], h, 98, 10728)) lr_1453 rfl h1 ?_
  exact kk

set_option maxRecDepth 100000 in
theorem x_c40d (h : xH) (L : Nat) (xs : Nat → Int32) (i : Int32) (h0 : ¬ (i < 0 ∨ L ≤ (i).toNatClampNeg)) (h1 : ¬ (i + 1 < 0 ∨ L ≤ (i + 1).toNatClampNeg)) (h2 : ¬ (i + 2 < 0 ∨ L ≤ (i + 2).toNatClampNeg)) (h3 : ¬ (i + 3 < 0 ∨ L ≤ (i + 3).toNatClampNeg)) (h4 : ¬ (i + 4 < 0 ∨ L ≤ (i + 4).toNatClampNeg)) (h5 : ¬ (i + 5 < 0 ∨ L ≤ (i + 5).toNatClampNeg)) (w : Int32) {P : Option Value × xH × Nat × Nat → Prop} (kk : x_R x_mt (some (L, xs)) 10 M_law (18, [(3, .int (i + Int32.ofInt (6))), (2, .ref 75), (1, .ref 0), (0, .ref x_scr)], [], h, 98, 10728) P) : x_R x_mt (some (L, xs)) 10 M_law (1457, [(3, .int i), (2, .ref 75), (1, .ref 0), (0, .ref x_scr)], [.int w], h, 98, 10728) P := by
  refine j_Lst (c' := (1458, [(3, .int i), (2, .ref 75), (1, .ref 0), (0, .ref x_scr)], [], h, 98, 10728)) lr_1457 rfl ?_
  refine j_Lst (c' := (2368, [(3, .int i), (2, .ref 75), (1, .ref 0), (0, .ref x_scr)], [], h, 98, 10728)) lr_1458 rfl ?_
  refine j_Lst (c' := (2371, [(3, .int (i + Int32.ofInt (6))), (2, .ref 75), (1, .ref 0), (0, .ref x_scr)], [], h, 98, 10728)) lr_2368 rfl ?_
  refine j_Lst (c' := (18, [(3, .int (i + Int32.ofInt (6))), (2, .ref 75), (1, .ref 0), (0, .ref x_scr)], [], h, 98, 10728)) lr_2371 rfl ?_
  exact kk

set_option maxRecDepth 100000 in
theorem x_c41a (h : xH) (L : Nat) (xs : Nat → Int32) (i : Int32) (h0 : ¬ (i < 0 ∨ L ≤ (i).toNatClampNeg)) (h1 : ¬ (i + 1 < 0 ∨ L ≤ (i + 1).toNatClampNeg)) (h2 : ¬ (i + 2 < 0 ∨ L ≤ (i + 2).toNatClampNeg)) (h3 : ¬ (i + 3 < 0 ∨ L ≤ (i + 3).toNatClampNeg)) (h4 : ¬ (i + 4 < 0 ∨ L ≤ (i + 4).toNatClampNeg)) (h5 : ¬ (i + 5 < 0 ∨ L ≤ (i + 5).toNatClampNeg)) {P : Option Value × xH × Nat × Nat → Prop} (kk : x_R x_mt (some (L, xs)) 10 M_law (1462, [(3, .int i), (2, .ref 75), (1, .ref 0), (0, .ref x_scr)], [.ref 0], h, 98, 10728) P) : x_R x_mt (some (L, xs)) 10 M_law (1461, [(3, .int i), (2, .ref 75), (1, .ref 0), (0, .ref x_scr)], [], h, 98, 10728) P := by
  refine j_Lst (c' := (1462, [(3, .int i), (2, .ref 75), (1, .ref 0), (0, .ref x_scr)], [.ref 0], h, 98, 10728)) lr_1461 rfl ?_
  exact kk

set_option maxRecDepth 100000 in
theorem x_c41b (h : xH) (L : Nat) (xs : Nat → Int32) (i : Int32) (h0 : ¬ (i < 0 ∨ L ≤ (i).toNatClampNeg)) (h1 : ¬ (i + 1 < 0 ∨ L ≤ (i + 1).toNatClampNeg)) (h2 : ¬ (i + 2 < 0 ∨ L ≤ (i + 2).toNatClampNeg)) (h3 : ¬ (i + 3 < 0 ∨ L ≤ (i + 3).toNatClampNeg)) (h4 : ¬ (i + 4 < 0 ∨ L ≤ (i + 4).toNatClampNeg)) (h5 : ¬ (i + 5 < 0 ∨ L ≤ (i + 5).toNatClampNeg)) (v : Int32) {P : Option Value × xH × Nat × Nat → Prop} (kk : x_R x_mt (some (L, xs)) 10 M_law (1467, [(3, .int i), (2, .ref 75), (1, .ref 0), (0, .ref x_scr)], [.ref 75], h, 98, 10728) P) : x_R x_mt (some (L, xs)) 10 M_law (1465, [(3, .int i), (2, .ref 75), (1, .ref 0), (0, .ref x_scr)], [.int v], h, 98, 10728) P := by
  refine j_Lst (c' := (1466, [(3, .int i), (2, .ref 75), (1, .ref 0), (0, .ref x_scr)], [], h, 98, 10728)) lr_1465 rfl ?_
  refine j_Lst (c' := (1467, [(3, .int i), (2, .ref 75), (1, .ref 0), (0, .ref x_scr)], [.ref 75], h, 98, 10728)) lr_1466 rfl ?_
  exact kk

set_option maxRecDepth 100000 in
theorem x_c41d (h : xH) (L : Nat) (xs : Nat → Int32) (i : Int32) (h0 : ¬ (i < 0 ∨ L ≤ (i).toNatClampNeg)) (h1 : ¬ (i + 1 < 0 ∨ L ≤ (i + 1).toNatClampNeg)) (h2 : ¬ (i + 2 < 0 ∨ L ≤ (i + 2).toNatClampNeg)) (h3 : ¬ (i + 3 < 0 ∨ L ≤ (i + 3).toNatClampNeg)) (h4 : ¬ (i + 4 < 0 ∨ L ≤ (i + 4).toNatClampNeg)) (h5 : ¬ (i + 5 < 0 ∨ L ≤ (i + 5).toNatClampNeg)) (w : Int32) {P : Option Value × xH × Nat × Nat → Prop} (kk : x_R x_mt (some (L, xs)) 10 M_law (18, [(3, .int (i + Int32.ofInt (6))), (2, .ref 75), (1, .ref 0), (0, .ref x_scr)], [], h, 98, 10728) P) : x_R x_mt (some (L, xs)) 10 M_law (1470, [(3, .int i), (2, .ref 75), (1, .ref 0), (0, .ref x_scr)], [.int w], h, 98, 10728) P := by
  refine j_Lst (c' := (1471, [(3, .int i), (2, .ref 75), (1, .ref 0), (0, .ref x_scr)], [], h, 98, 10728)) lr_1470 rfl ?_
  refine j_Lst (c' := (2368, [(3, .int i), (2, .ref 75), (1, .ref 0), (0, .ref x_scr)], [], h, 98, 10728)) lr_1471 rfl ?_
  refine j_Lst (c' := (2371, [(3, .int (i + Int32.ofInt (6))), (2, .ref 75), (1, .ref 0), (0, .ref x_scr)], [], h, 98, 10728)) lr_2368 rfl ?_
  refine j_Lst (c' := (18, [(3, .int (i + Int32.ofInt (6))), (2, .ref 75), (1, .ref 0), (0, .ref x_scr)], [], h, 98, 10728)) lr_2371 rfl ?_
  exact kk

set_option maxRecDepth 100000 in
theorem x_c42a (h : xH) (L : Nat) (xs : Nat → Int32) (i : Int32) (h0 : ¬ (i < 0 ∨ L ≤ (i).toNatClampNeg)) (h1 : ¬ (i + 1 < 0 ∨ L ≤ (i + 1).toNatClampNeg)) (h2 : ¬ (i + 2 < 0 ∨ L ≤ (i + 2).toNatClampNeg)) (h3 : ¬ (i + 3 < 0 ∨ L ≤ (i + 3).toNatClampNeg)) (h4 : ¬ (i + 4 < 0 ∨ L ≤ (i + 4).toNatClampNeg)) (h5 : ¬ (i + 5 < 0 ∨ L ≤ (i + 5).toNatClampNeg)) {P : Option Value × xH × Nat × Nat → Prop} (kk : x_R x_mt (some (L, xs)) 10 M_law (1480, [(3, .int i), (2, .ref 75), (1, .ref 0), (0, .ref x_scr)], [.int (xs ((i + 1)).toNatClampNeg), .ref 0], h, 98, 10728) P) : x_R x_mt (some (L, xs)) 10 M_law (1474, [(3, .int i), (2, .ref 75), (1, .ref 0), (0, .ref x_scr)], [], h, 98, 10728) P := by
  refine j_Lst (c' := (1475, [(3, .int i), (2, .ref 75), (1, .ref 0), (0, .ref x_scr)], [.ref 0], h, 98, 10728)) lr_1474 rfl ?_
  refine j_Lst (c' := (1476, [(3, .int i), (2, .ref 75), (1, .ref 0), (0, .ref x_scr)], [.ref x_scr, .ref 0], h, 98, 10728)) lr_1475 rfl ?_
  refine j_Lst (c' := (1477, [(3, .int i), (2, .ref 75), (1, .ref 0), (0, .ref x_scr)], [.int i, .ref x_scr, .ref 0], h, 98, 10728)) lr_1476 rfl ?_
  refine j_Lst (c' := (1478, [(3, .int i), (2, .ref 75), (1, .ref 0), (0, .ref x_scr)], [.int 1, .int i, .ref x_scr, .ref 0], h, 98, 10728)) lr_1477 rfl ?_
  refine j_Lst (c' := (1479, [(3, .int i), (2, .ref 75), (1, .ref 0), (0, .ref x_scr)], [.int (i + 1), .ref x_scr, .ref 0], h, 98, 10728)) lr_1478 rfl ?_
  refine j_Lsl (c' := (1480, [(3, .int i), (2, .ref 75), (1, .ref 0), (0, .ref x_scr)], [.int (xs ((i + 1)).toNatClampNeg), .ref 0], h, 98, 10728)) lr_1479 rfl h1 ?_
  exact kk

set_option maxRecDepth 100000 in
theorem x_c42b (h : xH) (L : Nat) (xs : Nat → Int32) (i : Int32) (h0 : ¬ (i < 0 ∨ L ≤ (i).toNatClampNeg)) (h1 : ¬ (i + 1 < 0 ∨ L ≤ (i + 1).toNatClampNeg)) (h2 : ¬ (i + 2 < 0 ∨ L ≤ (i + 2).toNatClampNeg)) (h3 : ¬ (i + 3 < 0 ∨ L ≤ (i + 3).toNatClampNeg)) (h4 : ¬ (i + 4 < 0 ∨ L ≤ (i + 4).toNatClampNeg)) (h5 : ¬ (i + 5 < 0 ∨ L ≤ (i + 5).toNatClampNeg)) (v : Int32) {P : Option Value × xH × Nat × Nat → Prop} (kk : x_R x_mt (some (L, xs)) 10 M_law (1490, [(3, .int i), (2, .ref 75), (1, .ref 0), (0, .ref x_scr)], [.int (xs ((i + 1)).toNatClampNeg), .ref 75], h, 98, 10728) P) : x_R x_mt (some (L, xs)) 10 M_law (1483, [(3, .int i), (2, .ref 75), (1, .ref 0), (0, .ref x_scr)], [.int v], h, 98, 10728) P := by
  refine j_Lst (c' := (1484, [(3, .int i), (2, .ref 75), (1, .ref 0), (0, .ref x_scr)], [], h, 98, 10728)) lr_1483 rfl ?_
  refine j_Lst (c' := (1485, [(3, .int i), (2, .ref 75), (1, .ref 0), (0, .ref x_scr)], [.ref 75], h, 98, 10728)) lr_1484 rfl ?_
  refine j_Lst (c' := (1486, [(3, .int i), (2, .ref 75), (1, .ref 0), (0, .ref x_scr)], [.ref x_scr, .ref 75], h, 98, 10728)) lr_1485 rfl ?_
  refine j_Lst (c' := (1487, [(3, .int i), (2, .ref 75), (1, .ref 0), (0, .ref x_scr)], [.int i, .ref x_scr, .ref 75], h, 98, 10728)) lr_1486 rfl ?_
  refine j_Lst (c' := (1488, [(3, .int i), (2, .ref 75), (1, .ref 0), (0, .ref x_scr)], [.int 1, .int i, .ref x_scr, .ref 75], h, 98, 10728)) lr_1487 rfl ?_
  refine j_Lst (c' := (1489, [(3, .int i), (2, .ref 75), (1, .ref 0), (0, .ref x_scr)], [.int (i + 1), .ref x_scr, .ref 75], h, 98, 10728)) lr_1488 rfl ?_
  refine j_Lsl (c' := (1490, [(3, .int i), (2, .ref 75), (1, .ref 0), (0, .ref x_scr)], [.int (xs ((i + 1)).toNatClampNeg), .ref 75], h, 98, 10728)) lr_1489 rfl h1 ?_
  exact kk

set_option maxRecDepth 100000 in
theorem x_c42d (h : xH) (L : Nat) (xs : Nat → Int32) (i : Int32) (h0 : ¬ (i < 0 ∨ L ≤ (i).toNatClampNeg)) (h1 : ¬ (i + 1 < 0 ∨ L ≤ (i + 1).toNatClampNeg)) (h2 : ¬ (i + 2 < 0 ∨ L ≤ (i + 2).toNatClampNeg)) (h3 : ¬ (i + 3 < 0 ∨ L ≤ (i + 3).toNatClampNeg)) (h4 : ¬ (i + 4 < 0 ∨ L ≤ (i + 4).toNatClampNeg)) (h5 : ¬ (i + 5 < 0 ∨ L ≤ (i + 5).toNatClampNeg)) (w : Int32) {P : Option Value × xH × Nat × Nat → Prop} (kk : x_R x_mt (some (L, xs)) 10 M_law (18, [(3, .int (i + Int32.ofInt (6))), (2, .ref 75), (1, .ref 0), (0, .ref x_scr)], [], h, 98, 10728) P) : x_R x_mt (some (L, xs)) 10 M_law (1493, [(3, .int i), (2, .ref 75), (1, .ref 0), (0, .ref x_scr)], [.int w], h, 98, 10728) P := by
  refine j_Lst (c' := (1494, [(3, .int i), (2, .ref 75), (1, .ref 0), (0, .ref x_scr)], [], h, 98, 10728)) lr_1493 rfl ?_
  refine j_Lst (c' := (2368, [(3, .int i), (2, .ref 75), (1, .ref 0), (0, .ref x_scr)], [], h, 98, 10728)) lr_1494 rfl ?_
  refine j_Lst (c' := (2371, [(3, .int (i + Int32.ofInt (6))), (2, .ref 75), (1, .ref 0), (0, .ref x_scr)], [], h, 98, 10728)) lr_2368 rfl ?_
  refine j_Lst (c' := (18, [(3, .int (i + Int32.ofInt (6))), (2, .ref 75), (1, .ref 0), (0, .ref x_scr)], [], h, 98, 10728)) lr_2371 rfl ?_
  exact kk

set_option maxRecDepth 100000 in
theorem x_c43a (h : xH) (L : Nat) (xs : Nat → Int32) (i : Int32) (h0 : ¬ (i < 0 ∨ L ≤ (i).toNatClampNeg)) (h1 : ¬ (i + 1 < 0 ∨ L ≤ (i + 1).toNatClampNeg)) (h2 : ¬ (i + 2 < 0 ∨ L ≤ (i + 2).toNatClampNeg)) (h3 : ¬ (i + 3 < 0 ∨ L ≤ (i + 3).toNatClampNeg)) (h4 : ¬ (i + 4 < 0 ∨ L ≤ (i + 4).toNatClampNeg)) (h5 : ¬ (i + 5 < 0 ∨ L ≤ (i + 5).toNatClampNeg)) {P : Option Value × xH × Nat × Nat → Prop} (kk : x_R x_mt (some (L, xs)) 10 M_law (1508, [(3, .int i), (2, .ref 75), (1, .ref 0), (0, .ref x_scr)], [.int (xs ((i + 2)).toNatClampNeg), .int (xs ((i + 1)).toNatClampNeg), .ref 0], h, 98, 10728) P) : x_R x_mt (some (L, xs)) 10 M_law (1497, [(3, .int i), (2, .ref 75), (1, .ref 0), (0, .ref x_scr)], [], h, 98, 10728) P := by
  refine j_Lst (c' := (1498, [(3, .int i), (2, .ref 75), (1, .ref 0), (0, .ref x_scr)], [.ref 0], h, 98, 10728)) lr_1497 rfl ?_
  refine j_Lst (c' := (1499, [(3, .int i), (2, .ref 75), (1, .ref 0), (0, .ref x_scr)], [.ref x_scr, .ref 0], h, 98, 10728)) lr_1498 rfl ?_
  refine j_Lst (c' := (1500, [(3, .int i), (2, .ref 75), (1, .ref 0), (0, .ref x_scr)], [.int i, .ref x_scr, .ref 0], h, 98, 10728)) lr_1499 rfl ?_
  refine j_Lst (c' := (1501, [(3, .int i), (2, .ref 75), (1, .ref 0), (0, .ref x_scr)], [.int 1, .int i, .ref x_scr, .ref 0], h, 98, 10728)) lr_1500 rfl ?_
  refine j_Lst (c' := (1502, [(3, .int i), (2, .ref 75), (1, .ref 0), (0, .ref x_scr)], [.int (i + 1), .ref x_scr, .ref 0], h, 98, 10728)) lr_1501 rfl ?_
  refine j_Lsl (c' := (1503, [(3, .int i), (2, .ref 75), (1, .ref 0), (0, .ref x_scr)], [.int (xs ((i + 1)).toNatClampNeg), .ref 0], h, 98, 10728)) lr_1502 rfl h1 ?_
  refine j_Lst (c' := (1504, [(3, .int i), (2, .ref 75), (1, .ref 0), (0, .ref x_scr)], [.ref x_scr, .int (xs ((i + 1)).toNatClampNeg), .ref 0], h, 98, 10728)) lr_1503 rfl ?_
  refine j_Lst (c' := (1505, [(3, .int i), (2, .ref 75), (1, .ref 0), (0, .ref x_scr)], [.int i, .ref x_scr, .int (xs ((i + 1)).toNatClampNeg), .ref 0], h, 98, 10728)) lr_1504 rfl ?_
  refine j_Lst (c' := (1506, [(3, .int i), (2, .ref 75), (1, .ref 0), (0, .ref x_scr)], [.int 2, .int i, .ref x_scr, .int (xs ((i + 1)).toNatClampNeg), .ref 0], h, 98, 10728)) lr_1505 rfl ?_
  refine j_Lst (c' := (1507, [(3, .int i), (2, .ref 75), (1, .ref 0), (0, .ref x_scr)], [.int (i + 2), .ref x_scr, .int (xs ((i + 1)).toNatClampNeg), .ref 0], h, 98, 10728)) lr_1506 rfl ?_
  refine j_Lsl (c' := (1508, [(3, .int i), (2, .ref 75), (1, .ref 0), (0, .ref x_scr)], [.int (xs ((i + 2)).toNatClampNeg), .int (xs ((i + 1)).toNatClampNeg), .ref 0], h, 98, 10728)) lr_1507 rfl h2 ?_
  exact kk

set_option maxRecDepth 100000 in
theorem x_c43b (h : xH) (L : Nat) (xs : Nat → Int32) (i : Int32) (h0 : ¬ (i < 0 ∨ L ≤ (i).toNatClampNeg)) (h1 : ¬ (i + 1 < 0 ∨ L ≤ (i + 1).toNatClampNeg)) (h2 : ¬ (i + 2 < 0 ∨ L ≤ (i + 2).toNatClampNeg)) (h3 : ¬ (i + 3 < 0 ∨ L ≤ (i + 3).toNatClampNeg)) (h4 : ¬ (i + 4 < 0 ∨ L ≤ (i + 4).toNatClampNeg)) (h5 : ¬ (i + 5 < 0 ∨ L ≤ (i + 5).toNatClampNeg)) (v : Int32) {P : Option Value × xH × Nat × Nat → Prop} (kk : x_R x_mt (some (L, xs)) 10 M_law (1523, [(3, .int i), (2, .ref 75), (1, .ref 0), (0, .ref x_scr)], [.int (xs ((i + 2)).toNatClampNeg), .int (xs ((i + 1)).toNatClampNeg), .ref 75], h, 98, 10728) P) : x_R x_mt (some (L, xs)) 10 M_law (1511, [(3, .int i), (2, .ref 75), (1, .ref 0), (0, .ref x_scr)], [.int v], h, 98, 10728) P := by
  refine j_Lst (c' := (1512, [(3, .int i), (2, .ref 75), (1, .ref 0), (0, .ref x_scr)], [], h, 98, 10728)) lr_1511 rfl ?_
  refine j_Lst (c' := (1513, [(3, .int i), (2, .ref 75), (1, .ref 0), (0, .ref x_scr)], [.ref 75], h, 98, 10728)) lr_1512 rfl ?_
  refine j_Lst (c' := (1514, [(3, .int i), (2, .ref 75), (1, .ref 0), (0, .ref x_scr)], [.ref x_scr, .ref 75], h, 98, 10728)) lr_1513 rfl ?_
  refine j_Lst (c' := (1515, [(3, .int i), (2, .ref 75), (1, .ref 0), (0, .ref x_scr)], [.int i, .ref x_scr, .ref 75], h, 98, 10728)) lr_1514 rfl ?_
  refine j_Lst (c' := (1516, [(3, .int i), (2, .ref 75), (1, .ref 0), (0, .ref x_scr)], [.int 1, .int i, .ref x_scr, .ref 75], h, 98, 10728)) lr_1515 rfl ?_
  refine j_Lst (c' := (1517, [(3, .int i), (2, .ref 75), (1, .ref 0), (0, .ref x_scr)], [.int (i + 1), .ref x_scr, .ref 75], h, 98, 10728)) lr_1516 rfl ?_
  refine j_Lsl (c' := (1518, [(3, .int i), (2, .ref 75), (1, .ref 0), (0, .ref x_scr)], [.int (xs ((i + 1)).toNatClampNeg), .ref 75], h, 98, 10728)) lr_1517 rfl h1 ?_
  refine j_Lst (c' := (1519, [(3, .int i), (2, .ref 75), (1, .ref 0), (0, .ref x_scr)], [.ref x_scr, .int (xs ((i + 1)).toNatClampNeg), .ref 75], h, 98, 10728)) lr_1518 rfl ?_
  refine j_Lst (c' := (1520, [(3, .int i), (2, .ref 75), (1, .ref 0), (0, .ref x_scr)], [.int i, .ref x_scr, .int (xs ((i + 1)).toNatClampNeg), .ref 75], h, 98, 10728)) lr_1519 rfl ?_
  refine j_Lst (c' := (1521, [(3, .int i), (2, .ref 75), (1, .ref 0), (0, .ref x_scr)], [.int 2, .int i, .ref x_scr, .int (xs ((i + 1)).toNatClampNeg), .ref 75], h, 98, 10728)) lr_1520 rfl ?_
  refine j_Lst (c' := (1522, [(3, .int i), (2, .ref 75), (1, .ref 0), (0, .ref x_scr)], [.int (i + 2), .ref x_scr, .int (xs ((i + 1)).toNatClampNeg), .ref 75], h, 98, 10728)) lr_1521 rfl ?_
  refine j_Lsl (c' := (1523, [(3, .int i), (2, .ref 75), (1, .ref 0), (0, .ref x_scr)], [.int (xs ((i + 2)).toNatClampNeg), .int (xs ((i + 1)).toNatClampNeg), .ref 75], h, 98, 10728)) lr_1522 rfl h2 ?_
  exact kk

set_option maxRecDepth 100000 in
theorem x_c43d (h : xH) (L : Nat) (xs : Nat → Int32) (i : Int32) (h0 : ¬ (i < 0 ∨ L ≤ (i).toNatClampNeg)) (h1 : ¬ (i + 1 < 0 ∨ L ≤ (i + 1).toNatClampNeg)) (h2 : ¬ (i + 2 < 0 ∨ L ≤ (i + 2).toNatClampNeg)) (h3 : ¬ (i + 3 < 0 ∨ L ≤ (i + 3).toNatClampNeg)) (h4 : ¬ (i + 4 < 0 ∨ L ≤ (i + 4).toNatClampNeg)) (h5 : ¬ (i + 5 < 0 ∨ L ≤ (i + 5).toNatClampNeg)) (w : Int32) {P : Option Value × xH × Nat × Nat → Prop} (kk : x_R x_mt (some (L, xs)) 10 M_law (18, [(3, .int (i + Int32.ofInt (6))), (2, .ref 75), (1, .ref 0), (0, .ref x_scr)], [], h, 98, 10728) P) : x_R x_mt (some (L, xs)) 10 M_law (1526, [(3, .int i), (2, .ref 75), (1, .ref 0), (0, .ref x_scr)], [.int w], h, 98, 10728) P := by
  refine j_Lst (c' := (1527, [(3, .int i), (2, .ref 75), (1, .ref 0), (0, .ref x_scr)], [], h, 98, 10728)) lr_1526 rfl ?_
  refine j_Lst (c' := (2368, [(3, .int i), (2, .ref 75), (1, .ref 0), (0, .ref x_scr)], [], h, 98, 10728)) lr_1527 rfl ?_
  refine j_Lst (c' := (2371, [(3, .int (i + Int32.ofInt (6))), (2, .ref 75), (1, .ref 0), (0, .ref x_scr)], [], h, 98, 10728)) lr_2368 rfl ?_
  refine j_Lst (c' := (18, [(3, .int (i + Int32.ofInt (6))), (2, .ref 75), (1, .ref 0), (0, .ref x_scr)], [], h, 98, 10728)) lr_2371 rfl ?_
  exact kk

set_option maxRecDepth 100000 in
theorem x_c44a (h : xH) (L : Nat) (xs : Nat → Int32) (i : Int32) (h0 : ¬ (i < 0 ∨ L ≤ (i).toNatClampNeg)) (h1 : ¬ (i + 1 < 0 ∨ L ≤ (i + 1).toNatClampNeg)) (h2 : ¬ (i + 2 < 0 ∨ L ≤ (i + 2).toNatClampNeg)) (h3 : ¬ (i + 3 < 0 ∨ L ≤ (i + 3).toNatClampNeg)) (h4 : ¬ (i + 4 < 0 ∨ L ≤ (i + 4).toNatClampNeg)) (h5 : ¬ (i + 5 < 0 ∨ L ≤ (i + 5).toNatClampNeg)) {P : Option Value × xH × Nat × Nat → Prop} (kk : x_R x_mt (some (L, xs)) 10 M_law (1536, [(3, .int i), (2, .ref 75), (1, .ref 0), (0, .ref x_scr)], [.int (xs ((i + 1)).toNatClampNeg), .ref 0], h, 98, 10728) P) : x_R x_mt (some (L, xs)) 10 M_law (1530, [(3, .int i), (2, .ref 75), (1, .ref 0), (0, .ref x_scr)], [], h, 98, 10728) P := by
  refine j_Lst (c' := (1531, [(3, .int i), (2, .ref 75), (1, .ref 0), (0, .ref x_scr)], [.ref 0], h, 98, 10728)) lr_1530 rfl ?_
  refine j_Lst (c' := (1532, [(3, .int i), (2, .ref 75), (1, .ref 0), (0, .ref x_scr)], [.ref x_scr, .ref 0], h, 98, 10728)) lr_1531 rfl ?_
  refine j_Lst (c' := (1533, [(3, .int i), (2, .ref 75), (1, .ref 0), (0, .ref x_scr)], [.int i, .ref x_scr, .ref 0], h, 98, 10728)) lr_1532 rfl ?_
  refine j_Lst (c' := (1534, [(3, .int i), (2, .ref 75), (1, .ref 0), (0, .ref x_scr)], [.int 1, .int i, .ref x_scr, .ref 0], h, 98, 10728)) lr_1533 rfl ?_
  refine j_Lst (c' := (1535, [(3, .int i), (2, .ref 75), (1, .ref 0), (0, .ref x_scr)], [.int (i + 1), .ref x_scr, .ref 0], h, 98, 10728)) lr_1534 rfl ?_
  refine j_Lsl (c' := (1536, [(3, .int i), (2, .ref 75), (1, .ref 0), (0, .ref x_scr)], [.int (xs ((i + 1)).toNatClampNeg), .ref 0], h, 98, 10728)) lr_1535 rfl h1 ?_
  exact kk

set_option maxRecDepth 100000 in
theorem x_c44b (h : xH) (L : Nat) (xs : Nat → Int32) (i : Int32) (h0 : ¬ (i < 0 ∨ L ≤ (i).toNatClampNeg)) (h1 : ¬ (i + 1 < 0 ∨ L ≤ (i + 1).toNatClampNeg)) (h2 : ¬ (i + 2 < 0 ∨ L ≤ (i + 2).toNatClampNeg)) (h3 : ¬ (i + 3 < 0 ∨ L ≤ (i + 3).toNatClampNeg)) (h4 : ¬ (i + 4 < 0 ∨ L ≤ (i + 4).toNatClampNeg)) (h5 : ¬ (i + 5 < 0 ∨ L ≤ (i + 5).toNatClampNeg)) (v : Int32) {P : Option Value × xH × Nat × Nat → Prop} (kk : x_R x_mt (some (L, xs)) 10 M_law (1546, [(3, .int i), (2, .ref 75), (1, .ref 0), (0, .ref x_scr)], [.int (xs ((i + 1)).toNatClampNeg), .ref 75], h, 98, 10728) P) : x_R x_mt (some (L, xs)) 10 M_law (1539, [(3, .int i), (2, .ref 75), (1, .ref 0), (0, .ref x_scr)], [.int v], h, 98, 10728) P := by
  refine j_Lst (c' := (1540, [(3, .int i), (2, .ref 75), (1, .ref 0), (0, .ref x_scr)], [], h, 98, 10728)) lr_1539 rfl ?_
  refine j_Lst (c' := (1541, [(3, .int i), (2, .ref 75), (1, .ref 0), (0, .ref x_scr)], [.ref 75], h, 98, 10728)) lr_1540 rfl ?_
  refine j_Lst (c' := (1542, [(3, .int i), (2, .ref 75), (1, .ref 0), (0, .ref x_scr)], [.ref x_scr, .ref 75], h, 98, 10728)) lr_1541 rfl ?_
  refine j_Lst (c' := (1543, [(3, .int i), (2, .ref 75), (1, .ref 0), (0, .ref x_scr)], [.int i, .ref x_scr, .ref 75], h, 98, 10728)) lr_1542 rfl ?_
  refine j_Lst (c' := (1544, [(3, .int i), (2, .ref 75), (1, .ref 0), (0, .ref x_scr)], [.int 1, .int i, .ref x_scr, .ref 75], h, 98, 10728)) lr_1543 rfl ?_
  refine j_Lst (c' := (1545, [(3, .int i), (2, .ref 75), (1, .ref 0), (0, .ref x_scr)], [.int (i + 1), .ref x_scr, .ref 75], h, 98, 10728)) lr_1544 rfl ?_
  refine j_Lsl (c' := (1546, [(3, .int i), (2, .ref 75), (1, .ref 0), (0, .ref x_scr)], [.int (xs ((i + 1)).toNatClampNeg), .ref 75], h, 98, 10728)) lr_1545 rfl h1 ?_
  exact kk

set_option maxRecDepth 100000 in
theorem x_c44d (h : xH) (L : Nat) (xs : Nat → Int32) (i : Int32) (h0 : ¬ (i < 0 ∨ L ≤ (i).toNatClampNeg)) (h1 : ¬ (i + 1 < 0 ∨ L ≤ (i + 1).toNatClampNeg)) (h2 : ¬ (i + 2 < 0 ∨ L ≤ (i + 2).toNatClampNeg)) (h3 : ¬ (i + 3 < 0 ∨ L ≤ (i + 3).toNatClampNeg)) (h4 : ¬ (i + 4 < 0 ∨ L ≤ (i + 4).toNatClampNeg)) (h5 : ¬ (i + 5 < 0 ∨ L ≤ (i + 5).toNatClampNeg)) (w : Int32) {P : Option Value × xH × Nat × Nat → Prop} (kk : x_R x_mt (some (L, xs)) 10 M_law (18, [(3, .int (i + Int32.ofInt (6))), (2, .ref 75), (1, .ref 0), (0, .ref x_scr)], [], h, 98, 10728) P) : x_R x_mt (some (L, xs)) 10 M_law (1549, [(3, .int i), (2, .ref 75), (1, .ref 0), (0, .ref x_scr)], [.int w], h, 98, 10728) P := by
  refine j_Lst (c' := (1550, [(3, .int i), (2, .ref 75), (1, .ref 0), (0, .ref x_scr)], [], h, 98, 10728)) lr_1549 rfl ?_
  refine j_Lst (c' := (2368, [(3, .int i), (2, .ref 75), (1, .ref 0), (0, .ref x_scr)], [], h, 98, 10728)) lr_1550 rfl ?_
  refine j_Lst (c' := (2371, [(3, .int (i + Int32.ofInt (6))), (2, .ref 75), (1, .ref 0), (0, .ref x_scr)], [], h, 98, 10728)) lr_2368 rfl ?_
  refine j_Lst (c' := (18, [(3, .int (i + Int32.ofInt (6))), (2, .ref 75), (1, .ref 0), (0, .ref x_scr)], [], h, 98, 10728)) lr_2371 rfl ?_
  exact kk

set_option maxRecDepth 100000 in
theorem x_c45a (h : xH) (L : Nat) (xs : Nat → Int32) (i : Int32) (h0 : ¬ (i < 0 ∨ L ≤ (i).toNatClampNeg)) (h1 : ¬ (i + 1 < 0 ∨ L ≤ (i + 1).toNatClampNeg)) (h2 : ¬ (i + 2 < 0 ∨ L ≤ (i + 2).toNatClampNeg)) (h3 : ¬ (i + 3 < 0 ∨ L ≤ (i + 3).toNatClampNeg)) (h4 : ¬ (i + 4 < 0 ∨ L ≤ (i + 4).toNatClampNeg)) (h5 : ¬ (i + 5 < 0 ∨ L ≤ (i + 5).toNatClampNeg)) {P : Option Value × xH × Nat × Nat → Prop} (kk : x_R x_mt (some (L, xs)) 10 M_law (1569, [(3, .int i), (2, .ref 75), (1, .ref 0), (0, .ref x_scr)], [.int (xs ((i + 3)).toNatClampNeg), .int (xs ((i + 2)).toNatClampNeg), .int (xs ((i + 1)).toNatClampNeg), .ref 0], h, 98, 10728) P) : x_R x_mt (some (L, xs)) 10 M_law (1553, [(3, .int i), (2, .ref 75), (1, .ref 0), (0, .ref x_scr)], [], h, 98, 10728) P := by
  refine j_Lst (c' := (1554, [(3, .int i), (2, .ref 75), (1, .ref 0), (0, .ref x_scr)], [.ref 0], h, 98, 10728)) lr_1553 rfl ?_
  refine j_Lst (c' := (1555, [(3, .int i), (2, .ref 75), (1, .ref 0), (0, .ref x_scr)], [.ref x_scr, .ref 0], h, 98, 10728)) lr_1554 rfl ?_
  refine j_Lst (c' := (1556, [(3, .int i), (2, .ref 75), (1, .ref 0), (0, .ref x_scr)], [.int i, .ref x_scr, .ref 0], h, 98, 10728)) lr_1555 rfl ?_
  refine j_Lst (c' := (1557, [(3, .int i), (2, .ref 75), (1, .ref 0), (0, .ref x_scr)], [.int 1, .int i, .ref x_scr, .ref 0], h, 98, 10728)) lr_1556 rfl ?_
  refine j_Lst (c' := (1558, [(3, .int i), (2, .ref 75), (1, .ref 0), (0, .ref x_scr)], [.int (i + 1), .ref x_scr, .ref 0], h, 98, 10728)) lr_1557 rfl ?_
  refine j_Lsl (c' := (1559, [(3, .int i), (2, .ref 75), (1, .ref 0), (0, .ref x_scr)], [.int (xs ((i + 1)).toNatClampNeg), .ref 0], h, 98, 10728)) lr_1558 rfl h1 ?_
  refine j_Lst (c' := (1560, [(3, .int i), (2, .ref 75), (1, .ref 0), (0, .ref x_scr)], [.ref x_scr, .int (xs ((i + 1)).toNatClampNeg), .ref 0], h, 98, 10728)) lr_1559 rfl ?_
  refine j_Lst (c' := (1561, [(3, .int i), (2, .ref 75), (1, .ref 0), (0, .ref x_scr)], [.int i, .ref x_scr, .int (xs ((i + 1)).toNatClampNeg), .ref 0], h, 98, 10728)) lr_1560 rfl ?_
  refine j_Lst (c' := (1562, [(3, .int i), (2, .ref 75), (1, .ref 0), (0, .ref x_scr)], [.int 2, .int i, .ref x_scr, .int (xs ((i + 1)).toNatClampNeg), .ref 0], h, 98, 10728)) lr_1561 rfl ?_
  refine j_Lst (c' := (1563, [(3, .int i), (2, .ref 75), (1, .ref 0), (0, .ref x_scr)], [.int (i + 2), .ref x_scr, .int (xs ((i + 1)).toNatClampNeg), .ref 0], h, 98, 10728)) lr_1562 rfl ?_
  refine j_Lsl (c' := (1564, [(3, .int i), (2, .ref 75), (1, .ref 0), (0, .ref x_scr)], [.int (xs ((i + 2)).toNatClampNeg), .int (xs ((i + 1)).toNatClampNeg), .ref 0], h, 98, 10728)) lr_1563 rfl h2 ?_
  refine j_Lst (c' := (1565, [(3, .int i), (2, .ref 75), (1, .ref 0), (0, .ref x_scr)], [.ref x_scr, .int (xs ((i + 2)).toNatClampNeg), .int (xs ((i + 1)).toNatClampNeg), .ref 0], h, 98, 10728)) lr_1564 rfl ?_
  refine j_Lst (c' := (1566, [(3, .int i), (2, .ref 75), (1, .ref 0), (0, .ref x_scr)], [.int i, .ref x_scr, .int (xs ((i + 2)).toNatClampNeg), .int (xs ((i + 1)).toNatClampNeg), .ref 0], h, 98, 10728)) lr_1565 rfl ?_
  refine j_Lst (c' := (1567, [(3, .int i), (2, .ref 75), (1, .ref 0), (0, .ref x_scr)], [.int 3, .int i, .ref x_scr, .int (xs ((i + 2)).toNatClampNeg), .int (xs ((i + 1)).toNatClampNeg), .ref 0], h, 98, 10728)) lr_1566 rfl ?_
  refine j_Lst (c' := (1568, [(3, .int i), (2, .ref 75), (1, .ref 0), (0, .ref x_scr)], [.int (i + 3), .ref x_scr, .int (xs ((i + 2)).toNatClampNeg), .int (xs ((i + 1)).toNatClampNeg), .ref 0], h, 98, 10728)) lr_1567 rfl ?_
  refine j_Lsl (c' := (1569, [(3, .int i), (2, .ref 75), (1, .ref 0), (0, .ref x_scr)], [.int (xs ((i + 3)).toNatClampNeg), .int (xs ((i + 2)).toNatClampNeg), .int (xs ((i + 1)).toNatClampNeg), .ref 0], h, 98, 10728)) lr_1568 rfl h3 ?_
  exact kk

set_option maxRecDepth 100000 in
theorem x_c45b (h : xH) (L : Nat) (xs : Nat → Int32) (i : Int32) (h0 : ¬ (i < 0 ∨ L ≤ (i).toNatClampNeg)) (h1 : ¬ (i + 1 < 0 ∨ L ≤ (i + 1).toNatClampNeg)) (h2 : ¬ (i + 2 < 0 ∨ L ≤ (i + 2).toNatClampNeg)) (h3 : ¬ (i + 3 < 0 ∨ L ≤ (i + 3).toNatClampNeg)) (h4 : ¬ (i + 4 < 0 ∨ L ≤ (i + 4).toNatClampNeg)) (h5 : ¬ (i + 5 < 0 ∨ L ≤ (i + 5).toNatClampNeg)) (v : Int32) {P : Option Value × xH × Nat × Nat → Prop} (kk : x_R x_mt (some (L, xs)) 10 M_law (1589, [(3, .int i), (2, .ref 75), (1, .ref 0), (0, .ref x_scr)], [.int (xs ((i + 3)).toNatClampNeg), .int (xs ((i + 2)).toNatClampNeg), .int (xs ((i + 1)).toNatClampNeg), .ref 75], h, 98, 10728) P) : x_R x_mt (some (L, xs)) 10 M_law (1572, [(3, .int i), (2, .ref 75), (1, .ref 0), (0, .ref x_scr)], [.int v], h, 98, 10728) P := by
  refine j_Lst (c' := (1573, [(3, .int i), (2, .ref 75), (1, .ref 0), (0, .ref x_scr)], [], h, 98, 10728)) lr_1572 rfl ?_
  refine j_Lst (c' := (1574, [(3, .int i), (2, .ref 75), (1, .ref 0), (0, .ref x_scr)], [.ref 75], h, 98, 10728)) lr_1573 rfl ?_
  refine j_Lst (c' := (1575, [(3, .int i), (2, .ref 75), (1, .ref 0), (0, .ref x_scr)], [.ref x_scr, .ref 75], h, 98, 10728)) lr_1574 rfl ?_
  refine j_Lst (c' := (1576, [(3, .int i), (2, .ref 75), (1, .ref 0), (0, .ref x_scr)], [.int i, .ref x_scr, .ref 75], h, 98, 10728)) lr_1575 rfl ?_
  refine j_Lst (c' := (1577, [(3, .int i), (2, .ref 75), (1, .ref 0), (0, .ref x_scr)], [.int 1, .int i, .ref x_scr, .ref 75], h, 98, 10728)) lr_1576 rfl ?_
  refine j_Lst (c' := (1578, [(3, .int i), (2, .ref 75), (1, .ref 0), (0, .ref x_scr)], [.int (i + 1), .ref x_scr, .ref 75], h, 98, 10728)) lr_1577 rfl ?_
  refine j_Lsl (c' := (1579, [(3, .int i), (2, .ref 75), (1, .ref 0), (0, .ref x_scr)], [.int (xs ((i + 1)).toNatClampNeg), .ref 75], h, 98, 10728)) lr_1578 rfl h1 ?_
  refine j_Lst (c' := (1580, [(3, .int i), (2, .ref 75), (1, .ref 0), (0, .ref x_scr)], [.ref x_scr, .int (xs ((i + 1)).toNatClampNeg), .ref 75], h, 98, 10728)) lr_1579 rfl ?_
  refine j_Lst (c' := (1581, [(3, .int i), (2, .ref 75), (1, .ref 0), (0, .ref x_scr)], [.int i, .ref x_scr, .int (xs ((i + 1)).toNatClampNeg), .ref 75], h, 98, 10728)) lr_1580 rfl ?_
  refine j_Lst (c' := (1582, [(3, .int i), (2, .ref 75), (1, .ref 0), (0, .ref x_scr)], [.int 2, .int i, .ref x_scr, .int (xs ((i + 1)).toNatClampNeg), .ref 75], h, 98, 10728)) lr_1581 rfl ?_
  refine j_Lst (c' := (1583, [(3, .int i), (2, .ref 75), (1, .ref 0), (0, .ref x_scr)], [.int (i + 2), .ref x_scr, .int (xs ((i + 1)).toNatClampNeg), .ref 75], h, 98, 10728)) lr_1582 rfl ?_
  refine j_Lsl (c' := (1584, [(3, .int i), (2, .ref 75), (1, .ref 0), (0, .ref x_scr)], [.int (xs ((i + 2)).toNatClampNeg), .int (xs ((i + 1)).toNatClampNeg), .ref 75], h, 98, 10728)) lr_1583 rfl h2 ?_
  refine j_Lst (c' := (1585, [(3, .int i), (2, .ref 75), (1, .ref 0), (0, .ref x_scr)], [.ref x_scr, .int (xs ((i + 2)).toNatClampNeg), .int (xs ((i + 1)).toNatClampNeg), .ref 75], h, 98, 10728)) lr_1584 rfl ?_
  refine j_Lst (c' := (1586, [(3, .int i), (2, .ref 75), (1, .ref 0), (0, .ref x_scr)], [.int i, .ref x_scr, .int (xs ((i + 2)).toNatClampNeg), .int (xs ((i + 1)).toNatClampNeg), .ref 75], h, 98, 10728)) lr_1585 rfl ?_
  refine j_Lst (c' := (1587, [(3, .int i), (2, .ref 75), (1, .ref 0), (0, .ref x_scr)], [.int 3, .int i, .ref x_scr, .int (xs ((i + 2)).toNatClampNeg), .int (xs ((i + 1)).toNatClampNeg), .ref 75], h, 98, 10728)) lr_1586 rfl ?_
  refine j_Lst (c' := (1588, [(3, .int i), (2, .ref 75), (1, .ref 0), (0, .ref x_scr)], [.int (i + 3), .ref x_scr, .int (xs ((i + 2)).toNatClampNeg), .int (xs ((i + 1)).toNatClampNeg), .ref 75], h, 98, 10728)) lr_1587 rfl ?_
  refine j_Lsl (c' := (1589, [(3, .int i), (2, .ref 75), (1, .ref 0), (0, .ref x_scr)], [.int (xs ((i + 3)).toNatClampNeg), .int (xs ((i + 2)).toNatClampNeg), .int (xs ((i + 1)).toNatClampNeg), .ref 75], h, 98, 10728)) lr_1588 rfl h3 ?_
  exact kk

set_option maxRecDepth 100000 in
theorem x_c45d (h : xH) (L : Nat) (xs : Nat → Int32) (i : Int32) (h0 : ¬ (i < 0 ∨ L ≤ (i).toNatClampNeg)) (h1 : ¬ (i + 1 < 0 ∨ L ≤ (i + 1).toNatClampNeg)) (h2 : ¬ (i + 2 < 0 ∨ L ≤ (i + 2).toNatClampNeg)) (h3 : ¬ (i + 3 < 0 ∨ L ≤ (i + 3).toNatClampNeg)) (h4 : ¬ (i + 4 < 0 ∨ L ≤ (i + 4).toNatClampNeg)) (h5 : ¬ (i + 5 < 0 ∨ L ≤ (i + 5).toNatClampNeg)) (w : Int32) {P : Option Value × xH × Nat × Nat → Prop} (kk : x_R x_mt (some (L, xs)) 10 M_law (18, [(3, .int (i + Int32.ofInt (6))), (2, .ref 75), (1, .ref 0), (0, .ref x_scr)], [], h, 98, 10728) P) : x_R x_mt (some (L, xs)) 10 M_law (1592, [(3, .int i), (2, .ref 75), (1, .ref 0), (0, .ref x_scr)], [.int w], h, 98, 10728) P := by
  refine j_Lst (c' := (1593, [(3, .int i), (2, .ref 75), (1, .ref 0), (0, .ref x_scr)], [], h, 98, 10728)) lr_1592 rfl ?_
  refine j_Lst (c' := (2368, [(3, .int i), (2, .ref 75), (1, .ref 0), (0, .ref x_scr)], [], h, 98, 10728)) lr_1593 rfl ?_
  refine j_Lst (c' := (2371, [(3, .int (i + Int32.ofInt (6))), (2, .ref 75), (1, .ref 0), (0, .ref x_scr)], [], h, 98, 10728)) lr_2368 rfl ?_
  refine j_Lst (c' := (18, [(3, .int (i + Int32.ofInt (6))), (2, .ref 75), (1, .ref 0), (0, .ref x_scr)], [], h, 98, 10728)) lr_2371 rfl ?_
  exact kk

set_option maxRecDepth 100000 in
theorem x_c46a (h : xH) (L : Nat) (xs : Nat → Int32) (i : Int32) (h0 : ¬ (i < 0 ∨ L ≤ (i).toNatClampNeg)) (h1 : ¬ (i + 1 < 0 ∨ L ≤ (i + 1).toNatClampNeg)) (h2 : ¬ (i + 2 < 0 ∨ L ≤ (i + 2).toNatClampNeg)) (h3 : ¬ (i + 3 < 0 ∨ L ≤ (i + 3).toNatClampNeg)) (h4 : ¬ (i + 4 < 0 ∨ L ≤ (i + 4).toNatClampNeg)) (h5 : ¬ (i + 5 < 0 ∨ L ≤ (i + 5).toNatClampNeg)) {P : Option Value × xH × Nat × Nat → Prop} (kk : x_R x_mt (some (L, xs)) 10 M_law (1602, [(3, .int i), (2, .ref 75), (1, .ref 0), (0, .ref x_scr)], [.int (xs ((i + 1)).toNatClampNeg), .ref 0], h, 98, 10728) P) : x_R x_mt (some (L, xs)) 10 M_law (1596, [(3, .int i), (2, .ref 75), (1, .ref 0), (0, .ref x_scr)], [], h, 98, 10728) P := by
  refine j_Lst (c' := (1597, [(3, .int i), (2, .ref 75), (1, .ref 0), (0, .ref x_scr)], [.ref 0], h, 98, 10728)) lr_1596 rfl ?_
  refine j_Lst (c' := (1598, [(3, .int i), (2, .ref 75), (1, .ref 0), (0, .ref x_scr)], [.ref x_scr, .ref 0], h, 98, 10728)) lr_1597 rfl ?_
  refine j_Lst (c' := (1599, [(3, .int i), (2, .ref 75), (1, .ref 0), (0, .ref x_scr)], [.int i, .ref x_scr, .ref 0], h, 98, 10728)) lr_1598 rfl ?_
  refine j_Lst (c' := (1600, [(3, .int i), (2, .ref 75), (1, .ref 0), (0, .ref x_scr)], [.int 1, .int i, .ref x_scr, .ref 0], h, 98, 10728)) lr_1599 rfl ?_
  refine j_Lst (c' := (1601, [(3, .int i), (2, .ref 75), (1, .ref 0), (0, .ref x_scr)], [.int (i + 1), .ref x_scr, .ref 0], h, 98, 10728)) lr_1600 rfl ?_
  refine j_Lsl (c' := (1602, [(3, .int i), (2, .ref 75), (1, .ref 0), (0, .ref x_scr)], [.int (xs ((i + 1)).toNatClampNeg), .ref 0], h, 98, 10728)) lr_1601 rfl h1 ?_
  exact kk

set_option maxRecDepth 100000 in
theorem x_c46b (h : xH) (L : Nat) (xs : Nat → Int32) (i : Int32) (h0 : ¬ (i < 0 ∨ L ≤ (i).toNatClampNeg)) (h1 : ¬ (i + 1 < 0 ∨ L ≤ (i + 1).toNatClampNeg)) (h2 : ¬ (i + 2 < 0 ∨ L ≤ (i + 2).toNatClampNeg)) (h3 : ¬ (i + 3 < 0 ∨ L ≤ (i + 3).toNatClampNeg)) (h4 : ¬ (i + 4 < 0 ∨ L ≤ (i + 4).toNatClampNeg)) (h5 : ¬ (i + 5 < 0 ∨ L ≤ (i + 5).toNatClampNeg)) (v : Int32) {P : Option Value × xH × Nat × Nat → Prop} (kk : x_R x_mt (some (L, xs)) 10 M_law (1612, [(3, .int i), (2, .ref 75), (1, .ref 0), (0, .ref x_scr)], [.int (xs ((i + 1)).toNatClampNeg), .ref 75], h, 98, 10728) P) : x_R x_mt (some (L, xs)) 10 M_law (1605, [(3, .int i), (2, .ref 75), (1, .ref 0), (0, .ref x_scr)], [.int v], h, 98, 10728) P := by
  refine j_Lst (c' := (1606, [(3, .int i), (2, .ref 75), (1, .ref 0), (0, .ref x_scr)], [], h, 98, 10728)) lr_1605 rfl ?_
  refine j_Lst (c' := (1607, [(3, .int i), (2, .ref 75), (1, .ref 0), (0, .ref x_scr)], [.ref 75], h, 98, 10728)) lr_1606 rfl ?_
  refine j_Lst (c' := (1608, [(3, .int i), (2, .ref 75), (1, .ref 0), (0, .ref x_scr)], [.ref x_scr, .ref 75], h, 98, 10728)) lr_1607 rfl ?_
  refine j_Lst (c' := (1609, [(3, .int i), (2, .ref 75), (1, .ref 0), (0, .ref x_scr)], [.int i, .ref x_scr, .ref 75], h, 98, 10728)) lr_1608 rfl ?_
  refine j_Lst (c' := (1610, [(3, .int i), (2, .ref 75), (1, .ref 0), (0, .ref x_scr)], [.int 1, .int i, .ref x_scr, .ref 75], h, 98, 10728)) lr_1609 rfl ?_
  refine j_Lst (c' := (1611, [(3, .int i), (2, .ref 75), (1, .ref 0), (0, .ref x_scr)], [.int (i + 1), .ref x_scr, .ref 75], h, 98, 10728)) lr_1610 rfl ?_
  refine j_Lsl (c' := (1612, [(3, .int i), (2, .ref 75), (1, .ref 0), (0, .ref x_scr)], [.int (xs ((i + 1)).toNatClampNeg), .ref 75], h, 98, 10728)) lr_1611 rfl h1 ?_
  exact kk

set_option maxRecDepth 100000 in
theorem x_c46d (h : xH) (L : Nat) (xs : Nat → Int32) (i : Int32) (h0 : ¬ (i < 0 ∨ L ≤ (i).toNatClampNeg)) (h1 : ¬ (i + 1 < 0 ∨ L ≤ (i + 1).toNatClampNeg)) (h2 : ¬ (i + 2 < 0 ∨ L ≤ (i + 2).toNatClampNeg)) (h3 : ¬ (i + 3 < 0 ∨ L ≤ (i + 3).toNatClampNeg)) (h4 : ¬ (i + 4 < 0 ∨ L ≤ (i + 4).toNatClampNeg)) (h5 : ¬ (i + 5 < 0 ∨ L ≤ (i + 5).toNatClampNeg)) (w : Int32) {P : Option Value × xH × Nat × Nat → Prop} (kk : x_R x_mt (some (L, xs)) 10 M_law (18, [(3, .int (i + Int32.ofInt (6))), (2, .ref 75), (1, .ref 0), (0, .ref x_scr)], [], h, 98, 10728) P) : x_R x_mt (some (L, xs)) 10 M_law (1615, [(3, .int i), (2, .ref 75), (1, .ref 0), (0, .ref x_scr)], [.int w], h, 98, 10728) P := by
  refine j_Lst (c' := (1616, [(3, .int i), (2, .ref 75), (1, .ref 0), (0, .ref x_scr)], [], h, 98, 10728)) lr_1615 rfl ?_
  refine j_Lst (c' := (2368, [(3, .int i), (2, .ref 75), (1, .ref 0), (0, .ref x_scr)], [], h, 98, 10728)) lr_1616 rfl ?_
  refine j_Lst (c' := (2371, [(3, .int (i + Int32.ofInt (6))), (2, .ref 75), (1, .ref 0), (0, .ref x_scr)], [], h, 98, 10728)) lr_2368 rfl ?_
  refine j_Lst (c' := (18, [(3, .int (i + Int32.ofInt (6))), (2, .ref 75), (1, .ref 0), (0, .ref x_scr)], [], h, 98, 10728)) lr_2371 rfl ?_
  exact kk

set_option maxRecDepth 100000 in
theorem x_c47a (h : xH) (L : Nat) (xs : Nat → Int32) (i : Int32) (h0 : ¬ (i < 0 ∨ L ≤ (i).toNatClampNeg)) (h1 : ¬ (i + 1 < 0 ∨ L ≤ (i + 1).toNatClampNeg)) (h2 : ¬ (i + 2 < 0 ∨ L ≤ (i + 2).toNatClampNeg)) (h3 : ¬ (i + 3 < 0 ∨ L ≤ (i + 3).toNatClampNeg)) (h4 : ¬ (i + 4 < 0 ∨ L ≤ (i + 4).toNatClampNeg)) (h5 : ¬ (i + 5 < 0 ∨ L ≤ (i + 5).toNatClampNeg)) {P : Option Value × xH × Nat × Nat → Prop} (kk : x_R x_mt (some (L, xs)) 10 M_law (1625, [(3, .int i), (2, .ref 75), (1, .ref 0), (0, .ref x_scr)], [.int (xs ((i + 1)).toNatClampNeg), .ref 0], h, 98, 10728) P) : x_R x_mt (some (L, xs)) 10 M_law (1619, [(3, .int i), (2, .ref 75), (1, .ref 0), (0, .ref x_scr)], [], h, 98, 10728) P := by
  refine j_Lst (c' := (1620, [(3, .int i), (2, .ref 75), (1, .ref 0), (0, .ref x_scr)], [.ref 0], h, 98, 10728)) lr_1619 rfl ?_
  refine j_Lst (c' := (1621, [(3, .int i), (2, .ref 75), (1, .ref 0), (0, .ref x_scr)], [.ref x_scr, .ref 0], h, 98, 10728)) lr_1620 rfl ?_
  refine j_Lst (c' := (1622, [(3, .int i), (2, .ref 75), (1, .ref 0), (0, .ref x_scr)], [.int i, .ref x_scr, .ref 0], h, 98, 10728)) lr_1621 rfl ?_
  refine j_Lst (c' := (1623, [(3, .int i), (2, .ref 75), (1, .ref 0), (0, .ref x_scr)], [.int 1, .int i, .ref x_scr, .ref 0], h, 98, 10728)) lr_1622 rfl ?_
  refine j_Lst (c' := (1624, [(3, .int i), (2, .ref 75), (1, .ref 0), (0, .ref x_scr)], [.int (i + 1), .ref x_scr, .ref 0], h, 98, 10728)) lr_1623 rfl ?_
  refine j_Lsl (c' := (1625, [(3, .int i), (2, .ref 75), (1, .ref 0), (0, .ref x_scr)], [.int (xs ((i + 1)).toNatClampNeg), .ref 0], h, 98, 10728)) lr_1624 rfl h1 ?_
  exact kk

set_option maxRecDepth 100000 in
theorem x_c47b (h : xH) (L : Nat) (xs : Nat → Int32) (i : Int32) (h0 : ¬ (i < 0 ∨ L ≤ (i).toNatClampNeg)) (h1 : ¬ (i + 1 < 0 ∨ L ≤ (i + 1).toNatClampNeg)) (h2 : ¬ (i + 2 < 0 ∨ L ≤ (i + 2).toNatClampNeg)) (h3 : ¬ (i + 3 < 0 ∨ L ≤ (i + 3).toNatClampNeg)) (h4 : ¬ (i + 4 < 0 ∨ L ≤ (i + 4).toNatClampNeg)) (h5 : ¬ (i + 5 < 0 ∨ L ≤ (i + 5).toNatClampNeg)) (v : Int32) {P : Option Value × xH × Nat × Nat → Prop} (kk : x_R x_mt (some (L, xs)) 10 M_law (1635, [(3, .int i), (2, .ref 75), (1, .ref 0), (0, .ref x_scr)], [.int (xs ((i + 1)).toNatClampNeg), .ref 75], h, 98, 10728) P) : x_R x_mt (some (L, xs)) 10 M_law (1628, [(3, .int i), (2, .ref 75), (1, .ref 0), (0, .ref x_scr)], [.int v], h, 98, 10728) P := by
  refine j_Lst (c' := (1629, [(3, .int i), (2, .ref 75), (1, .ref 0), (0, .ref x_scr)], [], h, 98, 10728)) lr_1628 rfl ?_
  refine j_Lst (c' := (1630, [(3, .int i), (2, .ref 75), (1, .ref 0), (0, .ref x_scr)], [.ref 75], h, 98, 10728)) lr_1629 rfl ?_
  refine j_Lst (c' := (1631, [(3, .int i), (2, .ref 75), (1, .ref 0), (0, .ref x_scr)], [.ref x_scr, .ref 75], h, 98, 10728)) lr_1630 rfl ?_
  refine j_Lst (c' := (1632, [(3, .int i), (2, .ref 75), (1, .ref 0), (0, .ref x_scr)], [.int i, .ref x_scr, .ref 75], h, 98, 10728)) lr_1631 rfl ?_
  refine j_Lst (c' := (1633, [(3, .int i), (2, .ref 75), (1, .ref 0), (0, .ref x_scr)], [.int 1, .int i, .ref x_scr, .ref 75], h, 98, 10728)) lr_1632 rfl ?_
  refine j_Lst (c' := (1634, [(3, .int i), (2, .ref 75), (1, .ref 0), (0, .ref x_scr)], [.int (i + 1), .ref x_scr, .ref 75], h, 98, 10728)) lr_1633 rfl ?_
  refine j_Lsl (c' := (1635, [(3, .int i), (2, .ref 75), (1, .ref 0), (0, .ref x_scr)], [.int (xs ((i + 1)).toNatClampNeg), .ref 75], h, 98, 10728)) lr_1634 rfl h1 ?_
  exact kk

set_option maxRecDepth 100000 in
theorem x_c47d (h : xH) (L : Nat) (xs : Nat → Int32) (i : Int32) (h0 : ¬ (i < 0 ∨ L ≤ (i).toNatClampNeg)) (h1 : ¬ (i + 1 < 0 ∨ L ≤ (i + 1).toNatClampNeg)) (h2 : ¬ (i + 2 < 0 ∨ L ≤ (i + 2).toNatClampNeg)) (h3 : ¬ (i + 3 < 0 ∨ L ≤ (i + 3).toNatClampNeg)) (h4 : ¬ (i + 4 < 0 ∨ L ≤ (i + 4).toNatClampNeg)) (h5 : ¬ (i + 5 < 0 ∨ L ≤ (i + 5).toNatClampNeg)) (w : Int32) {P : Option Value × xH × Nat × Nat → Prop} (kk : x_R x_mt (some (L, xs)) 10 M_law (18, [(3, .int (i + Int32.ofInt (6))), (2, .ref 75), (1, .ref 0), (0, .ref x_scr)], [], h, 98, 10728) P) : x_R x_mt (some (L, xs)) 10 M_law (1638, [(3, .int i), (2, .ref 75), (1, .ref 0), (0, .ref x_scr)], [.int w], h, 98, 10728) P := by
  refine j_Lst (c' := (1639, [(3, .int i), (2, .ref 75), (1, .ref 0), (0, .ref x_scr)], [], h, 98, 10728)) lr_1638 rfl ?_
  refine j_Lst (c' := (2368, [(3, .int i), (2, .ref 75), (1, .ref 0), (0, .ref x_scr)], [], h, 98, 10728)) lr_1639 rfl ?_
  refine j_Lst (c' := (2371, [(3, .int (i + Int32.ofInt (6))), (2, .ref 75), (1, .ref 0), (0, .ref x_scr)], [], h, 98, 10728)) lr_2368 rfl ?_
  refine j_Lst (c' := (18, [(3, .int (i + Int32.ofInt (6))), (2, .ref 75), (1, .ref 0), (0, .ref x_scr)], [], h, 98, 10728)) lr_2371 rfl ?_
  exact kk

set_option maxRecDepth 100000 in
theorem x_c48a (h : xH) (L : Nat) (xs : Nat → Int32) (i : Int32) (h0 : ¬ (i < 0 ∨ L ≤ (i).toNatClampNeg)) (h1 : ¬ (i + 1 < 0 ∨ L ≤ (i + 1).toNatClampNeg)) (h2 : ¬ (i + 2 < 0 ∨ L ≤ (i + 2).toNatClampNeg)) (h3 : ¬ (i + 3 < 0 ∨ L ≤ (i + 3).toNatClampNeg)) (h4 : ¬ (i + 4 < 0 ∨ L ≤ (i + 4).toNatClampNeg)) (h5 : ¬ (i + 5 < 0 ∨ L ≤ (i + 5).toNatClampNeg)) {P : Option Value × xH × Nat × Nat → Prop} (kk : x_R x_mt (some (L, xs)) 10 M_law (1648, [(3, .int i), (2, .ref 75), (1, .ref 0), (0, .ref x_scr)], [.int (xs ((i + 1)).toNatClampNeg), .ref 0], h, 98, 10728) P) : x_R x_mt (some (L, xs)) 10 M_law (1642, [(3, .int i), (2, .ref 75), (1, .ref 0), (0, .ref x_scr)], [], h, 98, 10728) P := by
  refine j_Lst (c' := (1643, [(3, .int i), (2, .ref 75), (1, .ref 0), (0, .ref x_scr)], [.ref 0], h, 98, 10728)) lr_1642 rfl ?_
  refine j_Lst (c' := (1644, [(3, .int i), (2, .ref 75), (1, .ref 0), (0, .ref x_scr)], [.ref x_scr, .ref 0], h, 98, 10728)) lr_1643 rfl ?_
  refine j_Lst (c' := (1645, [(3, .int i), (2, .ref 75), (1, .ref 0), (0, .ref x_scr)], [.int i, .ref x_scr, .ref 0], h, 98, 10728)) lr_1644 rfl ?_
  refine j_Lst (c' := (1646, [(3, .int i), (2, .ref 75), (1, .ref 0), (0, .ref x_scr)], [.int 1, .int i, .ref x_scr, .ref 0], h, 98, 10728)) lr_1645 rfl ?_
  refine j_Lst (c' := (1647, [(3, .int i), (2, .ref 75), (1, .ref 0), (0, .ref x_scr)], [.int (i + 1), .ref x_scr, .ref 0], h, 98, 10728)) lr_1646 rfl ?_
  refine j_Lsl (c' := (1648, [(3, .int i), (2, .ref 75), (1, .ref 0), (0, .ref x_scr)], [.int (xs ((i + 1)).toNatClampNeg), .ref 0], h, 98, 10728)) lr_1647 rfl h1 ?_
  exact kk

set_option maxRecDepth 100000 in
theorem x_c48b (h : xH) (L : Nat) (xs : Nat → Int32) (i : Int32) (h0 : ¬ (i < 0 ∨ L ≤ (i).toNatClampNeg)) (h1 : ¬ (i + 1 < 0 ∨ L ≤ (i + 1).toNatClampNeg)) (h2 : ¬ (i + 2 < 0 ∨ L ≤ (i + 2).toNatClampNeg)) (h3 : ¬ (i + 3 < 0 ∨ L ≤ (i + 3).toNatClampNeg)) (h4 : ¬ (i + 4 < 0 ∨ L ≤ (i + 4).toNatClampNeg)) (h5 : ¬ (i + 5 < 0 ∨ L ≤ (i + 5).toNatClampNeg)) (v : Int32) {P : Option Value × xH × Nat × Nat → Prop} (kk : x_R x_mt (some (L, xs)) 10 M_law (1658, [(3, .int i), (2, .ref 75), (1, .ref 0), (0, .ref x_scr)], [.int (xs ((i + 1)).toNatClampNeg), .ref 75], h, 98, 10728) P) : x_R x_mt (some (L, xs)) 10 M_law (1651, [(3, .int i), (2, .ref 75), (1, .ref 0), (0, .ref x_scr)], [.int v], h, 98, 10728) P := by
  refine j_Lst (c' := (1652, [(3, .int i), (2, .ref 75), (1, .ref 0), (0, .ref x_scr)], [], h, 98, 10728)) lr_1651 rfl ?_
  refine j_Lst (c' := (1653, [(3, .int i), (2, .ref 75), (1, .ref 0), (0, .ref x_scr)], [.ref 75], h, 98, 10728)) lr_1652 rfl ?_
  refine j_Lst (c' := (1654, [(3, .int i), (2, .ref 75), (1, .ref 0), (0, .ref x_scr)], [.ref x_scr, .ref 75], h, 98, 10728)) lr_1653 rfl ?_
  refine j_Lst (c' := (1655, [(3, .int i), (2, .ref 75), (1, .ref 0), (0, .ref x_scr)], [.int i, .ref x_scr, .ref 75], h, 98, 10728)) lr_1654 rfl ?_
  refine j_Lst (c' := (1656, [(3, .int i), (2, .ref 75), (1, .ref 0), (0, .ref x_scr)], [.int 1, .int i, .ref x_scr, .ref 75], h, 98, 10728)) lr_1655 rfl ?_
  refine j_Lst (c' := (1657, [(3, .int i), (2, .ref 75), (1, .ref 0), (0, .ref x_scr)], [.int (i + 1), .ref x_scr, .ref 75], h, 98, 10728)) lr_1656 rfl ?_
  refine j_Lsl (c' := (1658, [(3, .int i), (2, .ref 75), (1, .ref 0), (0, .ref x_scr)], [.int (xs ((i + 1)).toNatClampNeg), .ref 75], h, 98, 10728)) lr_1657 rfl h1 ?_
  exact kk

set_option maxRecDepth 100000 in
theorem x_c48d (h : xH) (L : Nat) (xs : Nat → Int32) (i : Int32) (h0 : ¬ (i < 0 ∨ L ≤ (i).toNatClampNeg)) (h1 : ¬ (i + 1 < 0 ∨ L ≤ (i + 1).toNatClampNeg)) (h2 : ¬ (i + 2 < 0 ∨ L ≤ (i + 2).toNatClampNeg)) (h3 : ¬ (i + 3 < 0 ∨ L ≤ (i + 3).toNatClampNeg)) (h4 : ¬ (i + 4 < 0 ∨ L ≤ (i + 4).toNatClampNeg)) (h5 : ¬ (i + 5 < 0 ∨ L ≤ (i + 5).toNatClampNeg)) (w : Int32) {P : Option Value × xH × Nat × Nat → Prop} (kk : x_R x_mt (some (L, xs)) 10 M_law (18, [(3, .int (i + Int32.ofInt (6))), (2, .ref 75), (1, .ref 0), (0, .ref x_scr)], [], h, 98, 10728) P) : x_R x_mt (some (L, xs)) 10 M_law (1661, [(3, .int i), (2, .ref 75), (1, .ref 0), (0, .ref x_scr)], [.int w], h, 98, 10728) P := by
  refine j_Lst (c' := (1662, [(3, .int i), (2, .ref 75), (1, .ref 0), (0, .ref x_scr)], [], h, 98, 10728)) lr_1661 rfl ?_
  refine j_Lst (c' := (2368, [(3, .int i), (2, .ref 75), (1, .ref 0), (0, .ref x_scr)], [], h, 98, 10728)) lr_1662 rfl ?_
  refine j_Lst (c' := (2371, [(3, .int (i + Int32.ofInt (6))), (2, .ref 75), (1, .ref 0), (0, .ref x_scr)], [], h, 98, 10728)) lr_2368 rfl ?_
  refine j_Lst (c' := (18, [(3, .int (i + Int32.ofInt (6))), (2, .ref 75), (1, .ref 0), (0, .ref x_scr)], [], h, 98, 10728)) lr_2371 rfl ?_
  exact kk

set_option maxRecDepth 100000 in
theorem x_c49a (h : xH) (L : Nat) (xs : Nat → Int32) (i : Int32) (h0 : ¬ (i < 0 ∨ L ≤ (i).toNatClampNeg)) (h1 : ¬ (i + 1 < 0 ∨ L ≤ (i + 1).toNatClampNeg)) (h2 : ¬ (i + 2 < 0 ∨ L ≤ (i + 2).toNatClampNeg)) (h3 : ¬ (i + 3 < 0 ∨ L ≤ (i + 3).toNatClampNeg)) (h4 : ¬ (i + 4 < 0 ∨ L ≤ (i + 4).toNatClampNeg)) (h5 : ¬ (i + 5 < 0 ∨ L ≤ (i + 5).toNatClampNeg)) {P : Option Value × xH × Nat × Nat → Prop} (kk : x_R x_mt (some (L, xs)) 10 M_law (1671, [(3, .int i), (2, .ref 75), (1, .ref 0), (0, .ref x_scr)], [.int (xs ((i + 1)).toNatClampNeg), .ref 0], h, 98, 10728) P) : x_R x_mt (some (L, xs)) 10 M_law (1665, [(3, .int i), (2, .ref 75), (1, .ref 0), (0, .ref x_scr)], [], h, 98, 10728) P := by
  refine j_Lst (c' := (1666, [(3, .int i), (2, .ref 75), (1, .ref 0), (0, .ref x_scr)], [.ref 0], h, 98, 10728)) lr_1665 rfl ?_
  refine j_Lst (c' := (1667, [(3, .int i), (2, .ref 75), (1, .ref 0), (0, .ref x_scr)], [.ref x_scr, .ref 0], h, 98, 10728)) lr_1666 rfl ?_
  refine j_Lst (c' := (1668, [(3, .int i), (2, .ref 75), (1, .ref 0), (0, .ref x_scr)], [.int i, .ref x_scr, .ref 0], h, 98, 10728)) lr_1667 rfl ?_
  refine j_Lst (c' := (1669, [(3, .int i), (2, .ref 75), (1, .ref 0), (0, .ref x_scr)], [.int 1, .int i, .ref x_scr, .ref 0], h, 98, 10728)) lr_1668 rfl ?_
  refine j_Lst (c' := (1670, [(3, .int i), (2, .ref 75), (1, .ref 0), (0, .ref x_scr)], [.int (i + 1), .ref x_scr, .ref 0], h, 98, 10728)) lr_1669 rfl ?_
  refine j_Lsl (c' := (1671, [(3, .int i), (2, .ref 75), (1, .ref 0), (0, .ref x_scr)], [.int (xs ((i + 1)).toNatClampNeg), .ref 0], h, 98, 10728)) lr_1670 rfl h1 ?_
  exact kk

set_option maxRecDepth 100000 in
theorem x_c49b (h : xH) (L : Nat) (xs : Nat → Int32) (i : Int32) (h0 : ¬ (i < 0 ∨ L ≤ (i).toNatClampNeg)) (h1 : ¬ (i + 1 < 0 ∨ L ≤ (i + 1).toNatClampNeg)) (h2 : ¬ (i + 2 < 0 ∨ L ≤ (i + 2).toNatClampNeg)) (h3 : ¬ (i + 3 < 0 ∨ L ≤ (i + 3).toNatClampNeg)) (h4 : ¬ (i + 4 < 0 ∨ L ≤ (i + 4).toNatClampNeg)) (h5 : ¬ (i + 5 < 0 ∨ L ≤ (i + 5).toNatClampNeg)) (v : Int32) {P : Option Value × xH × Nat × Nat → Prop} (kk : x_R x_mt (some (L, xs)) 10 M_law (1681, [(3, .int i), (2, .ref 75), (1, .ref 0), (0, .ref x_scr)], [.int (xs ((i + 1)).toNatClampNeg), .ref 75], h, 98, 10728) P) : x_R x_mt (some (L, xs)) 10 M_law (1674, [(3, .int i), (2, .ref 75), (1, .ref 0), (0, .ref x_scr)], [.int v], h, 98, 10728) P := by
  refine j_Lst (c' := (1675, [(3, .int i), (2, .ref 75), (1, .ref 0), (0, .ref x_scr)], [], h, 98, 10728)) lr_1674 rfl ?_
  refine j_Lst (c' := (1676, [(3, .int i), (2, .ref 75), (1, .ref 0), (0, .ref x_scr)], [.ref 75], h, 98, 10728)) lr_1675 rfl ?_
  refine j_Lst (c' := (1677, [(3, .int i), (2, .ref 75), (1, .ref 0), (0, .ref x_scr)], [.ref x_scr, .ref 75], h, 98, 10728)) lr_1676 rfl ?_
  refine j_Lst (c' := (1678, [(3, .int i), (2, .ref 75), (1, .ref 0), (0, .ref x_scr)], [.int i, .ref x_scr, .ref 75], h, 98, 10728)) lr_1677 rfl ?_
  refine j_Lst (c' := (1679, [(3, .int i), (2, .ref 75), (1, .ref 0), (0, .ref x_scr)], [.int 1, .int i, .ref x_scr, .ref 75], h, 98, 10728)) lr_1678 rfl ?_
  refine j_Lst (c' := (1680, [(3, .int i), (2, .ref 75), (1, .ref 0), (0, .ref x_scr)], [.int (i + 1), .ref x_scr, .ref 75], h, 98, 10728)) lr_1679 rfl ?_
  refine j_Lsl (c' := (1681, [(3, .int i), (2, .ref 75), (1, .ref 0), (0, .ref x_scr)], [.int (xs ((i + 1)).toNatClampNeg), .ref 75], h, 98, 10728)) lr_1680 rfl h1 ?_
  exact kk

set_option maxRecDepth 100000 in
theorem x_c49d (h : xH) (L : Nat) (xs : Nat → Int32) (i : Int32) (h0 : ¬ (i < 0 ∨ L ≤ (i).toNatClampNeg)) (h1 : ¬ (i + 1 < 0 ∨ L ≤ (i + 1).toNatClampNeg)) (h2 : ¬ (i + 2 < 0 ∨ L ≤ (i + 2).toNatClampNeg)) (h3 : ¬ (i + 3 < 0 ∨ L ≤ (i + 3).toNatClampNeg)) (h4 : ¬ (i + 4 < 0 ∨ L ≤ (i + 4).toNatClampNeg)) (h5 : ¬ (i + 5 < 0 ∨ L ≤ (i + 5).toNatClampNeg)) (w : Int32) {P : Option Value × xH × Nat × Nat → Prop} (kk : x_R x_mt (some (L, xs)) 10 M_law (18, [(3, .int (i + Int32.ofInt (6))), (2, .ref 75), (1, .ref 0), (0, .ref x_scr)], [], h, 98, 10728) P) : x_R x_mt (some (L, xs)) 10 M_law (1684, [(3, .int i), (2, .ref 75), (1, .ref 0), (0, .ref x_scr)], [.int w], h, 98, 10728) P := by
  refine j_Lst (c' := (1685, [(3, .int i), (2, .ref 75), (1, .ref 0), (0, .ref x_scr)], [], h, 98, 10728)) lr_1684 rfl ?_
  refine j_Lst (c' := (2368, [(3, .int i), (2, .ref 75), (1, .ref 0), (0, .ref x_scr)], [], h, 98, 10728)) lr_1685 rfl ?_
  refine j_Lst (c' := (2371, [(3, .int (i + Int32.ofInt (6))), (2, .ref 75), (1, .ref 0), (0, .ref x_scr)], [], h, 98, 10728)) lr_2368 rfl ?_
  refine j_Lst (c' := (18, [(3, .int (i + Int32.ofInt (6))), (2, .ref 75), (1, .ref 0), (0, .ref x_scr)], [], h, 98, 10728)) lr_2371 rfl ?_
  exact kk

set_option maxRecDepth 100000 in
theorem x_c50a (h : xH) (L : Nat) (xs : Nat → Int32) (i : Int32) (h0 : ¬ (i < 0 ∨ L ≤ (i).toNatClampNeg)) (h1 : ¬ (i + 1 < 0 ∨ L ≤ (i + 1).toNatClampNeg)) (h2 : ¬ (i + 2 < 0 ∨ L ≤ (i + 2).toNatClampNeg)) (h3 : ¬ (i + 3 < 0 ∨ L ≤ (i + 3).toNatClampNeg)) (h4 : ¬ (i + 4 < 0 ∨ L ≤ (i + 4).toNatClampNeg)) (h5 : ¬ (i + 5 < 0 ∨ L ≤ (i + 5).toNatClampNeg)) {P : Option Value × xH × Nat × Nat → Prop} (kk : x_R x_mt (some (L, xs)) 10 M_law (1699, [(3, .int i), (2, .ref 75), (1, .ref 0), (0, .ref x_scr)], [.int (xs ((i + 2)).toNatClampNeg), .int (xs ((i + 1)).toNatClampNeg), .ref 0], h, 98, 10728) P) : x_R x_mt (some (L, xs)) 10 M_law (1688, [(3, .int i), (2, .ref 75), (1, .ref 0), (0, .ref x_scr)], [], h, 98, 10728) P := by
  refine j_Lst (c' := (1689, [(3, .int i), (2, .ref 75), (1, .ref 0), (0, .ref x_scr)], [.ref 0], h, 98, 10728)) lr_1688 rfl ?_
  refine j_Lst (c' := (1690, [(3, .int i), (2, .ref 75), (1, .ref 0), (0, .ref x_scr)], [.ref x_scr, .ref 0], h, 98, 10728)) lr_1689 rfl ?_
  refine j_Lst (c' := (1691, [(3, .int i), (2, .ref 75), (1, .ref 0), (0, .ref x_scr)], [.int i, .ref x_scr, .ref 0], h, 98, 10728)) lr_1690 rfl ?_
  refine j_Lst (c' := (1692, [(3, .int i), (2, .ref 75), (1, .ref 0), (0, .ref x_scr)], [.int 1, .int i, .ref x_scr, .ref 0], h, 98, 10728)) lr_1691 rfl ?_
  refine j_Lst (c' := (1693, [(3, .int i), (2, .ref 75), (1, .ref 0), (0, .ref x_scr)], [.int (i + 1), .ref x_scr, .ref 0], h, 98, 10728)) lr_1692 rfl ?_
  refine j_Lsl (c' := (1694, [(3, .int i), (2, .ref 75), (1, .ref 0), (0, .ref x_scr)], [.int (xs ((i + 1)).toNatClampNeg), .ref 0], h, 98, 10728)) lr_1693 rfl h1 ?_
  refine j_Lst (c' := (1695, [(3, .int i), (2, .ref 75), (1, .ref 0), (0, .ref x_scr)], [.ref x_scr, .int (xs ((i + 1)).toNatClampNeg), .ref 0], h, 98, 10728)) lr_1694 rfl ?_
  refine j_Lst (c' := (1696, [(3, .int i), (2, .ref 75), (1, .ref 0), (0, .ref x_scr)], [.int i, .ref x_scr, .int (xs ((i + 1)).toNatClampNeg), .ref 0], h, 98, 10728)) lr_1695 rfl ?_
  refine j_Lst (c' := (1697, [(3, .int i), (2, .ref 75), (1, .ref 0), (0, .ref x_scr)], [.int 2, .int i, .ref x_scr, .int (xs ((i + 1)).toNatClampNeg), .ref 0], h, 98, 10728)) lr_1696 rfl ?_
  refine j_Lst (c' := (1698, [(3, .int i), (2, .ref 75), (1, .ref 0), (0, .ref x_scr)], [.int (i + 2), .ref x_scr, .int (xs ((i + 1)).toNatClampNeg), .ref 0], h, 98, 10728)) lr_1697 rfl ?_
  refine j_Lsl (c' := (1699, [(3, .int i), (2, .ref 75), (1, .ref 0), (0, .ref x_scr)], [.int (xs ((i + 2)).toNatClampNeg), .int (xs ((i + 1)).toNatClampNeg), .ref 0], h, 98, 10728)) lr_1698 rfl h2 ?_
  exact kk

set_option maxRecDepth 100000 in
theorem x_c50b (h : xH) (L : Nat) (xs : Nat → Int32) (i : Int32) (h0 : ¬ (i < 0 ∨ L ≤ (i).toNatClampNeg)) (h1 : ¬ (i + 1 < 0 ∨ L ≤ (i + 1).toNatClampNeg)) (h2 : ¬ (i + 2 < 0 ∨ L ≤ (i + 2).toNatClampNeg)) (h3 : ¬ (i + 3 < 0 ∨ L ≤ (i + 3).toNatClampNeg)) (h4 : ¬ (i + 4 < 0 ∨ L ≤ (i + 4).toNatClampNeg)) (h5 : ¬ (i + 5 < 0 ∨ L ≤ (i + 5).toNatClampNeg)) (v : Int32) {P : Option Value × xH × Nat × Nat → Prop} (kk : x_R x_mt (some (L, xs)) 10 M_law (1714, [(3, .int i), (2, .ref 75), (1, .ref 0), (0, .ref x_scr)], [.int (xs ((i + 2)).toNatClampNeg), .int (xs ((i + 1)).toNatClampNeg), .ref 75], h, 98, 10728) P) : x_R x_mt (some (L, xs)) 10 M_law (1702, [(3, .int i), (2, .ref 75), (1, .ref 0), (0, .ref x_scr)], [.int v], h, 98, 10728) P := by
  refine j_Lst (c' := (1703, [(3, .int i), (2, .ref 75), (1, .ref 0), (0, .ref x_scr)], [], h, 98, 10728)) lr_1702 rfl ?_
  refine j_Lst (c' := (1704, [(3, .int i), (2, .ref 75), (1, .ref 0), (0, .ref x_scr)], [.ref 75], h, 98, 10728)) lr_1703 rfl ?_
  refine j_Lst (c' := (1705, [(3, .int i), (2, .ref 75), (1, .ref 0), (0, .ref x_scr)], [.ref x_scr, .ref 75], h, 98, 10728)) lr_1704 rfl ?_
  refine j_Lst (c' := (1706, [(3, .int i), (2, .ref 75), (1, .ref 0), (0, .ref x_scr)], [.int i, .ref x_scr, .ref 75], h, 98, 10728)) lr_1705 rfl ?_
  refine j_Lst (c' := (1707, [(3, .int i), (2, .ref 75), (1, .ref 0), (0, .ref x_scr)], [.int 1, .int i, .ref x_scr, .ref 75], h, 98, 10728)) lr_1706 rfl ?_
  refine j_Lst (c' := (1708, [(3, .int i), (2, .ref 75), (1, .ref 0), (0, .ref x_scr)], [.int (i + 1), .ref x_scr, .ref 75], h, 98, 10728)) lr_1707 rfl ?_
  refine j_Lsl (c' := (1709, [(3, .int i), (2, .ref 75), (1, .ref 0), (0, .ref x_scr)], [.int (xs ((i + 1)).toNatClampNeg), .ref 75], h, 98, 10728)) lr_1708 rfl h1 ?_
  refine j_Lst (c' := (1710, [(3, .int i), (2, .ref 75), (1, .ref 0), (0, .ref x_scr)], [.ref x_scr, .int (xs ((i + 1)).toNatClampNeg), .ref 75], h, 98, 10728)) lr_1709 rfl ?_
  refine j_Lst (c' := (1711, [(3, .int i), (2, .ref 75), (1, .ref 0), (0, .ref x_scr)], [.int i, .ref x_scr, .int (xs ((i + 1)).toNatClampNeg), .ref 75], h, 98, 10728)) lr_1710 rfl ?_
  refine j_Lst (c' := (1712, [(3, .int i), (2, .ref 75), (1, .ref 0), (0, .ref x_scr)], [.int 2, .int i, .ref x_scr, .int (xs ((i + 1)).toNatClampNeg), .ref 75], h, 98, 10728)) lr_1711 rfl ?_
  refine j_Lst (c' := (1713, [(3, .int i), (2, .ref 75), (1, .ref 0), (0, .ref x_scr)], [.int (i + 2), .ref x_scr, .int (xs ((i + 1)).toNatClampNeg), .ref 75], h, 98, 10728)) lr_1712 rfl ?_
  refine j_Lsl (c' := (1714, [(3, .int i), (2, .ref 75), (1, .ref 0), (0, .ref x_scr)], [.int (xs ((i + 2)).toNatClampNeg), .int (xs ((i + 1)).toNatClampNeg), .ref 75], h, 98, 10728)) lr_1713 rfl h2 ?_
  exact kk

set_option maxRecDepth 100000 in
theorem x_c50d (h : xH) (L : Nat) (xs : Nat → Int32) (i : Int32) (h0 : ¬ (i < 0 ∨ L ≤ (i).toNatClampNeg)) (h1 : ¬ (i + 1 < 0 ∨ L ≤ (i + 1).toNatClampNeg)) (h2 : ¬ (i + 2 < 0 ∨ L ≤ (i + 2).toNatClampNeg)) (h3 : ¬ (i + 3 < 0 ∨ L ≤ (i + 3).toNatClampNeg)) (h4 : ¬ (i + 4 < 0 ∨ L ≤ (i + 4).toNatClampNeg)) (h5 : ¬ (i + 5 < 0 ∨ L ≤ (i + 5).toNatClampNeg)) (w : Int32) {P : Option Value × xH × Nat × Nat → Prop} (kk : x_R x_mt (some (L, xs)) 10 M_law (18, [(3, .int (i + Int32.ofInt (6))), (2, .ref 75), (1, .ref 0), (0, .ref x_scr)], [], h, 98, 10728) P) : x_R x_mt (some (L, xs)) 10 M_law (1717, [(3, .int i), (2, .ref 75), (1, .ref 0), (0, .ref x_scr)], [.int w], h, 98, 10728) P := by
  refine j_Lst (c' := (1718, [(3, .int i), (2, .ref 75), (1, .ref 0), (0, .ref x_scr)], [], h, 98, 10728)) lr_1717 rfl ?_
  refine j_Lst (c' := (2368, [(3, .int i), (2, .ref 75), (1, .ref 0), (0, .ref x_scr)], [], h, 98, 10728)) lr_1718 rfl ?_
  refine j_Lst (c' := (2371, [(3, .int (i + Int32.ofInt (6))), (2, .ref 75), (1, .ref 0), (0, .ref x_scr)], [], h, 98, 10728)) lr_2368 rfl ?_
  refine j_Lst (c' := (18, [(3, .int (i + Int32.ofInt (6))), (2, .ref 75), (1, .ref 0), (0, .ref x_scr)], [], h, 98, 10728)) lr_2371 rfl ?_
  exact kk

set_option maxRecDepth 100000 in
theorem x_c51a (h : xH) (L : Nat) (xs : Nat → Int32) (i : Int32) (h0 : ¬ (i < 0 ∨ L ≤ (i).toNatClampNeg)) (h1 : ¬ (i + 1 < 0 ∨ L ≤ (i + 1).toNatClampNeg)) (h2 : ¬ (i + 2 < 0 ∨ L ≤ (i + 2).toNatClampNeg)) (h3 : ¬ (i + 3 < 0 ∨ L ≤ (i + 3).toNatClampNeg)) (h4 : ¬ (i + 4 < 0 ∨ L ≤ (i + 4).toNatClampNeg)) (h5 : ¬ (i + 5 < 0 ∨ L ≤ (i + 5).toNatClampNeg)) {P : Option Value × xH × Nat × Nat → Prop} (kk : x_R x_mt (some (L, xs)) 10 M_law (1727, [(3, .int i), (2, .ref 75), (1, .ref 0), (0, .ref x_scr)], [.int (xs ((i + 1)).toNatClampNeg), .ref 0], h, 98, 10728) P) : x_R x_mt (some (L, xs)) 10 M_law (1721, [(3, .int i), (2, .ref 75), (1, .ref 0), (0, .ref x_scr)], [], h, 98, 10728) P := by
  refine j_Lst (c' := (1722, [(3, .int i), (2, .ref 75), (1, .ref 0), (0, .ref x_scr)], [.ref 0], h, 98, 10728)) lr_1721 rfl ?_
  refine j_Lst (c' := (1723, [(3, .int i), (2, .ref 75), (1, .ref 0), (0, .ref x_scr)], [.ref x_scr, .ref 0], h, 98, 10728)) lr_1722 rfl ?_
  refine j_Lst (c' := (1724, [(3, .int i), (2, .ref 75), (1, .ref 0), (0, .ref x_scr)], [.int i, .ref x_scr, .ref 0], h, 98, 10728)) lr_1723 rfl ?_
  refine j_Lst (c' := (1725, [(3, .int i), (2, .ref 75), (1, .ref 0), (0, .ref x_scr)], [.int 1, .int i, .ref x_scr, .ref 0], h, 98, 10728)) lr_1724 rfl ?_
  refine j_Lst (c' := (1726, [(3, .int i), (2, .ref 75), (1, .ref 0), (0, .ref x_scr)], [.int (i + 1), .ref x_scr, .ref 0], h, 98, 10728)) lr_1725 rfl ?_
  refine j_Lsl (c' := (1727, [(3, .int i), (2, .ref 75), (1, .ref 0), (0, .ref x_scr)], [.int (xs ((i + 1)).toNatClampNeg), .ref 0], h, 98, 10728)) lr_1726 rfl h1 ?_
  exact kk

set_option maxRecDepth 100000 in
theorem x_c51b (h : xH) (L : Nat) (xs : Nat → Int32) (i : Int32) (h0 : ¬ (i < 0 ∨ L ≤ (i).toNatClampNeg)) (h1 : ¬ (i + 1 < 0 ∨ L ≤ (i + 1).toNatClampNeg)) (h2 : ¬ (i + 2 < 0 ∨ L ≤ (i + 2).toNatClampNeg)) (h3 : ¬ (i + 3 < 0 ∨ L ≤ (i + 3).toNatClampNeg)) (h4 : ¬ (i + 4 < 0 ∨ L ≤ (i + 4).toNatClampNeg)) (h5 : ¬ (i + 5 < 0 ∨ L ≤ (i + 5).toNatClampNeg)) (v : Int32) {P : Option Value × xH × Nat × Nat → Prop} (kk : x_R x_mt (some (L, xs)) 10 M_law (1737, [(3, .int i), (2, .ref 75), (1, .ref 0), (0, .ref x_scr)], [.int (xs ((i + 1)).toNatClampNeg), .ref 75], h, 98, 10728) P) : x_R x_mt (some (L, xs)) 10 M_law (1730, [(3, .int i), (2, .ref 75), (1, .ref 0), (0, .ref x_scr)], [.int v], h, 98, 10728) P := by
  refine j_Lst (c' := (1731, [(3, .int i), (2, .ref 75), (1, .ref 0), (0, .ref x_scr)], [], h, 98, 10728)) lr_1730 rfl ?_
  refine j_Lst (c' := (1732, [(3, .int i), (2, .ref 75), (1, .ref 0), (0, .ref x_scr)], [.ref 75], h, 98, 10728)) lr_1731 rfl ?_
  refine j_Lst (c' := (1733, [(3, .int i), (2, .ref 75), (1, .ref 0), (0, .ref x_scr)], [.ref x_scr, .ref 75], h, 98, 10728)) lr_1732 rfl ?_
  refine j_Lst (c' := (1734, [(3, .int i), (2, .ref 75), (1, .ref 0), (0, .ref x_scr)], [.int i, .ref x_scr, .ref 75], h, 98, 10728)) lr_1733 rfl ?_
  refine j_Lst (c' := (1735, [(3, .int i), (2, .ref 75), (1, .ref 0), (0, .ref x_scr)], [.int 1, .int i, .ref x_scr, .ref 75], h, 98, 10728)) lr_1734 rfl ?_
  refine j_Lst (c' := (1736, [(3, .int i), (2, .ref 75), (1, .ref 0), (0, .ref x_scr)], [.int (i + 1), .ref x_scr, .ref 75], h, 98, 10728)) lr_1735 rfl ?_
  refine j_Lsl (c' := (1737, [(3, .int i), (2, .ref 75), (1, .ref 0), (0, .ref x_scr)], [.int (xs ((i + 1)).toNatClampNeg), .ref 75], h, 98, 10728)) lr_1736 rfl h1 ?_
  exact kk

set_option maxRecDepth 100000 in
theorem x_c51d (h : xH) (L : Nat) (xs : Nat → Int32) (i : Int32) (h0 : ¬ (i < 0 ∨ L ≤ (i).toNatClampNeg)) (h1 : ¬ (i + 1 < 0 ∨ L ≤ (i + 1).toNatClampNeg)) (h2 : ¬ (i + 2 < 0 ∨ L ≤ (i + 2).toNatClampNeg)) (h3 : ¬ (i + 3 < 0 ∨ L ≤ (i + 3).toNatClampNeg)) (h4 : ¬ (i + 4 < 0 ∨ L ≤ (i + 4).toNatClampNeg)) (h5 : ¬ (i + 5 < 0 ∨ L ≤ (i + 5).toNatClampNeg)) (w : Int32) {P : Option Value × xH × Nat × Nat → Prop} (kk : x_R x_mt (some (L, xs)) 10 M_law (18, [(3, .int (i + Int32.ofInt (6))), (2, .ref 75), (1, .ref 0), (0, .ref x_scr)], [], h, 98, 10728) P) : x_R x_mt (some (L, xs)) 10 M_law (1740, [(3, .int i), (2, .ref 75), (1, .ref 0), (0, .ref x_scr)], [.int w], h, 98, 10728) P := by
  refine j_Lst (c' := (1741, [(3, .int i), (2, .ref 75), (1, .ref 0), (0, .ref x_scr)], [], h, 98, 10728)) lr_1740 rfl ?_
  refine j_Lst (c' := (2368, [(3, .int i), (2, .ref 75), (1, .ref 0), (0, .ref x_scr)], [], h, 98, 10728)) lr_1741 rfl ?_
  refine j_Lst (c' := (2371, [(3, .int (i + Int32.ofInt (6))), (2, .ref 75), (1, .ref 0), (0, .ref x_scr)], [], h, 98, 10728)) lr_2368 rfl ?_
  refine j_Lst (c' := (18, [(3, .int (i + Int32.ofInt (6))), (2, .ref 75), (1, .ref 0), (0, .ref x_scr)], [], h, 98, 10728)) lr_2371 rfl ?_
  exact kk

set_option maxRecDepth 100000 in
theorem x_c52a (h : xH) (L : Nat) (xs : Nat → Int32) (i : Int32) (h0 : ¬ (i < 0 ∨ L ≤ (i).toNatClampNeg)) (h1 : ¬ (i + 1 < 0 ∨ L ≤ (i + 1).toNatClampNeg)) (h2 : ¬ (i + 2 < 0 ∨ L ≤ (i + 2).toNatClampNeg)) (h3 : ¬ (i + 3 < 0 ∨ L ≤ (i + 3).toNatClampNeg)) (h4 : ¬ (i + 4 < 0 ∨ L ≤ (i + 4).toNatClampNeg)) (h5 : ¬ (i + 5 < 0 ∨ L ≤ (i + 5).toNatClampNeg)) {P : Option Value × xH × Nat × Nat → Prop} (kk : x_R x_mt (some (L, xs)) 10 M_law (1745, [(3, .int i), (2, .ref 75), (1, .ref 0), (0, .ref x_scr)], [.ref 0], h, 98, 10728) P) : x_R x_mt (some (L, xs)) 10 M_law (1744, [(3, .int i), (2, .ref 75), (1, .ref 0), (0, .ref x_scr)], [], h, 98, 10728) P := by
  refine j_Lst (c' := (1745, [(3, .int i), (2, .ref 75), (1, .ref 0), (0, .ref x_scr)], [.ref 0], h, 98, 10728)) lr_1744 rfl ?_
  exact kk

set_option maxRecDepth 100000 in
theorem x_c52b (h : xH) (L : Nat) (xs : Nat → Int32) (i : Int32) (h0 : ¬ (i < 0 ∨ L ≤ (i).toNatClampNeg)) (h1 : ¬ (i + 1 < 0 ∨ L ≤ (i + 1).toNatClampNeg)) (h2 : ¬ (i + 2 < 0 ∨ L ≤ (i + 2).toNatClampNeg)) (h3 : ¬ (i + 3 < 0 ∨ L ≤ (i + 3).toNatClampNeg)) (h4 : ¬ (i + 4 < 0 ∨ L ≤ (i + 4).toNatClampNeg)) (h5 : ¬ (i + 5 < 0 ∨ L ≤ (i + 5).toNatClampNeg)) (v : Int32) {P : Option Value × xH × Nat × Nat → Prop} (kk : x_R x_mt (some (L, xs)) 10 M_law (1750, [(3, .int i), (2, .ref 75), (1, .ref 0), (0, .ref x_scr)], [.ref 75], h, 98, 10728) P) : x_R x_mt (some (L, xs)) 10 M_law (1748, [(3, .int i), (2, .ref 75), (1, .ref 0), (0, .ref x_scr)], [.int v], h, 98, 10728) P := by
  refine j_Lst (c' := (1749, [(3, .int i), (2, .ref 75), (1, .ref 0), (0, .ref x_scr)], [], h, 98, 10728)) lr_1748 rfl ?_
  refine j_Lst (c' := (1750, [(3, .int i), (2, .ref 75), (1, .ref 0), (0, .ref x_scr)], [.ref 75], h, 98, 10728)) lr_1749 rfl ?_
  exact kk

set_option maxRecDepth 100000 in
theorem x_c52d (h : xH) (L : Nat) (xs : Nat → Int32) (i : Int32) (h0 : ¬ (i < 0 ∨ L ≤ (i).toNatClampNeg)) (h1 : ¬ (i + 1 < 0 ∨ L ≤ (i + 1).toNatClampNeg)) (h2 : ¬ (i + 2 < 0 ∨ L ≤ (i + 2).toNatClampNeg)) (h3 : ¬ (i + 3 < 0 ∨ L ≤ (i + 3).toNatClampNeg)) (h4 : ¬ (i + 4 < 0 ∨ L ≤ (i + 4).toNatClampNeg)) (h5 : ¬ (i + 5 < 0 ∨ L ≤ (i + 5).toNatClampNeg)) (w : Int32) {P : Option Value × xH × Nat × Nat → Prop} (kk : x_R x_mt (some (L, xs)) 10 M_law (18, [(3, .int (i + Int32.ofInt (6))), (2, .ref 75), (1, .ref 0), (0, .ref x_scr)], [], h, 98, 10728) P) : x_R x_mt (some (L, xs)) 10 M_law (1753, [(3, .int i), (2, .ref 75), (1, .ref 0), (0, .ref x_scr)], [.int w], h, 98, 10728) P := by
  refine j_Lst (c' := (1754, [(3, .int i), (2, .ref 75), (1, .ref 0), (0, .ref x_scr)], [], h, 98, 10728)) lr_1753 rfl ?_
  refine j_Lst (c' := (2368, [(3, .int i), (2, .ref 75), (1, .ref 0), (0, .ref x_scr)], [], h, 98, 10728)) lr_1754 rfl ?_
  refine j_Lst (c' := (2371, [(3, .int (i + Int32.ofInt (6))), (2, .ref 75), (1, .ref 0), (0, .ref x_scr)], [], h, 98, 10728)) lr_2368 rfl ?_
  refine j_Lst (c' := (18, [(3, .int (i + Int32.ofInt (6))), (2, .ref 75), (1, .ref 0), (0, .ref x_scr)], [], h, 98, 10728)) lr_2371 rfl ?_
  exact kk

set_option maxRecDepth 100000 in
theorem x_c53a (h : xH) (L : Nat) (xs : Nat → Int32) (i : Int32) (h0 : ¬ (i < 0 ∨ L ≤ (i).toNatClampNeg)) (h1 : ¬ (i + 1 < 0 ∨ L ≤ (i + 1).toNatClampNeg)) (h2 : ¬ (i + 2 < 0 ∨ L ≤ (i + 2).toNatClampNeg)) (h3 : ¬ (i + 3 < 0 ∨ L ≤ (i + 3).toNatClampNeg)) (h4 : ¬ (i + 4 < 0 ∨ L ≤ (i + 4).toNatClampNeg)) (h5 : ¬ (i + 5 < 0 ∨ L ≤ (i + 5).toNatClampNeg)) {P : Option Value × xH × Nat × Nat → Prop} (kk : x_R x_mt (some (L, xs)) 10 M_law (1758, [(3, .int i), (2, .ref 75), (1, .ref 0), (0, .ref x_scr)], [.ref 0], h, 98, 10728) P) : x_R x_mt (some (L, xs)) 10 M_law (1757, [(3, .int i), (2, .ref 75), (1, .ref 0), (0, .ref x_scr)], [], h, 98, 10728) P := by
  refine j_Lst (c' := (1758, [(3, .int i), (2, .ref 75), (1, .ref 0), (0, .ref x_scr)], [.ref 0], h, 98, 10728)) lr_1757 rfl ?_
  exact kk

set_option maxRecDepth 100000 in
theorem x_c53b (h : xH) (L : Nat) (xs : Nat → Int32) (i : Int32) (h0 : ¬ (i < 0 ∨ L ≤ (i).toNatClampNeg)) (h1 : ¬ (i + 1 < 0 ∨ L ≤ (i + 1).toNatClampNeg)) (h2 : ¬ (i + 2 < 0 ∨ L ≤ (i + 2).toNatClampNeg)) (h3 : ¬ (i + 3 < 0 ∨ L ≤ (i + 3).toNatClampNeg)) (h4 : ¬ (i + 4 < 0 ∨ L ≤ (i + 4).toNatClampNeg)) (h5 : ¬ (i + 5 < 0 ∨ L ≤ (i + 5).toNatClampNeg)) (v : Int32) {P : Option Value × xH × Nat × Nat → Prop} (kk : x_R x_mt (some (L, xs)) 10 M_law (1763, [(3, .int i), (2, .ref 75), (1, .ref 0), (0, .ref x_scr)], [.ref 75], h, 98, 10728) P) : x_R x_mt (some (L, xs)) 10 M_law (1761, [(3, .int i), (2, .ref 75), (1, .ref 0), (0, .ref x_scr)], [.int v], h, 98, 10728) P := by
  refine j_Lst (c' := (1762, [(3, .int i), (2, .ref 75), (1, .ref 0), (0, .ref x_scr)], [], h, 98, 10728)) lr_1761 rfl ?_
  refine j_Lst (c' := (1763, [(3, .int i), (2, .ref 75), (1, .ref 0), (0, .ref x_scr)], [.ref 75], h, 98, 10728)) lr_1762 rfl ?_
  exact kk

set_option maxRecDepth 100000 in
theorem x_c53d (h : xH) (L : Nat) (xs : Nat → Int32) (i : Int32) (h0 : ¬ (i < 0 ∨ L ≤ (i).toNatClampNeg)) (h1 : ¬ (i + 1 < 0 ∨ L ≤ (i + 1).toNatClampNeg)) (h2 : ¬ (i + 2 < 0 ∨ L ≤ (i + 2).toNatClampNeg)) (h3 : ¬ (i + 3 < 0 ∨ L ≤ (i + 3).toNatClampNeg)) (h4 : ¬ (i + 4 < 0 ∨ L ≤ (i + 4).toNatClampNeg)) (h5 : ¬ (i + 5 < 0 ∨ L ≤ (i + 5).toNatClampNeg)) (w : Int32) {P : Option Value × xH × Nat × Nat → Prop} (kk : x_R x_mt (some (L, xs)) 10 M_law (18, [(3, .int (i + Int32.ofInt (6))), (2, .ref 75), (1, .ref 0), (0, .ref x_scr)], [], h, 98, 10728) P) : x_R x_mt (some (L, xs)) 10 M_law (1766, [(3, .int i), (2, .ref 75), (1, .ref 0), (0, .ref x_scr)], [.int w], h, 98, 10728) P := by
  refine j_Lst (c' := (1767, [(3, .int i), (2, .ref 75), (1, .ref 0), (0, .ref x_scr)], [], h, 98, 10728)) lr_1766 rfl ?_
  refine j_Lst (c' := (2368, [(3, .int i), (2, .ref 75), (1, .ref 0), (0, .ref x_scr)], [], h, 98, 10728)) lr_1767 rfl ?_
  refine j_Lst (c' := (2371, [(3, .int (i + Int32.ofInt (6))), (2, .ref 75), (1, .ref 0), (0, .ref x_scr)], [], h, 98, 10728)) lr_2368 rfl ?_
  refine j_Lst (c' := (18, [(3, .int (i + Int32.ofInt (6))), (2, .ref 75), (1, .ref 0), (0, .ref x_scr)], [], h, 98, 10728)) lr_2371 rfl ?_
  exact kk

set_option maxRecDepth 100000 in
theorem x_c54a (h : xH) (L : Nat) (xs : Nat → Int32) (i : Int32) (h0 : ¬ (i < 0 ∨ L ≤ (i).toNatClampNeg)) (h1 : ¬ (i + 1 < 0 ∨ L ≤ (i + 1).toNatClampNeg)) (h2 : ¬ (i + 2 < 0 ∨ L ≤ (i + 2).toNatClampNeg)) (h3 : ¬ (i + 3 < 0 ∨ L ≤ (i + 3).toNatClampNeg)) (h4 : ¬ (i + 4 < 0 ∨ L ≤ (i + 4).toNatClampNeg)) (h5 : ¬ (i + 5 < 0 ∨ L ≤ (i + 5).toNatClampNeg)) {P : Option Value × xH × Nat × Nat → Prop} (kk : x_R x_mt (some (L, xs)) 10 M_law (1776, [(3, .int i), (2, .ref 75), (1, .ref 0), (0, .ref x_scr)], [.int (xs ((i + 1)).toNatClampNeg), .ref 0], h, 98, 10728) P) : x_R x_mt (some (L, xs)) 10 M_law (1770, [(3, .int i), (2, .ref 75), (1, .ref 0), (0, .ref x_scr)], [], h, 98, 10728) P := by
  refine j_Lst (c' := (1771, [(3, .int i), (2, .ref 75), (1, .ref 0), (0, .ref x_scr)], [.ref 0], h, 98, 10728)) lr_1770 rfl ?_
  refine j_Lst (c' := (1772, [(3, .int i), (2, .ref 75), (1, .ref 0), (0, .ref x_scr)], [.ref x_scr, .ref 0], h, 98, 10728)) lr_1771 rfl ?_
  refine j_Lst (c' := (1773, [(3, .int i), (2, .ref 75), (1, .ref 0), (0, .ref x_scr)], [.int i, .ref x_scr, .ref 0], h, 98, 10728)) lr_1772 rfl ?_
  refine j_Lst (c' := (1774, [(3, .int i), (2, .ref 75), (1, .ref 0), (0, .ref x_scr)], [.int 1, .int i, .ref x_scr, .ref 0], h, 98, 10728)) lr_1773 rfl ?_
  refine j_Lst (c' := (1775, [(3, .int i), (2, .ref 75), (1, .ref 0), (0, .ref x_scr)], [.int (i + 1), .ref x_scr, .ref 0], h, 98, 10728)) lr_1774 rfl ?_
  refine j_Lsl (c' := (1776, [(3, .int i), (2, .ref 75), (1, .ref 0), (0, .ref x_scr)], [.int (xs ((i + 1)).toNatClampNeg), .ref 0], h, 98, 10728)) lr_1775 rfl h1 ?_
  exact kk

set_option maxRecDepth 100000 in
theorem x_c54b (h : xH) (L : Nat) (xs : Nat → Int32) (i : Int32) (h0 : ¬ (i < 0 ∨ L ≤ (i).toNatClampNeg)) (h1 : ¬ (i + 1 < 0 ∨ L ≤ (i + 1).toNatClampNeg)) (h2 : ¬ (i + 2 < 0 ∨ L ≤ (i + 2).toNatClampNeg)) (h3 : ¬ (i + 3 < 0 ∨ L ≤ (i + 3).toNatClampNeg)) (h4 : ¬ (i + 4 < 0 ∨ L ≤ (i + 4).toNatClampNeg)) (h5 : ¬ (i + 5 < 0 ∨ L ≤ (i + 5).toNatClampNeg)) (v : Int32) {P : Option Value × xH × Nat × Nat → Prop} (kk : x_R x_mt (some (L, xs)) 10 M_law (1785, [(3, .int i), (2, .ref 75), (1, .ref 0), (0, .ref x_scr)], [.int (xs ((i + 1)).toNatClampNeg), .ref 75, .int v], h, 98, 10728) P) : x_R x_mt (some (L, xs)) 10 M_law (1779, [(3, .int i), (2, .ref 75), (1, .ref 0), (0, .ref x_scr)], [.int v], h, 98, 10728) P := by
  refine j_Lst (c' := (1780, [(3, .int i), (2, .ref 75), (1, .ref 0), (0, .ref x_scr)], [.ref 75, .int v], h, 98, 10728)) lr_1779 rfl ?_
  refine j_Lst (c' := (1781, [(3, .int i), (2, .ref 75), (1, .ref 0), (0, .ref x_scr)], [.ref x_scr, .ref 75, .int v], h, 98, 10728)) lr_1780 rfl ?_
  refine j_Lst (c' := (1782, [(3, .int i), (2, .ref 75), (1, .ref 0), (0, .ref x_scr)], [.int i, .ref x_scr, .ref 75, .int v], h, 98, 10728)) lr_1781 rfl ?_
  refine j_Lst (c' := (1783, [(3, .int i), (2, .ref 75), (1, .ref 0), (0, .ref x_scr)], [.int 1, .int i, .ref x_scr, .ref 75, .int v], h, 98, 10728)) lr_1782 rfl ?_
  refine j_Lst (c' := (1784, [(3, .int i), (2, .ref 75), (1, .ref 0), (0, .ref x_scr)], [.int (i + 1), .ref x_scr, .ref 75, .int v], h, 98, 10728)) lr_1783 rfl ?_
  refine j_Lsl (c' := (1785, [(3, .int i), (2, .ref 75), (1, .ref 0), (0, .ref x_scr)], [.int (xs ((i + 1)).toNatClampNeg), .ref 75, .int v], h, 98, 10728)) lr_1784 rfl h1 ?_
  exact kk

set_option maxRecDepth 100000 in
theorem x_c54c (h : xH) (L : Nat) (xs : Nat → Int32) (i : Int32) (v : Int32) {P : Option Value × xH × Nat × Nat → Prop} (kk : x_R x_mt (some (L, xs)) 10 M_law (2368, [(3, .int i), (2, .ref 75), (1, .ref 0), (0, .ref x_scr)], [], h, 98, 10728) P) : x_R x_mt (some (L, xs)) 10 M_law (1788, [(3, .int i), (2, .ref 75), (1, .ref 0), (0, .ref x_scr)], [.int v, .int v], h, 98, 10728) P := by
  exact x_R.ite (p := v = v) (c1 := (2368, [(3, .int i), (2, .ref 75), (1, .ref 0), (0, .ref x_scr)], [], h, 98, 10728)) (c2 := (1791, [(3, .int i), (2, .ref 75), (1, .ref 0), (0, .ref x_scr)], [], h, 98, 10728)) rfl (fun _ => kk) (fun z => absurd rfl z)

set_option maxRecDepth 100000 in
theorem x_c54d (h : xH) (L : Nat) (xs : Nat → Int32) (i : Int32) (h0 : ¬ (i < 0 ∨ L ≤ (i).toNatClampNeg)) (h1 : ¬ (i + 1 < 0 ∨ L ≤ (i + 1).toNatClampNeg)) (h2 : ¬ (i + 2 < 0 ∨ L ≤ (i + 2).toNatClampNeg)) (h3 : ¬ (i + 3 < 0 ∨ L ≤ (i + 3).toNatClampNeg)) (h4 : ¬ (i + 4 < 0 ∨ L ≤ (i + 4).toNatClampNeg)) (h5 : ¬ (i + 5 < 0 ∨ L ≤ (i + 5).toNatClampNeg)) {P : Option Value × xH × Nat × Nat → Prop} (kk : x_R x_mt (some (L, xs)) 10 M_law (18, [(3, .int (i + Int32.ofInt (6))), (2, .ref 75), (1, .ref 0), (0, .ref x_scr)], [], h, 98, 10728) P) : x_R x_mt (some (L, xs)) 10 M_law (2368, [(3, .int i), (2, .ref 75), (1, .ref 0), (0, .ref x_scr)], [], h, 98, 10728) P := by
  refine j_Lst (c' := (2371, [(3, .int (i + Int32.ofInt (6))), (2, .ref 75), (1, .ref 0), (0, .ref x_scr)], [], h, 98, 10728)) lr_2368 rfl ?_
  refine j_Lst (c' := (18, [(3, .int (i + Int32.ofInt (6))), (2, .ref 75), (1, .ref 0), (0, .ref x_scr)], [], h, 98, 10728)) lr_2371 rfl ?_
  exact kk

set_option maxRecDepth 100000 in
theorem x_c55a (h : xH) (L : Nat) (xs : Nat → Int32) (i : Int32) (h0 : ¬ (i < 0 ∨ L ≤ (i).toNatClampNeg)) (h1 : ¬ (i + 1 < 0 ∨ L ≤ (i + 1).toNatClampNeg)) (h2 : ¬ (i + 2 < 0 ∨ L ≤ (i + 2).toNatClampNeg)) (h3 : ¬ (i + 3 < 0 ∨ L ≤ (i + 3).toNatClampNeg)) (h4 : ¬ (i + 4 < 0 ∨ L ≤ (i + 4).toNatClampNeg)) (h5 : ¬ (i + 5 < 0 ∨ L ≤ (i + 5).toNatClampNeg)) {P : Option Value × xH × Nat × Nat → Prop} (kk : x_R x_mt (some (L, xs)) 10 M_law (1804, [(3, .int i), (2, .ref 75), (1, .ref 0), (0, .ref x_scr)], [.int (xs ((i + 2)).toNatClampNeg), .int (xs ((i + 1)).toNatClampNeg), .ref 0], h, 98, 10728) P) : x_R x_mt (some (L, xs)) 10 M_law (1793, [(3, .int i), (2, .ref 75), (1, .ref 0), (0, .ref x_scr)], [], h, 98, 10728) P := by
  refine j_Lst (c' := (1794, [(3, .int i), (2, .ref 75), (1, .ref 0), (0, .ref x_scr)], [.ref 0], h, 98, 10728)) lr_1793 rfl ?_
  refine j_Lst (c' := (1795, [(3, .int i), (2, .ref 75), (1, .ref 0), (0, .ref x_scr)], [.ref x_scr, .ref 0], h, 98, 10728)) lr_1794 rfl ?_
  refine j_Lst (c' := (1796, [(3, .int i), (2, .ref 75), (1, .ref 0), (0, .ref x_scr)], [.int i, .ref x_scr, .ref 0], h, 98, 10728)) lr_1795 rfl ?_
  refine j_Lst (c' := (1797, [(3, .int i), (2, .ref 75), (1, .ref 0), (0, .ref x_scr)], [.int 1, .int i, .ref x_scr, .ref 0], h, 98, 10728)) lr_1796 rfl ?_
  refine j_Lst (c' := (1798, [(3, .int i), (2, .ref 75), (1, .ref 0), (0, .ref x_scr)], [.int (i + 1), .ref x_scr, .ref 0], h, 98, 10728)) lr_1797 rfl ?_
  refine j_Lsl (c' := (1799, [(3, .int i), (2, .ref 75), (1, .ref 0), (0, .ref x_scr)], [.int (xs ((i + 1)).toNatClampNeg), .ref 0], h, 98, 10728)) lr_1798 rfl h1 ?_
  refine j_Lst (c' := (1800, [(3, .int i), (2, .ref 75), (1, .ref 0), (0, .ref x_scr)], [.ref x_scr, .int (xs ((i + 1)).toNatClampNeg), .ref 0], h, 98, 10728)) lr_1799 rfl ?_
  refine j_Lst (c' := (1801, [(3, .int i), (2, .ref 75), (1, .ref 0), (0, .ref x_scr)], [.int i, .ref x_scr, .int (xs ((i + 1)).toNatClampNeg), .ref 0], h, 98, 10728)) lr_1800 rfl ?_
  refine j_Lst (c' := (1802, [(3, .int i), (2, .ref 75), (1, .ref 0), (0, .ref x_scr)], [.int 2, .int i, .ref x_scr, .int (xs ((i + 1)).toNatClampNeg), .ref 0], h, 98, 10728)) lr_1801 rfl ?_
  refine j_Lst (c' := (1803, [(3, .int i), (2, .ref 75), (1, .ref 0), (0, .ref x_scr)], [.int (i + 2), .ref x_scr, .int (xs ((i + 1)).toNatClampNeg), .ref 0], h, 98, 10728)) lr_1802 rfl ?_
  refine j_Lsl (c' := (1804, [(3, .int i), (2, .ref 75), (1, .ref 0), (0, .ref x_scr)], [.int (xs ((i + 2)).toNatClampNeg), .int (xs ((i + 1)).toNatClampNeg), .ref 0], h, 98, 10728)) lr_1803 rfl h2 ?_
  exact kk

set_option maxRecDepth 100000 in
theorem x_c55b (h : xH) (L : Nat) (xs : Nat → Int32) (i : Int32) (h0 : ¬ (i < 0 ∨ L ≤ (i).toNatClampNeg)) (h1 : ¬ (i + 1 < 0 ∨ L ≤ (i + 1).toNatClampNeg)) (h2 : ¬ (i + 2 < 0 ∨ L ≤ (i + 2).toNatClampNeg)) (h3 : ¬ (i + 3 < 0 ∨ L ≤ (i + 3).toNatClampNeg)) (h4 : ¬ (i + 4 < 0 ∨ L ≤ (i + 4).toNatClampNeg)) (h5 : ¬ (i + 5 < 0 ∨ L ≤ (i + 5).toNatClampNeg)) (v : Int32) {P : Option Value × xH × Nat × Nat → Prop} (kk : x_R x_mt (some (L, xs)) 10 M_law (1819, [(3, .int i), (2, .ref 75), (1, .ref 0), (0, .ref x_scr)], [.int (xs ((i + 2)).toNatClampNeg), .int (xs ((i + 1)).toNatClampNeg), .ref 75], h, 98, 10728) P) : x_R x_mt (some (L, xs)) 10 M_law (1807, [(3, .int i), (2, .ref 75), (1, .ref 0), (0, .ref x_scr)], [.int v], h, 98, 10728) P := by
  refine j_Lst (c' := (1808, [(3, .int i), (2, .ref 75), (1, .ref 0), (0, .ref x_scr)], [], h, 98, 10728)) lr_1807 rfl ?_
  refine j_Lst (c' := (1809, [(3, .int i), (2, .ref 75), (1, .ref 0), (0, .ref x_scr)], [.ref 75], h, 98, 10728)) lr_1808 rfl ?_
  refine j_Lst (c' := (1810, [(3, .int i), (2, .ref 75), (1, .ref 0), (0, .ref x_scr)], [.ref x_scr, .ref 75], h, 98, 10728)) lr_1809 rfl ?_
  refine j_Lst (c' := (1811, [(3, .int i), (2, .ref 75), (1, .ref 0), (0, .ref x_scr)], [.int i, .ref x_scr, .ref 75], h, 98, 10728)) lr_1810 rfl ?_
  refine j_Lst (c' := (1812, [(3, .int i), (2, .ref 75), (1, .ref 0), (0, .ref x_scr)], [.int 1, .int i, .ref x_scr, .ref 75], h, 98, 10728)) lr_1811 rfl ?_
  refine j_Lst (c' := (1813, [(3, .int i), (2, .ref 75), (1, .ref 0), (0, .ref x_scr)], [.int (i + 1), .ref x_scr, .ref 75], h, 98, 10728)) lr_1812 rfl ?_
  refine j_Lsl (c' := (1814, [(3, .int i), (2, .ref 75), (1, .ref 0), (0, .ref x_scr)], [.int (xs ((i + 1)).toNatClampNeg), .ref 75], h, 98, 10728)) lr_1813 rfl h1 ?_
  refine j_Lst (c' := (1815, [(3, .int i), (2, .ref 75), (1, .ref 0), (0, .ref x_scr)], [.ref x_scr, .int (xs ((i + 1)).toNatClampNeg), .ref 75], h, 98, 10728)) lr_1814 rfl ?_
  refine j_Lst (c' := (1816, [(3, .int i), (2, .ref 75), (1, .ref 0), (0, .ref x_scr)], [.int i, .ref x_scr, .int (xs ((i + 1)).toNatClampNeg), .ref 75], h, 98, 10728)) lr_1815 rfl ?_
  refine j_Lst (c' := (1817, [(3, .int i), (2, .ref 75), (1, .ref 0), (0, .ref x_scr)], [.int 2, .int i, .ref x_scr, .int (xs ((i + 1)).toNatClampNeg), .ref 75], h, 98, 10728)) lr_1816 rfl ?_
  refine j_Lst (c' := (1818, [(3, .int i), (2, .ref 75), (1, .ref 0), (0, .ref x_scr)], [.int (i + 2), .ref x_scr, .int (xs ((i + 1)).toNatClampNeg), .ref 75], h, 98, 10728)) lr_1817 rfl ?_
  refine j_Lsl (c' := (1819, [(3, .int i), (2, .ref 75), (1, .ref 0), (0, .ref x_scr)], [.int (xs ((i + 2)).toNatClampNeg), .int (xs ((i + 1)).toNatClampNeg), .ref 75], h, 98, 10728)) lr_1818 rfl h2 ?_
  exact kk

set_option maxRecDepth 100000 in
theorem x_c55d (h : xH) (L : Nat) (xs : Nat → Int32) (i : Int32) (h0 : ¬ (i < 0 ∨ L ≤ (i).toNatClampNeg)) (h1 : ¬ (i + 1 < 0 ∨ L ≤ (i + 1).toNatClampNeg)) (h2 : ¬ (i + 2 < 0 ∨ L ≤ (i + 2).toNatClampNeg)) (h3 : ¬ (i + 3 < 0 ∨ L ≤ (i + 3).toNatClampNeg)) (h4 : ¬ (i + 4 < 0 ∨ L ≤ (i + 4).toNatClampNeg)) (h5 : ¬ (i + 5 < 0 ∨ L ≤ (i + 5).toNatClampNeg)) (w : Int32) {P : Option Value × xH × Nat × Nat → Prop} (kk : x_R x_mt (some (L, xs)) 10 M_law (18, [(3, .int (i + Int32.ofInt (6))), (2, .ref 75), (1, .ref 0), (0, .ref x_scr)], [], h, 98, 10728) P) : x_R x_mt (some (L, xs)) 10 M_law (1822, [(3, .int i), (2, .ref 75), (1, .ref 0), (0, .ref x_scr)], [.int w], h, 98, 10728) P := by
  refine j_Lst (c' := (1823, [(3, .int i), (2, .ref 75), (1, .ref 0), (0, .ref x_scr)], [], h, 98, 10728)) lr_1822 rfl ?_
  refine j_Lst (c' := (2368, [(3, .int i), (2, .ref 75), (1, .ref 0), (0, .ref x_scr)], [], h, 98, 10728)) lr_1823 rfl ?_
  refine j_Lst (c' := (2371, [(3, .int (i + Int32.ofInt (6))), (2, .ref 75), (1, .ref 0), (0, .ref x_scr)], [], h, 98, 10728)) lr_2368 rfl ?_
  refine j_Lst (c' := (18, [(3, .int (i + Int32.ofInt (6))), (2, .ref 75), (1, .ref 0), (0, .ref x_scr)], [], h, 98, 10728)) lr_2371 rfl ?_
  exact kk

set_option maxRecDepth 100000 in
theorem x_c56a (h : xH) (L : Nat) (xs : Nat → Int32) (i : Int32) (h0 : ¬ (i < 0 ∨ L ≤ (i).toNatClampNeg)) (h1 : ¬ (i + 1 < 0 ∨ L ≤ (i + 1).toNatClampNeg)) (h2 : ¬ (i + 2 < 0 ∨ L ≤ (i + 2).toNatClampNeg)) (h3 : ¬ (i + 3 < 0 ∨ L ≤ (i + 3).toNatClampNeg)) (h4 : ¬ (i + 4 < 0 ∨ L ≤ (i + 4).toNatClampNeg)) (h5 : ¬ (i + 5 < 0 ∨ L ≤ (i + 5).toNatClampNeg)) {P : Option Value × xH × Nat × Nat → Prop} (kk : x_R x_mt (some (L, xs)) 10 M_law (1837, [(3, .int i), (2, .ref 75), (1, .ref 0), (0, .ref x_scr)], [.int (xs ((i + 2)).toNatClampNeg), .int (xs ((i + 1)).toNatClampNeg), .ref 0], h, 98, 10728) P) : x_R x_mt (some (L, xs)) 10 M_law (1826, [(3, .int i), (2, .ref 75), (1, .ref 0), (0, .ref x_scr)], [], h, 98, 10728) P := by
  refine j_Lst (c' := (1827, [(3, .int i), (2, .ref 75), (1, .ref 0), (0, .ref x_scr)], [.ref 0], h, 98, 10728)) lr_1826 rfl ?_
  refine j_Lst (c' := (1828, [(3, .int i), (2, .ref 75), (1, .ref 0), (0, .ref x_scr)], [.ref x_scr, .ref 0], h, 98, 10728)) lr_1827 rfl ?_
  refine j_Lst (c' := (1829, [(3, .int i), (2, .ref 75), (1, .ref 0), (0, .ref x_scr)], [.int i, .ref x_scr, .ref 0], h, 98, 10728)) lr_1828 rfl ?_
  refine j_Lst (c' := (1830, [(3, .int i), (2, .ref 75), (1, .ref 0), (0, .ref x_scr)], [.int 1, .int i, .ref x_scr, .ref 0], h, 98, 10728)) lr_1829 rfl ?_
  refine j_Lst (c' := (1831, [(3, .int i), (2, .ref 75), (1, .ref 0), (0, .ref x_scr)], [.int (i + 1), .ref x_scr, .ref 0], h, 98, 10728)) lr_1830 rfl ?_
  refine j_Lsl (c' := (1832, [(3, .int i), (2, .ref 75), (1, .ref 0), (0, .ref x_scr)], [.int (xs ((i + 1)).toNatClampNeg), .ref 0], h, 98, 10728)) lr_1831 rfl h1 ?_
  refine j_Lst (c' := (1833, [(3, .int i), (2, .ref 75), (1, .ref 0), (0, .ref x_scr)], [.ref x_scr, .int (xs ((i + 1)).toNatClampNeg), .ref 0], h, 98, 10728)) lr_1832 rfl ?_
  refine j_Lst (c' := (1834, [(3, .int i), (2, .ref 75), (1, .ref 0), (0, .ref x_scr)], [.int i, .ref x_scr, .int (xs ((i + 1)).toNatClampNeg), .ref 0], h, 98, 10728)) lr_1833 rfl ?_
  refine j_Lst (c' := (1835, [(3, .int i), (2, .ref 75), (1, .ref 0), (0, .ref x_scr)], [.int 2, .int i, .ref x_scr, .int (xs ((i + 1)).toNatClampNeg), .ref 0], h, 98, 10728)) lr_1834 rfl ?_
  refine j_Lst (c' := (1836, [(3, .int i), (2, .ref 75), (1, .ref 0), (0, .ref x_scr)], [.int (i + 2), .ref x_scr, .int (xs ((i + 1)).toNatClampNeg), .ref 0], h, 98, 10728)) lr_1835 rfl ?_
  refine j_Lsl (c' := (1837, [(3, .int i), (2, .ref 75), (1, .ref 0), (0, .ref x_scr)], [.int (xs ((i + 2)).toNatClampNeg), .int (xs ((i + 1)).toNatClampNeg), .ref 0], h, 98, 10728)) lr_1836 rfl h2 ?_
  exact kk

set_option maxRecDepth 100000 in
theorem x_c56b (h : xH) (L : Nat) (xs : Nat → Int32) (i : Int32) (h0 : ¬ (i < 0 ∨ L ≤ (i).toNatClampNeg)) (h1 : ¬ (i + 1 < 0 ∨ L ≤ (i + 1).toNatClampNeg)) (h2 : ¬ (i + 2 < 0 ∨ L ≤ (i + 2).toNatClampNeg)) (h3 : ¬ (i + 3 < 0 ∨ L ≤ (i + 3).toNatClampNeg)) (h4 : ¬ (i + 4 < 0 ∨ L ≤ (i + 4).toNatClampNeg)) (h5 : ¬ (i + 5 < 0 ∨ L ≤ (i + 5).toNatClampNeg)) (v : Int32) {P : Option Value × xH × Nat × Nat → Prop} (kk : x_R x_mt (some (L, xs)) 10 M_law (1852, [(3, .int i), (2, .ref 75), (1, .ref 0), (0, .ref x_scr)], [.int (xs ((i + 2)).toNatClampNeg), .int (xs ((i + 1)).toNatClampNeg), .ref 75], h, 98, 10728) P) : x_R x_mt (some (L, xs)) 10 M_law (1840, [(3, .int i), (2, .ref 75), (1, .ref 0), (0, .ref x_scr)], [.int v], h, 98, 10728) P := by
  refine j_Lst (c' := (1841, [(3, .int i), (2, .ref 75), (1, .ref 0), (0, .ref x_scr)], [], h, 98, 10728)) lr_1840 rfl ?_
  refine j_Lst (c' := (1842, [(3, .int i), (2, .ref 75), (1, .ref 0), (0, .ref x_scr)], [.ref 75], h, 98, 10728)) lr_1841 rfl ?_
  refine j_Lst (c' := (1843, [(3, .int i), (2, .ref 75), (1, .ref 0), (0, .ref x_scr)], [.ref x_scr, .ref 75], h, 98, 10728)) lr_1842 rfl ?_
  refine j_Lst (c' := (1844, [(3, .int i), (2, .ref 75), (1, .ref 0), (0, .ref x_scr)], [.int i, .ref x_scr, .ref 75], h, 98, 10728)) lr_1843 rfl ?_
  refine j_Lst (c' := (1845, [(3, .int i), (2, .ref 75), (1, .ref 0), (0, .ref x_scr)], [.int 1, .int i, .ref x_scr, .ref 75], h, 98, 10728)) lr_1844 rfl ?_
  refine j_Lst (c' := (1846, [(3, .int i), (2, .ref 75), (1, .ref 0), (0, .ref x_scr)], [.int (i + 1), .ref x_scr, .ref 75], h, 98, 10728)) lr_1845 rfl ?_
  refine j_Lsl (c' := (1847, [(3, .int i), (2, .ref 75), (1, .ref 0), (0, .ref x_scr)], [.int (xs ((i + 1)).toNatClampNeg), .ref 75], h, 98, 10728)) lr_1846 rfl h1 ?_
  refine j_Lst (c' := (1848, [(3, .int i), (2, .ref 75), (1, .ref 0), (0, .ref x_scr)], [.ref x_scr, .int (xs ((i + 1)).toNatClampNeg), .ref 75], h, 98, 10728)) lr_1847 rfl ?_
  refine j_Lst (c' := (1849, [(3, .int i), (2, .ref 75), (1, .ref 0), (0, .ref x_scr)], [.int i, .ref x_scr, .int (xs ((i + 1)).toNatClampNeg), .ref 75], h, 98, 10728)) lr_1848 rfl ?_
  refine j_Lst (c' := (1850, [(3, .int i), (2, .ref 75), (1, .ref 0), (0, .ref x_scr)], [.int 2, .int i, .ref x_scr, .int (xs ((i + 1)).toNatClampNeg), .ref 75], h, 98, 10728)) lr_1849 rfl ?_
  refine j_Lst (c' := (1851, [(3, .int i), (2, .ref 75), (1, .ref 0), (0, .ref x_scr)], [.int (i + 2), .ref x_scr, .int (xs ((i + 1)).toNatClampNeg), .ref 75], h, 98, 10728)) lr_1850 rfl ?_
  refine j_Lsl (c' := (1852, [(3, .int i), (2, .ref 75), (1, .ref 0), (0, .ref x_scr)], [.int (xs ((i + 2)).toNatClampNeg), .int (xs ((i + 1)).toNatClampNeg), .ref 75], h, 98, 10728)) lr_1851 rfl h2 ?_
  exact kk

set_option maxRecDepth 100000 in
theorem x_c56d (h : xH) (L : Nat) (xs : Nat → Int32) (i : Int32) (h0 : ¬ (i < 0 ∨ L ≤ (i).toNatClampNeg)) (h1 : ¬ (i + 1 < 0 ∨ L ≤ (i + 1).toNatClampNeg)) (h2 : ¬ (i + 2 < 0 ∨ L ≤ (i + 2).toNatClampNeg)) (h3 : ¬ (i + 3 < 0 ∨ L ≤ (i + 3).toNatClampNeg)) (h4 : ¬ (i + 4 < 0 ∨ L ≤ (i + 4).toNatClampNeg)) (h5 : ¬ (i + 5 < 0 ∨ L ≤ (i + 5).toNatClampNeg)) (w : Int32) {P : Option Value × xH × Nat × Nat → Prop} (kk : x_R x_mt (some (L, xs)) 10 M_law (18, [(3, .int (i + Int32.ofInt (6))), (2, .ref 75), (1, .ref 0), (0, .ref x_scr)], [], h, 98, 10728) P) : x_R x_mt (some (L, xs)) 10 M_law (1855, [(3, .int i), (2, .ref 75), (1, .ref 0), (0, .ref x_scr)], [.int w], h, 98, 10728) P := by
  refine j_Lst (c' := (1856, [(3, .int i), (2, .ref 75), (1, .ref 0), (0, .ref x_scr)], [], h, 98, 10728)) lr_1855 rfl ?_
  refine j_Lst (c' := (2368, [(3, .int i), (2, .ref 75), (1, .ref 0), (0, .ref x_scr)], [], h, 98, 10728)) lr_1856 rfl ?_
  refine j_Lst (c' := (2371, [(3, .int (i + Int32.ofInt (6))), (2, .ref 75), (1, .ref 0), (0, .ref x_scr)], [], h, 98, 10728)) lr_2368 rfl ?_
  refine j_Lst (c' := (18, [(3, .int (i + Int32.ofInt (6))), (2, .ref 75), (1, .ref 0), (0, .ref x_scr)], [], h, 98, 10728)) lr_2371 rfl ?_
  exact kk

set_option maxRecDepth 100000 in
theorem x_c57a (h : xH) (L : Nat) (xs : Nat → Int32) (i : Int32) (h0 : ¬ (i < 0 ∨ L ≤ (i).toNatClampNeg)) (h1 : ¬ (i + 1 < 0 ∨ L ≤ (i + 1).toNatClampNeg)) (h2 : ¬ (i + 2 < 0 ∨ L ≤ (i + 2).toNatClampNeg)) (h3 : ¬ (i + 3 < 0 ∨ L ≤ (i + 3).toNatClampNeg)) (h4 : ¬ (i + 4 < 0 ∨ L ≤ (i + 4).toNatClampNeg)) (h5 : ¬ (i + 5 < 0 ∨ L ≤ (i + 5).toNatClampNeg)) {P : Option Value × xH × Nat × Nat → Prop} (kk : x_R x_mt (some (L, xs)) 10 M_law (1865, [(3, .int i), (2, .ref 75), (1, .ref 0), (0, .ref x_scr)], [.int (xs ((i + 1)).toNatClampNeg), .ref 0], h, 98, 10728) P) : x_R x_mt (some (L, xs)) 10 M_law (1859, [(3, .int i), (2, .ref 75), (1, .ref 0), (0, .ref x_scr)], [], h, 98, 10728) P := by
  refine j_Lst (c' := (1860, [(3, .int i), (2, .ref 75), (1, .ref 0), (0, .ref x_scr)], [.ref 0], h, 98, 10728)) lr_1859 rfl ?_
  refine j_Lst (c' := (1861, [(3, .int i), (2, .ref 75), (1, .ref 0), (0, .ref x_scr)], [.ref x_scr, .ref 0], h, 98, 10728)) lr_1860 rfl ?_
  refine j_Lst (c' := (1862, [(3, .int i), (2, .ref 75), (1, .ref 0), (0, .ref x_scr)], [.int i, .ref x_scr, .ref 0], h, 98, 10728)) lr_1861 rfl ?_
  refine j_Lst (c' := (1863, [(3, .int i), (2, .ref 75), (1, .ref 0), (0, .ref x_scr)], [.int 1, .int i, .ref x_scr, .ref 0], h, 98, 10728)) lr_1862 rfl ?_
  refine j_Lst (c' := (1864, [(3, .int i), (2, .ref 75), (1, .ref 0), (0, .ref x_scr)], [.int (i + 1), .ref x_scr, .ref 0], h, 98, 10728)) lr_1863 rfl ?_
  refine j_Lsl (c' := (1865, [(3, .int i), (2, .ref 75), (1, .ref 0), (0, .ref x_scr)], [.int (xs ((i + 1)).toNatClampNeg), .ref 0], h, 98, 10728)) lr_1864 rfl h1 ?_
  exact kk

set_option maxRecDepth 100000 in
theorem x_c57b (h : xH) (L : Nat) (xs : Nat → Int32) (i : Int32) (h0 : ¬ (i < 0 ∨ L ≤ (i).toNatClampNeg)) (h1 : ¬ (i + 1 < 0 ∨ L ≤ (i + 1).toNatClampNeg)) (h2 : ¬ (i + 2 < 0 ∨ L ≤ (i + 2).toNatClampNeg)) (h3 : ¬ (i + 3 < 0 ∨ L ≤ (i + 3).toNatClampNeg)) (h4 : ¬ (i + 4 < 0 ∨ L ≤ (i + 4).toNatClampNeg)) (h5 : ¬ (i + 5 < 0 ∨ L ≤ (i + 5).toNatClampNeg)) (v : Int32) {P : Option Value × xH × Nat × Nat → Prop} (kk : x_R x_mt (some (L, xs)) 10 M_law (1875, [(3, .int i), (2, .ref 75), (1, .ref 0), (0, .ref x_scr)], [.int (xs ((i + 1)).toNatClampNeg), .ref 75], h, 98, 10728) P) : x_R x_mt (some (L, xs)) 10 M_law (1868, [(3, .int i), (2, .ref 75), (1, .ref 0), (0, .ref x_scr)], [.int v], h, 98, 10728) P := by
  refine j_Lst (c' := (1869, [(3, .int i), (2, .ref 75), (1, .ref 0), (0, .ref x_scr)], [], h, 98, 10728)) lr_1868 rfl ?_
  refine j_Lst (c' := (1870, [(3, .int i), (2, .ref 75), (1, .ref 0), (0, .ref x_scr)], [.ref 75], h, 98, 10728)) lr_1869 rfl ?_
  refine j_Lst (c' := (1871, [(3, .int i), (2, .ref 75), (1, .ref 0), (0, .ref x_scr)], [.ref x_scr, .ref 75], h, 98, 10728)) lr_1870 rfl ?_
  refine j_Lst (c' := (1872, [(3, .int i), (2, .ref 75), (1, .ref 0), (0, .ref x_scr)], [.int i, .ref x_scr, .ref 75], h, 98, 10728)) lr_1871 rfl ?_
  refine j_Lst (c' := (1873, [(3, .int i), (2, .ref 75), (1, .ref 0), (0, .ref x_scr)], [.int 1, .int i, .ref x_scr, .ref 75], h, 98, 10728)) lr_1872 rfl ?_
  refine j_Lst (c' := (1874, [(3, .int i), (2, .ref 75), (1, .ref 0), (0, .ref x_scr)], [.int (i + 1), .ref x_scr, .ref 75], h, 98, 10728)) lr_1873 rfl ?_
  refine j_Lsl (c' := (1875, [(3, .int i), (2, .ref 75), (1, .ref 0), (0, .ref x_scr)], [.int (xs ((i + 1)).toNatClampNeg), .ref 75], h, 98, 10728)) lr_1874 rfl h1 ?_
  exact kk

set_option maxRecDepth 100000 in
theorem x_c57d (h : xH) (L : Nat) (xs : Nat → Int32) (i : Int32) (h0 : ¬ (i < 0 ∨ L ≤ (i).toNatClampNeg)) (h1 : ¬ (i + 1 < 0 ∨ L ≤ (i + 1).toNatClampNeg)) (h2 : ¬ (i + 2 < 0 ∨ L ≤ (i + 2).toNatClampNeg)) (h3 : ¬ (i + 3 < 0 ∨ L ≤ (i + 3).toNatClampNeg)) (h4 : ¬ (i + 4 < 0 ∨ L ≤ (i + 4).toNatClampNeg)) (h5 : ¬ (i + 5 < 0 ∨ L ≤ (i + 5).toNatClampNeg)) (w : Int32) {P : Option Value × xH × Nat × Nat → Prop} (kk : x_R x_mt (some (L, xs)) 10 M_law (18, [(3, .int (i + Int32.ofInt (6))), (2, .ref 75), (1, .ref 0), (0, .ref x_scr)], [], h, 98, 10728) P) : x_R x_mt (some (L, xs)) 10 M_law (1878, [(3, .int i), (2, .ref 75), (1, .ref 0), (0, .ref x_scr)], [.int w], h, 98, 10728) P := by
  refine j_Lst (c' := (1879, [(3, .int i), (2, .ref 75), (1, .ref 0), (0, .ref x_scr)], [], h, 98, 10728)) lr_1878 rfl ?_
  refine j_Lst (c' := (2368, [(3, .int i), (2, .ref 75), (1, .ref 0), (0, .ref x_scr)], [], h, 98, 10728)) lr_1879 rfl ?_
  refine j_Lst (c' := (2371, [(3, .int (i + Int32.ofInt (6))), (2, .ref 75), (1, .ref 0), (0, .ref x_scr)], [], h, 98, 10728)) lr_2368 rfl ?_
  refine j_Lst (c' := (18, [(3, .int (i + Int32.ofInt (6))), (2, .ref 75), (1, .ref 0), (0, .ref x_scr)], [], h, 98, 10728)) lr_2371 rfl ?_
  exact kk

set_option maxRecDepth 100000 in
theorem x_c58a (h : xH) (L : Nat) (xs : Nat → Int32) (i : Int32) (h0 : ¬ (i < 0 ∨ L ≤ (i).toNatClampNeg)) (h1 : ¬ (i + 1 < 0 ∨ L ≤ (i + 1).toNatClampNeg)) (h2 : ¬ (i + 2 < 0 ∨ L ≤ (i + 2).toNatClampNeg)) (h3 : ¬ (i + 3 < 0 ∨ L ≤ (i + 3).toNatClampNeg)) (h4 : ¬ (i + 4 < 0 ∨ L ≤ (i + 4).toNatClampNeg)) (h5 : ¬ (i + 5 < 0 ∨ L ≤ (i + 5).toNatClampNeg)) {P : Option Value × xH × Nat × Nat → Prop} (kk : x_R x_mt (some (L, xs)) 10 M_law (1888, [(3, .int i), (2, .ref 75), (1, .ref 0), (0, .ref x_scr)], [.int (xs ((i + 1)).toNatClampNeg), .ref 0], h, 98, 10728) P) : x_R x_mt (some (L, xs)) 10 M_law (1882, [(3, .int i), (2, .ref 75), (1, .ref 0), (0, .ref x_scr)], [], h, 98, 10728) P := by
  refine j_Lst (c' := (1883, [(3, .int i), (2, .ref 75), (1, .ref 0), (0, .ref x_scr)], [.ref 0], h, 98, 10728)) lr_1882 rfl ?_
  refine j_Lst (c' := (1884, [(3, .int i), (2, .ref 75), (1, .ref 0), (0, .ref x_scr)], [.ref x_scr, .ref 0], h, 98, 10728)) lr_1883 rfl ?_
  refine j_Lst (c' := (1885, [(3, .int i), (2, .ref 75), (1, .ref 0), (0, .ref x_scr)], [.int i, .ref x_scr, .ref 0], h, 98, 10728)) lr_1884 rfl ?_
  refine j_Lst (c' := (1886, [(3, .int i), (2, .ref 75), (1, .ref 0), (0, .ref x_scr)], [.int 1, .int i, .ref x_scr, .ref 0], h, 98, 10728)) lr_1885 rfl ?_
  refine j_Lst (c' := (1887, [(3, .int i), (2, .ref 75), (1, .ref 0), (0, .ref x_scr)], [.int (i + 1), .ref x_scr, .ref 0], h, 98, 10728)) lr_1886 rfl ?_
  refine j_Lsl (c' := (1888, [(3, .int i), (2, .ref 75), (1, .ref 0), (0, .ref x_scr)], [.int (xs ((i + 1)).toNatClampNeg), .ref 0], h, 98, 10728)) lr_1887 rfl h1 ?_
  exact kk

set_option maxRecDepth 100000 in
theorem x_c58b (h : xH) (L : Nat) (xs : Nat → Int32) (i : Int32) (h0 : ¬ (i < 0 ∨ L ≤ (i).toNatClampNeg)) (h1 : ¬ (i + 1 < 0 ∨ L ≤ (i + 1).toNatClampNeg)) (h2 : ¬ (i + 2 < 0 ∨ L ≤ (i + 2).toNatClampNeg)) (h3 : ¬ (i + 3 < 0 ∨ L ≤ (i + 3).toNatClampNeg)) (h4 : ¬ (i + 4 < 0 ∨ L ≤ (i + 4).toNatClampNeg)) (h5 : ¬ (i + 5 < 0 ∨ L ≤ (i + 5).toNatClampNeg)) (v : Int32) {P : Option Value × xH × Nat × Nat → Prop} (kk : x_R x_mt (some (L, xs)) 10 M_law (1898, [(3, .int i), (2, .ref 75), (1, .ref 0), (0, .ref x_scr)], [.int (xs ((i + 1)).toNatClampNeg), .ref 75], h, 98, 10728) P) : x_R x_mt (some (L, xs)) 10 M_law (1891, [(3, .int i), (2, .ref 75), (1, .ref 0), (0, .ref x_scr)], [.int v], h, 98, 10728) P := by
  refine j_Lst (c' := (1892, [(3, .int i), (2, .ref 75), (1, .ref 0), (0, .ref x_scr)], [], h, 98, 10728)) lr_1891 rfl ?_
  refine j_Lst (c' := (1893, [(3, .int i), (2, .ref 75), (1, .ref 0), (0, .ref x_scr)], [.ref 75], h, 98, 10728)) lr_1892 rfl ?_
  refine j_Lst (c' := (1894, [(3, .int i), (2, .ref 75), (1, .ref 0), (0, .ref x_scr)], [.ref x_scr, .ref 75], h, 98, 10728)) lr_1893 rfl ?_
  refine j_Lst (c' := (1895, [(3, .int i), (2, .ref 75), (1, .ref 0), (0, .ref x_scr)], [.int i, .ref x_scr, .ref 75], h, 98, 10728)) lr_1894 rfl ?_
  refine j_Lst (c' := (1896, [(3, .int i), (2, .ref 75), (1, .ref 0), (0, .ref x_scr)], [.int 1, .int i, .ref x_scr, .ref 75], h, 98, 10728)) lr_1895 rfl ?_
  refine j_Lst (c' := (1897, [(3, .int i), (2, .ref 75), (1, .ref 0), (0, .ref x_scr)], [.int (i + 1), .ref x_scr, .ref 75], h, 98, 10728)) lr_1896 rfl ?_
  refine j_Lsl (c' := (1898, [(3, .int i), (2, .ref 75), (1, .ref 0), (0, .ref x_scr)], [.int (xs ((i + 1)).toNatClampNeg), .ref 75], h, 98, 10728)) lr_1897 rfl h1 ?_
  exact kk

set_option maxRecDepth 100000 in
theorem x_c58d (h : xH) (L : Nat) (xs : Nat → Int32) (i : Int32) (h0 : ¬ (i < 0 ∨ L ≤ (i).toNatClampNeg)) (h1 : ¬ (i + 1 < 0 ∨ L ≤ (i + 1).toNatClampNeg)) (h2 : ¬ (i + 2 < 0 ∨ L ≤ (i + 2).toNatClampNeg)) (h3 : ¬ (i + 3 < 0 ∨ L ≤ (i + 3).toNatClampNeg)) (h4 : ¬ (i + 4 < 0 ∨ L ≤ (i + 4).toNatClampNeg)) (h5 : ¬ (i + 5 < 0 ∨ L ≤ (i + 5).toNatClampNeg)) (w : Int32) {P : Option Value × xH × Nat × Nat → Prop} (kk : x_R x_mt (some (L, xs)) 10 M_law (18, [(3, .int (i + Int32.ofInt (6))), (2, .ref 75), (1, .ref 0), (0, .ref x_scr)], [], h, 98, 10728) P) : x_R x_mt (some (L, xs)) 10 M_law (1901, [(3, .int i), (2, .ref 75), (1, .ref 0), (0, .ref x_scr)], [.int w], h, 98, 10728) P := by
  refine j_Lst (c' := (1902, [(3, .int i), (2, .ref 75), (1, .ref 0), (0, .ref x_scr)], [], h, 98, 10728)) lr_1901 rfl ?_
  refine j_Lst (c' := (2368, [(3, .int i), (2, .ref 75), (1, .ref 0), (0, .ref x_scr)], [], h, 98, 10728)) lr_1902 rfl ?_
  refine j_Lst (c' := (2371, [(3, .int (i + Int32.ofInt (6))), (2, .ref 75), (1, .ref 0), (0, .ref x_scr)], [], h, 98, 10728)) lr_2368 rfl ?_
  refine j_Lst (c' := (18, [(3, .int (i + Int32.ofInt (6))), (2, .ref 75), (1, .ref 0), (0, .ref x_scr)], [], h, 98, 10728)) lr_2371 rfl ?_
  exact kk

set_option maxRecDepth 100000 in
theorem x_c59a (h : xH) (L : Nat) (xs : Nat → Int32) (i : Int32) (h0 : ¬ (i < 0 ∨ L ≤ (i).toNatClampNeg)) (h1 : ¬ (i + 1 < 0 ∨ L ≤ (i + 1).toNatClampNeg)) (h2 : ¬ (i + 2 < 0 ∨ L ≤ (i + 2).toNatClampNeg)) (h3 : ¬ (i + 3 < 0 ∨ L ≤ (i + 3).toNatClampNeg)) (h4 : ¬ (i + 4 < 0 ∨ L ≤ (i + 4).toNatClampNeg)) (h5 : ¬ (i + 5 < 0 ∨ L ≤ (i + 5).toNatClampNeg)) {P : Option Value × xH × Nat × Nat → Prop} (kk : x_R x_mt (some (L, xs)) 10 M_law (1916, [(3, .int i), (2, .ref 75), (1, .ref 0), (0, .ref x_scr)], [.int (xs ((i + 2)).toNatClampNeg), .int (xs ((i + 1)).toNatClampNeg), .ref 0], h, 98, 10728) P) : x_R x_mt (some (L, xs)) 10 M_law (1905, [(3, .int i), (2, .ref 75), (1, .ref 0), (0, .ref x_scr)], [], h, 98, 10728) P := by
  refine j_Lst (c' := (1906, [(3, .int i), (2, .ref 75), (1, .ref 0), (0, .ref x_scr)], [.ref 0], h, 98, 10728)) lr_1905 rfl ?_
  refine j_Lst (c' := (1907, [(3, .int i), (2, .ref 75), (1, .ref 0), (0, .ref x_scr)], [.ref x_scr, .ref 0], h, 98, 10728)) lr_1906 rfl ?_
  refine j_Lst (c' := (1908, [(3, .int i), (2, .ref 75), (1, .ref 0), (0, .ref x_scr)], [.int i, .ref x_scr, .ref 0], h, 98, 10728)) lr_1907 rfl ?_
  refine j_Lst (c' := (1909, [(3, .int i), (2, .ref 75), (1, .ref 0), (0, .ref x_scr)], [.int 1, .int i, .ref x_scr, .ref 0], h, 98, 10728)) lr_1908 rfl ?_
  refine j_Lst (c' := (1910, [(3, .int i), (2, .ref 75), (1, .ref 0), (0, .ref x_scr)], [.int (i + 1), .ref x_scr, .ref 0], h, 98, 10728)) lr_1909 rfl ?_
  refine j_Lsl (c' := (1911, [(3, .int i), (2, .ref 75), (1, .ref 0), (0, .ref x_scr)], [.int (xs ((i + 1)).toNatClampNeg), .ref 0], h, 98, 10728)) lr_1910 rfl h1 ?_
  refine j_Lst (c' := (1912, [(3, .int i), (2, .ref 75), (1, .ref 0), (0, .ref x_scr)], [.ref x_scr, .int (xs ((i + 1)).toNatClampNeg), .ref 0], h, 98, 10728)) lr_1911 rfl ?_
  refine j_Lst (c' := (1913, [(3, .int i), (2, .ref 75), (1, .ref 0), (0, .ref x_scr)], [.int i, .ref x_scr, .int (xs ((i + 1)).toNatClampNeg), .ref 0], h, 98, 10728)) lr_1912 rfl ?_
  refine j_Lst (c' := (1914, [(3, .int i), (2, .ref 75), (1, .ref 0), (0, .ref x_scr)], [.int 2, .int i, .ref x_scr, .int (xs ((i + 1)).toNatClampNeg), .ref 0], h, 98, 10728)) lr_1913 rfl ?_
  refine j_Lst (c' := (1915, [(3, .int i), (2, .ref 75), (1, .ref 0), (0, .ref x_scr)], [.int (i + 2), .ref x_scr, .int (xs ((i + 1)).toNatClampNeg), .ref 0], h, 98, 10728)) lr_1914 rfl ?_
  refine j_Lsl (c' := (1916, [(3, .int i), (2, .ref 75), (1, .ref 0), (0, .ref x_scr)], [.int (xs ((i + 2)).toNatClampNeg), .int (xs ((i + 1)).toNatClampNeg), .ref 0], h, 98, 10728)) lr_1915 rfl h2 ?_
  exact kk

set_option maxRecDepth 100000 in
theorem x_c59b (h : xH) (L : Nat) (xs : Nat → Int32) (i : Int32) (h0 : ¬ (i < 0 ∨ L ≤ (i).toNatClampNeg)) (h1 : ¬ (i + 1 < 0 ∨ L ≤ (i + 1).toNatClampNeg)) (h2 : ¬ (i + 2 < 0 ∨ L ≤ (i + 2).toNatClampNeg)) (h3 : ¬ (i + 3 < 0 ∨ L ≤ (i + 3).toNatClampNeg)) (h4 : ¬ (i + 4 < 0 ∨ L ≤ (i + 4).toNatClampNeg)) (h5 : ¬ (i + 5 < 0 ∨ L ≤ (i + 5).toNatClampNeg)) (v : Int32) {P : Option Value × xH × Nat × Nat → Prop} (kk : x_R x_mt (some (L, xs)) 10 M_law (1931, [(3, .int i), (2, .ref 75), (1, .ref 0), (0, .ref x_scr)], [.int (xs ((i + 2)).toNatClampNeg), .int (xs ((i + 1)).toNatClampNeg), .ref 75], h, 98, 10728) P) : x_R x_mt (some (L, xs)) 10 M_law (1919, [(3, .int i), (2, .ref 75), (1, .ref 0), (0, .ref x_scr)], [.int v], h, 98, 10728) P := by
  refine j_Lst (c' := (1920, [(3, .int i), (2, .ref 75), (1, .ref 0), (0, .ref x_scr)], [], h, 98, 10728)) lr_1919 rfl ?_
  refine j_Lst (c' := (1921, [(3, .int i), (2, .ref 75), (1, .ref 0), (0, .ref x_scr)], [.ref 75], h, 98, 10728)) lr_1920 rfl ?_
  refine j_Lst (c' := (1922, [(3, .int i), (2, .ref 75), (1, .ref 0), (0, .ref x_scr)], [.ref x_scr, .ref 75], h, 98, 10728)) lr_1921 rfl ?_
  refine j_Lst (c' := (1923, [(3, .int i), (2, .ref 75), (1, .ref 0), (0, .ref x_scr)], [.int i, .ref x_scr, .ref 75], h, 98, 10728)) lr_1922 rfl ?_
  refine j_Lst (c' := (1924, [(3, .int i), (2, .ref 75), (1, .ref 0), (0, .ref x_scr)], [.int 1, .int i, .ref x_scr, .ref 75], h, 98, 10728)) lr_1923 rfl ?_
  refine j_Lst (c' := (1925, [(3, .int i), (2, .ref 75), (1, .ref 0), (0, .ref x_scr)], [.int (i + 1), .ref x_scr, .ref 75], h, 98, 10728)) lr_1924 rfl ?_
  refine j_Lsl (c' := (1926, [(3, .int i), (2, .ref 75), (1, .ref 0), (0, .ref x_scr)], [.int (xs ((i + 1)).toNatClampNeg), .ref 75], h, 98, 10728)) lr_1925 rfl h1 ?_
  refine j_Lst (c' := (1927, [(3, .int i), (2, .ref 75), (1, .ref 0), (0, .ref x_scr)], [.ref x_scr, .int (xs ((i + 1)).toNatClampNeg), .ref 75], h, 98, 10728)) lr_1926 rfl ?_
  refine j_Lst (c' := (1928, [(3, .int i), (2, .ref 75), (1, .ref 0), (0, .ref x_scr)], [.int i, .ref x_scr, .int (xs ((i + 1)).toNatClampNeg), .ref 75], h, 98, 10728)) lr_1927 rfl ?_
  refine j_Lst (c' := (1929, [(3, .int i), (2, .ref 75), (1, .ref 0), (0, .ref x_scr)], [.int 2, .int i, .ref x_scr, .int (xs ((i + 1)).toNatClampNeg), .ref 75], h, 98, 10728)) lr_1928 rfl ?_
  refine j_Lst (c' := (1930, [(3, .int i), (2, .ref 75), (1, .ref 0), (0, .ref x_scr)], [.int (i + 2), .ref x_scr, .int (xs ((i + 1)).toNatClampNeg), .ref 75], h, 98, 10728)) lr_1929 rfl ?_
  refine j_Lsl (c' := (1931, [(3, .int i), (2, .ref 75), (1, .ref 0), (0, .ref x_scr)], [.int (xs ((i + 2)).toNatClampNeg), .int (xs ((i + 1)).toNatClampNeg), .ref 75], h, 98, 10728)) lr_1930 rfl h2 ?_
  exact kk

set_option maxRecDepth 100000 in
theorem x_c59d (h : xH) (L : Nat) (xs : Nat → Int32) (i : Int32) (h0 : ¬ (i < 0 ∨ L ≤ (i).toNatClampNeg)) (h1 : ¬ (i + 1 < 0 ∨ L ≤ (i + 1).toNatClampNeg)) (h2 : ¬ (i + 2 < 0 ∨ L ≤ (i + 2).toNatClampNeg)) (h3 : ¬ (i + 3 < 0 ∨ L ≤ (i + 3).toNatClampNeg)) (h4 : ¬ (i + 4 < 0 ∨ L ≤ (i + 4).toNatClampNeg)) (h5 : ¬ (i + 5 < 0 ∨ L ≤ (i + 5).toNatClampNeg)) (w : Int32) {P : Option Value × xH × Nat × Nat → Prop} (kk : x_R x_mt (some (L, xs)) 10 M_law (18, [(3, .int (i + Int32.ofInt (6))), (2, .ref 75), (1, .ref 0), (0, .ref x_scr)], [], h, 98, 10728) P) : x_R x_mt (some (L, xs)) 10 M_law (1934, [(3, .int i), (2, .ref 75), (1, .ref 0), (0, .ref x_scr)], [.int w], h, 98, 10728) P := by
  refine j_Lst (c' := (1935, [(3, .int i), (2, .ref 75), (1, .ref 0), (0, .ref x_scr)], [], h, 98, 10728)) lr_1934 rfl ?_
  refine j_Lst (c' := (2368, [(3, .int i), (2, .ref 75), (1, .ref 0), (0, .ref x_scr)], [], h, 98, 10728)) lr_1935 rfl ?_
  refine j_Lst (c' := (2371, [(3, .int (i + Int32.ofInt (6))), (2, .ref 75), (1, .ref 0), (0, .ref x_scr)], [], h, 98, 10728)) lr_2368 rfl ?_
  refine j_Lst (c' := (18, [(3, .int (i + Int32.ofInt (6))), (2, .ref 75), (1, .ref 0), (0, .ref x_scr)], [], h, 98, 10728)) lr_2371 rfl ?_
  exact kk

set_option maxRecDepth 100000 in
theorem x_c60a (h : xH) (L : Nat) (xs : Nat → Int32) (i : Int32) (h0 : ¬ (i < 0 ∨ L ≤ (i).toNatClampNeg)) (h1 : ¬ (i + 1 < 0 ∨ L ≤ (i + 1).toNatClampNeg)) (h2 : ¬ (i + 2 < 0 ∨ L ≤ (i + 2).toNatClampNeg)) (h3 : ¬ (i + 3 < 0 ∨ L ≤ (i + 3).toNatClampNeg)) (h4 : ¬ (i + 4 < 0 ∨ L ≤ (i + 4).toNatClampNeg)) (h5 : ¬ (i + 5 < 0 ∨ L ≤ (i + 5).toNatClampNeg)) {P : Option Value × xH × Nat × Nat → Prop} (kk : x_R x_mt (some (L, xs)) 10 M_law (1954, [(3, .int i), (2, .ref 75), (1, .ref 0), (0, .ref x_scr)], [.int (xs ((i + 3)).toNatClampNeg), .int (xs ((i + 2)).toNatClampNeg), .int (xs ((i + 1)).toNatClampNeg), .ref 0], h, 98, 10728) P) : x_R x_mt (some (L, xs)) 10 M_law (1938, [(3, .int i), (2, .ref 75), (1, .ref 0), (0, .ref x_scr)], [], h, 98, 10728) P := by
  refine j_Lst (c' := (1939, [(3, .int i), (2, .ref 75), (1, .ref 0), (0, .ref x_scr)], [.ref 0], h, 98, 10728)) lr_1938 rfl ?_
  refine j_Lst (c' := (1940, [(3, .int i), (2, .ref 75), (1, .ref 0), (0, .ref x_scr)], [.ref x_scr, .ref 0], h, 98, 10728)) lr_1939 rfl ?_
  refine j_Lst (c' := (1941, [(3, .int i), (2, .ref 75), (1, .ref 0), (0, .ref x_scr)], [.int i, .ref x_scr, .ref 0], h, 98, 10728)) lr_1940 rfl ?_
  refine j_Lst (c' := (1942, [(3, .int i), (2, .ref 75), (1, .ref 0), (0, .ref x_scr)], [.int 1, .int i, .ref x_scr, .ref 0], h, 98, 10728)) lr_1941 rfl ?_
  refine j_Lst (c' := (1943, [(3, .int i), (2, .ref 75), (1, .ref 0), (0, .ref x_scr)], [.int (i + 1), .ref x_scr, .ref 0], h, 98, 10728)) lr_1942 rfl ?_
  refine j_Lsl (c' := (1944, [(3, .int i), (2, .ref 75), (1, .ref 0), (0, .ref x_scr)], [.int (xs ((i + 1)).toNatClampNeg), .ref 0], h, 98, 10728)) lr_1943 rfl h1 ?_
  refine j_Lst (c' := (1945, [(3, .int i), (2, .ref 75), (1, .ref 0), (0, .ref x_scr)], [.ref x_scr, .int (xs ((i + 1)).toNatClampNeg), .ref 0], h, 98, 10728)) lr_1944 rfl ?_
  refine j_Lst (c' := (1946, [(3, .int i), (2, .ref 75), (1, .ref 0), (0, .ref x_scr)], [.int i, .ref x_scr, .int (xs ((i + 1)).toNatClampNeg), .ref 0], h, 98, 10728)) lr_1945 rfl ?_
  refine j_Lst (c' := (1947, [(3, .int i), (2, .ref 75), (1, .ref 0), (0, .ref x_scr)], [.int 2, .int i, .ref x_scr, .int (xs ((i + 1)).toNatClampNeg), .ref 0], h, 98, 10728)) lr_1946 rfl ?_
  refine j_Lst (c' := (1948, [(3, .int i), (2, .ref 75), (1, .ref 0), (0, .ref x_scr)], [.int (i + 2), .ref x_scr, .int (xs ((i + 1)).toNatClampNeg), .ref 0], h, 98, 10728)) lr_1947 rfl ?_
  refine j_Lsl (c' := (1949, [(3, .int i), (2, .ref 75), (1, .ref 0), (0, .ref x_scr)], [.int (xs ((i + 2)).toNatClampNeg), .int (xs ((i + 1)).toNatClampNeg), .ref 0], h, 98, 10728)) lr_1948 rfl h2 ?_
  refine j_Lst (c' := (1950, [(3, .int i), (2, .ref 75), (1, .ref 0), (0, .ref x_scr)], [.ref x_scr, .int (xs ((i + 2)).toNatClampNeg), .int (xs ((i + 1)).toNatClampNeg), .ref 0], h, 98, 10728)) lr_1949 rfl ?_
  refine j_Lst (c' := (1951, [(3, .int i), (2, .ref 75), (1, .ref 0), (0, .ref x_scr)], [.int i, .ref x_scr, .int (xs ((i + 2)).toNatClampNeg), .int (xs ((i + 1)).toNatClampNeg), .ref 0], h, 98, 10728)) lr_1950 rfl ?_
  refine j_Lst (c' := (1952, [(3, .int i), (2, .ref 75), (1, .ref 0), (0, .ref x_scr)], [.int 3, .int i, .ref x_scr, .int (xs ((i + 2)).toNatClampNeg), .int (xs ((i + 1)).toNatClampNeg), .ref 0], h, 98, 10728)) lr_1951 rfl ?_
  refine j_Lst (c' := (1953, [(3, .int i), (2, .ref 75), (1, .ref 0), (0, .ref x_scr)], [.int (i + 3), .ref x_scr, .int (xs ((i + 2)).toNatClampNeg), .int (xs ((i + 1)).toNatClampNeg), .ref 0], h, 98, 10728)) lr_1952 rfl ?_
  refine j_Lsl (c' := (1954, [(3, .int i), (2, .ref 75), (1, .ref 0), (0, .ref x_scr)], [.int (xs ((i + 3)).toNatClampNeg), .int (xs ((i + 2)).toNatClampNeg), .int (xs ((i + 1)).toNatClampNeg), .ref 0], h, 98, 10728)) lr_1953 rfl h3 ?_
  exact kk

set_option maxRecDepth 100000 in
theorem x_c60b (h : xH) (L : Nat) (xs : Nat → Int32) (i : Int32) (h0 : ¬ (i < 0 ∨ L ≤ (i).toNatClampNeg)) (h1 : ¬ (i + 1 < 0 ∨ L ≤ (i + 1).toNatClampNeg)) (h2 : ¬ (i + 2 < 0 ∨ L ≤ (i + 2).toNatClampNeg)) (h3 : ¬ (i + 3 < 0 ∨ L ≤ (i + 3).toNatClampNeg)) (h4 : ¬ (i + 4 < 0 ∨ L ≤ (i + 4).toNatClampNeg)) (h5 : ¬ (i + 5 < 0 ∨ L ≤ (i + 5).toNatClampNeg)) (v : Int32) {P : Option Value × xH × Nat × Nat → Prop} (kk : x_R x_mt (some (L, xs)) 10 M_law (1974, [(3, .int i), (2, .ref 75), (1, .ref 0), (0, .ref x_scr)], [.int (xs ((i + 3)).toNatClampNeg), .int (xs ((i + 2)).toNatClampNeg), .int (xs ((i + 1)).toNatClampNeg), .ref 75], h, 98, 10728) P) : x_R x_mt (some (L, xs)) 10 M_law (1957, [(3, .int i), (2, .ref 75), (1, .ref 0), (0, .ref x_scr)], [.int v], h, 98, 10728) P := by
  refine j_Lst (c' := (1958, [(3, .int i), (2, .ref 75), (1, .ref 0), (0, .ref x_scr)], [], h, 98, 10728)) lr_1957 rfl ?_
  refine j_Lst (c' := (1959, [(3, .int i), (2, .ref 75), (1, .ref 0), (0, .ref x_scr)], [.ref 75], h, 98, 10728)) lr_1958 rfl ?_
  refine j_Lst (c' := (1960, [(3, .int i), (2, .ref 75), (1, .ref 0), (0, .ref x_scr)], [.ref x_scr, .ref 75], h, 98, 10728)) lr_1959 rfl ?_
  refine j_Lst (c' := (1961, [(3, .int i), (2, .ref 75), (1, .ref 0), (0, .ref x_scr)], [.int i, .ref x_scr, .ref 75], h, 98, 10728)) lr_1960 rfl ?_
  refine j_Lst (c' := (1962, [(3, .int i), (2, .ref 75), (1, .ref 0), (0, .ref x_scr)], [.int 1, .int i, .ref x_scr, .ref 75], h, 98, 10728)) lr_1961 rfl ?_
  refine j_Lst (c' := (1963, [(3, .int i), (2, .ref 75), (1, .ref 0), (0, .ref x_scr)], [.int (i + 1), .ref x_scr, .ref 75], h, 98, 10728)) lr_1962 rfl ?_
  refine j_Lsl (c' := (1964, [(3, .int i), (2, .ref 75), (1, .ref 0), (0, .ref x_scr)], [.int (xs ((i + 1)).toNatClampNeg), .ref 75], h, 98, 10728)) lr_1963 rfl h1 ?_
  refine j_Lst (c' := (1965, [(3, .int i), (2, .ref 75), (1, .ref 0), (0, .ref x_scr)], [.ref x_scr, .int (xs ((i + 1)).toNatClampNeg), .ref 75], h, 98, 10728)) lr_1964 rfl ?_
  refine j_Lst (c' := (1966, [(3, .int i), (2, .ref 75), (1, .ref 0), (0, .ref x_scr)], [.int i, .ref x_scr, .int (xs ((i + 1)).toNatClampNeg), .ref 75], h, 98, 10728)) lr_1965 rfl ?_
  refine j_Lst (c' := (1967, [(3, .int i), (2, .ref 75), (1, .ref 0), (0, .ref x_scr)], [.int 2, .int i, .ref x_scr, .int (xs ((i + 1)).toNatClampNeg), .ref 75], h, 98, 10728)) lr_1966 rfl ?_
  refine j_Lst (c' := (1968, [(3, .int i), (2, .ref 75), (1, .ref 0), (0, .ref x_scr)], [.int (i + 2), .ref x_scr, .int (xs ((i + 1)).toNatClampNeg), .ref 75], h, 98, 10728)) lr_1967 rfl ?_
  refine j_Lsl (c' := (1969, [(3, .int i), (2, .ref 75), (1, .ref 0), (0, .ref x_scr)], [.int (xs ((i + 2)).toNatClampNeg), .int (xs ((i + 1)).toNatClampNeg), .ref 75], h, 98, 10728)) lr_1968 rfl h2 ?_
  refine j_Lst (c' := (1970, [(3, .int i), (2, .ref 75), (1, .ref 0), (0, .ref x_scr)], [.ref x_scr, .int (xs ((i + 2)).toNatClampNeg), .int (xs ((i + 1)).toNatClampNeg), .ref 75], h, 98, 10728)) lr_1969 rfl ?_
  refine j_Lst (c' := (1971, [(3, .int i), (2, .ref 75), (1, .ref 0), (0, .ref x_scr)], [.int i, .ref x_scr, .int (xs ((i + 2)).toNatClampNeg), .int (xs ((i + 1)).toNatClampNeg), .ref 75], h, 98, 10728)) lr_1970 rfl ?_
  refine j_Lst (c' := (1972, [(3, .int i), (2, .ref 75), (1, .ref 0), (0, .ref x_scr)], [.int 3, .int i, .ref x_scr, .int (xs ((i + 2)).toNatClampNeg), .int (xs ((i + 1)).toNatClampNeg), .ref 75], h, 98, 10728)) lr_1971 rfl ?_
  refine j_Lst (c' := (1973, [(3, .int i), (2, .ref 75), (1, .ref 0), (0, .ref x_scr)], [.int (i + 3), .ref x_scr, .int (xs ((i + 2)).toNatClampNeg), .int (xs ((i + 1)).toNatClampNeg), .ref 75], h, 98, 10728)) lr_1972 rfl ?_
  refine j_Lsl (c' := (1974, [(3, .int i), (2, .ref 75), (1, .ref 0), (0, .ref x_scr)], [.int (xs ((i + 3)).toNatClampNeg), .int (xs ((i + 2)).toNatClampNeg), .int (xs ((i + 1)).toNatClampNeg), .ref 75], h, 98, 10728)) lr_1973 rfl h3 ?_
  exact kk

set_option maxRecDepth 100000 in
theorem x_c60d (h : xH) (L : Nat) (xs : Nat → Int32) (i : Int32) (h0 : ¬ (i < 0 ∨ L ≤ (i).toNatClampNeg)) (h1 : ¬ (i + 1 < 0 ∨ L ≤ (i + 1).toNatClampNeg)) (h2 : ¬ (i + 2 < 0 ∨ L ≤ (i + 2).toNatClampNeg)) (h3 : ¬ (i + 3 < 0 ∨ L ≤ (i + 3).toNatClampNeg)) (h4 : ¬ (i + 4 < 0 ∨ L ≤ (i + 4).toNatClampNeg)) (h5 : ¬ (i + 5 < 0 ∨ L ≤ (i + 5).toNatClampNeg)) (w : Int32) {P : Option Value × xH × Nat × Nat → Prop} (kk : x_R x_mt (some (L, xs)) 10 M_law (18, [(3, .int (i + Int32.ofInt (6))), (2, .ref 75), (1, .ref 0), (0, .ref x_scr)], [], h, 98, 10728) P) : x_R x_mt (some (L, xs)) 10 M_law (1977, [(3, .int i), (2, .ref 75), (1, .ref 0), (0, .ref x_scr)], [.int w], h, 98, 10728) P := by
  refine j_Lst (c' := (1978, [(3, .int i), (2, .ref 75), (1, .ref 0), (0, .ref x_scr)], [], h, 98, 10728)) lr_1977 rfl ?_
  refine j_Lst (c' := (2368, [(3, .int i), (2, .ref 75), (1, .ref 0), (0, .ref x_scr)], [], h, 98, 10728)) lr_1978 rfl ?_
  refine j_Lst (c' := (2371, [(3, .int (i + Int32.ofInt (6))), (2, .ref 75), (1, .ref 0), (0, .ref x_scr)], [], h, 98, 10728)) lr_2368 rfl ?_
  refine j_Lst (c' := (18, [(3, .int (i + Int32.ofInt (6))), (2, .ref 75), (1, .ref 0), (0, .ref x_scr)], [], h, 98, 10728)) lr_2371 rfl ?_
  exact kk

set_option maxRecDepth 100000 in
theorem x_c61a (h : xH) (L : Nat) (xs : Nat → Int32) (i : Int32) (h0 : ¬ (i < 0 ∨ L ≤ (i).toNatClampNeg)) (h1 : ¬ (i + 1 < 0 ∨ L ≤ (i + 1).toNatClampNeg)) (h2 : ¬ (i + 2 < 0 ∨ L ≤ (i + 2).toNatClampNeg)) (h3 : ¬ (i + 3 < 0 ∨ L ≤ (i + 3).toNatClampNeg)) (h4 : ¬ (i + 4 < 0 ∨ L ≤ (i + 4).toNatClampNeg)) (h5 : ¬ (i + 5 < 0 ∨ L ≤ (i + 5).toNatClampNeg)) {P : Option Value × xH × Nat × Nat → Prop} (kk : x_R x_mt (some (L, xs)) 10 M_law (1997, [(3, .int i), (2, .ref 75), (1, .ref 0), (0, .ref x_scr)], [.int (xs ((i + 3)).toNatClampNeg), .int (xs ((i + 2)).toNatClampNeg), .int (xs ((i + 1)).toNatClampNeg), .ref 0], h, 98, 10728) P) : x_R x_mt (some (L, xs)) 10 M_law (1981, [(3, .int i), (2, .ref 75), (1, .ref 0), (0, .ref x_scr)], [], h, 98, 10728) P := by
  refine j_Lst (c' := (1982, [(3, .int i), (2, .ref 75), (1, .ref 0), (0, .ref x_scr)], [.ref 0], h, 98, 10728)) lr_1981 rfl ?_
  refine j_Lst (c' := (1983, [(3, .int i), (2, .ref 75), (1, .ref 0), (0, .ref x_scr)], [.ref x_scr, .ref 0], h, 98, 10728)) lr_1982 rfl ?_
  refine j_Lst (c' := (1984, [(3, .int i), (2, .ref 75), (1, .ref 0), (0, .ref x_scr)], [.int i, .ref x_scr, .ref 0], h, 98, 10728)) lr_1983 rfl ?_
  refine j_Lst (c' := (1985, [(3, .int i), (2, .ref 75), (1, .ref 0), (0, .ref x_scr)], [.int 1, .int i, .ref x_scr, .ref 0], h, 98, 10728)) lr_1984 rfl ?_
  refine j_Lst (c' := (1986, [(3, .int i), (2, .ref 75), (1, .ref 0), (0, .ref x_scr)], [.int (i + 1), .ref x_scr, .ref 0], h, 98, 10728)) lr_1985 rfl ?_
  refine j_Lsl (c' := (1987, [(3, .int i), (2, .ref 75), (1, .ref 0), (0, .ref x_scr)], [.int (xs ((i + 1)).toNatClampNeg), .ref 0], h, 98, 10728)) lr_1986 rfl h1 ?_
  refine j_Lst (c' := (1988, [(3, .int i), (2, .ref 75), (1, .ref 0), (0, .ref x_scr)], [.ref x_scr, .int (xs ((i + 1)).toNatClampNeg), .ref 0], h, 98, 10728)) lr_1987 rfl ?_
  refine j_Lst (c' := (1989, [(3, .int i), (2, .ref 75), (1, .ref 0), (0, .ref x_scr)], [.int i, .ref x_scr, .int (xs ((i + 1)).toNatClampNeg), .ref 0], h, 98, 10728)) lr_1988 rfl ?_
  refine j_Lst (c' := (1990, [(3, .int i), (2, .ref 75), (1, .ref 0), (0, .ref x_scr)], [.int 2, .int i, .ref x_scr, .int (xs ((i + 1)).toNatClampNeg), .ref 0], h, 98, 10728)) lr_1989 rfl ?_
  refine j_Lst (c' := (1991, [(3, .int i), (2, .ref 75), (1, .ref 0), (0, .ref x_scr)], [.int (i + 2), .ref x_scr, .int (xs ((i + 1)).toNatClampNeg), .ref 0], h, 98, 10728)) lr_1990 rfl ?_
  refine j_Lsl (c' := (1992, [(3, .int i), (2, .ref 75), (1, .ref 0), (0, .ref x_scr)], [.int (xs ((i + 2)).toNatClampNeg), .int (xs ((i + 1)).toNatClampNeg), .ref 0], h, 98, 10728)) lr_1991 rfl h2 ?_
  refine j_Lst (c' := (1993, [(3, .int i), (2, .ref 75), (1, .ref 0), (0, .ref x_scr)], [.ref x_scr, .int (xs ((i + 2)).toNatClampNeg), .int (xs ((i + 1)).toNatClampNeg), .ref 0], h, 98, 10728)) lr_1992 rfl ?_
  refine j_Lst (c' := (1994, [(3, .int i), (2, .ref 75), (1, .ref 0), (0, .ref x_scr)], [.int i, .ref x_scr, .int (xs ((i + 2)).toNatClampNeg), .int (xs ((i + 1)).toNatClampNeg), .ref 0], h, 98, 10728)) lr_1993 rfl ?_
  refine j_Lst (c' := (1995, [(3, .int i), (2, .ref 75), (1, .ref 0), (0, .ref x_scr)], [.int 3, .int i, .ref x_scr, .int (xs ((i + 2)).toNatClampNeg), .int (xs ((i + 1)).toNatClampNeg), .ref 0], h, 98, 10728)) lr_1994 rfl ?_
  refine j_Lst (c' := (1996, [(3, .int i), (2, .ref 75), (1, .ref 0), (0, .ref x_scr)], [.int (i + 3), .ref x_scr, .int (xs ((i + 2)).toNatClampNeg), .int (xs ((i + 1)).toNatClampNeg), .ref 0], h, 98, 10728)) lr_1995 rfl ?_
  refine j_Lsl (c' := (1997, [(3, .int i), (2, .ref 75), (1, .ref 0), (0, .ref x_scr)], [.int (xs ((i + 3)).toNatClampNeg), .int (xs ((i + 2)).toNatClampNeg), .int (xs ((i + 1)).toNatClampNeg), .ref 0], h, 98, 10728)) lr_1996 rfl h3 ?_
  exact kk

set_option maxRecDepth 100000 in
theorem x_c61b (h : xH) (L : Nat) (xs : Nat → Int32) (i : Int32) (h0 : ¬ (i < 0 ∨ L ≤ (i).toNatClampNeg)) (h1 : ¬ (i + 1 < 0 ∨ L ≤ (i + 1).toNatClampNeg)) (h2 : ¬ (i + 2 < 0 ∨ L ≤ (i + 2).toNatClampNeg)) (h3 : ¬ (i + 3 < 0 ∨ L ≤ (i + 3).toNatClampNeg)) (h4 : ¬ (i + 4 < 0 ∨ L ≤ (i + 4).toNatClampNeg)) (h5 : ¬ (i + 5 < 0 ∨ L ≤ (i + 5).toNatClampNeg)) (v : Int32) {P : Option Value × xH × Nat × Nat → Prop} (kk : x_R x_mt (some (L, xs)) 10 M_law (2017, [(3, .int i), (2, .ref 75), (1, .ref 0), (0, .ref x_scr)], [.int (xs ((i + 3)).toNatClampNeg), .int (xs ((i + 2)).toNatClampNeg), .int (xs ((i + 1)).toNatClampNeg), .ref 75], h, 98, 10728) P) : x_R x_mt (some (L, xs)) 10 M_law (2000, [(3, .int i), (2, .ref 75), (1, .ref 0), (0, .ref x_scr)], [.int v], h, 98, 10728) P := by
  refine j_Lst (c' := (2001, [(3, .int i), (2, .ref 75), (1, .ref 0), (0, .ref x_scr)], [], h, 98, 10728)) lr_2000 rfl ?_
  refine j_Lst (c' := (2002, [(3, .int i), (2, .ref 75), (1, .ref 0), (0, .ref x_scr)], [.ref 75], h, 98, 10728)) lr_2001 rfl ?_
  refine j_Lst (c' := (2003, [(3, .int i), (2, .ref 75), (1, .ref 0), (0, .ref x_scr)], [.ref x_scr, .ref 75], h, 98, 10728)) lr_2002 rfl ?_
  refine j_Lst (c' := (2004, [(3, .int i), (2, .ref 75), (1, .ref 0), (0, .ref x_scr)], [.int i, .ref x_scr, .ref 75], h, 98, 10728)) lr_2003 rfl ?_
  refine j_Lst (c' := (2005, [(3, .int i), (2, .ref 75), (1, .ref 0), (0, .ref x_scr)], [.int 1, .int i, .ref x_scr, .ref 75], h, 98, 10728)) lr_2004 rfl ?_
  refine j_Lst (c' := (2006, [(3, .int i), (2, .ref 75), (1, .ref 0), (0, .ref x_scr)], [.int (i + 1), .ref x_scr, .ref 75], h, 98, 10728)) lr_2005 rfl ?_
  refine j_Lsl (c' := (2007, [(3, .int i), (2, .ref 75), (1, .ref 0), (0, .ref x_scr)], [.int (xs ((i + 1)).toNatClampNeg), .ref 75], h, 98, 10728)) lr_2006 rfl h1 ?_
  refine j_Lst (c' := (2008, [(3, .int i), (2, .ref 75), (1, .ref 0), (0, .ref x_scr)], [.ref x_scr, .int (xs ((i + 1)).toNatClampNeg), .ref 75], h, 98, 10728)) lr_2007 rfl ?_
  refine j_Lst (c' := (2009, [(3, .int i), (2, .ref 75), (1, .ref 0), (0, .ref x_scr)], [.int i, .ref x_scr, .int (xs ((i + 1)).toNatClampNeg), .ref 75], h, 98, 10728)) lr_2008 rfl ?_
  refine j_Lst (c' := (2010, [(3, .int i), (2, .ref 75), (1, .ref 0), (0, .ref x_scr)], [.int 2, .int i, .ref x_scr, .int (xs ((i + 1)).toNatClampNeg), .ref 75], h, 98, 10728)) lr_2009 rfl ?_
  refine j_Lst (c' := (2011, [(3, .int i), (2, .ref 75), (1, .ref 0), (0, .ref x_scr)], [.int (i + 2), .ref x_scr, .int (xs ((i + 1)).toNatClampNeg), .ref 75], h, 98, 10728)) lr_2010 rfl ?_
  refine j_Lsl (c' := (2012, [(3, .int i), (2, .ref 75), (1, .ref 0), (0, .ref x_scr)], [.int (xs ((i + 2)).toNatClampNeg), .int (xs ((i + 1)).toNatClampNeg), .ref 75], h, 98, 10728)) lr_2011 rfl h2 ?_
  refine j_Lst (c' := (2013, [(3, .int i), (2, .ref 75), (1, .ref 0), (0, .ref x_scr)], [.ref x_scr, .int (xs ((i + 2)).toNatClampNeg), .int (xs ((i + 1)).toNatClampNeg), .ref 75], h, 98, 10728)) lr_2012 rfl ?_
  refine j_Lst (c' := (2014, [(3, .int i), (2, .ref 75), (1, .ref 0), (0, .ref x_scr)], [.int i, .ref x_scr, .int (xs ((i + 2)).toNatClampNeg), .int (xs ((i + 1)).toNatClampNeg), .ref 75], h, 98, 10728)) lr_2013 rfl ?_
  refine j_Lst (c' := (2015, [(3, .int i), (2, .ref 75), (1, .ref 0), (0, .ref x_scr)], [.int 3, .int i, .ref x_scr, .int (xs ((i + 2)).toNatClampNeg), .int (xs ((i + 1)).toNatClampNeg), .ref 75], h, 98, 10728)) lr_2014 rfl ?_
  refine j_Lst (c' := (2016, [(3, .int i), (2, .ref 75), (1, .ref 0), (0, .ref x_scr)], [.int (i + 3), .ref x_scr, .int (xs ((i + 2)).toNatClampNeg), .int (xs ((i + 1)).toNatClampNeg), .ref 75], h, 98, 10728)) lr_2015 rfl ?_
  refine j_Lsl (c' := (2017, [(3, .int i), (2, .ref 75), (1, .ref 0), (0, .ref x_scr)], [.int (xs ((i + 3)).toNatClampNeg), .int (xs ((i + 2)).toNatClampNeg), .int (xs ((i + 1)).toNatClampNeg), .ref 75], h, 98, 10728)) lr_2016 rfl h3 ?_
  exact kk

set_option maxRecDepth 100000 in
theorem x_c61d (h : xH) (L : Nat) (xs : Nat → Int32) (i : Int32) (h0 : ¬ (i < 0 ∨ L ≤ (i).toNatClampNeg)) (h1 : ¬ (i + 1 < 0 ∨ L ≤ (i + 1).toNatClampNeg)) (h2 : ¬ (i + 2 < 0 ∨ L ≤ (i + 2).toNatClampNeg)) (h3 : ¬ (i + 3 < 0 ∨ L ≤ (i + 3).toNatClampNeg)) (h4 : ¬ (i + 4 < 0 ∨ L ≤ (i + 4).toNatClampNeg)) (h5 : ¬ (i + 5 < 0 ∨ L ≤ (i + 5).toNatClampNeg)) (w : Int32) {P : Option Value × xH × Nat × Nat → Prop} (kk : x_R x_mt (some (L, xs)) 10 M_law (18, [(3, .int (i + Int32.ofInt (6))), (2, .ref 75), (1, .ref 0), (0, .ref x_scr)], [], h, 98, 10728) P) : x_R x_mt (some (L, xs)) 10 M_law (2020, [(3, .int i), (2, .ref 75), (1, .ref 0), (0, .ref x_scr)], [.int w], h, 98, 10728) P := by
  refine j_Lst (c' := (2021, [(3, .int i), (2, .ref 75), (1, .ref 0), (0, .ref x_scr)], [], h, 98, 10728)) lr_2020 rfl ?_
  refine j_Lst (c' := (2368, [(3, .int i), (2, .ref 75), (1, .ref 0), (0, .ref x_scr)], [], h, 98, 10728)) lr_2021 rfl ?_
  refine j_Lst (c' := (2371, [(3, .int (i + Int32.ofInt (6))), (2, .ref 75), (1, .ref 0), (0, .ref x_scr)], [], h, 98, 10728)) lr_2368 rfl ?_
  refine j_Lst (c' := (18, [(3, .int (i + Int32.ofInt (6))), (2, .ref 75), (1, .ref 0), (0, .ref x_scr)], [], h, 98, 10728)) lr_2371 rfl ?_
  exact kk

set_option maxRecDepth 100000 in
theorem x_c62a (h : xH) (L : Nat) (xs : Nat → Int32) (i : Int32) (h0 : ¬ (i < 0 ∨ L ≤ (i).toNatClampNeg)) (h1 : ¬ (i + 1 < 0 ∨ L ≤ (i + 1).toNatClampNeg)) (h2 : ¬ (i + 2 < 0 ∨ L ≤ (i + 2).toNatClampNeg)) (h3 : ¬ (i + 3 < 0 ∨ L ≤ (i + 3).toNatClampNeg)) (h4 : ¬ (i + 4 < 0 ∨ L ≤ (i + 4).toNatClampNeg)) (h5 : ¬ (i + 5 < 0 ∨ L ≤ (i + 5).toNatClampNeg)) {P : Option Value × xH × Nat × Nat → Prop} (kk : x_R x_mt (some (L, xs)) 10 M_law (2040, [(3, .int i), (2, .ref 75), (1, .ref 0), (0, .ref x_scr)], [.int (xs ((i + 3)).toNatClampNeg), .int (xs ((i + 2)).toNatClampNeg), .int (xs ((i + 1)).toNatClampNeg), .ref 0], h, 98, 10728) P) : x_R x_mt (some (L, xs)) 10 M_law (2024, [(3, .int i), (2, .ref 75), (1, .ref 0), (0, .ref x_scr)], [], h, 98, 10728) P := by
  refine j_Lst (c' := (2025, [(3, .int i), (2, .ref 75), (1, .ref 0), (0, .ref x_scr)], [.ref 0], h, 98, 10728)) lr_2024 rfl ?_
  refine j_Lst (c' := (2026, [(3, .int i), (2, .ref 75), (1, .ref 0), (0, .ref x_scr)], [.ref x_scr, .ref 0], h, 98, 10728)) lr_2025 rfl ?_
  refine j_Lst (c' := (2027, [(3, .int i), (2, .ref 75), (1, .ref 0), (0, .ref x_scr)], [.int i, .ref x_scr, .ref 0], h, 98, 10728)) lr_2026 rfl ?_
  refine j_Lst (c' := (2028, [(3, .int i), (2, .ref 75), (1, .ref 0), (0, .ref x_scr)], [.int 1, .int i, .ref x_scr, .ref 0], h, 98, 10728)) lr_2027 rfl ?_
  refine j_Lst (c' := (2029, [(3, .int i), (2, .ref 75), (1, .ref 0), (0, .ref x_scr)], [.int (i + 1), .ref x_scr, .ref 0], h, 98, 10728)) lr_2028 rfl ?_
  refine j_Lsl (c' := (2030, [(3, .int i), (2, .ref 75), (1, .ref 0), (0, .ref x_scr)], [.int (xs ((i + 1)).toNatClampNeg), .ref 0], h, 98, 10728)) lr_2029 rfl h1 ?_
  refine j_Lst (c' := (2031, [(3, .int i), (2, .ref 75), (1, .ref 0), (0, .ref x_scr)], [.ref x_scr, .int (xs ((i + 1)).toNatClampNeg), .ref 0], h, 98, 10728)) lr_2030 rfl ?_
  refine j_Lst (c' := (2032, [(3, .int i), (2, .ref 75), (1, .ref 0), (0, .ref x_scr)], [.int i, .ref x_scr, .int (xs ((i + 1)).toNatClampNeg), .ref 0], h, 98, 10728)) lr_2031 rfl ?_
  refine j_Lst (c' := (2033, [(3, .int i), (2, .ref 75), (1, .ref 0), (0, .ref x_scr)], [.int 2, .int i, .ref x_scr, .int (xs ((i + 1)).toNatClampNeg), .ref 0], h, 98, 10728)) lr_2032 rfl ?_
  refine j_Lst (c' := (2034, [(3, .int i), (2, .ref 75), (1, .ref 0), (0, .ref x_scr)], [.int (i + 2), .ref x_scr, .int (xs ((i + 1)).toNatClampNeg), .ref 0], h, 98, 10728)) lr_2033 rfl ?_
  refine j_Lsl (c' := (2035, [(3, .int i), (2, .ref 75), (1, .ref 0), (0, .ref x_scr)], [.int (xs ((i + 2)).toNatClampNeg), .int (xs ((i + 1)).toNatClampNeg), .ref 0], h, 98, 10728)) lr_2034 rfl h2 ?_
  refine j_Lst (c' := (2036, [(3, .int i), (2, .ref 75), (1, .ref 0), (0, .ref x_scr)], [.ref x_scr, .int (xs ((i + 2)).toNatClampNeg), .int (xs ((i + 1)).toNatClampNeg), .ref 0], h, 98, 10728)) lr_2035 rfl ?_
  refine j_Lst (c' := (2037, [(3, .int i), (2, .ref 75), (1, .ref 0), (0, .ref x_scr)], [.int i, .ref x_scr, .int (xs ((i + 2)).toNatClampNeg), .int (xs ((i + 1)).toNatClampNeg), .ref 0], h, 98, 10728)) lr_2036 rfl ?_
  refine j_Lst (c' := (2038, [(3, .int i), (2, .ref 75), (1, .ref 0), (0, .ref x_scr)], [.int 3, .int i, .ref x_scr, .int (xs ((i + 2)).toNatClampNeg), .int (xs ((i + 1)).toNatClampNeg), .ref 0], h, 98, 10728)) lr_2037 rfl ?_
  refine j_Lst (c' := (2039, [(3, .int i), (2, .ref 75), (1, .ref 0), (0, .ref x_scr)], [.int (i + 3), .ref x_scr, .int (xs ((i + 2)).toNatClampNeg), .int (xs ((i + 1)).toNatClampNeg), .ref 0], h, 98, 10728)) lr_2038 rfl ?_
  refine j_Lsl (c' := (2040, [(3, .int i), (2, .ref 75), (1, .ref 0), (0, .ref x_scr)], [.int (xs ((i + 3)).toNatClampNeg), .int (xs ((i + 2)).toNatClampNeg), .int (xs ((i + 1)).toNatClampNeg), .ref 0], h, 98, 10728)) lr_2039 rfl h3 ?_
  exact kk

set_option maxRecDepth 100000 in
theorem x_c62b (h : xH) (L : Nat) (xs : Nat → Int32) (i : Int32) (h0 : ¬ (i < 0 ∨ L ≤ (i).toNatClampNeg)) (h1 : ¬ (i + 1 < 0 ∨ L ≤ (i + 1).toNatClampNeg)) (h2 : ¬ (i + 2 < 0 ∨ L ≤ (i + 2).toNatClampNeg)) (h3 : ¬ (i + 3 < 0 ∨ L ≤ (i + 3).toNatClampNeg)) (h4 : ¬ (i + 4 < 0 ∨ L ≤ (i + 4).toNatClampNeg)) (h5 : ¬ (i + 5 < 0 ∨ L ≤ (i + 5).toNatClampNeg)) (v : Int32) {P : Option Value × xH × Nat × Nat → Prop} (kk : x_R x_mt (some (L, xs)) 10 M_law (2060, [(3, .int i), (2, .ref 75), (1, .ref 0), (0, .ref x_scr)], [.int (xs ((i + 3)).toNatClampNeg), .int (xs ((i + 2)).toNatClampNeg), .int (xs ((i + 1)).toNatClampNeg), .ref 75], h, 98, 10728) P) : x_R x_mt (some (L, xs)) 10 M_law (2043, [(3, .int i), (2, .ref 75), (1, .ref 0), (0, .ref x_scr)], [.int v], h, 98, 10728) P := by
  refine j_Lst (c' := (2044, [(3, .int i), (2, .ref 75), (1, .ref 0), (0, .ref x_scr)], [], h, 98, 10728)) lr_2043 rfl ?_
  refine j_Lst (c' := (2045, [(3, .int i), (2, .ref 75), (1, .ref 0), (0, .ref x_scr)], [.ref 75], h, 98, 10728)) lr_2044 rfl ?_
  refine j_Lst (c' := (2046, [(3, .int i), (2, .ref 75), (1, .ref 0), (0, .ref x_scr)], [.ref x_scr, .ref 75], h, 98, 10728)) lr_2045 rfl ?_
  refine j_Lst (c' := (2047, [(3, .int i), (2, .ref 75), (1, .ref 0), (0, .ref x_scr)], [.int i, .ref x_scr, .ref 75], h, 98, 10728)) lr_2046 rfl ?_
  refine j_Lst (c' := (2048, [(3, .int i), (2, .ref 75), (1, .ref 0), (0, .ref x_scr)], [.int 1, .int i, .ref x_scr, .ref 75], h, 98, 10728)) lr_2047 rfl ?_
  refine j_Lst (c' := (2049, [(3, .int i), (2, .ref 75), (1, .ref 0), (0, .ref x_scr)], [.int (i + 1), .ref x_scr, .ref 75], h, 98, 10728)) lr_2048 rfl ?_
  refine j_Lsl (c' := (2050, [(3, .int i), (2, .ref 75), (1, .ref 0), (0, .ref x_scr)], [.int (xs ((i + 1)).toNatClampNeg), .ref 75], h, 98, 10728)) lr_2049 rfl h1 ?_
  refine j_Lst (c' := (2051, [(3, .int i), (2, .ref 75), (1, .ref 0), (0, .ref x_scr)], [.ref x_scr, .int (xs ((i + 1)).toNatClampNeg), .ref 75], h, 98, 10728)) lr_2050 rfl ?_
  refine j_Lst (c' := (2052, [(3, .int i), (2, .ref 75), (1, .ref 0), (0, .ref x_scr)], [.int i, .ref x_scr, .int (xs ((i + 1)).toNatClampNeg), .ref 75], h, 98, 10728)) lr_2051 rfl ?_
  refine j_Lst (c' := (2053, [(3, .int i), (2, .ref 75), (1, .ref 0), (0, .ref x_scr)], [.int 2, .int i, .ref x_scr, .int (xs ((i + 1)).toNatClampNeg), .ref 75], h, 98, 10728)) lr_2052 rfl ?_
  refine j_Lst (c' := (2054, [(3, .int i), (2, .ref 75), (1, .ref 0), (0, .ref x_scr)], [.int (i + 2), .ref x_scr, .int (xs ((i + 1)).toNatClampNeg), .ref 75], h, 98, 10728)) lr_2053 rfl ?_
  refine j_Lsl (c' := (2055, [(3, .int i), (2, .ref 75), (1, .ref 0), (0, .ref x_scr)], [.int (xs ((i + 2)).toNatClampNeg), .int (xs ((i + 1)).toNatClampNeg), .ref 75], h, 98, 10728)) lr_2054 rfl h2 ?_
  refine j_Lst (c' := (2056, [(3, .int i), (2, .ref 75), (1, .ref 0), (0, .ref x_scr)], [.ref x_scr, .int (xs ((i + 2)).toNatClampNeg), .int (xs ((i + 1)).toNatClampNeg), .ref 75], h, 98, 10728)) lr_2055 rfl ?_
  refine j_Lst (c' := (2057, [(3, .int i), (2, .ref 75), (1, .ref 0), (0, .ref x_scr)], [.int i, .ref x_scr, .int (xs ((i + 2)).toNatClampNeg), .int (xs ((i + 1)).toNatClampNeg), .ref 75], h, 98, 10728)) lr_2056 rfl ?_
  refine j_Lst (c' := (2058, [(3, .int i), (2, .ref 75), (1, .ref 0), (0, .ref x_scr)], [.int 3, .int i, .ref x_scr, .int (xs ((i + 2)).toNatClampNeg), .int (xs ((i + 1)).toNatClampNeg), .ref 75], h, 98, 10728)) lr_2057 rfl ?_
  refine j_Lst (c' := (2059, [(3, .int i), (2, .ref 75), (1, .ref 0), (0, .ref x_scr)], [.int (i + 3), .ref x_scr, .int (xs ((i + 2)).toNatClampNeg), .int (xs ((i + 1)).toNatClampNeg), .ref 75], h, 98, 10728)) lr_2058 rfl ?_
  refine j_Lsl (c' := (2060, [(3, .int i), (2, .ref 75), (1, .ref 0), (0, .ref x_scr)], [.int (xs ((i + 3)).toNatClampNeg), .int (xs ((i + 2)).toNatClampNeg), .int (xs ((i + 1)).toNatClampNeg), .ref 75], h, 98, 10728)) lr_2059 rfl h3 ?_
  exact kk

set_option maxRecDepth 100000 in
theorem x_c62d (h : xH) (L : Nat) (xs : Nat → Int32) (i : Int32) (h0 : ¬ (i < 0 ∨ L ≤ (i).toNatClampNeg)) (h1 : ¬ (i + 1 < 0 ∨ L ≤ (i + 1).toNatClampNeg)) (h2 : ¬ (i + 2 < 0 ∨ L ≤ (i + 2).toNatClampNeg)) (h3 : ¬ (i + 3 < 0 ∨ L ≤ (i + 3).toNatClampNeg)) (h4 : ¬ (i + 4 < 0 ∨ L ≤ (i + 4).toNatClampNeg)) (h5 : ¬ (i + 5 < 0 ∨ L ≤ (i + 5).toNatClampNeg)) (w : Int32) {P : Option Value × xH × Nat × Nat → Prop} (kk : x_R x_mt (some (L, xs)) 10 M_law (18, [(3, .int (i + Int32.ofInt (6))), (2, .ref 75), (1, .ref 0), (0, .ref x_scr)], [], h, 98, 10728) P) : x_R x_mt (some (L, xs)) 10 M_law (2063, [(3, .int i), (2, .ref 75), (1, .ref 0), (0, .ref x_scr)], [.int w], h, 98, 10728) P := by
  refine j_Lst (c' := (2064, [(3, .int i), (2, .ref 75), (1, .ref 0), (0, .ref x_scr)], [], h, 98, 10728)) lr_2063 rfl ?_
  refine j_Lst (c' := (2368, [(3, .int i), (2, .ref 75), (1, .ref 0), (0, .ref x_scr)], [], h, 98, 10728)) lr_2064 rfl ?_
  refine j_Lst (c' := (2371, [(3, .int (i + Int32.ofInt (6))), (2, .ref 75), (1, .ref 0), (0, .ref x_scr)], [], h, 98, 10728)) lr_2368 rfl ?_
  refine j_Lst (c' := (18, [(3, .int (i + Int32.ofInt (6))), (2, .ref 75), (1, .ref 0), (0, .ref x_scr)], [], h, 98, 10728)) lr_2371 rfl ?_
  exact kk

set_option maxRecDepth 100000 in
theorem x_c63a (h : xH) (L : Nat) (xs : Nat → Int32) (i : Int32) (h0 : ¬ (i < 0 ∨ L ≤ (i).toNatClampNeg)) (h1 : ¬ (i + 1 < 0 ∨ L ≤ (i + 1).toNatClampNeg)) (h2 : ¬ (i + 2 < 0 ∨ L ≤ (i + 2).toNatClampNeg)) (h3 : ¬ (i + 3 < 0 ∨ L ≤ (i + 3).toNatClampNeg)) (h4 : ¬ (i + 4 < 0 ∨ L ≤ (i + 4).toNatClampNeg)) (h5 : ¬ (i + 5 < 0 ∨ L ≤ (i + 5).toNatClampNeg)) {P : Option Value × xH × Nat × Nat → Prop} (kk : x_R x_mt (some (L, xs)) 10 M_law (2088, [(3, .int i), (2, .ref 75), (1, .ref 0), (0, .ref x_scr)], [.int (xs ((i + 4)).toNatClampNeg), .int (xs ((i + 3)).toNatClampNeg), .int (xs ((i + 2)).toNatClampNeg), .int (xs ((i + 1)).toNatClampNeg), .ref 0], h, 98, 10728) P) : x_R x_mt (some (L, xs)) 10 M_law (2067, [(3, .int i), (2, .ref 75), (1, .ref 0), (0, .ref x_scr)], [], h, 98, 10728) P := by
  refine j_Lst (c' := (2068, [(3, .int i), (2, .ref 75), (1, .ref 0), (0, .ref x_scr)], [.ref 0], h, 98, 10728)) lr_2067 rfl ?_
  refine j_Lst (c' := (2069, [(3, .int i), (2, .ref 75), (1, .ref 0), (0, .ref x_scr)], [.ref x_scr, .ref 0], h, 98, 10728)) lr_2068 rfl ?_
  refine j_Lst (c' := (2070, [(3, .int i), (2, .ref 75), (1, .ref 0), (0, .ref x_scr)], [.int i, .ref x_scr, .ref 0], h, 98, 10728)) lr_2069 rfl ?_
  refine j_Lst (c' := (2071, [(3, .int i), (2, .ref 75), (1, .ref 0), (0, .ref x_scr)], [.int 1, .int i, .ref x_scr, .ref 0], h, 98, 10728)) lr_2070 rfl ?_
  refine j_Lst (c' := (2072, [(3, .int i), (2, .ref 75), (1, .ref 0), (0, .ref x_scr)], [.int (i + 1), .ref x_scr, .ref 0], h, 98, 10728)) lr_2071 rfl ?_
  refine j_Lsl (c' := (2073, [(3, .int i), (2, .ref 75), (1, .ref 0), (0, .ref x_scr)], [.int (xs ((i + 1)).toNatClampNeg), .ref 0], h, 98, 10728)) lr_2072 rfl h1 ?_
  refine j_Lst (c' := (2074, [(3, .int i), (2, .ref 75), (1, .ref 0), (0, .ref x_scr)], [.ref x_scr, .int (xs ((i + 1)).toNatClampNeg), .ref 0], h, 98, 10728)) lr_2073 rfl ?_
  refine j_Lst (c' := (2075, [(3, .int i), (2, .ref 75), (1, .ref 0), (0, .ref x_scr)], [.int i, .ref x_scr, .int (xs ((i + 1)).toNatClampNeg), .ref 0], h, 98, 10728)) lr_2074 rfl ?_
  refine j_Lst (c' := (2076, [(3, .int i), (2, .ref 75), (1, .ref 0), (0, .ref x_scr)], [.int 2, .int i, .ref x_scr, .int (xs ((i + 1)).toNatClampNeg), .ref 0], h, 98, 10728)) lr_2075 rfl ?_
  refine j_Lst (c' := (2077, [(3, .int i), (2, .ref 75), (1, .ref 0), (0, .ref x_scr)], [.int (i + 2), .ref x_scr, .int (xs ((i + 1)).toNatClampNeg), .ref 0], h, 98, 10728)) lr_2076 rfl ?_
  refine j_Lsl (c' := (2078, [(3, .int i), (2, .ref 75), (1, .ref 0), (0, .ref x_scr)], [.int (xs ((i + 2)).toNatClampNeg), .int (xs ((i + 1)).toNatClampNeg), .ref 0], h, 98, 10728)) lr_2077 rfl h2 ?_
  refine j_Lst (c' := (2079, [(3, .int i), (2, .ref 75), (1, .ref 0), (0, .ref x_scr)], [.ref x_scr, .int (xs ((i + 2)).toNatClampNeg), .int (xs ((i + 1)).toNatClampNeg), .ref 0], h, 98, 10728)) lr_2078 rfl ?_
  refine j_Lst (c' := (2080, [(3, .int i), (2, .ref 75), (1, .ref 0), (0, .ref x_scr)], [.int i, .ref x_scr, .int (xs ((i + 2)).toNatClampNeg), .int (xs ((i + 1)).toNatClampNeg), .ref 0], h, 98, 10728)) lr_2079 rfl ?_
  refine j_Lst (c' := (2081, [(3, .int i), (2, .ref 75), (1, .ref 0), (0, .ref x_scr)], [.int 3, .int i, .ref x_scr, .int (xs ((i + 2)).toNatClampNeg), .int (xs ((i + 1)).toNatClampNeg), .ref 0], h, 98, 10728)) lr_2080 rfl ?_
  refine j_Lst (c' := (2082, [(3, .int i), (2, .ref 75), (1, .ref 0), (0, .ref x_scr)], [.int (i + 3), .ref x_scr, .int (xs ((i + 2)).toNatClampNeg), .int (xs ((i + 1)).toNatClampNeg), .ref 0], h, 98, 10728)) lr_2081 rfl ?_
  refine j_Lsl (c' := (2083, [(3, .int i), (2, .ref 75), (1, .ref 0), (0, .ref x_scr)], [.int (xs ((i + 3)).toNatClampNeg), .int (xs ((i + 2)).toNatClampNeg), .int (xs ((i + 1)).toNatClampNeg), .ref 0], h, 98, 10728)) lr_2082 rfl h3 ?_
  refine j_Lst (c' := (2084, [(3, .int i), (2, .ref 75), (1, .ref 0), (0, .ref x_scr)], [.ref x_scr, .int (xs ((i + 3)).toNatClampNeg), .int (xs ((i + 2)).toNatClampNeg), .int (xs ((i + 1)).toNatClampNeg), .ref 0], h, 98, 10728)) lr_2083 rfl ?_
  refine j_Lst (c' := (2085, [(3, .int i), (2, .ref 75), (1, .ref 0), (0, .ref x_scr)], [.int i, .ref x_scr, .int (xs ((i + 3)).toNatClampNeg), .int (xs ((i + 2)).toNatClampNeg), .int (xs ((i + 1)).toNatClampNeg), .ref 0], h, 98, 10728)) lr_2084 rfl ?_
  refine j_Lst (c' := (2086, [(3, .int i), (2, .ref 75), (1, .ref 0), (0, .ref x_scr)], [.int 4, .int i, .ref x_scr, .int (xs ((i + 3)).toNatClampNeg), .int (xs ((i + 2)).toNatClampNeg), .int (xs ((i + 1)).toNatClampNeg), .ref 0], h, 98, 10728)) lr_2085 rfl ?_
  refine j_Lst (c' := (2087, [(3, .int i), (2, .ref 75), (1, .ref 0), (0, .ref x_scr)], [.int (i + 4), .ref x_scr, .int (xs ((i + 3)).toNatClampNeg), .int (xs ((i + 2)).toNatClampNeg), .int (xs ((i + 1)).toNatClampNeg), .ref 0], h, 98, 10728)) lr_2086 rfl ?_
  refine j_Lsl (c' := (2088, [(3, .int i), (2, .ref 75), (1, .ref 0), (0, .ref x_scr)], [.int (xs ((i + 4)).toNatClampNeg), .int (xs ((i + 3)).toNatClampNeg), .int (xs ((i + 2)).toNatClampNeg), .int (xs ((i + 1)).toNatClampNeg), .ref 0], h, 98, 10728)) lr_2087 rfl h4 ?_
  exact kk

set_option maxRecDepth 100000 in
theorem x_c63b (h : xH) (L : Nat) (xs : Nat → Int32) (i : Int32) (h0 : ¬ (i < 0 ∨ L ≤ (i).toNatClampNeg)) (h1 : ¬ (i + 1 < 0 ∨ L ≤ (i + 1).toNatClampNeg)) (h2 : ¬ (i + 2 < 0 ∨ L ≤ (i + 2).toNatClampNeg)) (h3 : ¬ (i + 3 < 0 ∨ L ≤ (i + 3).toNatClampNeg)) (h4 : ¬ (i + 4 < 0 ∨ L ≤ (i + 4).toNatClampNeg)) (h5 : ¬ (i + 5 < 0 ∨ L ≤ (i + 5).toNatClampNeg)) (v : Int32) {P : Option Value × xH × Nat × Nat → Prop} (kk : x_R x_mt (some (L, xs)) 10 M_law (2113, [(3, .int i), (2, .ref 75), (1, .ref 0), (0, .ref x_scr)], [.int (xs ((i + 4)).toNatClampNeg), .int (xs ((i + 3)).toNatClampNeg), .int (xs ((i + 2)).toNatClampNeg), .int (xs ((i + 1)).toNatClampNeg), .ref 75], h, 98, 10728) P) : x_R x_mt (some (L, xs)) 10 M_law (2091, [(3, .int i), (2, .ref 75), (1, .ref 0), (0, .ref x_scr)], [.int v], h, 98, 10728) P := by
  refine j_Lst (c' := (2092, [(3, .int i), (2, .ref 75), (1, .ref 0), (0, .ref x_scr)], [], h, 98, 10728)) lr_2091 rfl ?_
  refine j_Lst (c' := (2093, [(3, .int i), (2, .ref 75), (1, .ref 0), (0, .ref x_scr)], [.ref 75], h, 98, 10728)) lr_2092 rfl ?_
  refine j_Lst (c' := (2094, [(3, .int i), (2, .ref 75), (1, .ref 0), (0, .ref x_scr)], [.ref x_scr, .ref 75], h, 98, 10728)) lr_2093 rfl ?_
  refine j_Lst (c' := (2095, [(3, .int i), (2, .ref 75), (1, .ref 0), (0, .ref x_scr)], [.int i, .ref x_scr, .ref 75], h, 98, 10728)) lr_2094 rfl ?_
  refine j_Lst (c' := (2096, [(3, .int i), (2, .ref 75), (1, .ref 0), (0, .ref x_scr)], [.int 1, .int i, .ref x_scr, .ref 75], h, 98, 10728)) lr_2095 rfl ?_
  refine j_Lst (c' := (2097, [(3, .int i), (2, .ref 75), (1, .ref 0), (0, .ref x_scr)], [.int (i + 1), .ref x_scr, .ref 75], h, 98, 10728)) lr_2096 rfl ?_
  refine j_Lsl (c' := (2098, [(3, .int i), (2, .ref 75), (1, .ref 0), (0, .ref x_scr)], [.int (xs ((i + 1)).toNatClampNeg), .ref 75], h, 98, 10728)) lr_2097 rfl h1 ?_
  refine j_Lst (c' := (2099, [(3, .int i), (2, .ref 75), (1, .ref 0), (0, .ref x_scr)], [.ref x_scr, .int (xs ((i + 1)).toNatClampNeg), .ref 75], h, 98, 10728)) lr_2098 rfl ?_
  refine j_Lst (c' := (2100, [(3, .int i), (2, .ref 75), (1, .ref 0), (0, .ref x_scr)], [.int i, .ref x_scr, .int (xs ((i + 1)).toNatClampNeg), .ref 75], h, 98, 10728)) lr_2099 rfl ?_
  refine j_Lst (c' := (2101, [(3, .int i), (2, .ref 75), (1, .ref 0), (0, .ref x_scr)], [.int 2, .int i, .ref x_scr, .int (xs ((i + 1)).toNatClampNeg), .ref 75], h, 98, 10728)) lr_2100 rfl ?_
  refine j_Lst (c' := (2102, [(3, .int i), (2, .ref 75), (1, .ref 0), (0, .ref x_scr)], [.int (i + 2), .ref x_scr, .int (xs ((i + 1)).toNatClampNeg), .ref 75], h, 98, 10728)) lr_2101 rfl ?_
  refine j_Lsl (c' := (2103, [(3, .int i), (2, .ref 75), (1, .ref 0), (0, .ref x_scr)], [.int (xs ((i + 2)).toNatClampNeg), .int (xs ((i + 1)).toNatClampNeg), .ref 75], h, 98, 10728)) lr_2102 rfl h2 ?_
  refine j_Lst (c' := (2104, [(3, .int i), (2, .ref 75), (1, .ref 0), (0, .ref x_scr)], [.ref x_scr, .int (xs ((i + 2)).toNatClampNeg), .int (xs ((i + 1)).toNatClampNeg), .ref 75], h, 98, 10728)) lr_2103 rfl ?_
  refine j_Lst (c' := (2105, [(3, .int i), (2, .ref 75), (1, .ref 0), (0, .ref x_scr)], [.int i, .ref x_scr, .int (xs ((i + 2)).toNatClampNeg), .int (xs ((i + 1)).toNatClampNeg), .ref 75], h, 98, 10728)) lr_2104 rfl ?_
  refine j_Lst (c' := (2106, [(3, .int i), (2, .ref 75), (1, .ref 0), (0, .ref x_scr)], [.int 3, .int i, .ref x_scr, .int (xs ((i + 2)).toNatClampNeg), .int (xs ((i + 1)).toNatClampNeg), .ref 75], h, 98, 10728)) lr_2105 rfl ?_
  refine j_Lst (c' := (2107, [(3, .int i), (2, .ref 75), (1, .ref 0), (0, .ref x_scr)], [.int (i + 3), .ref x_scr, .int (xs ((i + 2)).toNatClampNeg), .int (xs ((i + 1)).toNatClampNeg), .ref 75], h, 98, 10728)) lr_2106 rfl ?_
  refine j_Lsl (c' := (2108, [(3, .int i), (2, .ref 75), (1, .ref 0), (0, .ref x_scr)], [.int (xs ((i + 3)).toNatClampNeg), .int (xs ((i + 2)).toNatClampNeg), .int (xs ((i + 1)).toNatClampNeg), .ref 75], h, 98, 10728)) lr_2107 rfl h3 ?_
  refine j_Lst (c' := (2109, [(3, .int i), (2, .ref 75), (1, .ref 0), (0, .ref x_scr)], [.ref x_scr, .int (xs ((i + 3)).toNatClampNeg), .int (xs ((i + 2)).toNatClampNeg), .int (xs ((i + 1)).toNatClampNeg), .ref 75], h, 98, 10728)) lr_2108 rfl ?_
  refine j_Lst (c' := (2110, [(3, .int i), (2, .ref 75), (1, .ref 0), (0, .ref x_scr)], [.int i, .ref x_scr, .int (xs ((i + 3)).toNatClampNeg), .int (xs ((i + 2)).toNatClampNeg), .int (xs ((i + 1)).toNatClampNeg), .ref 75], h, 98, 10728)) lr_2109 rfl ?_
  refine j_Lst (c' := (2111, [(3, .int i), (2, .ref 75), (1, .ref 0), (0, .ref x_scr)], [.int 4, .int i, .ref x_scr, .int (xs ((i + 3)).toNatClampNeg), .int (xs ((i + 2)).toNatClampNeg), .int (xs ((i + 1)).toNatClampNeg), .ref 75], h, 98, 10728)) lr_2110 rfl ?_
  refine j_Lst (c' := (2112, [(3, .int i), (2, .ref 75), (1, .ref 0), (0, .ref x_scr)], [.int (i + 4), .ref x_scr, .int (xs ((i + 3)).toNatClampNeg), .int (xs ((i + 2)).toNatClampNeg), .int (xs ((i + 1)).toNatClampNeg), .ref 75], h, 98, 10728)) lr_2111 rfl ?_
  refine j_Lsl (c' := (2113, [(3, .int i), (2, .ref 75), (1, .ref 0), (0, .ref x_scr)], [.int (xs ((i + 4)).toNatClampNeg), .int (xs ((i + 3)).toNatClampNeg), .int (xs ((i + 2)).toNatClampNeg), .int (xs ((i + 1)).toNatClampNeg), .ref 75], h, 98, 10728)) lr_2112 rfl h4 ?_
  exact kk

set_option maxRecDepth 100000 in
theorem x_c63d (h : xH) (L : Nat) (xs : Nat → Int32) (i : Int32) (h0 : ¬ (i < 0 ∨ L ≤ (i).toNatClampNeg)) (h1 : ¬ (i + 1 < 0 ∨ L ≤ (i + 1).toNatClampNeg)) (h2 : ¬ (i + 2 < 0 ∨ L ≤ (i + 2).toNatClampNeg)) (h3 : ¬ (i + 3 < 0 ∨ L ≤ (i + 3).toNatClampNeg)) (h4 : ¬ (i + 4 < 0 ∨ L ≤ (i + 4).toNatClampNeg)) (h5 : ¬ (i + 5 < 0 ∨ L ≤ (i + 5).toNatClampNeg)) (w : Int32) {P : Option Value × xH × Nat × Nat → Prop} (kk : x_R x_mt (some (L, xs)) 10 M_law (18, [(3, .int (i + Int32.ofInt (6))), (2, .ref 75), (1, .ref 0), (0, .ref x_scr)], [], h, 98, 10728) P) : x_R x_mt (some (L, xs)) 10 M_law (2116, [(3, .int i), (2, .ref 75), (1, .ref 0), (0, .ref x_scr)], [.int w], h, 98, 10728) P := by
  refine j_Lst (c' := (2117, [(3, .int i), (2, .ref 75), (1, .ref 0), (0, .ref x_scr)], [], h, 98, 10728)) lr_2116 rfl ?_
  refine j_Lst (c' := (2368, [(3, .int i), (2, .ref 75), (1, .ref 0), (0, .ref x_scr)], [], h, 98, 10728)) lr_2117 rfl ?_
  refine j_Lst (c' := (2371, [(3, .int (i + Int32.ofInt (6))), (2, .ref 75), (1, .ref 0), (0, .ref x_scr)], [], h, 98, 10728)) lr_2368 rfl ?_
  refine j_Lst (c' := (18, [(3, .int (i + Int32.ofInt (6))), (2, .ref 75), (1, .ref 0), (0, .ref x_scr)], [], h, 98, 10728)) lr_2371 rfl ?_
  exact kk

set_option maxRecDepth 100000 in
theorem x_c64a (h : xH) (L : Nat) (xs : Nat → Int32) (i : Int32) (h0 : ¬ (i < 0 ∨ L ≤ (i).toNatClampNeg)) (h1 : ¬ (i + 1 < 0 ∨ L ≤ (i + 1).toNatClampNeg)) (h2 : ¬ (i + 2 < 0 ∨ L ≤ (i + 2).toNatClampNeg)) (h3 : ¬ (i + 3 < 0 ∨ L ≤ (i + 3).toNatClampNeg)) (h4 : ¬ (i + 4 < 0 ∨ L ≤ (i + 4).toNatClampNeg)) (h5 : ¬ (i + 5 < 0 ∨ L ≤ (i + 5).toNatClampNeg)) {P : Option Value × xH × Nat × Nat → Prop} (kk : x_R x_mt (some (L, xs)) 10 M_law (2126, [(3, .int i), (2, .ref 75), (1, .ref 0), (0, .ref x_scr)], [.int (xs ((i + 1)).toNatClampNeg), .ref 0], h, 98, 10728) P) : x_R x_mt (some (L, xs)) 10 M_law (2120, [(3, .int i), (2, .ref 75), (1, .ref 0), (0, .ref x_scr)], [], h, 98, 10728) P := by
  refine j_Lst (c' := (2121, [(3, .int i), (2, .ref 75), (1, .ref 0), (0, .ref x_scr)], [.ref 0], h, 98, 10728)) lr_2120 rfl ?_
  refine j_Lst (c' := (2122, [(3, .int i), (2, .ref 75), (1, .ref 0), (0, .ref x_scr)], [.ref x_scr, .ref 0], h, 98, 10728)) lr_2121 rfl ?_
  refine j_Lst (c' := (2123, [(3, .int i), (2, .ref 75), (1, .ref 0), (0, .ref x_scr)], [.int i, .ref x_scr, .ref 0], h, 98, 10728)) lr_2122 rfl ?_
  refine j_Lst (c' := (2124, [(3, .int i), (2, .ref 75), (1, .ref 0), (0, .ref x_scr)], [.int 1, .int i, .ref x_scr, .ref 0], h, 98, 10728)) lr_2123 rfl ?_
  refine j_Lst (c' := (2125, [(3, .int i), (2, .ref 75), (1, .ref 0), (0, .ref x_scr)], [.int (i + 1), .ref x_scr, .ref 0], h, 98, 10728)) lr_2124 rfl ?_
  refine j_Lsl (c' := (2126, [(3, .int i), (2, .ref 75), (1, .ref 0), (0, .ref x_scr)], [.int (xs ((i + 1)).toNatClampNeg), .ref 0], h, 98, 10728)) lr_2125 rfl h1 ?_
  exact kk

set_option maxRecDepth 100000 in
theorem x_c64b (h : xH) (L : Nat) (xs : Nat → Int32) (i : Int32) (h0 : ¬ (i < 0 ∨ L ≤ (i).toNatClampNeg)) (h1 : ¬ (i + 1 < 0 ∨ L ≤ (i + 1).toNatClampNeg)) (h2 : ¬ (i + 2 < 0 ∨ L ≤ (i + 2).toNatClampNeg)) (h3 : ¬ (i + 3 < 0 ∨ L ≤ (i + 3).toNatClampNeg)) (h4 : ¬ (i + 4 < 0 ∨ L ≤ (i + 4).toNatClampNeg)) (h5 : ¬ (i + 5 < 0 ∨ L ≤ (i + 5).toNatClampNeg)) (v : Int32) {P : Option Value × xH × Nat × Nat → Prop} (kk : x_R x_mt (some (L, xs)) 10 M_law (2136, [(3, .int i), (2, .ref 75), (1, .ref 0), (0, .ref x_scr)], [.int (xs ((i + 1)).toNatClampNeg), .ref 75], h, 98, 10728) P) : x_R x_mt (some (L, xs)) 10 M_law (2129, [(3, .int i), (2, .ref 75), (1, .ref 0), (0, .ref x_scr)], [.int v], h, 98, 10728) P := by
  refine j_Lst (c' := (2130, [(3, .int i), (2, .ref 75), (1, .ref 0), (0, .ref x_scr)], [], h, 98, 10728)) lr_2129 rfl ?_
  refine j_Lst (c' := (2131, [(3, .int i), (2, .ref 75), (1, .ref 0), (0, .ref x_scr)], [.ref 75], h, 98, 10728)) lr_2130 rfl ?_
  refine j_Lst (c' := (2132, [(3, .int i), (2, .ref 75), (1, .ref 0), (0, .ref x_scr)], [.ref x_scr, .ref 75], h, 98, 10728)) lr_2131 rfl ?_
  refine j_Lst (c' := (2133, [(3, .int i), (2, .ref 75), (1, .ref 0), (0, .ref x_scr)], [.int i, .ref x_scr, .ref 75], h, 98, 10728)) lr_2132 rfl ?_
  refine j_Lst (c' := (2134, [(3, .int i), (2, .ref 75), (1, .ref 0), (0, .ref x_scr)], [.int 1, .int i, .ref x_scr, .ref 75], h, 98, 10728)) lr_2133 rfl ?_
  refine j_Lst (c' := (2135, [(3, .int i), (2, .ref 75), (1, .ref 0), (0, .ref x_scr)], [.int (i + 1), .ref x_scr, .ref 75], h, 98, 10728)) lr_2134 rfl ?_
  refine j_Lsl (c' := (2136, [(3, .int i), (2, .ref 75), (1, .ref 0), (0, .ref x_scr)], [.int (xs ((i + 1)).toNatClampNeg), .ref 75], h, 98, 10728)) lr_2135 rfl h1 ?_
  exact kk

set_option maxRecDepth 100000 in
theorem x_c64d (h : xH) (L : Nat) (xs : Nat → Int32) (i : Int32) (h0 : ¬ (i < 0 ∨ L ≤ (i).toNatClampNeg)) (h1 : ¬ (i + 1 < 0 ∨ L ≤ (i + 1).toNatClampNeg)) (h2 : ¬ (i + 2 < 0 ∨ L ≤ (i + 2).toNatClampNeg)) (h3 : ¬ (i + 3 < 0 ∨ L ≤ (i + 3).toNatClampNeg)) (h4 : ¬ (i + 4 < 0 ∨ L ≤ (i + 4).toNatClampNeg)) (h5 : ¬ (i + 5 < 0 ∨ L ≤ (i + 5).toNatClampNeg)) (w : Int32) {P : Option Value × xH × Nat × Nat → Prop} (kk : x_R x_mt (some (L, xs)) 10 M_law (18, [(3, .int (i + Int32.ofInt (6))), (2, .ref 75), (1, .ref 0), (0, .ref x_scr)], [], h, 98, 10728) P) : x_R x_mt (some (L, xs)) 10 M_law (2139, [(3, .int i), (2, .ref 75), (1, .ref 0), (0, .ref x_scr)], [.int w], h, 98, 10728) P := by
  refine j_Lst (c' := (2140, [(3, .int i), (2, .ref 75), (1, .ref 0), (0, .ref x_scr)], [], h, 98, 10728)) lr_2139 rfl ?_
  refine j_Lst (c' := (2368, [(3, .int i), (2, .ref 75), (1, .ref 0), (0, .ref x_scr)], [], h, 98, 10728)) lr_2140 rfl ?_
  refine j_Lst (c' := (2371, [(3, .int (i + Int32.ofInt (6))), (2, .ref 75), (1, .ref 0), (0, .ref x_scr)], [], h, 98, 10728)) lr_2368 rfl ?_
  refine j_Lst (c' := (18, [(3, .int (i + Int32.ofInt (6))), (2, .ref 75), (1, .ref 0), (0, .ref x_scr)], [], h, 98, 10728)) lr_2371 rfl ?_
  exact kk

set_option maxRecDepth 100000 in
theorem x_c65a (h : xH) (L : Nat) (xs : Nat → Int32) (i : Int32) (h0 : ¬ (i < 0 ∨ L ≤ (i).toNatClampNeg)) (h1 : ¬ (i + 1 < 0 ∨ L ≤ (i + 1).toNatClampNeg)) (h2 : ¬ (i + 2 < 0 ∨ L ≤ (i + 2).toNatClampNeg)) (h3 : ¬ (i + 3 < 0 ∨ L ≤ (i + 3).toNatClampNeg)) (h4 : ¬ (i + 4 < 0 ∨ L ≤ (i + 4).toNatClampNeg)) (h5 : ¬ (i + 5 < 0 ∨ L ≤ (i + 5).toNatClampNeg)) {P : Option Value × xH × Nat × Nat → Prop} (kk : x_R x_mt (some (L, xs)) 10 M_law (2149, [(3, .int i), (2, .ref 75), (1, .ref 0), (0, .ref x_scr)], [.int (xs ((i + 1)).toNatClampNeg), .ref 0], h, 98, 10728) P) : x_R x_mt (some (L, xs)) 10 M_law (2143, [(3, .int i), (2, .ref 75), (1, .ref 0), (0, .ref x_scr)], [], h, 98, 10728) P := by
  refine j_Lst (c' := (2144, [(3, .int i), (2, .ref 75), (1, .ref 0), (0, .ref x_scr)], [.ref 0], h, 98, 10728)) lr_2143 rfl ?_
  refine j_Lst (c' := (2145, [(3, .int i), (2, .ref 75), (1, .ref 0), (0, .ref x_scr)], [.ref x_scr, .ref 0], h, 98, 10728)) lr_2144 rfl ?_
  refine j_Lst (c' := (2146, [(3, .int i), (2, .ref 75), (1, .ref 0), (0, .ref x_scr)], [.int i, .ref x_scr, .ref 0], h, 98, 10728)) lr_2145 rfl ?_
  refine j_Lst (c' := (2147, [(3, .int i), (2, .ref 75), (1, .ref 0), (0, .ref x_scr)], [.int 1, .int i, .ref x_scr, .ref 0], h, 98, 10728)) lr_2146 rfl ?_
  refine j_Lst (c' := (2148, [(3, .int i), (2, .ref 75), (1, .ref 0), (0, .ref x_scr)], [.int (i + 1), .ref x_scr, .ref 0], h, 98, 10728)) lr_2147 rfl ?_
  refine j_Lsl (c' := (2149, [(3, .int i), (2, .ref 75), (1, .ref 0), (0, .ref x_scr)], [.int (xs ((i + 1)).toNatClampNeg), .ref 0], h, 98, 10728)) lr_2148 rfl h1 ?_
  exact kk

set_option maxRecDepth 100000 in
theorem x_c65b (h : xH) (L : Nat) (xs : Nat → Int32) (i : Int32) (h0 : ¬ (i < 0 ∨ L ≤ (i).toNatClampNeg)) (h1 : ¬ (i + 1 < 0 ∨ L ≤ (i + 1).toNatClampNeg)) (h2 : ¬ (i + 2 < 0 ∨ L ≤ (i + 2).toNatClampNeg)) (h3 : ¬ (i + 3 < 0 ∨ L ≤ (i + 3).toNatClampNeg)) (h4 : ¬ (i + 4 < 0 ∨ L ≤ (i + 4).toNatClampNeg)) (h5 : ¬ (i + 5 < 0 ∨ L ≤ (i + 5).toNatClampNeg)) (v : Int32) {P : Option Value × xH × Nat × Nat → Prop} (kk : x_R x_mt (some (L, xs)) 10 M_law (2159, [(3, .int i), (2, .ref 75), (1, .ref 0), (0, .ref x_scr)], [.int (xs ((i + 1)).toNatClampNeg), .ref 75], h, 98, 10728) P) : x_R x_mt (some (L, xs)) 10 M_law (2152, [(3, .int i), (2, .ref 75), (1, .ref 0), (0, .ref x_scr)], [.int v], h, 98, 10728) P := by
  refine j_Lst (c' := (2153, [(3, .int i), (2, .ref 75), (1, .ref 0), (0, .ref x_scr)], [], h, 98, 10728)) lr_2152 rfl ?_
  refine j_Lst (c' := (2154, [(3, .int i), (2, .ref 75), (1, .ref 0), (0, .ref x_scr)], [.ref 75], h, 98, 10728)) lr_2153 rfl ?_
  refine j_Lst (c' := (2155, [(3, .int i), (2, .ref 75), (1, .ref 0), (0, .ref x_scr)], [.ref x_scr, .ref 75], h, 98, 10728)) lr_2154 rfl ?_
  refine j_Lst (c' := (2156, [(3, .int i), (2, .ref 75), (1, .ref 0), (0, .ref x_scr)], [.int i, .ref x_scr, .ref 75], h, 98, 10728)) lr_2155 rfl ?_
  refine j_Lst (c' := (2157, [(3, .int i), (2, .ref 75), (1, .ref 0), (0, .ref x_scr)], [.int 1, .int i, .ref x_scr, .ref 75], h, 98, 10728)) lr_2156 rfl ?_
  refine j_Lst (c' := (2158, [(3, .int i), (2, .ref 75), (1, .ref 0), (0, .ref x_scr)], [.int (i + 1), .ref x_scr, .ref 75], h, 98, 10728)) lr_2157 rfl ?_
  refine j_Lsl (c' := (2159, [(3, .int i), (2, .ref 75), (1, .ref 0), (0, .ref x_scr)], [.int (xs ((i + 1)).toNatClampNeg), .ref 75], h, 98, 10728)) lr_2158 rfl h1 ?_
  exact kk

set_option maxRecDepth 100000 in
theorem x_c65d (h : xH) (L : Nat) (xs : Nat → Int32) (i : Int32) (h0 : ¬ (i < 0 ∨ L ≤ (i).toNatClampNeg)) (h1 : ¬ (i + 1 < 0 ∨ L ≤ (i + 1).toNatClampNeg)) (h2 : ¬ (i + 2 < 0 ∨ L ≤ (i + 2).toNatClampNeg)) (h3 : ¬ (i + 3 < 0 ∨ L ≤ (i + 3).toNatClampNeg)) (h4 : ¬ (i + 4 < 0 ∨ L ≤ (i + 4).toNatClampNeg)) (h5 : ¬ (i + 5 < 0 ∨ L ≤ (i + 5).toNatClampNeg)) (w : Int32) {P : Option Value × xH × Nat × Nat → Prop} (kk : x_R x_mt (some (L, xs)) 10 M_law (18, [(3, .int (i + Int32.ofInt (6))), (2, .ref 75), (1, .ref 0), (0, .ref x_scr)], [], h, 98, 10728) P) : x_R x_mt (some (L, xs)) 10 M_law (2162, [(3, .int i), (2, .ref 75), (1, .ref 0), (0, .ref x_scr)], [.int w], h, 98, 10728) P := by
  refine j_Lst (c' := (2163, [(3, .int i), (2, .ref 75), (1, .ref 0), (0, .ref x_scr)], [], h, 98, 10728)) lr_2162 rfl ?_
  refine j_Lst (c' := (2368, [(3, .int i), (2, .ref 75), (1, .ref 0), (0, .ref x_scr)], [], h, 98, 10728)) lr_2163 rfl ?_
  refine j_Lst (c' := (2371, [(3, .int (i + Int32.ofInt (6))), (2, .ref 75), (1, .ref 0), (0, .ref x_scr)], [], h, 98, 10728)) lr_2368 rfl ?_
  refine j_Lst (c' := (18, [(3, .int (i + Int32.ofInt (6))), (2, .ref 75), (1, .ref 0), (0, .ref x_scr)], [], h, 98, 10728)) lr_2371 rfl ?_
  exact kk

set_option maxRecDepth 100000 in
theorem x_c66a (h : xH) (L : Nat) (xs : Nat → Int32) (i : Int32) (h0 : ¬ (i < 0 ∨ L ≤ (i).toNatClampNeg)) (h1 : ¬ (i + 1 < 0 ∨ L ≤ (i + 1).toNatClampNeg)) (h2 : ¬ (i + 2 < 0 ∨ L ≤ (i + 2).toNatClampNeg)) (h3 : ¬ (i + 3 < 0 ∨ L ≤ (i + 3).toNatClampNeg)) (h4 : ¬ (i + 4 < 0 ∨ L ≤ (i + 4).toNatClampNeg)) (h5 : ¬ (i + 5 < 0 ∨ L ≤ (i + 5).toNatClampNeg)) {P : Option Value × xH × Nat × Nat → Prop} (kk : x_R x_mt (some (L, xs)) 10 M_law (2172, [(3, .int i), (2, .ref 75), (1, .ref 0), (0, .ref x_scr)], [.int (xs ((i + 1)).toNatClampNeg), .ref 0], h, 98, 10728) P) : x_R x_mt (some (L, xs)) 10 M_law (2166, [(3, .int i), (2, .ref 75), (1, .ref 0), (0, .ref x_scr)], [], h, 98, 10728) P := by
  refine j_Lst (c' := (2167, [(3, .int i), (2, .ref 75), (1, .ref 0), (0, .ref x_scr)], [.ref 0], h, 98, 10728)) lr_2166 rfl ?_
  refine j_Lst (c' := (2168, [(3, .int i), (2, .ref 75), (1, .ref 0), (0, .ref x_scr)], [.ref x_scr, .ref 0], h, 98, 10728)) lr_2167 rfl ?_
  refine j_Lst (c' := (2169, [(3, .int i), (2, .ref 75), (1, .ref 0), (0, .ref x_scr)], [.int i, .ref x_scr, .ref 0], h, 98, 10728)) lr_2168 rfl ?_
  refine j_Lst (c' := (2170, [(3, .int i), (2, .ref 75), (1, .ref 0), (0, .ref x_scr)], [.int 1, .int i, .ref x_scr, .ref 0], h, 98, 10728)) lr_2169 rfl ?_
  refine j_Lst (c' := (2171, [(3, .int i), (2, .ref 75), (1, .ref 0), (0, .ref x_scr)], [.int (i + 1), .ref x_scr, .ref 0], h, 98, 10728)) lr_2170 rfl ?_
  refine j_Lsl (c' := (2172, [(3, .int i), (2, .ref 75), (1, .ref 0), (0, .ref x_scr)], [.int (xs ((i + 1)).toNatClampNeg), .ref 0], h, 98, 10728)) lr_2171 rfl h1 ?_
  exact kk

set_option maxRecDepth 100000 in
theorem x_c66b (h : xH) (L : Nat) (xs : Nat → Int32) (i : Int32) (h0 : ¬ (i < 0 ∨ L ≤ (i).toNatClampNeg)) (h1 : ¬ (i + 1 < 0 ∨ L ≤ (i + 1).toNatClampNeg)) (h2 : ¬ (i + 2 < 0 ∨ L ≤ (i + 2).toNatClampNeg)) (h3 : ¬ (i + 3 < 0 ∨ L ≤ (i + 3).toNatClampNeg)) (h4 : ¬ (i + 4 < 0 ∨ L ≤ (i + 4).toNatClampNeg)) (h5 : ¬ (i + 5 < 0 ∨ L ≤ (i + 5).toNatClampNeg)) (v : Int32) {P : Option Value × xH × Nat × Nat → Prop} (kk : x_R x_mt (some (L, xs)) 10 M_law (2182, [(3, .int i), (2, .ref 75), (1, .ref 0), (0, .ref x_scr)], [.int (xs ((i + 1)).toNatClampNeg), .ref 75], h, 98, 10728) P) : x_R x_mt (some (L, xs)) 10 M_law (2175, [(3, .int i), (2, .ref 75), (1, .ref 0), (0, .ref x_scr)], [.int v], h, 98, 10728) P := by
  refine j_Lst (c' := (2176, [(3, .int i), (2, .ref 75), (1, .ref 0), (0, .ref x_scr)], [], h, 98, 10728)) lr_2175 rfl ?_
  refine j_Lst (c' := (2177, [(3, .int i), (2, .ref 75), (1, .ref 0), (0, .ref x_scr)], [.ref 75], h, 98, 10728)) lr_2176 rfl ?_
  refine j_Lst (c' := (2178, [(3, .int i), (2, .ref 75), (1, .ref 0), (0, .ref x_scr)], [.ref x_scr, .ref 75], h, 98, 10728)) lr_2177 rfl ?_
  refine j_Lst (c' := (2179, [(3, .int i), (2, .ref 75), (1, .ref 0), (0, .ref x_scr)], [.int i, .ref x_scr, .ref 75], h, 98, 10728)) lr_2178 rfl ?_
  refine j_Lst (c' := (2180, [(3, .int i), (2, .ref 75), (1, .ref 0), (0, .ref x_scr)], [.int 1, .int i, .ref x_scr, .ref 75], h, 98, 10728)) lr_2179 rfl ?_
  refine j_Lst (c' := (2181, [(3, .int i), (2, .ref 75), (1, .ref 0), (0, .ref x_scr)], [.int (i + 1), .ref x_scr, .ref 75], h, 98, 10728)) lr_2180 rfl ?_
  refine j_Lsl (c' := (2182, [(3, .int i), (2, .ref 75), (1, .ref 0), (0, .ref x_scr)], [.int (xs ((i + 1)).toNatClampNeg), .ref 75], h, 98, 10728)) lr_2181 rfl h1 ?_
  exact kk

set_option maxRecDepth 100000 in
theorem x_c66d (h : xH) (L : Nat) (xs : Nat → Int32) (i : Int32) (h0 : ¬ (i < 0 ∨ L ≤ (i).toNatClampNeg)) (h1 : ¬ (i + 1 < 0 ∨ L ≤ (i + 1).toNatClampNeg)) (h2 : ¬ (i + 2 < 0 ∨ L ≤ (i + 2).toNatClampNeg)) (h3 : ¬ (i + 3 < 0 ∨ L ≤ (i + 3).toNatClampNeg)) (h4 : ¬ (i + 4 < 0 ∨ L ≤ (i + 4).toNatClampNeg)) (h5 : ¬ (i + 5 < 0 ∨ L ≤ (i + 5).toNatClampNeg)) (w : Int32) {P : Option Value × xH × Nat × Nat → Prop} (kk : x_R x_mt (some (L, xs)) 10 M_law (18, [(3, .int (i + Int32.ofInt (6))), (2, .ref 75), (1, .ref 0), (0, .ref x_scr)], [], h, 98, 10728) P) : x_R x_mt (some (L, xs)) 10 M_law (2185, [(3, .int i), (2, .ref 75), (1, .ref 0), (0, .ref x_scr)], [.int w], h, 98, 10728) P := by
  refine j_Lst (c' := (2186, [(3, .int i), (2, .ref 75), (1, .ref 0), (0, .ref x_scr)], [], h, 98, 10728)) lr_2185 rfl ?_
  refine j_Lst (c' := (2368, [(3, .int i), (2, .ref 75), (1, .ref 0), (0, .ref x_scr)], [], h, 98, 10728)) lr_2186 rfl ?_
  refine j_Lst (c' := (2371, [(3, .int (i + Int32.ofInt (6))), (2, .ref 75), (1, .ref 0), (0, .ref x_scr)], [], h, 98, 10728)) lr_2368 rfl ?_
  refine j_Lst (c' := (18, [(3, .int (i + Int32.ofInt (6))), (2, .ref 75), (1, .ref 0), (0, .ref x_scr)], [], h, 98, 10728)) lr_2371 rfl ?_
  exact kk

set_option maxRecDepth 100000 in
theorem x_c67a (h : xH) (L : Nat) (xs : Nat → Int32) (i : Int32) (h0 : ¬ (i < 0 ∨ L ≤ (i).toNatClampNeg)) (h1 : ¬ (i + 1 < 0 ∨ L ≤ (i + 1).toNatClampNeg)) (h2 : ¬ (i + 2 < 0 ∨ L ≤ (i + 2).toNatClampNeg)) (h3 : ¬ (i + 3 < 0 ∨ L ≤ (i + 3).toNatClampNeg)) (h4 : ¬ (i + 4 < 0 ∨ L ≤ (i + 4).toNatClampNeg)) (h5 : ¬ (i + 5 < 0 ∨ L ≤ (i + 5).toNatClampNeg)) {P : Option Value × xH × Nat × Nat → Prop} (kk : x_R x_mt (some (L, xs)) 10 M_law (2205, [(3, .int i), (2, .ref 75), (1, .ref 0), (0, .ref x_scr)], [.int (xs ((i + 3)).toNatClampNeg), .int (xs ((i + 2)).toNatClampNeg), .int (xs ((i + 1)).toNatClampNeg), .ref 0], h, 98, 10728) P) : x_R x_mt (some (L, xs)) 10 M_law (2189, [(3, .int i), (2, .ref 75), (1, .ref 0), (0, .ref x_scr)], [], h, 98, 10728) P := by
  refine j_Lst (c' := (2190, [(3, .int i), (2, .ref 75), (1, .ref 0), (0, .ref x_scr)], [.ref 0], h, 98, 10728)) lr_2189 rfl ?_
  refine j_Lst (c' := (2191, [(3, .int i), (2, .ref 75), (1, .ref 0), (0, .ref x_scr)], [.ref x_scr, .ref 0], h, 98, 10728)) lr_2190 rfl ?_
  refine j_Lst (c' := (2192, [(3, .int i), (2, .ref 75), (1, .ref 0), (0, .ref x_scr)], [.int i, .ref x_scr, .ref 0], h, 98, 10728)) lr_2191 rfl ?_
  refine j_Lst (c' := (2193, [(3, .int i), (2, .ref 75), (1, .ref 0), (0, .ref x_scr)], [.int 1, .int i, .ref x_scr, .ref 0], h, 98, 10728)) lr_2192 rfl ?_
  refine j_Lst (c' := (2194, [(3, .int i), (2, .ref 75), (1, .ref 0), (0, .ref x_scr)], [.int (i + 1), .ref x_scr, .ref 0], h, 98, 10728)) lr_2193 rfl ?_
  refine j_Lsl (c' := (2195, [(3, .int i), (2, .ref 75), (1, .ref 0), (0, .ref x_scr)], [.int (xs ((i + 1)).toNatClampNeg), .ref 0], h, 98, 10728)) lr_2194 rfl h1 ?_
  refine j_Lst (c' := (2196, [(3, .int i), (2, .ref 75), (1, .ref 0), (0, .ref x_scr)], [.ref x_scr, .int (xs ((i + 1)).toNatClampNeg), .ref 0], h, 98, 10728)) lr_2195 rfl ?_
  refine j_Lst (c' := (2197, [(3, .int i), (2, .ref 75), (1, .ref 0), (0, .ref x_scr)], [.int i, .ref x_scr, .int (xs ((i + 1)).toNatClampNeg), .ref 0], h, 98, 10728)) lr_2196 rfl ?_
  refine j_Lst (c' := (2198, [(3, .int i), (2, .ref 75), (1, .ref 0), (0, .ref x_scr)], [.int 2, .int i, .ref x_scr, .int (xs ((i + 1)).toNatClampNeg), .ref 0], h, 98, 10728)) lr_2197 rfl ?_
  refine j_Lst (c' := (2199, [(3, .int i), (2, .ref 75), (1, .ref 0), (0, .ref x_scr)], [.int (i + 2), .ref x_scr, .int (xs ((i + 1)).toNatClampNeg), .ref 0], h, 98, 10728)) lr_2198 rfl ?_
  refine j_Lsl (c' := (2200, [(3, .int i), (2, .ref 75), (1, .ref 0), (0, .ref x_scr)], [.int (xs ((i + 2)).toNatClampNeg), .int (xs ((i + 1)).toNatClampNeg), .ref 0], h, 98, 10728)) lr_2199 rfl h2 ?_
  refine j_Lst (c' := (2201, [(3, .int i), (2, .ref 75), (1, .ref 0), (0, .ref x_scr)], [.ref x_scr, .int (xs ((i + 2)).toNatClampNeg), .int (xs ((i + 1)).toNatClampNeg), .ref 0], h, 98, 10728)) lr_2200 rfl ?_
  refine j_Lst (c' := (2202, [(3, .int i), (2, .ref 75), (1, .ref 0), (0, .ref x_scr)], [.int i, .ref x_scr, .int (xs ((i + 2)).toNatClampNeg), .int (xs ((i + 1)).toNatClampNeg), .ref 0], h, 98, 10728)) lr_2201 rfl ?_
  refine j_Lst (c' := (2203, [(3, .int i), (2, .ref 75), (1, .ref 0), (0, .ref x_scr)], [.int 3, .int i, .ref x_scr, .int (xs ((i + 2)).toNatClampNeg), .int (xs ((i + 1)).toNatClampNeg), .ref 0], h, 98, 10728)) lr_2202 rfl ?_
  refine j_Lst (c' := (2204, [(3, .int i), (2, .ref 75), (1, .ref 0), (0, .ref x_scr)], [.int (i + 3), .ref x_scr, .int (xs ((i + 2)).toNatClampNeg), .int (xs ((i + 1)).toNatClampNeg), .ref 0], h, 98, 10728)) lr_2203 rfl ?_
  refine j_Lsl (c' := (2205, [(3, .int i), (2, .ref 75), (1, .ref 0), (0, .ref x_scr)], [.int (xs ((i + 3)).toNatClampNeg), .int (xs ((i + 2)).toNatClampNeg), .int (xs ((i + 1)).toNatClampNeg), .ref 0], h, 98, 10728)) lr_2204 rfl h3 ?_
  exact kk

set_option maxRecDepth 100000 in
theorem x_c67b (h : xH) (L : Nat) (xs : Nat → Int32) (i : Int32) (h0 : ¬ (i < 0 ∨ L ≤ (i).toNatClampNeg)) (h1 : ¬ (i + 1 < 0 ∨ L ≤ (i + 1).toNatClampNeg)) (h2 : ¬ (i + 2 < 0 ∨ L ≤ (i + 2).toNatClampNeg)) (h3 : ¬ (i + 3 < 0 ∨ L ≤ (i + 3).toNatClampNeg)) (h4 : ¬ (i + 4 < 0 ∨ L ≤ (i + 4).toNatClampNeg)) (h5 : ¬ (i + 5 < 0 ∨ L ≤ (i + 5).toNatClampNeg)) (v : Int32) {P : Option Value × xH × Nat × Nat → Prop} (kk : x_R x_mt (some (L, xs)) 10 M_law (2225, [(3, .int i), (2, .ref 75), (1, .ref 0), (0, .ref x_scr)], [.int (xs ((i + 3)).toNatClampNeg), .int (xs ((i + 2)).toNatClampNeg), .int (xs ((i + 1)).toNatClampNeg), .ref 75], h, 98, 10728) P) : x_R x_mt (some (L, xs)) 10 M_law (2208, [(3, .int i), (2, .ref 75), (1, .ref 0), (0, .ref x_scr)], [.int v], h, 98, 10728) P := by
  refine j_Lst (c' := (2209, [(3, .int i), (2, .ref 75), (1, .ref 0), (0, .ref x_scr)], [], h, 98, 10728)) lr_2208 rfl ?_
  refine j_Lst (c' := (2210, [(3, .int i), (2, .ref 75), (1, .ref 0), (0, .ref x_scr)], [.ref 75], h, 98, 10728)) lr_2209 rfl ?_
  refine j_Lst (c' := (2211, [(3, .int i), (2, .ref 75), (1, .ref 0), (0, .ref x_scr)], [.ref x_scr, .ref 75], h, 98, 10728)) lr_2210 rfl ?_
  refine j_Lst (c' := (2212, [(3, .int i), (2, .ref 75), (1, .ref 0), (0, .ref x_scr)], [.int i, .ref x_scr, .ref 75], h, 98, 10728)) lr_2211 rfl ?_
  refine j_Lst (c' := (2213, [(3, .int i), (2, .ref 75), (1, .ref 0), (0, .ref x_scr)], [.int 1, .int i, .ref x_scr, .ref 75], h, 98, 10728)) lr_2212 rfl ?_
  refine j_Lst (c' := (2214, [(3, .int i), (2, .ref 75), (1, .ref 0), (0, .ref x_scr)], [.int (i + 1), .ref x_scr, .ref 75], h, 98, 10728)) lr_2213 rfl ?_
  refine j_Lsl (c' := (2215, [(3, .int i), (2, .ref 75), (1, .ref 0), (0, .ref x_scr)], [.int (xs ((i + 1)).toNatClampNeg), .ref 75], h, 98, 10728)) lr_2214 rfl h1 ?_
  refine j_Lst (c' := (2216, [(3, .int i), (2, .ref 75), (1, .ref 0), (0, .ref x_scr)], [.ref x_scr, .int (xs ((i + 1)).toNatClampNeg), .ref 75], h, 98, 10728)) lr_2215 rfl ?_
  refine j_Lst (c' := (2217, [(3, .int i), (2, .ref 75), (1, .ref 0), (0, .ref x_scr)], [.int i, .ref x_scr, .int (xs ((i + 1)).toNatClampNeg), .ref 75], h, 98, 10728)) lr_2216 rfl ?_
  refine j_Lst (c' := (2218, [(3, .int i), (2, .ref 75), (1, .ref 0), (0, .ref x_scr)], [.int 2, .int i, .ref x_scr, .int (xs ((i + 1)).toNatClampNeg), .ref 75], h, 98, 10728)) lr_2217 rfl ?_
  refine j_Lst (c' := (2219, [(3, .int i), (2, .ref 75), (1, .ref 0), (0, .ref x_scr)], [.int (i + 2), .ref x_scr, .int (xs ((i + 1)).toNatClampNeg), .ref 75], h, 98, 10728)) lr_2218 rfl ?_
  refine j_Lsl (c' := (2220, [(3, .int i), (2, .ref 75), (1, .ref 0), (0, .ref x_scr)], [.int (xs ((i + 2)).toNatClampNeg), .int (xs ((i + 1)).toNatClampNeg), .ref 75], h, 98, 10728)) lr_2219 rfl h2 ?_
  refine j_Lst (c' := (2221, [(3, .int i), (2, .ref 75), (1, .ref 0), (0, .ref x_scr)], [.ref x_scr, .int (xs ((i + 2)).toNatClampNeg), .int (xs ((i + 1)).toNatClampNeg), .ref 75], h, 98, 10728)) lr_2220 rfl ?_
  refine j_Lst (c' := (2222, [(3, .int i), (2, .ref 75), (1, .ref 0), (0, .ref x_scr)], [.int i, .ref x_scr, .int (xs ((i + 2)).toNatClampNeg), .int (xs ((i + 1)).toNatClampNeg), .ref 75], h, 98, 10728)) lr_2221 rfl ?_
  refine j_Lst (c' := (2223, [(3, .int i), (2, .ref 75), (1, .ref 0), (0, .ref x_scr)], [.int 3, .int i, .ref x_scr, .int (xs ((i + 2)).toNatClampNeg), .int (xs ((i + 1)).toNatClampNeg), .ref 75], h, 98, 10728)) lr_2222 rfl ?_
  refine j_Lst (c' := (2224, [(3, .int i), (2, .ref 75), (1, .ref 0), (0, .ref x_scr)], [.int (i + 3), .ref x_scr, .int (xs ((i + 2)).toNatClampNeg), .int (xs ((i + 1)).toNatClampNeg), .ref 75], h, 98, 10728)) lr_2223 rfl ?_
  refine j_Lsl (c' := (2225, [(3, .int i), (2, .ref 75), (1, .ref 0), (0, .ref x_scr)], [.int (xs ((i + 3)).toNatClampNeg), .int (xs ((i + 2)).toNatClampNeg), .int (xs ((i + 1)).toNatClampNeg), .ref 75], h, 98, 10728)) lr_2224 rfl h3 ?_
  exact kk

set_option maxRecDepth 100000 in
theorem x_c67d (h : xH) (L : Nat) (xs : Nat → Int32) (i : Int32) (h0 : ¬ (i < 0 ∨ L ≤ (i).toNatClampNeg)) (h1 : ¬ (i + 1 < 0 ∨ L ≤ (i + 1).toNatClampNeg)) (h2 : ¬ (i + 2 < 0 ∨ L ≤ (i + 2).toNatClampNeg)) (h3 : ¬ (i + 3 < 0 ∨ L ≤ (i + 3).toNatClampNeg)) (h4 : ¬ (i + 4 < 0 ∨ L ≤ (i + 4).toNatClampNeg)) (h5 : ¬ (i + 5 < 0 ∨ L ≤ (i + 5).toNatClampNeg)) (w : Int32) {P : Option Value × xH × Nat × Nat → Prop} (kk : x_R x_mt (some (L, xs)) 10 M_law (18, [(3, .int (i + Int32.ofInt (6))), (2, .ref 75), (1, .ref 0), (0, .ref x_scr)], [], h, 98, 10728) P) : x_R x_mt (some (L, xs)) 10 M_law (2228, [(3, .int i), (2, .ref 75), (1, .ref 0), (0, .ref x_scr)], [.int w], h, 98, 10728) P := by
  refine j_Lst (c' := (2229, [(3, .int i), (2, .ref 75), (1, .ref 0), (0, .ref x_scr)], [], h, 98, 10728)) lr_2228 rfl ?_
  refine j_Lst (c' := (2368, [(3, .int i), (2, .ref 75), (1, .ref 0), (0, .ref x_scr)], [], h, 98, 10728)) lr_2229 rfl ?_
  refine j_Lst (c' := (2371, [(3, .int (i + Int32.ofInt (6))), (2, .ref 75), (1, .ref 0), (0, .ref x_scr)], [], h, 98, 10728)) lr_2368 rfl ?_
  refine j_Lst (c' := (18, [(3, .int (i + Int32.ofInt (6))), (2, .ref 75), (1, .ref 0), (0, .ref x_scr)], [], h, 98, 10728)) lr_2371 rfl ?_
  exact kk

set_option maxRecDepth 100000 in
theorem x_c68a (h : xH) (L : Nat) (xs : Nat → Int32) (i : Int32) (h0 : ¬ (i < 0 ∨ L ≤ (i).toNatClampNeg)) (h1 : ¬ (i + 1 < 0 ∨ L ≤ (i + 1).toNatClampNeg)) (h2 : ¬ (i + 2 < 0 ∨ L ≤ (i + 2).toNatClampNeg)) (h3 : ¬ (i + 3 < 0 ∨ L ≤ (i + 3).toNatClampNeg)) (h4 : ¬ (i + 4 < 0 ∨ L ≤ (i + 4).toNatClampNeg)) (h5 : ¬ (i + 5 < 0 ∨ L ≤ (i + 5).toNatClampNeg)) {P : Option Value × xH × Nat × Nat → Prop} (kk : x_R x_mt (some (L, xs)) 10 M_law (2263, [(3, .int i), (2, .ref 75), (1, .ref 0), (0, .ref x_scr)], [.long ((((xs ((i + 3)).toNatClampNeg)).toInt64 <<< ((32 : Int32).toInt64 &&& 63)) ||| (((xs ((i + 4)).toNatClampNeg)).toInt64 &&& 4294967295)), .int (xs ((i + 2)).toNatClampNeg), .int (xs ((i + 1)).toNatClampNeg), .ref 0], h, 98, 10728) P) : x_R x_mt (some (L, xs)) 10 M_law (2232, [(3, .int i), (2, .ref 75), (1, .ref 0), (0, .ref x_scr)], [], h, 98, 10728) P := by
  refine j_Lst (c' := (2233, [(3, .int i), (2, .ref 75), (1, .ref 0), (0, .ref x_scr)], [.ref 0], h, 98, 10728)) lr_2232 rfl ?_
  refine j_Lst (c' := (2234, [(3, .int i), (2, .ref 75), (1, .ref 0), (0, .ref x_scr)], [.ref x_scr, .ref 0], h, 98, 10728)) lr_2233 rfl ?_
  refine j_Lst (c' := (2235, [(3, .int i), (2, .ref 75), (1, .ref 0), (0, .ref x_scr)], [.int i, .ref x_scr, .ref 0], h, 98, 10728)) lr_2234 rfl ?_
  refine j_Lst (c' := (2236, [(3, .int i), (2, .ref 75), (1, .ref 0), (0, .ref x_scr)], [.int 1, .int i, .ref x_scr, .ref 0], h, 98, 10728)) lr_2235 rfl ?_
  refine j_Lst (c' := (2237, [(3, .int i), (2, .ref 75), (1, .ref 0), (0, .ref x_scr)], [.int (i + 1), .ref x_scr, .ref 0], h, 98, 10728)) lr_2236 rfl ?_
  refine j_Lsl (c' := (2238, [(3, .int i), (2, .ref 75), (1, .ref 0), (0, .ref x_scr)], [.int (xs ((i + 1)).toNatClampNeg), .ref 0], h, 98, 10728)) lr_2237 rfl h1 ?_
  refine j_Lst (c' := (2239, [(3, .int i), (2, .ref 75), (1, .ref 0), (0, .ref x_scr)], [.ref x_scr, .int (xs ((i + 1)).toNatClampNeg), .ref 0], h, 98, 10728)) lr_2238 rfl ?_
  refine j_Lst (c' := (2240, [(3, .int i), (2, .ref 75), (1, .ref 0), (0, .ref x_scr)], [.int i, .ref x_scr, .int (xs ((i + 1)).toNatClampNeg), .ref 0], h, 98, 10728)) lr_2239 rfl ?_
  refine j_Lst (c' := (2241, [(3, .int i), (2, .ref 75), (1, .ref 0), (0, .ref x_scr)], [.int 2, .int i, .ref x_scr, .int (xs ((i + 1)).toNatClampNeg), .ref 0], h, 98, 10728)) lr_2240 rfl ?_
  refine j_Lst (c' := (2242, [(3, .int i), (2, .ref 75), (1, .ref 0), (0, .ref x_scr)], [.int (i + 2), .ref x_scr, .int (xs ((i + 1)).toNatClampNeg), .ref 0], h, 98, 10728)) lr_2241 rfl ?_
  refine j_Lsl (c' := (2243, [(3, .int i), (2, .ref 75), (1, .ref 0), (0, .ref x_scr)], [.int (xs ((i + 2)).toNatClampNeg), .int (xs ((i + 1)).toNatClampNeg), .ref 0], h, 98, 10728)) lr_2242 rfl h2 ?_
  refine j_Lst (c' := (2244, [(3, .int i), (2, .ref 75), (1, .ref 0), (0, .ref x_scr)], [.ref x_scr, .int (xs ((i + 2)).toNatClampNeg), .int (xs ((i + 1)).toNatClampNeg), .ref 0], h, 98, 10728)) lr_2243 rfl ?_
  refine j_Lst (c' := (2245, [(3, .int i), (2, .ref 75), (1, .ref 0), (0, .ref x_scr)], [.int i, .ref x_scr, .int (xs ((i + 2)).toNatClampNeg), .int (xs ((i + 1)).toNatClampNeg), .ref 0], h, 98, 10728)) lr_2244 rfl ?_
  refine j_Lst (c' := (2246, [(3, .int i), (2, .ref 75), (1, .ref 0), (0, .ref x_scr)], [.int 3, .int i, .ref x_scr, .int (xs ((i + 2)).toNatClampNeg), .int (xs ((i + 1)).toNatClampNeg), .ref 0], h, 98, 10728)) lr_2245 rfl ?_
  refine j_Lst (c' := (2247, [(3, .int i), (2, .ref 75), (1, .ref 0), (0, .ref x_scr)], [.int (i + 3), .ref x_scr, .int (xs ((i + 2)).toNatClampNeg), .int (xs ((i + 1)).toNatClampNeg), .ref 0], h, 98, 10728)) lr_2246 rfl ?_
  refine j_Lsl (c' := (2248, [(3, .int i), (2, .ref 75), (1, .ref 0), (0, .ref x_scr)], [.int (xs ((i + 3)).toNatClampNeg), .int (xs ((i + 2)).toNatClampNeg), .int (xs ((i + 1)).toNatClampNeg), .ref 0], h, 98, 10728)) lr_2247 rfl h3 ?_
  refine j_Lst (c' := (2249, [(3, .int i), (2, .ref 75), (1, .ref 0), (0, .ref x_scr)], [.long ((xs ((i + 3)).toNatClampNeg)).toInt64, .int (xs ((i + 2)).toNatClampNeg), .int (xs ((i + 1)).toNatClampNeg), .ref 0], h, 98, 10728)) lr_2248 rfl ?_
  refine j_Lst (c' := (2251, [(3, .int i), (2, .ref 75), (1, .ref 0), (0, .ref x_scr)], [.int 32, .long ((xs ((i + 3)).toNatClampNeg)).toInt64, .int (xs ((i + 2)).toNatClampNeg), .int (xs ((i + 1)).toNatClampNeg), .ref 0], h, 98, 10728)) lr_2249 rfl ?_
  refine j_Lst (c' := (2252, [(3, .int i), (2, .ref 75), (1, .ref 0), (0, .ref x_scr)], [.long (((xs ((i + 3)).toNatClampNeg)).toInt64 <<< ((32 : Int32).toInt64 &&& 63)), .int (xs ((i + 2)).toNatClampNeg), .int (xs ((i + 1)).toNatClampNeg), .ref 0], h, 98, 10728)) lr_2251 rfl ?_
  refine j_Lst (c' := (2253, [(3, .int i), (2, .ref 75), (1, .ref 0), (0, .ref x_scr)], [.ref x_scr, .long (((xs ((i + 3)).toNatClampNeg)).toInt64 <<< ((32 : Int32).toInt64 &&& 63)), .int (xs ((i + 2)).toNatClampNeg), .int (xs ((i + 1)).toNatClampNeg), .ref 0], h, 98, 10728)) lr_2252 rfl ?_
  refine j_Lst (c' := (2254, [(3, .int i), (2, .ref 75), (1, .ref 0), (0, .ref x_scr)], [.int i, .ref x_scr, .long (((xs ((i + 3)).toNatClampNeg)).toInt64 <<< ((32 : Int32).toInt64 &&& 63)), .int (xs ((i + 2)).toNatClampNeg), .int (xs ((i + 1)).toNatClampNeg), .ref 0], h, 98, 10728)) lr_2253 rfl ?_
  refine j_Lst (c' := (2255, [(3, .int i), (2, .ref 75), (1, .ref 0), (0, .ref x_scr)], [.int 4, .int i, .ref x_scr, .long (((xs ((i + 3)).toNatClampNeg)).toInt64 <<< ((32 : Int32).toInt64 &&& 63)), .int (xs ((i + 2)).toNatClampNeg), .int (xs ((i + 1)).toNatClampNeg), .ref 0], h, 98, 10728)) lr_2254 rfl ?_
  refine j_Lst (c' := (2256, [(3, .int i), (2, .ref 75), (1, .ref 0), (0, .ref x_scr)], [.int (i + 4), .ref x_scr, .long (((xs ((i + 3)).toNatClampNeg)).toInt64 <<< ((32 : Int32).toInt64 &&& 63)), .int (xs ((i + 2)).toNatClampNeg), .int (xs ((i + 1)).toNatClampNeg), .ref 0], h, 98, 10728)) lr_2255 rfl ?_
  refine j_Lsl (c' := (2257, [(3, .int i), (2, .ref 75), (1, .ref 0), (0, .ref x_scr)], [.int (xs ((i + 4)).toNatClampNeg), .long (((xs ((i + 3)).toNatClampNeg)).toInt64 <<< ((32 : Int32).toInt64 &&& 63)), .int (xs ((i + 2)).toNatClampNeg), .int (xs ((i + 1)).toNatClampNeg), .ref 0], h, 98, 10728)) lr_2256 rfl h4 ?_
  refine j_Lst (c' := (2258, [(3, .int i), (2, .ref 75), (1, .ref 0), (0, .ref x_scr)], [.long ((xs ((i + 4)).toNatClampNeg)).toInt64, .long (((xs ((i + 3)).toNatClampNeg)).toInt64 <<< ((32 : Int32).toInt64 &&& 63)), .int (xs ((i + 2)).toNatClampNeg), .int (xs ((i + 1)).toNatClampNeg), .ref 0], h, 98, 10728)) lr_2257 rfl ?_
  refine j_Lst (c' := (2261, [(3, .int i), (2, .ref 75), (1, .ref 0), (0, .ref x_scr)], [.long 4294967295, .long ((xs ((i + 4)).toNatClampNeg)).toInt64, .long (((xs ((i + 3)).toNatClampNeg)).toInt64 <<< ((32 : Int32).toInt64 &&& 63)), .int (xs ((i + 2)).toNatClampNeg), .int (xs ((i + 1)).toNatClampNeg), .ref 0], h, 98, 10728)) lr_2258 rfl ?_
  refine j_Lst (c' := (2262, [(3, .int i), (2, .ref 75), (1, .ref 0), (0, .ref x_scr)], [.long (((xs ((i + 4)).toNatClampNeg)).toInt64 &&& 4294967295), .long (((xs ((i + 3)).toNatClampNeg)).toInt64 <<< ((32 : Int32).toInt64 &&& 63)), .int (xs ((i + 2)).toNatClampNeg), .int (xs ((i + 1)).toNatClampNeg), .ref 0], h, 98, 10728)) lr_2261 rfl ?_
  refine j_Lst (c' := (2263, [(3, .int i), (2, .ref 75), (1, .ref 0), (0, .ref x_scr)], [.long ((((xs ((i + 3)).toNatClampNeg)).toInt64 <<< ((32 : Int32).toInt64 &&& 63)) ||| (((xs ((i + 4)).toNatClampNeg)).toInt64 &&& 4294967295)), .int (xs ((i + 2)).toNatClampNeg), .int (xs ((i + 1)).toNatClampNeg), .ref 0], h, 98, 10728)) lr_2262 rfl ?_
  exact kk

set_option maxRecDepth 100000 in
theorem x_c68b (h : xH) (L : Nat) (xs : Nat → Int32) (i : Int32) (h0 : ¬ (i < 0 ∨ L ≤ (i).toNatClampNeg)) (h1 : ¬ (i + 1 < 0 ∨ L ≤ (i + 1).toNatClampNeg)) (h2 : ¬ (i + 2 < 0 ∨ L ≤ (i + 2).toNatClampNeg)) (h3 : ¬ (i + 3 < 0 ∨ L ≤ (i + 3).toNatClampNeg)) (h4 : ¬ (i + 4 < 0 ∨ L ≤ (i + 4).toNatClampNeg)) (h5 : ¬ (i + 5 < 0 ∨ L ≤ (i + 5).toNatClampNeg)) (v : Int32) {P : Option Value × xH × Nat × Nat → Prop} (kk : x_R x_mt (some (L, xs)) 10 M_law (2298, [(3, .int i), (2, .ref 75), (1, .ref 0), (0, .ref x_scr)], [.long ((((xs ((i + 3)).toNatClampNeg)).toInt64 <<< ((32 : Int32).toInt64 &&& 63)) ||| (((xs ((i + 4)).toNatClampNeg)).toInt64 &&& 4294967295)), .int (xs ((i + 2)).toNatClampNeg), .int (xs ((i + 1)).toNatClampNeg), .ref 75], h, 98, 10728) P) : x_R x_mt (some (L, xs)) 10 M_law (2266, [(3, .int i), (2, .ref 75), (1, .ref 0), (0, .ref x_scr)], [.int v], h, 98, 10728) P := by
  refine j_Lst (c' := (2267, [(3, .int i), (2, .ref 75), (1, .ref 0), (0, .ref x_scr)], [], h, 98, 10728)) lr_2266 rfl ?_
  refine j_Lst (c' := (2268, [(3, .int i), (2, .ref 75), (1, .ref 0), (0, .ref x_scr)], [.ref 75], h, 98, 10728)) lr_2267 rfl ?_
  refine j_Lst (c' := (2269, [(3, .int i), (2, .ref 75), (1, .ref 0), (0, .ref x_scr)], [.ref x_scr, .ref 75], h, 98, 10728)) lr_2268 rfl ?_
  refine j_Lst (c' := (2270, [(3, .int i), (2, .ref 75), (1, .ref 0), (0, .ref x_scr)], [.int i, .ref x_scr, .ref 75], h, 98, 10728)) lr_2269 rfl ?_
  refine j_Lst (c' := (2271, [(3, .int i), (2, .ref 75), (1, .ref 0), (0, .ref x_scr)], [.int 1, .int i, .ref x_scr, .ref 75], h, 98, 10728)) lr_2270 rfl ?_
  refine j_Lst (c' := (2272, [(3, .int i), (2, .ref 75), (1, .ref 0), (0, .ref x_scr)], [.int (i + 1), .ref x_scr, .ref 75], h, 98, 10728)) lr_2271 rfl ?_
  refine j_Lsl (c' := (2273, [(3, .int i), (2, .ref 75), (1, .ref 0), (0, .ref x_scr)], [.int (xs ((i + 1)).toNatClampNeg), .ref 75], h, 98, 10728)) lr_2272 rfl h1 ?_
  refine j_Lst (c' := (2274, [(3, .int i), (2, .ref 75), (1, .ref 0), (0, .ref x_scr)], [.ref x_scr, .int (xs ((i + 1)).toNatClampNeg), .ref 75], h, 98, 10728)) lr_2273 rfl ?_
  refine j_Lst (c' := (2275, [(3, .int i), (2, .ref 75), (1, .ref 0), (0, .ref x_scr)], [.int i, .ref x_scr, .int (xs ((i + 1)).toNatClampNeg), .ref 75], h, 98, 10728)) lr_2274 rfl ?_
  refine j_Lst (c' := (2276, [(3, .int i), (2, .ref 75), (1, .ref 0), (0, .ref x_scr)], [.int 2, .int i, .ref x_scr, .int (xs ((i + 1)).toNatClampNeg), .ref 75], h, 98, 10728)) lr_2275 rfl ?_
  refine j_Lst (c' := (2277, [(3, .int i), (2, .ref 75), (1, .ref 0), (0, .ref x_scr)], [.int (i + 2), .ref x_scr, .int (xs ((i + 1)).toNatClampNeg), .ref 75], h, 98, 10728)) lr_2276 rfl ?_
  refine j_Lsl (c' := (2278, [(3, .int i), (2, .ref 75), (1, .ref 0), (0, .ref x_scr)], [.int (xs ((i + 2)).toNatClampNeg), .int (xs ((i + 1)).toNatClampNeg), .ref 75], h, 98, 10728)) lr_2277 rfl h2 ?_
  refine j_Lst (c' := (2279, [(3, .int i), (2, .ref 75), (1, .ref 0), (0, .ref x_scr)], [.ref x_scr, .int (xs ((i + 2)).toNatClampNeg), .int (xs ((i + 1)).toNatClampNeg), .ref 75], h, 98, 10728)) lr_2278 rfl ?_
  refine j_Lst (c' := (2280, [(3, .int i), (2, .ref 75), (1, .ref 0), (0, .ref x_scr)], [.int i, .ref x_scr, .int (xs ((i + 2)).toNatClampNeg), .int (xs ((i + 1)).toNatClampNeg), .ref 75], h, 98, 10728)) lr_2279 rfl ?_
  refine j_Lst (c' := (2281, [(3, .int i), (2, .ref 75), (1, .ref 0), (0, .ref x_scr)], [.int 3, .int i, .ref x_scr, .int (xs ((i + 2)).toNatClampNeg), .int (xs ((i + 1)).toNatClampNeg), .ref 75], h, 98, 10728)) lr_2280 rfl ?_
  refine j_Lst (c' := (2282, [(3, .int i), (2, .ref 75), (1, .ref 0), (0, .ref x_scr)], [.int (i + 3), .ref x_scr, .int (xs ((i + 2)).toNatClampNeg), .int (xs ((i + 1)).toNatClampNeg), .ref 75], h, 98, 10728)) lr_2281 rfl ?_
  refine j_Lsl (c' := (2283, [(3, .int i), (2, .ref 75), (1, .ref 0), (0, .ref x_scr)], [.int (xs ((i + 3)).toNatClampNeg), .int (xs ((i + 2)).toNatClampNeg), .int (xs ((i + 1)).toNatClampNeg), .ref 75], h, 98, 10728)) lr_2282 rfl h3 ?_
  refine j_Lst (c' := (2284, [(3, .int i), (2, .ref 75), (1, .ref 0), (0, .ref x_scr)], [.long ((xs ((i + 3)).toNatClampNeg)).toInt64, .int (xs ((i + 2)).toNatClampNeg), .int (xs ((i + 1)).toNatClampNeg), .ref 75], h, 98, 10728)) lr_2283 rfl ?_
  refine j_Lst (c' := (2286, [(3, .int i), (2, .ref 75), (1, .ref 0), (0, .ref x_scr)], [.int 32, .long ((xs ((i + 3)).toNatClampNeg)).toInt64, .int (xs ((i + 2)).toNatClampNeg), .int (xs ((i + 1)).toNatClampNeg), .ref 75], h, 98, 10728)) lr_2284 rfl ?_
  refine j_Lst (c' := (2287, [(3, .int i), (2, .ref 75), (1, .ref 0), (0, .ref x_scr)], [.long (((xs ((i + 3)).toNatClampNeg)).toInt64 <<< ((32 : Int32).toInt64 &&& 63)), .int (xs ((i + 2)).toNatClampNeg), .int (xs ((i + 1)).toNatClampNeg), .ref 75], h, 98, 10728)) lr_2286 rfl ?_
  refine j_Lst (c' := (2288, [(3, .int i), (2, .ref 75), (1, .ref 0), (0, .ref x_scr)], [.ref x_scr, .long (((xs ((i + 3)).toNatClampNeg)).toInt64 <<< ((32 : Int32).toInt64 &&& 63)), .int (xs ((i + 2)).toNatClampNeg), .int (xs ((i + 1)).toNatClampNeg), .ref 75], h, 98, 10728)) lr_2287 rfl ?_
  refine j_Lst (c' := (2289, [(3, .int i), (2, .ref 75), (1, .ref 0), (0, .ref x_scr)], [.int i, .ref x_scr, .long (((xs ((i + 3)).toNatClampNeg)).toInt64 <<< ((32 : Int32).toInt64 &&& 63)), .int (xs ((i + 2)).toNatClampNeg), .int (xs ((i + 1)).toNatClampNeg), .ref 75], h, 98, 10728)) lr_2288 rfl ?_
  refine j_Lst (c' := (2290, [(3, .int i), (2, .ref 75), (1, .ref 0), (0, .ref x_scr)], [.int 4, .int i, .ref x_scr, .long (((xs ((i + 3)).toNatClampNeg)).toInt64 <<< ((32 : Int32).toInt64 &&& 63)), .int (xs ((i + 2)).toNatClampNeg), .int (xs ((i + 1)).toNatClampNeg), .ref 75], h, 98, 10728)) lr_2289 rfl ?_
  refine j_Lst (c' := (2291, [(3, .int i), (2, .ref 75), (1, .ref 0), (0, .ref x_scr)], [.int (i + 4), .ref x_scr, .long (((xs ((i + 3)).toNatClampNeg)).toInt64 <<< ((32 : Int32).toInt64 &&& 63)), .int (xs ((i + 2)).toNatClampNeg), .int (xs ((i + 1)).toNatClampNeg), .ref 75], h, 98, 10728)) lr_2290 rfl ?_
  refine j_Lsl (c' := (2292, [(3, .int i), (2, .ref 75), (1, .ref 0), (0, .ref x_scr)], [.int (xs ((i + 4)).toNatClampNeg), .long (((xs ((i + 3)).toNatClampNeg)).toInt64 <<< ((32 : Int32).toInt64 &&& 63)), .int (xs ((i + 2)).toNatClampNeg), .int (xs ((i + 1)).toNatClampNeg), .ref 75], h, 98, 10728)) lr_2291 rfl h4 ?_
  refine j_Lst (c' := (2293, [(3, .int i), (2, .ref 75), (1, .ref 0), (0, .ref x_scr)], [.long ((xs ((i + 4)).toNatClampNeg)).toInt64, .long (((xs ((i + 3)).toNatClampNeg)).toInt64 <<< ((32 : Int32).toInt64 &&& 63)), .int (xs ((i + 2)).toNatClampNeg), .int (xs ((i + 1)).toNatClampNeg), .ref 75], h, 98, 10728)) lr_2292 rfl ?_
  refine j_Lst (c' := (2296, [(3, .int i), (2, .ref 75), (1, .ref 0), (0, .ref x_scr)], [.long 4294967295, .long ((xs ((i + 4)).toNatClampNeg)).toInt64, .long (((xs ((i + 3)).toNatClampNeg)).toInt64 <<< ((32 : Int32).toInt64 &&& 63)), .int (xs ((i + 2)).toNatClampNeg), .int (xs ((i + 1)).toNatClampNeg), .ref 75], h, 98, 10728)) lr_2293 rfl ?_
  refine j_Lst (c' := (2297, [(3, .int i), (2, .ref 75), (1, .ref 0), (0, .ref x_scr)], [.long (((xs ((i + 4)).toNatClampNeg)).toInt64 &&& 4294967295), .long (((xs ((i + 3)).toNatClampNeg)).toInt64 <<< ((32 : Int32).toInt64 &&& 63)), .int (xs ((i + 2)).toNatClampNeg), .int (xs ((i + 1)).toNatClampNeg), .ref 75], h, 98, 10728)) lr_2296 rfl ?_
  refine j_Lst (c' := (2298, [(3, .int i), (2, .ref 75), (1, .ref 0), (0, .ref x_scr)], [.long ((((xs ((i + 3)).toNatClampNeg)).toInt64 <<< ((32 : Int32).toInt64 &&& 63)) ||| (((xs ((i + 4)).toNatClampNeg)).toInt64 &&& 4294967295)), .int (xs ((i + 2)).toNatClampNeg), .int (xs ((i + 1)).toNatClampNeg), .ref 75], h, 98, 10728)) lr_2297 rfl ?_
  exact kk

set_option maxRecDepth 100000 in
theorem x_c68d (h : xH) (L : Nat) (xs : Nat → Int32) (i : Int32) (h0 : ¬ (i < 0 ∨ L ≤ (i).toNatClampNeg)) (h1 : ¬ (i + 1 < 0 ∨ L ≤ (i + 1).toNatClampNeg)) (h2 : ¬ (i + 2 < 0 ∨ L ≤ (i + 2).toNatClampNeg)) (h3 : ¬ (i + 3 < 0 ∨ L ≤ (i + 3).toNatClampNeg)) (h4 : ¬ (i + 4 < 0 ∨ L ≤ (i + 4).toNatClampNeg)) (h5 : ¬ (i + 5 < 0 ∨ L ≤ (i + 5).toNatClampNeg)) (w : Int32) {P : Option Value × xH × Nat × Nat → Prop} (kk : x_R x_mt (some (L, xs)) 10 M_law (18, [(3, .int (i + Int32.ofInt (6))), (2, .ref 75), (1, .ref 0), (0, .ref x_scr)], [], h, 98, 10728) P) : x_R x_mt (some (L, xs)) 10 M_law (2301, [(3, .int i), (2, .ref 75), (1, .ref 0), (0, .ref x_scr)], [.int w], h, 98, 10728) P := by
  refine j_Lst (c' := (2302, [(3, .int i), (2, .ref 75), (1, .ref 0), (0, .ref x_scr)], [], h, 98, 10728)) lr_2301 rfl ?_
  refine j_Lst (c' := (2368, [(3, .int i), (2, .ref 75), (1, .ref 0), (0, .ref x_scr)], [], h, 98, 10728)) lr_2302 rfl ?_
  refine j_Lst (c' := (2371, [(3, .int (i + Int32.ofInt (6))), (2, .ref 75), (1, .ref 0), (0, .ref x_scr)], [], h, 98, 10728)) lr_2368 rfl ?_
  refine j_Lst (c' := (18, [(3, .int (i + Int32.ofInt (6))), (2, .ref 75), (1, .ref 0), (0, .ref x_scr)], [], h, 98, 10728)) lr_2371 rfl ?_
  exact kk

set_option maxRecDepth 100000 in
theorem x_c69a (h : xH) (L : Nat) (xs : Nat → Int32) (i : Int32) (h0 : ¬ (i < 0 ∨ L ≤ (i).toNatClampNeg)) (h1 : ¬ (i + 1 < 0 ∨ L ≤ (i + 1).toNatClampNeg)) (h2 : ¬ (i + 2 < 0 ∨ L ≤ (i + 2).toNatClampNeg)) (h3 : ¬ (i + 3 < 0 ∨ L ≤ (i + 3).toNatClampNeg)) (h4 : ¬ (i + 4 < 0 ∨ L ≤ (i + 4).toNatClampNeg)) (h5 : ¬ (i + 5 < 0 ∨ L ≤ (i + 5).toNatClampNeg)) {P : Option Value × xH × Nat × Nat → Prop} (kk : x_R x_mt (some (L, xs)) 10 M_law (2331, [(3, .int i), (2, .ref 75), (1, .ref 0), (0, .ref x_scr)], [.int (xs ((i + 5)).toNatClampNeg), .int (xs ((i + 4)).toNatClampNeg), .int (xs ((i + 3)).toNatClampNeg), .int (xs ((i + 2)).toNatClampNeg), .int (xs ((i + 1)).toNatClampNeg), .ref 0], h, 98, 10728) P) : x_R x_mt (some (L, xs)) 10 M_law (2305, [(3, .int i), (2, .ref 75), (1, .ref 0), (0, .ref x_scr)], [], h, 98, 10728) P := by
  refine j_Lst (c' := (2306, [(3, .int i), (2, .ref 75), (1, .ref 0), (0, .ref x_scr)], [.ref 0], h, 98, 10728)) lr_2305 rfl ?_
  refine j_Lst (c' := (2307, [(3, .int i), (2, .ref 75), (1, .ref 0), (0, .ref x_scr)], [.ref x_scr, .ref 0], h, 98, 10728)) lr_2306 rfl ?_
  refine j_Lst (c' := (2308, [(3, .int i), (2, .ref 75), (1, .ref 0), (0, .ref x_scr)], [.int i, .ref x_scr, .ref 0], h, 98, 10728)) lr_2307 rfl ?_
  refine j_Lst (c' := (2309, [(3, .int i), (2, .ref 75), (1, .ref 0), (0, .ref x_scr)], [.int 1, .int i, .ref x_scr, .ref 0], h, 98, 10728)) lr_2308 rfl ?_
  refine j_Lst (c' := (2310, [(3, .int i), (2, .ref 75), (1, .ref 0), (0, .ref x_scr)], [.int (i + 1), .ref x_scr, .ref 0], h, 98, 10728)) lr_2309 rfl ?_
  refine j_Lsl (c' := (2311, [(3, .int i), (2, .ref 75), (1, .ref 0), (0, .ref x_scr)], [.int (xs ((i + 1)).toNatClampNeg), .ref 0], h, 98, 10728)) lr_2310 rfl h1 ?_
  refine j_Lst (c' := (2312, [(3, .int i), (2, .ref 75), (1, .ref 0), (0, .ref x_scr)], [.ref x_scr, .int (xs ((i + 1)).toNatClampNeg), .ref 0], h, 98, 10728)) lr_2311 rfl ?_
  refine j_Lst (c' := (2313, [(3, .int i), (2, .ref 75), (1, .ref 0), (0, .ref x_scr)], [.int i, .ref x_scr, .int (xs ((i + 1)).toNatClampNeg), .ref 0], h, 98, 10728)) lr_2312 rfl ?_
  refine j_Lst (c' := (2314, [(3, .int i), (2, .ref 75), (1, .ref 0), (0, .ref x_scr)], [.int 2, .int i, .ref x_scr, .int (xs ((i + 1)).toNatClampNeg), .ref 0], h, 98, 10728)) lr_2313 rfl ?_
  refine j_Lst (c' := (2315, [(3, .int i), (2, .ref 75), (1, .ref 0), (0, .ref x_scr)], [.int (i + 2), .ref x_scr, .int (xs ((i + 1)).toNatClampNeg), .ref 0], h, 98, 10728)) lr_2314 rfl ?_
  refine j_Lsl (c' := (2316, [(3, .int i), (2, .ref 75), (1, .ref 0), (0, .ref x_scr)], [.int (xs ((i + 2)).toNatClampNeg), .int (xs ((i + 1)).toNatClampNeg), .ref 0], h, 98, 10728)) lr_2315 rfl h2 ?_
  refine j_Lst (c' := (2317, [(3, .int i), (2, .ref 75), (1, .ref 0), (0, .ref x_scr)], [.ref x_scr, .int (xs ((i + 2)).toNatClampNeg), .int (xs ((i + 1)).toNatClampNeg), .ref 0], h, 98, 10728)) lr_2316 rfl ?_
  refine j_Lst (c' := (2318, [(3, .int i), (2, .ref 75), (1, .ref 0), (0, .ref x_scr)], [.int i, .ref x_scr, .int (xs ((i + 2)).toNatClampNeg), .int (xs ((i + 1)).toNatClampNeg), .ref 0], h, 98, 10728)) lr_2317 rfl ?_
  refine j_Lst (c' := (2319, [(3, .int i), (2, .ref 75), (1, .ref 0), (0, .ref x_scr)], [.int 3, .int i, .ref x_scr, .int (xs ((i + 2)).toNatClampNeg), .int (xs ((i + 1)).toNatClampNeg), .ref 0], h, 98, 10728)) lr_2318 rfl ?_
  refine j_Lst (c' := (2320, [(3, .int i), (2, .ref 75), (1, .ref 0), (0, .ref x_scr)], [.int (i + 3), .ref x_scr, .int (xs ((i + 2)).toNatClampNeg), .int (xs ((i + 1)).toNatClampNeg), .ref 0], h, 98, 10728)) lr_2319 rfl ?_
  refine j_Lsl (c' := (2321, [(3, .int i), (2, .ref 75), (1, .ref 0), (0, .ref x_scr)], [.int (xs ((i + 3)).toNatClampNeg), .int (xs ((i + 2)).toNatClampNeg), .int (xs ((i + 1)).toNatClampNeg), .ref 0], h, 98, 10728)) lr_2320 rfl h3 ?_
  refine j_Lst (c' := (2322, [(3, .int i), (2, .ref 75), (1, .ref 0), (0, .ref x_scr)], [.ref x_scr, .int (xs ((i + 3)).toNatClampNeg), .int (xs ((i + 2)).toNatClampNeg), .int (xs ((i + 1)).toNatClampNeg), .ref 0], h, 98, 10728)) lr_2321 rfl ?_
  refine j_Lst (c' := (2323, [(3, .int i), (2, .ref 75), (1, .ref 0), (0, .ref x_scr)], [.int i, .ref x_scr, .int (xs ((i + 3)).toNatClampNeg), .int (xs ((i + 2)).toNatClampNeg), .int (xs ((i + 1)).toNatClampNeg), .ref 0], h, 98, 10728)) lr_2322 rfl ?_
  refine j_Lst (c' := (2324, [(3, .int i), (2, .ref 75), (1, .ref 0), (0, .ref x_scr)], [.int 4, .int i, .ref x_scr, .int (xs ((i + 3)).toNatClampNeg), .int (xs ((i + 2)).toNatClampNeg), .int (xs ((i + 1)).toNatClampNeg), .ref 0], h, 98, 10728)) lr_2323 rfl ?_
  refine j_Lst (c' := (2325, [(3, .int i), (2, .ref 75), (1, .ref 0), (0, .ref x_scr)], [.int (i + 4), .ref x_scr, .int (xs ((i + 3)).toNatClampNeg), .int (xs ((i + 2)).toNatClampNeg), .int (xs ((i + 1)).toNatClampNeg), .ref 0], h, 98, 10728)) lr_2324 rfl ?_
  refine j_Lsl (c' := (2326, [(3, .int i), (2, .ref 75), (1, .ref 0), (0, .ref x_scr)], [.int (xs ((i + 4)).toNatClampNeg), .int (xs ((i + 3)).toNatClampNeg), .int (xs ((i + 2)).toNatClampNeg), .int (xs ((i + 1)).toNatClampNeg), .ref 0], h, 98, 10728)) lr_2325 rfl h4 ?_
  refine j_Lst (c' := (2327, [(3, .int i), (2, .ref 75), (1, .ref 0), (0, .ref x_scr)], [.ref x_scr, .int (xs ((i + 4)).toNatClampNeg), .int (xs ((i + 3)).toNatClampNeg), .int (xs ((i + 2)).toNatClampNeg), .int (xs ((i + 1)).toNatClampNeg), .ref 0], h, 98, 10728)) lr_2326 rfl ?_
  refine j_Lst (c' := (2328, [(3, .int i), (2, .ref 75), (1, .ref 0), (0, .ref x_scr)], [.int i, .ref x_scr, .int (xs ((i + 4)).toNatClampNeg), .int (xs ((i + 3)).toNatClampNeg), .int (xs ((i + 2)).toNatClampNeg), .int (xs ((i + 1)).toNatClampNeg), .ref 0], h, 98, 10728)) lr_2327 rfl ?_
  refine j_Lst (c' := (2329, [(3, .int i), (2, .ref 75), (1, .ref 0), (0, .ref x_scr)], [.int 5, .int i, .ref x_scr, .int (xs ((i + 4)).toNatClampNeg), .int (xs ((i + 3)).toNatClampNeg), .int (xs ((i + 2)).toNatClampNeg), .int (xs ((i + 1)).toNatClampNeg), .ref 0], h, 98, 10728)) lr_2328 rfl ?_
  refine j_Lst (c' := (2330, [(3, .int i), (2, .ref 75), (1, .ref 0), (0, .ref x_scr)], [.int (i + 5), .ref x_scr, .int (xs ((i + 4)).toNatClampNeg), .int (xs ((i + 3)).toNatClampNeg), .int (xs ((i + 2)).toNatClampNeg), .int (xs ((i + 1)).toNatClampNeg), .ref 0], h, 98, 10728)) lr_2329 rfl ?_
  refine j_Lsl (c' := (2331, [(3, .int i), (2, .ref 75), (1, .ref 0), (0, .ref x_scr)], [.int (xs ((i + 5)).toNatClampNeg), .int (xs ((i + 4)).toNatClampNeg), .int (xs ((i + 3)).toNatClampNeg), .int (xs ((i + 2)).toNatClampNeg), .int (xs ((i + 1)).toNatClampNeg), .ref 0], h, 98, 10728)) lr_2330 rfl h5 ?_
  exact kk

set_option maxRecDepth 100000 in
theorem x_c69b (h : xH) (L : Nat) (xs : Nat → Int32) (i : Int32) (h0 : ¬ (i < 0 ∨ L ≤ (i).toNatClampNeg)) (h1 : ¬ (i + 1 < 0 ∨ L ≤ (i + 1).toNatClampNeg)) (h2 : ¬ (i + 2 < 0 ∨ L ≤ (i + 2).toNatClampNeg)) (h3 : ¬ (i + 3 < 0 ∨ L ≤ (i + 3).toNatClampNeg)) (h4 : ¬ (i + 4 < 0 ∨ L ≤ (i + 4).toNatClampNeg)) (h5 : ¬ (i + 5 < 0 ∨ L ≤ (i + 5).toNatClampNeg)) (v : Int32) {P : Option Value × xH × Nat × Nat → Prop} (kk : x_R x_mt (some (L, xs)) 10 M_law (2361, [(3, .int i), (2, .ref 75), (1, .ref 0), (0, .ref x_scr)], [.int (xs ((i + 5)).toNatClampNeg), .int (xs ((i + 4)).toNatClampNeg), .int (xs ((i + 3)).toNatClampNeg), .int (xs ((i + 2)).toNatClampNeg), .int (xs ((i + 1)).toNatClampNeg), .ref 75], h, 98, 10728) P) : x_R x_mt (some (L, xs)) 10 M_law (2334, [(3, .int i), (2, .ref 75), (1, .ref 0), (0, .ref x_scr)], [.int v], h, 98, 10728) P := by
  refine j_Lst (c' := (2335, [(3, .int i), (2, .ref 75), (1, .ref 0), (0, .ref x_scr)], [], h, 98, 10728)) lr_2334 rfl ?_
  refine j_Lst (c' := (2336, [(3, .int i), (2, .ref 75), (1, .ref 0), (0, .ref x_scr)], [.ref 75], h, 98, 10728)) lr_2335 rfl ?_
  refine j_Lst (c' := (2337, [(3, .int i), (2, .ref 75), (1, .ref 0), (0, .ref x_scr)], [.ref x_scr, .ref 75], h, 98, 10728)) lr_2336 rfl ?_
  refine j_Lst (c' := (2338, [(3, .int i), (2, .ref 75), (1, .ref 0), (0, .ref x_scr)], [.int i, .ref x_scr, .ref 75], h, 98, 10728)) lr_2337 rfl ?_
  refine j_Lst (c' := (2339, [(3, .int i), (2, .ref 75), (1, .ref 0), (0, .ref x_scr)], [.int 1, .int i, .ref x_scr, .ref 75], h, 98, 10728)) lr_2338 rfl ?_
  refine j_Lst (c' := (2340, [(3, .int i), (2, .ref 75), (1, .ref 0), (0, .ref x_scr)], [.int (i + 1), .ref x_scr, .ref 75], h, 98, 10728)) lr_2339 rfl ?_
  refine j_Lsl (c' := (2341, [(3, .int i), (2, .ref 75), (1, .ref 0), (0, .ref x_scr)], [.int (xs ((i + 1)).toNatClampNeg), .ref 75], h, 98, 10728)) lr_2340 rfl h1 ?_
  refine j_Lst (c' := (2342, [(3, .int i), (2, .ref 75), (1, .ref 0), (0, .ref x_scr)], [.ref x_scr, .int (xs ((i + 1)).toNatClampNeg), .ref 75], h, 98, 10728)) lr_2341 rfl ?_
  refine j_Lst (c' := (2343, [(3, .int i), (2, .ref 75), (1, .ref 0), (0, .ref x_scr)], [.int i, .ref x_scr, .int (xs ((i + 1)).toNatClampNeg), .ref 75], h, 98, 10728)) lr_2342 rfl ?_
  refine j_Lst (c' := (2344, [(3, .int i), (2, .ref 75), (1, .ref 0), (0, .ref x_scr)], [.int 2, .int i, .ref x_scr, .int (xs ((i + 1)).toNatClampNeg), .ref 75], h, 98, 10728)) lr_2343 rfl ?_
  refine j_Lst (c' := (2345, [(3, .int i), (2, .ref 75), (1, .ref 0), (0, .ref x_scr)], [.int (i + 2), .ref x_scr, .int (xs ((i + 1)).toNatClampNeg), .ref 75], h, 98, 10728)) lr_2344 rfl ?_
  refine j_Lsl (c' := (2346, [(3, .int i), (2, .ref 75), (1, .ref 0), (0, .ref x_scr)], [.int (xs ((i + 2)).toNatClampNeg), .int (xs ((i + 1)).toNatClampNeg), .ref 75], h, 98, 10728)) lr_2345 rfl h2 ?_
  refine j_Lst (c' := (2347, [(3, .int i), (2, .ref 75), (1, .ref 0), (0, .ref x_scr)], [.ref x_scr, .int (xs ((i + 2)).toNatClampNeg), .int (xs ((i + 1)).toNatClampNeg), .ref 75], h, 98, 10728)) lr_2346 rfl ?_
  refine j_Lst (c' := (2348, [(3, .int i), (2, .ref 75), (1, .ref 0), (0, .ref x_scr)], [.int i, .ref x_scr, .int (xs ((i + 2)).toNatClampNeg), .int (xs ((i + 1)).toNatClampNeg), .ref 75], h, 98, 10728)) lr_2347 rfl ?_
  refine j_Lst (c' := (2349, [(3, .int i), (2, .ref 75), (1, .ref 0), (0, .ref x_scr)], [.int 3, .int i, .ref x_scr, .int (xs ((i + 2)).toNatClampNeg), .int (xs ((i + 1)).toNatClampNeg), .ref 75], h, 98, 10728)) lr_2348 rfl ?_
  refine j_Lst (c' := (2350, [(3, .int i), (2, .ref 75), (1, .ref 0), (0, .ref x_scr)], [.int (i + 3), .ref x_scr, .int (xs ((i + 2)).toNatClampNeg), .int (xs ((i + 1)).toNatClampNeg), .ref 75], h, 98, 10728)) lr_2349 rfl ?_
  refine j_Lsl (c' := (2351, [(3, .int i), (2, .ref 75), (1, .ref 0), (0, .ref x_scr)], [.int (xs ((i + 3)).toNatClampNeg), .int (xs ((i + 2)).toNatClampNeg), .int (xs ((i + 1)).toNatClampNeg), .ref 75], h, 98, 10728)) lr_2350 rfl h3 ?_
  refine j_Lst (c' := (2352, [(3, .int i), (2, .ref 75), (1, .ref 0), (0, .ref x_scr)], [.ref x_scr, .int (xs ((i + 3)).toNatClampNeg), .int (xs ((i + 2)).toNatClampNeg), .int (xs ((i + 1)).toNatClampNeg), .ref 75], h, 98, 10728)) lr_2351 rfl ?_
  refine j_Lst (c' := (2353, [(3, .int i), (2, .ref 75), (1, .ref 0), (0, .ref x_scr)], [.int i, .ref x_scr, .int (xs ((i + 3)).toNatClampNeg), .int (xs ((i + 2)).toNatClampNeg), .int (xs ((i + 1)).toNatClampNeg), .ref 75], h, 98, 10728)) lr_2352 rfl ?_
  refine j_Lst (c' := (2354, [(3, .int i), (2, .ref 75), (1, .ref 0), (0, .ref x_scr)], [.int 4, .int i, .ref x_scr, .int (xs ((i + 3)).toNatClampNeg), .int (xs ((i + 2)).toNatClampNeg), .int (xs ((i + 1)).toNatClampNeg), .ref 75], h, 98, 10728)) lr_2353 rfl ?_
  refine j_Lst (c' := (2355, [(3, .int i), (2, .ref 75), (1, .ref 0), (0, .ref x_scr)], [.int (i + 4), .ref x_scr, .int (xs ((i + 3)).toNatClampNeg), .int (xs ((i + 2)).toNatClampNeg), .int (xs ((i + 1)).toNatClampNeg), .ref 75], h, 98, 10728)) lr_2354 rfl ?_
  refine j_Lsl (c' := (2356, [(3, .int i), (2, .ref 75), (1, .ref 0), (0, .ref x_scr)], [.int (xs ((i + 4)).toNatClampNeg), .int (xs ((i + 3)).toNatClampNeg), .int (xs ((i + 2)).toNatClampNeg), .int (xs ((i + 1)).toNatClampNeg), .ref 75], h, 98, 10728)) lr_2355 rfl h4 ?_
  refine j_Lst (c' := (2357, [(3, .int i), (2, .ref 75), (1, .ref 0), (0, .ref x_scr)], [.ref x_scr, .int (xs ((i + 4)).toNatClampNeg), .int (xs ((i + 3)).toNatClampNeg), .int (xs ((i + 2)).toNatClampNeg), .int (xs ((i + 1)).toNatClampNeg), .ref 75], h, 98, 10728)) lr_2356 rfl ?_
  refine j_Lst (c' := (2358, [(3, .int i), (2, .ref 75), (1, .ref 0), (0, .ref x_scr)], [.int i, .ref x_scr, .int (xs ((i + 4)).toNatClampNeg), .int (xs ((i + 3)).toNatClampNeg), .int (xs ((i + 2)).toNatClampNeg), .int (xs ((i + 1)).toNatClampNeg), .ref 75], h, 98, 10728)) lr_2357 rfl ?_
  refine j_Lst (c' := (2359, [(3, .int i), (2, .ref 75), (1, .ref 0), (0, .ref x_scr)], [.int 5, .int i, .ref x_scr, .int (xs ((i + 4)).toNatClampNeg), .int (xs ((i + 3)).toNatClampNeg), .int (xs ((i + 2)).toNatClampNeg), .int (xs ((i + 1)).toNatClampNeg), .ref 75], h, 98, 10728)) lr_2358 rfl ?_
  refine j_Lst (c' := (2360, [(3, .int i), (2, .ref 75), (1, .ref 0), (0, .ref x_scr)], [.int (i + 5), .ref x_scr, .int (xs ((i + 4)).toNatClampNeg), .int (xs ((i + 3)).toNatClampNeg), .int (xs ((i + 2)).toNatClampNeg), .int (xs ((i + 1)).toNatClampNeg), .ref 75], h, 98, 10728)) lr_2359 rfl ?_
  refine j_Lsl (c' := (2361, [(3, .int i), (2, .ref 75), (1, .ref 0), (0, .ref x_scr)], [.int (xs ((i + 5)).toNatClampNeg), .int (xs ((i + 4)).toNatClampNeg), .int (xs ((i + 3)).toNatClampNeg), .int (xs ((i + 2)).toNatClampNeg), .int (xs ((i + 1)).toNatClampNeg), .ref 75], h, 98, 10728)) lr_2360 rfl h5 ?_
  exact kk

set_option maxRecDepth 100000 in
theorem x_c69d (h : xH) (L : Nat) (xs : Nat → Int32) (i : Int32) (h0 : ¬ (i < 0 ∨ L ≤ (i).toNatClampNeg)) (h1 : ¬ (i + 1 < 0 ∨ L ≤ (i + 1).toNatClampNeg)) (h2 : ¬ (i + 2 < 0 ∨ L ≤ (i + 2).toNatClampNeg)) (h3 : ¬ (i + 3 < 0 ∨ L ≤ (i + 3).toNatClampNeg)) (h4 : ¬ (i + 4 < 0 ∨ L ≤ (i + 4).toNatClampNeg)) (h5 : ¬ (i + 5 < 0 ∨ L ≤ (i + 5).toNatClampNeg)) (w : Int32) {P : Option Value × xH × Nat × Nat → Prop} (kk : x_R x_mt (some (L, xs)) 10 M_law (18, [(3, .int (i + Int32.ofInt (6))), (2, .ref 75), (1, .ref 0), (0, .ref x_scr)], [], h, 98, 10728) P) : x_R x_mt (some (L, xs)) 10 M_law (2364, [(3, .int i), (2, .ref 75), (1, .ref 0), (0, .ref x_scr)], [.int w], h, 98, 10728) P := by
  refine j_Lst (c' := (2365, [(3, .int i), (2, .ref 75), (1, .ref 0), (0, .ref x_scr)], [], h, 98, 10728)) lr_2364 rfl ?_
  refine j_Lst (c' := (2368, [(3, .int i), (2, .ref 75), (1, .ref 0), (0, .ref x_scr)], [], h, 98, 10728)) lr_2365 rfl ?_
  refine j_Lst (c' := (2371, [(3, .int (i + Int32.ofInt (6))), (2, .ref 75), (1, .ref 0), (0, .ref x_scr)], [], h, 98, 10728)) lr_2368 rfl ?_
  refine j_Lst (c' := (18, [(3, .int (i + Int32.ofInt (6))), (2, .ref 75), (1, .ref 0), (0, .ref x_scr)], [], h, 98, 10728)) lr_2371 rfl ?_
  exact kk

set_option maxRecDepth 100000 in
theorem x_cdef (h : xH) (L : Nat) (xs : Nat → Int32) (i : Int32) (h0 : ¬ (i < 0 ∨ L ≤ (i).toNatClampNeg)) (h1 : ¬ (i + 1 < 0 ∨ L ≤ (i + 1).toNatClampNeg)) (h2 : ¬ (i + 2 < 0 ∨ L ≤ (i + 2).toNatClampNeg)) (h3 : ¬ (i + 3 < 0 ∨ L ≤ (i + 3).toNatClampNeg)) (h4 : ¬ (i + 4 < 0 ∨ L ≤ (i + 4).toNatClampNeg)) (h5 : ¬ (i + 5 < 0 ∨ L ≤ (i + 5).toNatClampNeg)) {P : Option Value × xH × Nat × Nat → Prop} (kk : x_R x_mt (some (L, xs)) 10 M_law (18, [(3, .int (i + Int32.ofInt (6))), (2, .ref 75), (1, .ref 0), (0, .ref x_scr)], [], h, 98, 10728) P) : x_R x_mt (some (L, xs)) 10 M_law (2368, [(3, .int i), (2, .ref 75), (1, .ref 0), (0, .ref x_scr)], [], h, 98, 10728) P := by
  refine j_Lst (c' := (2371, [(3, .int (i + Int32.ofInt (6))), (2, .ref 75), (1, .ref 0), (0, .ref x_scr)], [], h, 98, 10728)) lr_2368 rfl ?_
  refine j_Lst (c' := (18, [(3, .int (i + Int32.ofInt (6))), (2, .ref 75), (1, .ref 0), (0, .ref x_scr)], [], h, 98, 10728)) lr_2371 rfl ?_
  exact kk
