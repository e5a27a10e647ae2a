set_option maxRecDepth 100000 in
set_option maxHeartbeats 4000000 in
theorem x_c68_1 (xs : Nat → Int32)  : x_R x_mt (some (6, (x_ov 1 1 xs))) 13 M_law (2234, [(3, .int 0), (2, .ref 75), (1, .ref 0), (0, .ref x_scr)], [], x_h0, 98, 10728) x_P := by
  refine x_R.steps 5 (c' := (2239, [(3, .int 0), (2, .ref 75), (1, .ref 0), (0, .ref x_scr)], [.int 1, .ref x_scr, .ref 0], x_h0, 98, 10728)) rfl ?_
  refine x_R.steps 1 (c' := (2240, [(3, .int 0), (2, .ref 75), (1, .ref 0), (0, .ref x_scr)], [.int 1, .ref 0], x_h0, 98, 10728)) rfl ?_
  refine x_R.steps 4 (c' := (2244, [(3, .int 0), (2, .ref 75), (1, .ref 0), (0, .ref x_scr)], [.int 2, .ref x_scr, .int 1, .ref 0], x_h0, 98, 10728)) rfl ?_
  refine x_R.steps 1 (c' := (2245, [(3, .int 0), (2, .ref 75), (1, .ref 0), (0, .ref x_scr)], [.int (xs 2), .int 1, .ref 0], x_h0, 98, 10728)) rfl ?_
  refine x_R.steps 4 (c' := (2249, [(3, .int 0), (2, .ref 75), (1, .ref 0), (0, .ref x_scr)], [.int 3, .ref x_scr, .int (xs 2), .int 1, .ref 0], x_h0, 98, 10728)) rfl ?_
  refine x_R.steps 1 (c' := (2250, [(3, .int 0), (2, .ref 75), (1, .ref 0), (0, .ref x_scr)], [.int (xs 3), .int (xs 2), .int 1, .ref 0], x_h0, 98, 10728)) rfl ?_
  refine x_R.steps 7 (c' := (2258, [(3, .int 0), (2, .ref 75), (1, .ref 0), (0, .ref x_scr)], [.int 4, .ref x_scr, .long (((xs 3)).toInt64 <<< ((32 : Int32).toInt64 &&& 63)), .int (xs 2), .int 1, .ref 0], x_h0, 98, 10728)) rfl ?_
  refine x_R.steps 1 (c' := (2259, [(3, .int 0), (2, .ref 75), (1, .ref 0), (0, .ref x_scr)], [.int (xs 4), .long (((xs 3)).toInt64 <<< ((32 : Int32).toInt64 &&& 63)), .int (xs 2), .int 1, .ref 0], x_h0, 98, 10728)) rfl ?_
  refine x_R.steps 4 (c' := (2265, [(3, .int 0), (2, .ref 75), (1, .ref 0), (0, .ref x_scr)], [.long ((((xs 3)).toInt64 <<< ((32 : Int32).toInt64 &&& 63)) ||| (((xs 4)).toInt64 &&& 4294967295)), .int (xs 2), .int 1, .ref 0], x_h0, 98, 10728)) rfl ?_
  refine x_R.call (a := 180) (vs := [.ref 0, .int 1, .int (xs 2), .long ((((xs 3)).toInt64 <<< ((32 : Int32).toInt64 &&& 63)) ||| (((xs 4)).toInt64 &&& 4294967295))]) (rest := []) (M' := M_cX11_write) rfl rfl rfl ?_
  refine x_R.steps 1 (c' := (1, [(0, .ref 0), (1, .int 1), (2, .int (xs 2)), (3, .long ((((xs 3)).toInt64 <<< ((32 : Int32).toInt64 &&& 63)) ||| (((xs 4)).toInt64 &&& 4294967295)))], [.int 1], x_h0, 0, 0)) rfl ?_
  refine x_R.call (a := 182) (vs := [.int 1]) (rest := []) (M' := M_cX11_isSlot) rfl rfl rfl ?_
  refine x_R.steps 1 (c' := (1, [(0, .int 1)], [.int 1], x_h0, 0, 0)) rfl ?_
  refine x_R.steps 1 (c' := (4, [(0, .int 1)], [], x_h0, 0, 0)) rfl ?_
  refine x_R.steps 2 (c' := (6, [(0, .int 1)], [.int 4, .int 1], x_h0, 0, 0)) rfl ?_
  refine x_R.steps 1 (c' := (9, [(0, .int 1)], [], x_h0, 0, 0)) rfl ?_
  refine x_R.steps 2 (c' := (14, [(0, .int 1)], [.int 1], x_h0, 0, 0)) rfl ?_
  refine x_R.ret (v := some (.int 1)) rfl ?_
  refine x_R.steps 0 (c' := (4, [(0, .ref 0), (1, .int 1), (2, .int (xs 2)), (3, .long ((((xs 3)).toInt64 <<< ((32 : Int32).toInt64 &&& 63)) ||| (((xs 4)).toInt64 &&& 4294967295)))], [.int 1], x_h0, 0, 0)) rfl ?_
  refine x_R.steps 1 (c' := (10, [(0, .ref 0), (1, .int 1), (2, .int (xs 2)), (3, .long ((((xs 3)).toInt64 <<< ((32 : Int32).toInt64 &&& 63)) ||| (((xs 4)).toInt64 &&& 4294967295)))], [], x_h0, 0, 0)) rfl ?_
  refine x_R.steps 3 (c' := (15, [(0, .ref 0), (1, .int 1), (2, .int (xs 2)), (3, .long ((((xs 3)).toInt64 <<< ((32 : Int32).toInt64 &&& 63)) ||| (((xs 4)).toInt64 &&& 4294967295)))], [.int 1, .ref 42], x_h0, 0, 0)) rfl ?_
  refine x_R.steps 1 (c' := (16, [(0, .ref 0), (1, .int 1), (2, .int (xs 2)), (3, .long ((((xs 3)).toInt64 <<< ((32 : Int32).toInt64 &&& 63)) ||| (((xs 4)).toInt64 &&& 4294967295)))], [.ref 69], x_h0, 0, 0)) rfl ?_
  refine x_R.call (a := 91) (vs := [.ref 69]) (rest := []) (M' := M_cX8_isMade) rfl rfl rfl ?_
  refine x_R.steps 2 (c' := (4, [(0, .ref 69)], [.int (-1)], x_h0, 0, 0)) rfl ?_
  refine x_R.steps 1 (c' := (11, [(0, .ref 69)], [], x_h0, 0, 0)) rfl ?_
  refine x_R.steps 1 (c' := (12, [(0, .ref 69)], [.int 0], x_h0, 0, 0)) rfl ?_
  refine x_R.ret (v := some (.int 0)) rfl ?_
  refine x_R.steps 0 (c' := (19, [(0, .ref 0), (1, .int 1), (2, .int (xs 2)), (3, .long ((((xs 3)).toInt64 <<< ((32 : Int32).toInt64 &&& 63)) ||| (((xs 4)).toInt64 &&& 4294967295)))], [.int 0], x_h0, 0, 0)) rfl ?_
  refine x_R.steps 1 (c' := (22, [(0, .ref 0), (1, .int 1), (2, .int (xs 2)), (3, .long ((((xs 3)).toInt64 <<< ((32 : Int32).toInt64 &&& 63)) ||| (((xs 4)).toInt64 &&& 4294967295)))], [], x_h0, 0, 0)) rfl ?_
  refine x_R.steps 1 (c' := (24, [(0, .ref 0), (1, .int 1), (2, .int (xs 2)), (3, .long ((((xs 3)).toInt64 <<< ((32 : Int32).toInt64 &&& 63)) ||| (((xs 4)).toInt64 &&& 4294967295)))], [.int (-6)], x_h0, 0, 0)) rfl ?_
  refine x_R.ret (v := some (.int (-6))) rfl ?_
  refine x_R.steps 0 (c' := (2268, [(3, .int 0), (2, .ref 75), (1, .ref 0), (0, .ref x_scr)], [.int (-6)], x_h0, 98, 10728)) rfl ?_
  refine x_R.steps 5 (c' := (2273, [(3, .int 0), (2, .ref 75), (1, .ref 0), (0, .ref x_scr)], [.int 1, .ref x_scr, .ref 75, .int (-6)], x_h0, 98, 10728)) rfl ?_
  refine x_R.steps 1 (c' := (2274, [(3, .int 0), (2, .ref 75), (1, .ref 0), (0, .ref x_scr)], [.int 1, .ref 75, .int (-6)], x_h0, 98, 10728)) rfl ?_
  refine x_R.steps 4 (c' := (2278, [(3, .int 0), (2, .ref 75), (1, .ref 0), (0, .ref x_scr)], [.int 2, .ref x_scr, .int 1, .ref 75, .int (-6)], x_h0, 98, 10728)) rfl ?_
  refine x_R.steps 1 (c' := (2279, [(3, .int 0), (2, .ref 75), (1, .ref 0), (0, .ref x_scr)], [.int (xs 2), .int 1, .ref 75, .int (-6)], x_h0, 98, 10728)) rfl ?_
  refine x_R.steps 4 (c' := (2283, [(3, .int 0), (2, .ref 75), (1, .ref 0), (0, .ref x_scr)], [.int 3, .ref x_scr, .int (xs 2), .int 1, .ref 75, .int (-6)], x_h0, 98, 10728)) rfl ?_
  refine x_R.steps 1 (c' := (2284, [(3, .int 0), (2, .ref 75), (1, .ref 0), (0, .ref x_scr)], [.int (xs 3), .int (xs 2), .int 1, .ref 75, .int (-6)], x_h0, 98, 10728)) rfl ?_
  refine x_R.steps 7 (c' := (2292, [(3, .int 0), (2, .ref 75), (1, .ref 0), (0, .ref x_scr)], [.int 4, .ref x_scr, .long (((xs 3)).toInt64 <<< ((32 : Int32).toInt64 &&& 63)), .int (xs 2), .int 1, .ref 75, .int (-6)], x_h0, 98, 10728)) rfl ?_
  refine x_R.steps 1 (c' := (2293, [(3, .int 0), (2, .ref 75), (1, .ref 0), (0, .ref x_scr)], [.int (xs 4), .long (((xs 3)).toInt64 <<< ((32 : Int32).toInt64 &&& 63)), .int (xs 2), .int 1, .ref 75, .int (-6)], x_h0, 98, 10728)) rfl ?_
  refine x_R.steps 4 (c' := (2299, [(3, .int 0), (2, .ref 75), (1, .ref 0), (0, .ref x_scr)], [.long ((((xs 3)).toInt64 <<< ((32 : Int32).toInt64 &&& 63)) ||| (((xs 4)).toInt64 &&& 4294967295)), .int (xs 2), .int 1, .ref 75, .int (-6)], x_h0, 98, 10728)) rfl ?_
  refine x_R.call (a := 354) (vs := [.ref 75, .int 1, .int (xs 2), .long ((((xs 3)).toInt64 <<< ((32 : Int32).toInt64 &&& 63)) ||| (((xs 4)).toInt64 &&& 4294967295))]) (rest := [.int (-6)]) (M' := M_cX12_write) rfl rfl rfl ?_
  refine x_R.steps 1 (c' := (1, [(0, .ref 75), (1, .int 1), (2, .int (xs 2)), (3, .long ((((xs 3)).toInt64 <<< ((32 : Int32).toInt64 &&& 63)) ||| (((xs 4)).toInt64 &&& 4294967295)))], [.int 1], x_h0, 0, 0)) rfl ?_
  refine x_R.call (a := 351) (vs := [.int 1]) (rest := []) (M' := M_cX12_isSlot) rfl rfl rfl ?_
  refine x_R.steps 4 (c' := (6, [(0, .int 1)], [.long 3, .long 0, .long 1], x_h0, 0, 0)) rfl ?_
  refine x_R.call (a := 196) (vs := [.long 1, .long 0, .long 3]) (rest := []) (M' := M_cX12_in) rfl rfl rfl ?_
  refine x_R.steps 3 (c' := (3, [(0, .long 1), (2, .long 0), (4, .long 3)], [.int 1], x_h0, 0, 0)) rfl ?_
  refine x_R.steps 1 (c' := (6, [(0, .long 1), (2, .long 0), (4, .long 3)], [], x_h0, 0, 0)) rfl ?_
  refine x_R.steps 3 (c' := (10, [(0, .long 1), (2, .long 0), (4, .long 3)], [.int (-1)], x_h0, 0, 0)) rfl ?_
  refine x_R.steps 1 (c' := (13, [(0, .long 1), (2, .long 0), (4, .long 3)], [], x_h0, 0, 0)) rfl ?_
  refine x_R.steps 2 (c' := (18, [(0, .long 1), (2, .long 0), (4, .long 3)], [.int 1], x_h0, 0, 0)) rfl ?_
  refine x_R.ret (v := some (.int 1)) rfl ?_
  refine x_R.steps 0 (c' := (9, [(0, .int 1)], [.int 1], x_h0, 0, 0)) rfl ?_
  refine x_R.ret (v := some (.int 1)) rfl ?_
  refine x_R.steps 0 (c' := (4, [(0, .ref 75), (1, .int 1), (2, .int (xs 2)), (3, .long ((((xs 3)).toInt64 <<< ((32 : Int32).toInt64 &&& 63)) ||| (((xs 4)).toInt64 &&& 4294967295)))], [.int 1], x_h0, 0, 0)) rfl ?_
  refine x_R.steps 1 (c' := (10, [(0, .ref 75), (1, .int 1), (2, .int (xs 2)), (3, .long ((((xs 3)).toInt64 <<< ((32 : Int32).toInt64 &&& 63)) ||| (((xs 4)).toInt64 &&& 4294967295)))], [], x_h0, 0, 0)) rfl ?_
  refine x_R.steps 3 (c' := (15, [(0, .ref 75), (1, .int 1), (2, .int (xs 2)), (3, .long ((((xs 3)).toInt64 <<< ((32 : Int32).toInt64 &&& 63)) ||| (((xs 4)).toInt64 &&& 4294967295)))], [.int 1, .ref 94], x_h0, 0, 0)) rfl ?_
  refine x_R.steps 1 (c' := (16, [(0, .ref 75), (1, .int 1), (2, .int (xs 2)), (3, .long ((((xs 3)).toInt64 <<< ((32 : Int32).toInt64 &&& 63)) ||| (((xs 4)).toInt64 &&& 4294967295)))], [.int (-1)], x_h0, 0, 0)) rfl ?_
  refine x_R.steps 1 (c' := (17, [(0, .ref 75), (1, .int 1), (2, .int (xs 2)), (3, .long ((((xs 3)).toInt64 <<< ((32 : Int32).toInt64 &&& 63)) ||| (((xs 4)).toInt64 &&& 4294967295)))], [.int (-1), .int (-1)], x_h0, 0, 0)) rfl ?_
  refine x_R.steps 1 (c' := (20, [(0, .ref 75), (1, .int 1), (2, .int (xs 2)), (3, .long ((((xs 3)).toInt64 <<< ((32 : Int32).toInt64 &&& 63)) ||| (((xs 4)).toInt64 &&& 4294967295)))], [], x_h0, 0, 0)) rfl ?_
  refine x_R.steps 1 (c' := (22, [(0, .ref 75), (1, .int 1), (2, .int (xs 2)), (3, .long ((((xs 3)).toInt64 <<< ((32 : Int32).toInt64 &&& 63)) ||| (((xs 4)).toInt64 &&& 4294967295)))], [.int (-6)], x_h0, 0, 0)) rfl ?_
  refine x_R.ret (v := some (.int (-6))) rfl ?_
  refine x_R.steps 0 (c' := (2302, [(3, .int 0), (2, .ref 75), (1, .ref 0), (0, .ref x_scr)], [.int (-6), .int (-6)], x_h0, 98, 10728)) rfl ?_
  refine x_R.steps 1 (c' := (2370, [(3, .int 0), (2, .ref 75), (1, .ref 0), (0, .ref x_scr)], [], x_h0, 98, 10728)) rfl ?_
  refine x_R.steps 7 (c' := (24, [(3, .int 6), (2, .ref 75), (1, .ref 0), (0, .ref x_scr)], [.int 0, .int 6], x_h0, 98, 10728)) rfl ?_
  refine x_R.steps 1 (c' := (2376, [(3, .int 6), (2, .ref 75), (1, .ref 0), (0, .ref x_scr)], [], x_h0, 98, 10728)) rfl ?_
  refine x_R.steps 1 (c' := (2377, [(3, .int 6), (2, .ref 75), (1, .ref 0), (0, .ref x_scr)], [.int 1], x_h0, 98, 10728)) rfl ?_
  exact x_R.ret (v := some (.int 1)) rfl x_fin
set_option maxRecDepth 100000 in
set_option maxHeartbeats 4000000 in
theorem x_c68_2 (xs : Nat → Int32)  : x_R x_mt (some (6, (x_ov 1 2 xs))) 13 M_law (2234, [(3, .int 0), (2, .ref 75), (1, .ref 0), (0, .ref x_scr)], [], x_h0, 98, 10728) x_P := by
  refine x_R.steps 5 (c' := (2239, [(3, .int 0), (2, .ref 75), (1, .ref 0), (0, .ref x_scr)], [.int 1, .ref x_scr, .ref 0], x_h0, 98, 10728)) rfl ?_
  refine x_R.steps 1 (c' := (2240, [(3, .int 0), (2, .ref 75), (1, .ref 0), (0, .ref x_scr)], [.int 2, .ref 0], x_h0, 98, 10728)) rfl ?_
  refine x_R.steps 4 (c' := (2244, [(3, .int 0), (2, .ref 75), (1, .ref 0), (0, .ref x_scr)], [.int 2, .ref x_scr, .int 2, .ref 0], x_h0, 98, 10728)) rfl ?_
  refine x_R.steps 1 (c' := (2245, [(3, .int 0), (2, .ref 75), (1, .ref 0), (0, .ref x_scr)], [.int (xs 2), .int 2, .ref 0], x_h0, 98, 10728)) rfl ?_
  refine x_R.steps 4 (c' := (2249, [(3, .int 0), (2, .ref 75), (1, .ref 0), (0, .ref x_scr)], [.int 3, .ref x_scr, .int (xs 2), .int 2, .ref 0], x_h0, 98, 10728)) rfl ?_
  refine x_R.steps 1 (c' := (2250, [(3, .int 0), (2, .ref 75), (1, .ref 0), (0, .ref x_scr)], [.int (xs 3), .int (xs 2), .int 2, .ref 0], x_h0, 98, 10728)) rfl ?_
  refine x_R.steps 7 (c' := (2258, [(3, .int 0), (2, .ref 75), (1, .ref 0), (0, .ref x_scr)], [.int 4, .ref x_scr, .long (((xs 3)).toInt64 <<< ((32 : Int32).toInt64 &&& 63)), .int (xs 2), .int 2, .ref 0], x_h0, 98, 10728)) rfl ?_
  refine x_R.steps 1 (c' := (2259, [(3, .int 0), (2, .ref 75), (1, .ref 0), (0, .ref x_scr)], [.int (xs 4), .long (((xs 3)).toInt64 <<< ((32 : Int32).toInt64 &&& 63)), .int (xs 2), .int 2, .ref 0], x_h0, 98, 10728)) rfl ?_
  refine x_R.steps 4 (c' := (2265, [(3, .int 0), (2, .ref 75), (1, .ref 0), (0, .ref x_scr)], [.long ((((xs 3)).toInt64 <<< ((32 : Int32).toInt64 &&& 63)) ||| (((xs 4)).toInt64 &&& 4294967295)), .int (xs 2), .int 2, .ref 0], x_h0, 98, 10728)) rfl ?_
  refine x_R.call (a := 180) (vs := [.ref 0, .int 2, .int (xs 2), .long ((((xs 3)).toInt64 <<< ((32 : Int32).toInt64 &&& 63)) ||| (((xs 4)).toInt64 &&& 4294967295))]) (rest := []) (M' := M_cX11_write) rfl rfl rfl ?_
  refine x_R.steps 1 (c' := (1, [(0, .ref 0), (1, .int 2), (2, .int (xs 2)), (3, .long ((((xs 3)).toInt64 <<< ((32 : Int32).toInt64 &&& 63)) ||| (((xs 4)).toInt64 &&& 4294967295)))], [.int 2], x_h0, 0, 0)) rfl ?_
  refine x_R.call (a := 182) (vs := [.int 2]) (rest := []) (M' := M_cX11_isSlot) rfl rfl rfl ?_
  refine x_R.steps 1 (c' := (1, [(0, .int 2)], [.int 2], x_h0, 0, 0)) rfl ?_
  refine x_R.steps 1 (c' := (4, [(0, .int 2)], [], x_h0, 0, 0)) rfl ?_
  refine x_R.steps 2 (c' := (6, [(0, .int 2)], [.int 4, .int 2], x_h0, 0, 0)) rfl ?_
  refine x_R.steps 1 (c' := (9, [(0, .int 2)], [], x_h0, 0, 0)) rfl ?_
  refine x_R.steps 2 (c' := (14, [(0, .int 2)], [.int 1], x_h0, 0, 0)) rfl ?_
  refine x_R.ret (v := some (.int 1)) rfl ?_
  refine x_R.steps 0 (c' := (4, [(0, .ref 0), (1, .int 2), (2, .int (xs 2)), (3, .long ((((xs 3)).toInt64 <<< ((32 : Int32).toInt64 &&& 63)) ||| (((xs 4)).toInt64 &&& 4294967295)))], [.int 1], x_h0, 0, 0)) rfl ?_
  refine x_R.steps 1 (c' := (10, [(0, .ref 0), (1, .int 2), (2, .int (xs 2)), (3, .long ((((xs 3)).toInt64 <<< ((32 : Int32).toInt64 &&& 63)) ||| (((xs 4)).toInt64 &&& 4294967295)))], [], x_h0, 0, 0)) rfl ?_
  refine x_R.steps 3 (c' := (15, [(0, .ref 0), (1, .int 2), (2, .int (xs 2)), (3, .long ((((xs 3)).toInt64 <<< ((32 : Int32).toInt64 &&& 63)) ||| (((xs 4)).toInt64 &&& 4294967295)))], [.int 2, .ref 42], x_h0, 0, 0)) rfl ?_
  refine x_R.steps 1 (c' := (16, [(0, .ref 0), (1, .int 2), (2, .int (xs 2)), (3, .long ((((xs 3)).toInt64 <<< ((32 : Int32).toInt64 &&& 63)) ||| (((xs 4)).toInt64 &&& 4294967295)))], [.ref 71], x_h0, 0, 0)) rfl ?_
  refine x_R.call (a := 91) (vs := [.ref 71]) (rest := []) (M' := M_cX8_isMade) rfl rfl rfl ?_
  refine x_R.steps 2 (c' := (4, [(0, .ref 71)], [.int (-1)], x_h0, 0, 0)) rfl ?_
  refine x_R.steps 1 (c' := (11, [(0, .ref 71)], [], x_h0, 0, 0)) rfl ?_
  refine x_R.steps 1 (c' := (12, [(0, .ref 71)], [.int 0], x_h0, 0, 0)) rfl ?_
  refine x_R.ret (v := some (.int 0)) rfl ?_
  refine x_R.steps 0 (c' := (19, [(0, .ref 0), (1, .int 2), (2, .int (xs 2)), (3, .long ((((xs 3)).toInt64 <<< ((32 : Int32).toInt64 &&& 63)) ||| (((xs 4)).toInt64 &&& 4294967295)))], [.int 0], x_h0, 0, 0)) rfl ?_
  refine x_R.steps 1 (c' := (22, [(0, .ref 0), (1, .int 2), (2, .int (xs 2)), (3, .long ((((xs 3)).toInt64 <<< ((32 : Int32).toInt64 &&& 63)) ||| (((xs 4)).toInt64 &&& 4294967295)))], [], x_h0, 0, 0)) rfl ?_
  refine x_R.steps 1 (c' := (24, [(0, .ref 0), (1, .int 2), (2, .int (xs 2)), (3, .long ((((xs 3)).toInt64 <<< ((32 : Int32).toInt64 &&& 63)) ||| (((xs 4)).toInt64 &&& 4294967295)))], [.int (-6)], x_h0, 0, 0)) rfl ?_
  refine x_R.ret (v := some (.int (-6))) rfl ?_
  refine x_R.steps 0 (c' := (2268, [(3, .int 0), (2, .ref 75), (1, .ref 0), (0, .ref x_scr)], [.int (-6)], x_h0, 98, 10728)) rfl ?_
  refine x_R.steps 5 (c' := (2273, [(3, .int 0), (2, .ref 75), (1, .ref 0), (0, .ref x_scr)], [.int 1, .ref x_scr, .ref 75, .int (-6)], x_h0, 98, 10728)) rfl ?_
  refine x_R.steps 1 (c' := (2274, [(3, .int 0), (2, .ref 75), (1, .ref 0), (0, .ref x_scr)], [.int 2, .ref 75, .int (-6)], x_h0, 98, 10728)) rfl ?_
  refine x_R.steps 4 (c' := (2278, [(3, .int 0), (2, .ref 75), (1, .ref 0), (0, .ref x_scr)], [.int 2, .ref x_scr, .int 2, .ref 75, .int (-6)], x_h0, 98, 10728)) rfl ?_
  refine x_R.steps 1 (c' := (2279, [(3, .int 0), (2, .ref 75), (1, .ref 0), (0, .ref x_scr)], [.int (xs 2), .int 2, .ref 75, .int (-6)], x_h0, 98, 10728)) rfl ?_
  refine x_R.steps 4 (c' := (2283, [(3, .int 0), (2, .ref 75), (1, .ref 0), (0, .ref x_scr)], [.int 3, .ref x_scr, .int (xs 2), .int 2, .ref 75, .int (-6)], x_h0, 98, 10728)) rfl ?_
  refine x_R.steps 1 (c' := (2284, [(3, .int 0), (2, .ref 75), (1, .ref 0), (0, .ref x_scr)], [.int (xs 3), .int (xs 2), .int 2, .ref 75, .int (-6)], x_h0, 98, 10728)) rfl ?_
  refine x_R.steps 7 (c' := (2292, [(3, .int 0), (2, .ref 75), (1, .ref 0), (0, .ref x_scr)], [.int 4, .ref x_scr, .long (((xs 3)).toInt64 <<< ((32 : Int32).toInt64 &&& 63)), .int (xs 2), .int 2, .ref 75, .int (-6)], x_h0, 98, 10728)) rfl ?_
  refine x_R.steps 1 (c' := (2293, [(3, .int 0), (2, .ref 75), (1, .ref 0), (0, .ref x_scr)], [.int (xs 4), .long (((xs 3)).toInt64 <<< ((32 : Int32).toInt64 &&& 63)), .int (xs 2), .int 2, .ref 75, .int (-6)], x_h0, 98, 10728)) rfl ?_
  refine x_R.steps 4 (c' := (2299, [(3, .int 0), (2, .ref 75), (1, .ref 0), (0, .ref x_scr)], [.long ((((xs 3)).toInt64 <<< ((32 : Int32).toInt64 &&& 63)) ||| (((xs 4)).toInt64 &&& 4294967295)), .int (xs 2), .int 2, .ref 75, .int (-6)], x_h0, 98, 10728)) rfl ?_
  refine x_R.call (a := 354) (vs := [.ref 75, .int 2, .int (xs 2), .long ((((xs 3)).toInt64 <<< ((32 : Int32).toInt64 &&& 63)) ||| (((xs 4)).toInt64 &&& 4294967295))]) (rest := [.int (-6)]) (M' := M_cX12_write) rfl rfl rfl ?_
  refine x_R.steps 1 (c' := (1, [(0, .ref 75), (1, .int 2), (2, .int (xs 2)), (3, .long ((((xs 3)).toInt64 <<< ((32 : Int32).toInt64 &&& 63)) ||| (((xs 4)).toInt64 &&& 4294967295)))], [.int 2], x_h0, 0, 0)) rfl ?_
  refine x_R.call (a := 351) (vs := [.int 2]) (rest := []) (M' := M_cX12_isSlot) rfl rfl rfl ?_
  refine x_R.steps 4 (c' := (6, [(0, .int 2)], [.long 3, .long 0, .long 2], x_h0, 0, 0)) rfl ?_
  refine x_R.call (a := 196) (vs := [.long 2, .long 0, .long 3]) (rest := []) (M' := M_cX12_in) rfl rfl rfl ?_
  refine x_R.steps 3 (c' := (3, [(0, .long 2), (2, .long 0), (4, .long 3)], [.int 1], x_h0, 0, 0)) rfl ?_
  refine x_R.steps 1 (c' := (6, [(0, .long 2), (2, .long 0), (4, .long 3)], [], x_h0, 0, 0)) rfl ?_
  refine x_R.steps 3 (c' := (10, [(0, .long 2), (2, .long 0), (4, .long 3)], [.int (-1)], x_h0, 0, 0)) rfl ?_
  refine x_R.steps 1 (c' := (13, [(0, .long 2), (2, .long 0), (4, .long 3)], [], x_h0, 0, 0)) rfl ?_
  refine x_R.steps 2 (c' := (18, [(0, .long 2), (2, .long 0), (4, .long 3)], [.int 1], x_h0, 0, 0)) rfl ?_
  refine x_R.ret (v := some (.int 1)) rfl ?_
  refine x_R.steps 0 (c' := (9, [(0, .int 2)], [.int 1], x_h0, 0, 0)) rfl ?_
  refine x_R.ret (v := some (.int 1)) rfl ?_
  refine x_R.steps 0 (c' := (4, [(0, .ref 75), (1, .int 2), (2, .int (xs 2)), (3, .long ((((xs 3)).toInt64 <<< ((32 : Int32).toInt64 &&& 63)) ||| (((xs 4)).toInt64 &&& 4294967295)))], [.int 1], x_h0, 0, 0)) rfl ?_
  refine x_R.steps 1 (c' := (10, [(0, .ref 75), (1, .int 2), (2, .int (xs 2)), (3, .long ((((xs 3)).toInt64 <<< ((32 : Int32).toInt64 &&& 63)) ||| (((xs 4)).toInt64 &&& 4294967295)))], [], x_h0, 0, 0)) rfl ?_
  refine x_R.steps 3 (c' := (15, [(0, .ref 75), (1, .int 2), (2, .int (xs 2)), (3, .long ((((xs 3)).toInt64 <<< ((32 : Int32).toInt64 &&& 63)) ||| (((xs 4)).toInt64 &&& 4294967295)))], [.int 2, .ref 94], x_h0, 0, 0)) rfl ?_
  refine x_R.steps 1 (c' := (16, [(0, .ref 75), (1, .int 2), (2, .int (xs 2)), (3, .long ((((xs 3)).toInt64 <<< ((32 : Int32).toInt64 &&& 63)) ||| (((xs 4)).toInt64 &&& 4294967295)))], [.int (-1)], x_h0, 0, 0)) rfl ?_
  refine x_R.steps 1 (c' := (17, [(0, .ref 75), (1, .int 2), (2, .int (xs 2)), (3, .long ((((xs 3)).toInt64 <<< ((32 : Int32).toInt64 &&& 63)) ||| (((xs 4)).toInt64 &&& 4294967295)))], [.int (-1), .int (-1)], x_h0, 0, 0)) rfl ?_
  refine x_R.steps 1 (c' := (20, [(0, .ref 75), (1, .int 2), (2, .int (xs 2)), (3, .long ((((xs 3)).toInt64 <<< ((32 : Int32).toInt64 &&& 63)) ||| (((xs 4)).toInt64 &&& 4294967295)))], [], x_h0, 0, 0)) rfl ?_
  refine x_R.steps 1 (c' := (22, [(0, .ref 75), (1, .int 2), (2, .int (xs 2)), (3, .long ((((xs 3)).toInt64 <<< ((32 : Int32).toInt64 &&& 63)) ||| (((xs 4)).toInt64 &&& 4294967295)))], [.int (-6)], x_h0, 0, 0)) rfl ?_
  refine x_R.ret (v := some (.int (-6))) rfl ?_
  refine x_R.steps 0 (c' := (2302, [(3, .int 0), (2, .ref 75), (1, .ref 0), (0, .ref x_scr)], [.int (-6), .int (-6)], x_h0, 98, 10728)) rfl ?_
  refine x_R.steps 1 (c' := (2370, [(3, .int 0), (2, .ref 75), (1, .ref 0), (0, .ref x_scr)], [], x_h0, 98, 10728)) rfl ?_
  refine x_R.steps 7 (c' := (24, [(3, .int 6), (2, .ref 75), (1, .ref 0), (0, .ref x_scr)], [.int 0, .int 6], x_h0, 98, 10728)) rfl ?_
  refine x_R.steps 1 (c' := (2376, [(3, .int 6), (2, .ref 75), (1, .ref 0), (0, .ref x_scr)], [], x_h0, 98, 10728)) rfl ?_
  refine x_R.steps 1 (c' := (2377, [(3, .int 6), (2, .ref 75), (1, .ref 0), (0, .ref x_scr)], [.int 1], x_h0, 98, 10728)) rfl ?_
  exact x_R.ret (v := some (.int 1)) rfl x_fin
set_option maxRecDepth 100000 in
set_option maxHeartbeats 4000000 in
theorem x_c68_3 (xs : Nat → Int32)  : x_R x_mt (some (6, (x_ov 1 3 xs))) 13 M_law (2234, [(3, .int 0), (2, .ref 75), (1, .ref 0), (0, .ref x_scr)], [], x_h0, 98, 10728) x_P := by
  refine x_R.steps 5 (c' := (2239, [(3, .int 0), (2, .ref 75), (1, .ref 0), (0, .ref x_scr)], [.int 1, .ref x_scr, .ref 0], x_h0, 98, 10728)) rfl ?_
  refine x_R.steps 1 (c' := (2240, [(3, .int 0), (2, .ref 75), (1, .ref 0), (0, .ref x_scr)], [.int 3, .ref 0], x_h0, 98, 10728)) rfl ?_
  refine x_R.steps 4 (c' := (2244, [(3, .int 0), (2, .ref 75), (1, .ref 0), (0, .ref x_scr)], [.int 2, .ref x_scr, .int 3, .ref 0], x_h0, 98, 10728)) rfl ?_
  refine x_R.steps 1 (c' := (2245, [(3, .int 0), (2, .ref 75), (1, .ref 0), (0, .ref x_scr)], [.int (xs 2), .int 3, .ref 0], x_h0, 98, 10728)) rfl ?_
  refine x_R.steps 4 (c' := (2249, [(3, .int 0), (2, .ref 75), (1, .ref 0), (0, .ref x_scr)], [.int 3, .ref x_scr, .int (xs 2), .int 3, .ref 0], x_h0, 98, 10728)) rfl ?_
  refine x_R.steps 1 (c' := (2250, [(3, .int 0), (2, .ref 75), (1, .ref 0), (0, .ref x_scr)], [.int (xs 3), .int (xs 2), .int 3, .ref 0], x_h0, 98, 10728)) rfl ?_
  refine x_R.steps 7 (c' := (2258, [(3, .int 0), (2, .ref 75), (1, .ref 0), (0, .ref x_scr)], [.int 4, .ref x_scr, .long (((xs 3)).toInt64 <<< ((32 : Int32).toInt64 &&& 63)), .int (xs 2), .int 3, .ref 0], x_h0, 98, 10728)) rfl ?_
  refine x_R.steps 1 (c' := (2259, [(3, .int 0), (2, .ref 75), (1, .ref 0), (0, .ref x_scr)], [.int (xs 4), .long (((xs 3)).toInt64 <<< ((32 : Int32).toInt64 &&& 63)), .int (xs 2), .int 3, .ref 0], x_h0, 98, 10728)) rfl ?_
  refine x_R.steps 4 (c' := (2265, [(3, .int 0), (2, .ref 75), (1, .ref 0), (0, .ref x_scr)], [.long ((((xs 3)).toInt64 <<< ((32 : Int32).toInt64 &&& 63)) ||| (((xs 4)).toInt64 &&& 4294967295)), .int (xs 2), .int 3, .ref 0], x_h0, 98, 10728)) rfl ?_
  refine x_R.call (a := 180) (vs := [.ref 0, .int 3, .int (xs 2), .long ((((xs 3)).toInt64 <<< ((32 : Int32).toInt64 &&& 63)) ||| (((xs 4)).toInt64 &&& 4294967295))]) (rest := []) (M' := M_cX11_write) rfl rfl rfl ?_
  refine x_R.steps 1 (c' := (1, [(0, .ref 0), (1, .int 3), (2, .int (xs 2)), (3, .long ((((xs 3)).toInt64 <<< ((32 : Int32).toInt64 &&& 63)) ||| (((xs 4)).toInt64 &&& 4294967295)))], [.int 3], x_h0, 0, 0)) rfl ?_
  refine x_R.call (a := 182) (vs := [.int 3]) (rest := []) (M' := M_cX11_isSlot) rfl rfl rfl ?_
  refine x_R.steps 1 (c' := (1, [(0, .int 3)], [.int 3], x_h0, 0, 0)) rfl ?_
  refine x_R.steps 1 (c' := (4, [(0, .int 3)], [], x_h0, 0, 0)) rfl ?_
  refine x_R.steps 2 (c' := (6, [(0, .int 3)], [.int 4, .int 3], x_h0, 0, 0)) rfl ?_
  refine x_R.steps 1 (c' := (9, [(0, .int 3)], [], x_h0, 0, 0)) rfl ?_
  refine x_R.steps 2 (c' := (14, [(0, .int 3)], [.int 1], x_h0, 0, 0)) rfl ?_
  refine x_R.ret (v := some (.int 1)) rfl ?_
  refine x_R.steps 0 (c' := (4, [(0, .ref 0), (1, .int 3), (2, .int (xs 2)), (3, .long ((((xs 3)).toInt64 <<< ((32 : Int32).toInt64 &&& 63)) ||| (((xs 4)).toInt64 &&& 4294967295)))], [.int 1], x_h0, 0, 0)) rfl ?_
  refine x_R.steps 1 (c' := (10, [(0, .ref 0), (1, .int 3), (2, .int (xs 2)), (3, .long ((((xs 3)).toInt64 <<< ((32 : Int32).toInt64 &&& 63)) ||| (((xs 4)).toInt64 &&& 4294967295)))], [], x_h0, 0, 0)) rfl ?_
  refine x_R.steps 3 (c' := (15, [(0, .ref 0), (1, .int 3), (2, .int (xs 2)), (3, .long ((((xs 3)).toInt64 <<< ((32 : Int32).toInt64 &&& 63)) ||| (((xs 4)).toInt64 &&& 4294967295)))], [.int 3, .ref 42], x_h0, 0, 0)) rfl ?_
  refine x_R.steps 1 (c' := (16, [(0, .ref 0), (1, .int 3), (2, .int (xs 2)), (3, .long ((((xs 3)).toInt64 <<< ((32 : Int32).toInt64 &&& 63)) ||| (((xs 4)).toInt64 &&& 4294967295)))], [.ref 73], x_h0, 0, 0)) rfl ?_
  refine x_R.call (a := 91) (vs := [.ref 73]) (rest := []) (M' := M_cX8_isMade) rfl rfl rfl ?_
  refine x_R.steps 2 (c' := (4, [(0, .ref 73)], [.int (-1)], x_h0, 0, 0)) rfl ?_
  refine x_R.steps 1 (c' := (11, [(0, .ref 73)], [], x_h0, 0, 0)) rfl ?_
  refine x_R.steps 1 (c' := (12, [(0, .ref 73)], [.int 0], x_h0, 0, 0)) rfl ?_
  refine x_R.ret (v := some (.int 0)) rfl ?_
  refine x_R.steps 0 (c' := (19, [(0, .ref 0), (1, .int 3), (2, .int (xs 2)), (3, .long ((((xs 3)).toInt64 <<< ((32 : Int32).toInt64 &&& 63)) ||| (((xs 4)).toInt64 &&& 4294967295)))], [.int 0], x_h0, 0, 0)) rfl ?_
  refine x_R.steps 1 (c' := (22, [(0, .ref 0), (1, .int 3), (2, .int (xs 2)), (3, .long ((((xs 3)).toInt64 <<< ((32 : Int32).toInt64 &&& 63)) ||| (((xs 4)).toInt64 &&& 4294967295)))], [], x_h0, 0, 0)) rfl ?_
  refine x_R.steps 1 (c' := (24, [(0, .ref 0), (1, .int 3), (2, .int (xs 2)), (3, .long ((((xs 3)).toInt64 <<< ((32 : Int32).toInt64 &&& 63)) ||| (((xs 4)).toInt64 &&& 4294967295)))], [.int (-6)], x_h0, 0, 0)) rfl ?_
  refine x_R.ret (v := some (.int (-6))) rfl ?_
  refine x_R.steps 0 (c' := (2268, [(3, .int 0), (2, .ref 75), (1, .ref 0), (0, .ref x_scr)], [.int (-6)], x_h0, 98, 10728)) rfl ?_
  refine x_R.steps 5 (c' := (2273, [(3, .int 0), (2, .ref 75), (1, .ref 0), (0, .ref x_scr)], [.int 1, .ref x_scr, .ref 75, .int (-6)], x_h0, 98, 10728)) rfl ?_
  refine x_R.steps 1 (c' := (2274, [(3, .int 0), (2, .ref 75), (1, .ref 0), (0, .ref x_scr)], [.int 3, .ref 75, .int (-6)], x_h0, 98, 10728)) rfl ?_
  refine x_R.steps 4 (c' := (2278, [(3, .int 0), (2, .ref 75), (1, .ref 0), (0, .ref x_scr)], [.int 2, .ref x_scr, .int 3, .ref 75, .int (-6)], x_h0, 98, 10728)) rfl ?_
  refine x_R.steps 1 (c' := (2279, [(3, .int 0), (2, .ref 75), (1, .ref 0), (0, .ref x_scr)], [.int (xs 2), .int 3, .ref 75, .int (-6)], x_h0, 98, 10728)) rfl ?_
  refine x_R.steps 4 (c' := (2283, [(3, .int 0), (2, .ref 75), (1, .ref 0), (0, .ref x_scr)], [.int 3, .ref x_scr, .int (xs 2), .int 3, .ref 75, .int (-6)], x_h0, 98, 10728)) rfl ?_
  refine x_R.steps 1 (c' := (2284, [(3, .int 0), (2, .ref 75), (1, .ref 0), (0, .ref x_scr)], [.int (xs 3), .int (xs 2), .int 3, .ref 75, .int (-6)], x_h0, 98, 10728)) rfl ?_
  refine x_R.steps 7 (c' := (2292, [(3, .int 0), (2, .ref 75), (1, .ref 0), (0, .ref x_scr)], [.int 4, .ref x_scr, .long (((xs 3)).toInt64 <<< ((32 : Int32).toInt64 &&& 63)), .int (xs 2), .int 3, .ref 75, .int (-6)], x_h0, 98, 10728)) rfl ?_
  refine x_R.steps 1 (c' := (2293, [(3, .int 0), (2, .ref 75), (1, .ref 0), (0, .ref x_scr)], [.int (xs 4), .long (((xs 3)).toInt64 <<< ((32 : Int32).toInt64 &&& 63)), .int (xs 2), .int 3, .ref 75, .int (-6)], x_h0, 98, 10728)) rfl ?_
  refine x_R.steps 4 (c' := (2299, [(3, .int 0), (2, .ref 75), (1, .ref 0), (0, .ref x_scr)], [.long ((((xs 3)).toInt64 <<< ((32 : Int32).toInt64 &&& 63)) ||| (((xs 4)).toInt64 &&& 4294967295)), .int (xs 2), .int 3, .ref 75, .int (-6)], x_h0, 98, 10728)) rfl ?_
  refine x_R.call (a := 354) (vs := [.ref 75, .int 3, .int (xs 2), .long ((((xs 3)).toInt64 <<< ((32 : Int32).toInt64 &&& 63)) ||| (((xs 4)).toInt64 &&& 4294967295))]) (rest := [.int (-6)]) (M' := M_cX12_write) rfl rfl rfl ?_
  refine x_R.steps 1 (c' := (1, [(0, .ref 75), (1, .int 3), (2, .int (xs 2)), (3, .long ((((xs 3)).toInt64 <<< ((32 : Int32).toInt64 &&& 63)) ||| (((xs 4)).toInt64 &&& 4294967295)))], [.int 3], x_h0, 0, 0)) rfl ?_
  refine x_R.call (a := 351) (vs := [.int 3]) (rest := []) (M' := M_cX12_isSlot) rfl rfl rfl ?_
  refine x_R.steps 4 (c' := (6, [(0, .int 3)], [.long 3, .long 0, .long 3], x_h0, 0, 0)) rfl ?_
  refine x_R.call (a := 196) (vs := [.long 3, .long 0, .long 3]) (rest := []) (M' := M_cX12_in) rfl rfl rfl ?_
  refine x_R.steps 3 (c' := (3, [(0, .long 3), (2, .long 0), (4, .long 3)], [.int 1], x_h0, 0, 0)) rfl ?_
  refine x_R.steps 1 (c' := (6, [(0, .long 3), (2, .long 0), (4, .long 3)], [], x_h0, 0, 0)) rfl ?_
  refine x_R.steps 3 (c' := (10, [(0, .long 3), (2, .long 0), (4, .long 3)], [.int 0], x_h0, 0, 0)) rfl ?_
  refine x_R.steps 1 (c' := (13, [(0, .long 3), (2, .long 0), (4, .long 3)], [], x_h0, 0, 0)) rfl ?_
  refine x_R.steps 2 (c' := (18, [(0, .long 3), (2, .long 0), (4, .long 3)], [.int 1], x_h0, 0, 0)) rfl ?_
  refine x_R.ret (v := some (.int 1)) rfl ?_
  refine x_R.steps 0 (c' := (9, [(0, .int 3)], [.int 1], x_h0, 0, 0)) rfl ?_
  refine x_R.ret (v := some (.int 1)) rfl ?_
  refine x_R.steps 0 (c' := (4, [(0, .ref 75), (1, .int 3), (2, .int (xs 2)), (3, .long ((((xs 3)).toInt64 <<< ((32 : Int32).toInt64 &&& 63)) ||| (((xs 4)).toInt64 &&& 4294967295)))], [.int 1], x_h0, 0, 0)) rfl ?_
  refine x_R.steps 1 (c' := (10, [(0, .ref 75), (1, .int 3), (2, .int (xs 2)), (3, .long ((((xs 3)).toInt64 <<< ((32 : Int32).toInt64 &&& 63)) ||| (((xs 4)).toInt64 &&& 4294967295)))], [], x_h0, 0, 0)) rfl ?_
  refine x_R.steps 3 (c' := (15, [(0, .ref 75), (1, .int 3), (2, .int (xs 2)), (3, .long ((((xs 3)).toInt64 <<< ((32 : Int32).toInt64 &&& 63)) ||| (((xs 4)).toInt64 &&& 4294967295)))], [.int 3, .ref 94], x_h0, 0, 0)) rfl ?_
  refine x_R.steps 1 (c' := (16, [(0, .ref 75), (1, .int 3), (2, .int (xs 2)), (3, .long ((((xs 3)).toInt64 <<< ((32 : Int32).toInt64 &&& 63)) ||| (((xs 4)).toInt64 &&& 4294967295)))], [.int (-1)], x_h0, 0, 0)) rfl ?_
  refine x_R.steps 1 (c' := (17, [(0, .ref 75), (1, .int 3), (2, .int (xs 2)), (3, .long ((((xs 3)).toInt64 <<< ((32 : Int32).toInt64 &&& 63)) ||| (((xs 4)).toInt64 &&& 4294967295)))], [.int (-1), .int (-1)], x_h0, 0, 0)) rfl ?_
  refine x_R.steps 1 (c' := (20, [(0, .ref 75), (1, .int 3), (2, .int (xs 2)), (3, .long ((((xs 3)).toInt64 <<< ((32 : Int32).toInt64 &&& 63)) ||| (((xs 4)).toInt64 &&& 4294967295)))], [], x_h0, 0, 0)) rfl ?_
  refine x_R.steps 1 (c' := (22, [(0, .ref 75), (1, .int 3), (2, .int (xs 2)), (3, .long ((((xs 3)).toInt64 <<< ((32 : Int32).toInt64 &&& 63)) ||| (((xs 4)).toInt64 &&& 4294967295)))], [.int (-6)], x_h0, 0, 0)) rfl ?_
  refine x_R.ret (v := some (.int (-6))) rfl ?_
  refine x_R.steps 0 (c' := (2302, [(3, .int 0), (2, .ref 75), (1, .ref 0), (0, .ref x_scr)], [.int (-6), .int (-6)], x_h0, 98, 10728)) rfl ?_
  refine x_R.steps 1 (c' := (2370, [(3, .int 0), (2, .ref 75), (1, .ref 0), (0, .ref x_scr)], [], x_h0, 98, 10728)) rfl ?_
  refine x_R.steps 7 (c' := (24, [(3, .int 6), (2, .ref 75), (1, .ref 0), (0, .ref x_scr)], [.int 0, .int 6], x_h0, 98, 10728)) rfl ?_
  refine x_R.steps 1 (c' := (2376, [(3, .int 6), (2, .ref 75), (1, .ref 0), (0, .ref x_scr)], [], x_h0, 98, 10728)) rfl ?_
  refine x_R.steps 1 (c' := (2377, [(3, .int 6), (2, .ref 75), (1, .ref 0), (0, .ref x_scr)], [.int 1], x_h0, 98, 10728)) rfl ?_
  exact x_R.ret (v := some (.int 1)) rfl x_fin
set_option maxRecDepth 100000 in
set_option maxHeartbeats 4000000 in
theorem x_c68_4 (xs : Nat → Int32) (f0 : (xs 1).toInt < 0) : x_R x_mt (some (6, xs)) 13 M_law (2234, [(3, .int 0), (2, .ref 75), (1, .ref 0), (0, .ref x_scr)], [], x_h0, 98, 10728) x_P := by
  refine x_R.steps 5 (c' := (2239, [(3, .int 0), (2, .ref 75), (1, .ref 0), (0, .ref x_scr)], [.int 1, .ref x_scr, .ref 0], x_h0, 98, 10728)) rfl ?_
  refine x_R.steps 1 (c' := (2240, [(3, .int 0), (2, .ref 75), (1, .ref 0), (0, .ref x_scr)], [.int (xs 1), .ref 0], x_h0, 98, 10728)) rfl ?_
  refine x_R.steps 4 (c' := (2244, [(3, .int 0), (2, .ref 75), (1, .ref 0), (0, .ref x_scr)], [.int 2, .ref x_scr, .int (xs 1), .ref 0], x_h0, 98, 10728)) rfl ?_
  refine x_R.steps 1 (c' := (2245, [(3, .int 0), (2, .ref 75), (1, .ref 0), (0, .ref x_scr)], [.int (xs 2), .int (xs 1), .ref 0], x_h0, 98, 10728)) rfl ?_
  refine x_R.steps 4 (c' := (2249, [(3, .int 0), (2, .ref 75), (1, .ref 0), (0, .ref x_scr)], [.int 3, .ref x_scr, .int (xs 2), .int (xs 1), .ref 0], x_h0, 98, 10728)) rfl ?_
  refine x_R.steps 1 (c' := (2250, [(3, .int 0), (2, .ref 75), (1, .ref 0), (0, .ref x_scr)], [.int (xs 3), .int (xs 2), .int (xs 1), .ref 0], x_h0, 98, 10728)) rfl ?_
  refine x_R.steps 7 (c' := (2258, [(3, .int 0), (2, .ref 75), (1, .ref 0), (0, .ref x_scr)], [.int 4, .ref x_scr, .long (((xs 3)).toInt64 <<< ((32 : Int32).toInt64 &&& 63)), .int (xs 2), .int (xs 1), .ref 0], x_h0, 98, 10728)) rfl ?_
  refine x_R.steps 1 (c' := (2259, [(3, .int 0), (2, .ref 75), (1, .ref 0), (0, .ref x_scr)], [.int (xs 4), .long (((xs 3)).toInt64 <<< ((32 : Int32).toInt64 &&& 63)), .int (xs 2), .int (xs 1), .ref 0], x_h0, 98, 10728)) rfl ?_
  refine x_R.steps 4 (c' := (2265, [(3, .int 0), (2, .ref 75), (1, .ref 0), (0, .ref x_scr)], [.long ((((xs 3)).toInt64 <<< ((32 : Int32).toInt64 &&& 63)) ||| (((xs 4)).toInt64 &&& 4294967295)), .int (xs 2), .int (xs 1), .ref 0], x_h0, 98, 10728)) rfl ?_
  refine x_R.call (a := 180) (vs := [.ref 0, .int (xs 1), .int (xs 2), .long ((((xs 3)).toInt64 <<< ((32 : Int32).toInt64 &&& 63)) ||| (((xs 4)).toInt64 &&& 4294967295))]) (rest := []) (M' := M_cX11_write) rfl rfl rfl ?_
  refine x_R.steps 1 (c' := (1, [(0, .ref 0), (1, .int (xs 1)), (2, .int (xs 2)), (3, .long ((((xs 3)).toInt64 <<< ((32 : Int32).toInt64 &&& 63)) ||| (((xs 4)).toInt64 &&& 4294967295)))], [.int (xs 1)], x_h0, 0, 0)) rfl ?_
  refine x_R.call (a := 182) (vs := [.int (xs 1)]) (rest := []) (M' := M_cX11_isSlot) rfl rfl rfl ?_
  refine x_R.steps 1 (c' := (1, [(0, .int (xs 1))], [.int (xs 1)], x_h0, 0, 0)) rfl ?_
  refine x_R.ite (p := (xs 1) < (0 : Int32)) (c1 := (13, [(0, .int (xs 1))], [], x_h0, 0, 0)) (c2 := (4, [(0, .int (xs 1))], [], x_h0, 0, 0)) rfl (fun h1 => ?_) (fun h1 => ?_)
  · have g1 := (x_i_lt (C := 0) (by decide)).mp h1
    refine x_R.steps 1 (c' := (14, [(0, .int (xs 1))], [.int 0], x_h0, 0, 0)) rfl ?_
    refine x_R.ret (v := some (.int 0)) rfl ?_
    refine x_R.steps 0 (c' := (4, [(0, .ref 0), (1, .int (xs 1)), (2, .int (xs 2)), (3, .long ((((xs 3)).toInt64 <<< ((32 : Int32).toInt64 &&& 63)) ||| (((xs 4)).toInt64 &&& 4294967295)))], [.int 0], x_h0, 0, 0)) rfl ?_
    refine x_R.steps 1 (c' := (7, [(0, .ref 0), (1, .int (xs 1)), (2, .int (xs 2)), (3, .long ((((xs 3)).toInt64 <<< ((32 : Int32).toInt64 &&& 63)) ||| (((xs 4)).toInt64 &&& 4294967295)))], [], x_h0, 0, 0)) rfl ?_
    refine x_R.steps 1 (c' := (9, [(0, .ref 0), (1, .int (xs 1)), (2, .int (xs 2)), (3, .long ((((xs 3)).toInt64 <<< ((32 : Int32).toInt64 &&& 63)) ||| (((xs 4)).toInt64 &&& 4294967295)))], [.int (-2)], x_h0, 0, 0)) rfl ?_
    refine x_R.ret (v := some (.int (-2))) rfl ?_
    refine x_R.steps 0 (c' := (2268, [(3, .int 0), (2, .ref 75), (1, .ref 0), (0, .ref x_scr)], [.int (-2)], x_h0, 98, 10728)) rfl ?_
    refine x_R.steps 5 (c' := (2273, [(3, .int 0), (2, .ref 75), (1, .ref 0), (0, .ref x_scr)], [.int 1, .ref x_scr, .ref 75, .int (-2)], x_h0, 98, 10728)) rfl ?_
    refine x_R.steps 1 (c' := (2274, [(3, .int 0), (2, .ref 75), (1, .ref 0), (0, .ref x_scr)], [.int (xs 1), .ref 75, .int (-2)], x_h0, 98, 10728)) rfl ?_
    refine x_R.steps 4 (c' := (2278, [(3, .int 0), (2, .ref 75), (1, .ref 0), (0, .ref x_scr)], [.int 2, .ref x_scr, .int (xs 1), .ref 75, .int (-2)], x_h0, 98, 10728)) rfl ?_
    refine x_R.steps 1 (c' := (2279, [(3, .int 0), (2, .ref 75), (1, .ref 0), (0, .ref x_scr)], [.int (xs 2), .int (xs 1), .ref 75, .int (-2)], x_h0, 98, 10728)) rfl ?_
    refine x_R.steps 4 (c' := (2283, [(3, .int 0), (2, .ref 75), (1, .ref 0), (0, .ref x_scr)], [.int 3, .ref x_scr, .int (xs 2), .int (xs 1), .ref 75, .int (-2)], x_h0, 98, 10728)) rfl ?_
    refine x_R.steps 1 (c' := (2284, [(3, .int 0), (2, .ref 75), (1, .ref 0), (0, .ref x_scr)], [.int (xs 3), .int (xs 2), .int (xs 1), .ref 75, .int (-2)], x_h0, 98, 10728)) rfl ?_
    refine x_R.steps 7 (c' := (2292, [(3, .int 0), (2, .ref 75), (1, .ref 0), (0, .ref x_scr)], [.int 4, .ref x_scr, .long (((xs 3)).toInt64 <<< ((32 : Int32).toInt64 &&& 63)), .int (xs 2), .int (xs 1), .ref 75, .int (-2)], x_h0, 98, 10728)) rfl ?_
    refine x_R.steps 1 (c' := (2293, [(3, .int 0), (2, .ref 75), (1, .ref 0), (0, .ref x_scr)], [.int (xs 4), .long (((xs 3)).toInt64 <<< ((32 : Int32).toInt64 &&& 63)), .int (xs 2), .int (xs 1), .ref 75, .int (-2)], x_h0, 98, 10728)) rfl ?_
    refine x_R.steps 4 (c' := (2299, [(3, .int 0), (2, .ref 75), (1, .ref 0), (0, .ref x_scr)], [.long ((((xs 3)).toInt64 <<< ((32 : Int32).toInt64 &&& 63)) ||| (((xs 4)).toInt64 &&& 4294967295)), .int (xs 2), .int (xs 1), .ref 75, .int (-2)], x_h0, 98, 10728)) rfl ?_
    refine x_R.call (a := 354) (vs := [.ref 75, .int (xs 1), .int (xs 2), .long ((((xs 3)).toInt64 <<< ((32 : Int32).toInt64 &&& 63)) ||| (((xs 4)).toInt64 &&& 4294967295))]) (rest := [.int (-2)]) (M' := M_cX12_write) rfl rfl rfl ?_
    refine x_R.steps 1 (c' := (1, [(0, .ref 75), (1, .int (xs 1)), (2, .int (xs 2)), (3, .long ((((xs 3)).toInt64 <<< ((32 : Int32).toInt64 &&& 63)) ||| (((xs 4)).toInt64 &&& 4294967295)))], [.int (xs 1)], x_h0, 0, 0)) rfl ?_
    refine x_R.call (a := 351) (vs := [.int (xs 1)]) (rest := []) (M' := M_cX12_isSlot) rfl rfl rfl ?_
    refine x_R.steps 4 (c' := (6, [(0, .int (xs 1))], [.long 3, .long 0, .long ((xs 1)).toInt64], x_h0, 0, 0)) rfl ?_
    refine x_R.call (a := 196) (vs := [.long ((xs 1)).toInt64, .long 0, .long 3]) (rest := []) (M' := M_cX12_in) rfl rfl rfl ?_
    refine x_R.steps 3 (c' := (3, [(0, .long ((xs 1)).toInt64), (2, .long 0), (4, .long 3)], [.int (lg_cmp ((xs 1)).toInt64 0)], x_h0, 0, 0)) rfl ?_
    refine x_R.ite (p := (lg_cmp ((xs 1)).toInt64 0) < (0 : Int32)) (c1 := (17, [(0, .long ((xs 1)).toInt64), (2, .long 0), (4, .long 3)], [], x_h0, 0, 0)) (c2 := (6, [(0, .long ((xs 1)).toInt64), (2, .long 0), (4, .long 3)], [], x_h0, 0, 0)) rfl (fun h2 => ?_) (fun h2 => ?_)
    · have g2 := (x_lg_lt (C := 0) (by decide)).mp h2
      refine x_R.steps 1 (c' := (18, [(0, .long ((xs 1)).toInt64), (2, .long 0), (4, .long 3)], [.int 0], x_h0, 0, 0)) rfl ?_
      refine x_R.ret (v := some (.int 0)) rfl ?_
      refine x_R.steps 0 (c' := (9, [(0, .int (xs 1))], [.int 0], x_h0, 0, 0)) rfl ?_
      refine x_R.ret (v := some (.int 0)) rfl ?_
      refine x_R.steps 0 (c' := (4, [(0, .ref 75), (1, .int (xs 1)), (2, .int (xs 2)), (3, .long ((((xs 3)).toInt64 <<< ((32 : Int32).toInt64 &&& 63)) ||| (((xs 4)).toInt64 &&& 4294967295)))], [.int 0], x_h0, 0, 0)) rfl ?_
      refine x_R.steps 1 (c' := (7, [(0, .ref 75), (1, .int (xs 1)), (2, .int (xs 2)), (3, .long ((((xs 3)).toInt64 <<< ((32 : Int32).toInt64 &&& 63)) ||| (((xs 4)).toInt64 &&& 4294967295)))], [], x_h0, 0, 0)) rfl ?_
      refine x_R.steps 1 (c' := (9, [(0, .ref 75), (1, .int (xs 1)), (2, .int (xs 2)), (3, .long ((((xs 3)).toInt64 <<< ((32 : Int32).toInt64 &&& 63)) ||| (((xs 4)).toInt64 &&& 4294967295)))], [.int (-2)], x_h0, 0, 0)) rfl ?_
      refine x_R.ret (v := some (.int (-2))) rfl ?_
      refine x_R.steps 0 (c' := (2302, [(3, .int 0), (2, .ref 75), (1, .ref 0), (0, .ref x_scr)], [.int (-2), .int (-2)], x_h0, 98, 10728)) rfl ?_
      refine x_R.steps 1 (c' := (2370, [(3, .int 0), (2, .ref 75), (1, .ref 0), (0, .ref x_scr)], [], x_h0, 98, 10728)) rfl ?_
      refine x_R.steps 7 (c' := (24, [(3, .int 6), (2, .ref 75), (1, .ref 0), (0, .ref x_scr)], [.int 0, .int 6], x_h0, 98, 10728)) rfl ?_
      refine x_R.steps 1 (c' := (2376, [(3, .int 6), (2, .ref 75), (1, .ref 0), (0, .ref x_scr)], [], x_h0, 98, 10728)) rfl ?_
      refine x_R.steps 1 (c' := (2377, [(3, .int 6), (2, .ref 75), (1, .ref 0), (0, .ref x_scr)], [.int 1], x_h0, 98, 10728)) rfl ?_
      exact x_R.ret (v := some (.int 1)) rfl x_fin
    · have g2 := mt (x_lg_lt (C := 0) (by decide)).mpr h2
      exfalso; omega
  · have g1 := mt (x_i_lt (C := 0) (by decide)).mpr h1
    exfalso; omega
set_option maxRecDepth 100000 in
set_option maxHeartbeats 4000000 in
theorem x_c68_5 (xs : Nat → Int32) (f0 : (xs 1).toInt > 3) : x_R x_mt (some (6, xs)) 13 M_law (2234, [(3, .int 0), (2, .ref 75), (1, .ref 0), (0, .ref x_scr)], [], x_h0, 98, 10728) x_P := by
  refine x_R.steps 5 (c' := (2239, [(3, .int 0), (2, .ref 75), (1, .ref 0), (0, .ref x_scr)], [.int 1, .ref x_scr, .ref 0], x_h0, 98, 10728)) rfl ?_
  refine x_R.steps 1 (c' := (2240, [(3, .int 0), (2, .ref 75), (1, .ref 0), (0, .ref x_scr)], [.int (xs 1), .ref 0], x_h0, 98, 10728)) rfl ?_
  refine x_R.steps 4 (c' := (2244, [(3, .int 0), (2, .ref 75), (1, .ref 0), (0, .ref x_scr)], [.int 2, .ref x_scr, .int (xs 1), .ref 0], x_h0, 98, 10728)) rfl ?_
  refine x_R.steps 1 (c' := (2245, [(3, .int 0), (2, .ref 75), (1, .ref 0), (0, .ref x_scr)], [.int (xs 2), .int (xs 1), .ref 0], x_h0, 98, 10728)) rfl ?_
  refine x_R.steps 4 (c' := (2249, [(3, .int 0), (2, .ref 75), (1, .ref 0), (0, .ref x_scr)], [.int 3, .ref x_scr, .int (xs 2), .int (xs 1), .ref 0], x_h0, 98, 10728)) rfl ?_
  refine x_R.steps 1 (c' := (2250, [(3, .int 0), (2, .ref 75), (1, .ref 0), (0, .ref x_scr)], [.int (xs 3), .int (xs 2), .int (xs 1), .ref 0], x_h0, 98, 10728)) rfl ?_
  refine x_R.steps 7 (c' := (2258, [(3, .int 0), (2, .ref 75), (1, .ref 0), (0, .ref x_scr)], [.int 4, .ref x_scr, .long (((xs 3)).toInt64 <<< ((32 : Int32).toInt64 &&& 63)), .int (xs 2), .int (xs 1), .ref 0], x_h0, 98, 10728)) rfl ?_
  refine x_R.steps 1 (c' := (2259, [(3, .int 0), (2, .ref 75), (1, .ref 0), (0, .ref x_scr)], [.int (xs 4), .long (((xs 3)).toInt64 <<< ((32 : Int32).toInt64 &&& 63)), .int (xs 2), .int (xs 1), .ref 0], x_h0, 98, 10728)) rfl ?_
  refine x_R.steps 4 (c' := (2265, [(3, .int 0), (2, .ref 75), (1, .ref 0), (0, .ref x_scr)], [.long ((((xs 3)).toInt64 <<< ((32 : Int32).toInt64 &&& 63)) ||| (((xs 4)).toInt64 &&& 4294967295)), .int (xs 2), .int (xs 1), .ref 0], x_h0, 98, 10728)) rfl ?_
  refine x_R.call (a := 180) (vs := [.ref 0, .int (xs 1), .int (xs 2), .long ((((xs 3)).toInt64 <<< ((32 : Int32).toInt64 &&& 63)) ||| (((xs 4)).toInt64 &&& 4294967295))]) (rest := []) (M' := M_cX11_write) rfl rfl rfl ?_
  refine x_R.steps 1 (c' := (1, [(0, .ref 0), (1, .int (xs 1)), (2, .int (xs 2)), (3, .long ((((xs 3)).toInt64 <<< ((32 : Int32).toInt64 &&& 63)) ||| (((xs 4)).toInt64 &&& 4294967295)))], [.int (xs 1)], x_h0, 0, 0)) rfl ?_
  refine x_R.call (a := 182) (vs := [.int (xs 1)]) (rest := []) (M' := M_cX11_isSlot) rfl rfl rfl ?_
  refine x_R.steps 1 (c' := (1, [(0, .int (xs 1))], [.int (xs 1)], x_h0, 0, 0)) rfl ?_
  refine x_R.ite (p := (xs 1) < (0 : Int32)) (c1 := (13, [(0, .int (xs 1))], [], x_h0, 0, 0)) (c2 := (4, [(0, .int (xs 1))], [], x_h0, 0, 0)) rfl (fun h1 => ?_) (fun h1 => ?_)
  · have g1 := (x_i_lt (C := 0) (by decide)).mp h1
    exfalso; omega
  · have g1 := mt (x_i_lt (C := 0) (by decide)).mpr h1
    refine x_R.steps 2 (c' := (6, [(0, .int (xs 1))], [.int 4, .int (xs 1)], x_h0, 0, 0)) rfl ?_
    refine x_R.ite (p := (4 : Int32) ≤ (xs 1)) (c1 := (13, [(0, .int (xs 1))], [], x_h0, 0, 0)) (c2 := (9, [(0, .int (xs 1))], [], x_h0, 0, 0)) rfl (fun h2 => ?_) (fun h2 => ?_)
    · have g2 := (x_i_ge (C := 4) (by decide)).mp h2
      refine x_R.steps 1 (c' := (14, [(0, .int (xs 1))], [.int 0], x_h0, 0, 0)) rfl ?_
      refine x_R.ret (v := some (.int 0)) rfl ?_
      refine x_R.steps 0 (c' := (4, [(0, .ref 0), (1, .int (xs 1)), (2, .int (xs 2)), (3, .long ((((xs 3)).toInt64 <<< ((32 : Int32).toInt64 &&& 63)) ||| (((xs 4)).toInt64 &&& 4294967295)))], [.int 0], x_h0, 0, 0)) rfl ?_
      refine x_R.steps 1 (c' := (7, [(0, .ref 0), (1, .int (xs 1)), (2, .int (xs 2)), (3, .long ((((xs 3)).toInt64 <<< ((32 : Int32).toInt64 &&& 63)) ||| (((xs 4)).toInt64 &&& 4294967295)))], [], x_h0, 0, 0)) rfl ?_
      refine x_R.steps 1 (c' := (9, [(0, .ref 0), (1, .int (xs 1)), (2, .int (xs 2)), (3, .long ((((xs 3)).toInt64 <<< ((32 : Int32).toInt64 &&& 63)) ||| (((xs 4)).toInt64 &&& 4294967295)))], [.int (-2)], x_h0, 0, 0)) rfl ?_
      refine x_R.ret (v := some (.int (-2))) rfl ?_
      refine x_R.steps 0 (c' := (2268, [(3, .int 0), (2, .ref 75), (1, .ref 0), (0, .ref x_scr)], [.int (-2)], x_h0, 98, 10728)) rfl ?_
      refine x_R.steps 5 (c' := (2273, [(3, .int 0), (2, .ref 75), (1, .ref 0), (0, .ref x_scr)], [.int 1, .ref x_scr, .ref 75, .int (-2)], x_h0, 98, 10728)) rfl ?_
      refine x_R.steps 1 (c' := (2274, [(3, .int 0), (2, .ref 75), (1, .ref 0), (0, .ref x_scr)], [.int (xs 1), .ref 75, .int (-2)], x_h0, 98, 10728)) rfl ?_
      refine x_R.steps 4 (c' := (2278, [(3, .int 0), (2, .ref 75), (1, .ref 0), (0, .ref x_scr)], [.int 2, .ref x_scr, .int (xs 1), .ref 75, .int (-2)], x_h0, 98, 10728)) rfl ?_
      refine x_R.steps 1 (c' := (2279, [(3, .int 0), (2, .ref 75), (1, .ref 0), (0, .ref x_scr)], [.int (xs 2), .int (xs 1), .ref 75, .int (-2)], x_h0, 98, 10728)) rfl ?_
      refine x_R.steps 4 (c' := (2283, [(3, .int 0), (2, .ref 75), (1, .ref 0), (0, .ref x_scr)], [.int 3, .ref x_scr, .int (xs 2), .int (xs 1), .ref 75, .int (-2)], x_h0, 98, 10728)) rfl ?_
      refine x_R.steps 1 (c' := (2284, [(3, .int 0), (2, .ref 75), (1, .ref 0), (0, .ref x_scr)], [.int (xs 3), .int (xs 2), .int (xs 1), .ref 75, .int (-2)], x_h0, 98, 10728)) rfl ?_
      refine x_R.steps 7 (c' := (2292, [(3, .int 0), (2, .ref 75), (1, .ref 0), (0, .ref x_scr)], [.int 4, .ref x_scr, .long (((xs 3)).toInt64 <<< ((32 : Int32).toInt64 &&& 63)), .int (xs 2), .int (xs 1), .ref 75, .int (-2)], x_h0, 98, 10728)) rfl ?_
      refine x_R.steps 1 (c' := (2293, [(3, .int 0), (2, .ref 75), (1, .ref 0), (0, .ref x_scr)], [.int (xs 4), .long (((xs 3)).toInt64 <<< ((32 : Int32).toInt64 &&& 63)), .int (xs 2), .int (xs 1), .ref 75, .int (-2)], x_h0, 98, 10728)) rfl ?_
      refine x_R.steps 4 (c' := (2299, [(3, .int 0), (2, .ref 75), (1, .ref 0), (0, .ref x_scr)], [.long ((((xs 3)).toInt64 <<< ((32 : Int32).toInt64 &&& 63)) ||| (((xs 4)).toInt64 &&& 4294967295)), .int (xs 2), .int (xs 1), .ref 75, .int (-2)], x_h0, 98, 10728)) rfl ?_
      refine x_R.call (a := 354) (vs := [.ref 75, .int (xs 1), .int (xs 2), .long ((((xs 3)).toInt64 <<< ((32 : Int32).toInt64 &&& 63)) ||| (((xs 4)).toInt64 &&& 4294967295))]) (rest := [.int (-2)]) (M' := M_cX12_write) rfl rfl rfl ?_
      refine x_R.steps 1 (c' := (1, [(0, .ref 75), (1, .int (xs 1)), (2, .int (xs 2)), (3, .long ((((xs 3)).toInt64 <<< ((32 : Int32).toInt64 &&& 63)) ||| (((xs 4)).toInt64 &&& 4294967295)))], [.int (xs 1)], x_h0, 0, 0)) rfl ?_
      refine x_R.call (a := 351) (vs := [.int (xs 1)]) (rest := []) (M' := M_cX12_isSlot) rfl rfl rfl ?_
      refine x_R.steps 4 (c' := (6, [(0, .int (xs 1))], [.long 3, .long 0, .long ((xs 1)).toInt64], x_h0, 0, 0)) rfl ?_
      refine x_R.call (a := 196) (vs := [.long ((xs 1)).toInt64, .long 0, .long 3]) (rest := []) (M' := M_cX12_in) rfl rfl rfl ?_
      refine x_R.steps 3 (c' := (3, [(0, .long ((xs 1)).toInt64), (2, .long 0), (4, .long 3)], [.int (lg_cmp ((xs 1)).toInt64 0)], x_h0, 0, 0)) rfl ?_
      refine x_R.ite (p := (lg_cmp ((xs 1)).toInt64 0) < (0 : Int32)) (c1 := (17, [(0, .long ((xs 1)).toInt64), (2, .long 0), (4, .long 3)], [], x_h0, 0, 0)) (c2 := (6, [(0, .long ((xs 1)).toInt64), (2, .long 0), (4, .long 3)], [], x_h0, 0, 0)) rfl (fun h3 => ?_) (fun h3 => ?_)
      · have g3 := (x_lg_lt (C := 0) (by decide)).mp h3
        exfalso; omega
      · have g3 := mt (x_lg_lt (C := 0) (by decide)).mpr h3
        refine x_R.steps 3 (c' := (10, [(0, .long ((xs 1)).toInt64), (2, .long 0), (4, .long 3)], [.int (lg_cmp ((xs 1)).toInt64 3)], x_h0, 0, 0)) rfl ?_
        refine x_R.ite (p := (0 : Int32) < (lg_cmp ((xs 1)).toInt64 3)) (c1 := (17, [(0, .long ((xs 1)).toInt64), (2, .long 0), (4, .long 3)], [], x_h0, 0, 0)) (c2 := (13, [(0, .long ((xs 1)).toInt64), (2, .long 0), (4, .long 3)], [], x_h0, 0, 0)) rfl (fun h4 => ?_) (fun h4 => ?_)
        · have g4 := (x_lg_gt (C := 3) (by decide)).mp h4
          refine x_R.steps 1 (c' := (18, [(0, .long ((xs 1)).toInt64), (2, .long 0), (4, .long 3)], [.int 0], x_h0, 0, 0)) rfl ?_
          refine x_R.ret (v := some (.int 0)) rfl ?_
          refine x_R.steps 0 (c' := (9, [(0, .int (xs 1))], [.int 0], x_h0, 0, 0)) rfl ?_
          refine x_R.ret (v := some (.int 0)) rfl ?_
          refine x_R.steps 0 (c' := (4, [(0, .ref 75), (1, .int (xs 1)), (2, .int (xs 2)), (3, .long ((((xs 3)).toInt64 <<< ((32 : Int32).toInt64 &&& 63)) ||| (((xs 4)).toInt64 &&& 4294967295)))], [.int 0], x_h0, 0, 0)) rfl ?_
          refine x_R.steps 1 (c' := (7, [(0, .ref 75), (1, .int (xs 1)), (2, .int (xs 2)), (3, .long ((((xs 3)).toInt64 <<< ((32 : Int32).toInt64 &&& 63)) ||| (((xs 4)).toInt64 &&& 4294967295)))], [], x_h0, 0, 0)) rfl ?_
          refine x_R.steps 1 (c' := (9, [(0, .ref 75), (1, .int (xs 1)), (2, .int (xs 2)), (3, .long ((((xs 3)).toInt64 <<< ((32 : Int32).toInt64 &&& 63)) ||| (((xs 4)).toInt64 &&& 4294967295)))], [.int (-2)], x_h0, 0, 0)) rfl ?_
          refine x_R.ret (v := some (.int (-2))) rfl ?_
          refine x_R.steps 0 (c' := (2302, [(3, .int 0), (2, .ref 75), (1, .ref 0), (0, .ref x_scr)], [.int (-2), .int (-2)], x_h0, 98, 10728)) rfl ?_
          refine x_R.steps 1 (c' := (2370, [(3, .int 0), (2, .ref 75), (1, .ref 0), (0, .ref x_scr)], [], x_h0, 98, 10728)) rfl ?_
          refine x_R.steps 7 (c' := (24, [(3, .int 6), (2, .ref 75), (1, .ref 0), (0, .ref x_scr)], [.int 0, .int 6], x_h0, 98, 10728)) rfl ?_
          refine x_R.steps 1 (c' := (2376, [(3, .int 6), (2, .ref 75), (1, .ref 0), (0, .ref x_scr)], [], x_h0, 98, 10728)) rfl ?_
          refine x_R.steps 1 (c' := (2377, [(3, .int 6), (2, .ref 75), (1, .ref 0), (0, .ref x_scr)], [.int 1], x_h0, 98, 10728)) rfl ?_
          exact x_R.ret (v := some (.int 1)) rfl x_fin
        · have g4 := mt (x_lg_gt (C := 3) (by decide)).mpr h4
          exfalso; omega
    · have g2 := mt (x_i_ge (C := 4) (by decide)).mpr h2
      exfalso; omega
set_option maxRecDepth 100000 in
set_option maxHeartbeats 4000000 in
theorem x_c69_0 (xs : Nat → Int32)  : x_R x_mt (some (6, (x_ov 3 0 (x_ov 1 0 xs)))) 13 M_law (2307, [(3, .int 0), (2, .ref 75), (1, .ref 0), (0, .ref x_scr)], [], x_h0, 98, 10728) x_P := by
  refine x_R.steps 5 (c' := (2312, [(3, .int 0), (2, .ref 75), (1, .ref 0), (0, .ref x_scr)], [.int 1, .ref x_scr, .ref 0], x_h0, 98, 10728)) rfl ?_
  refine x_R.steps 1 (c' := (2313, [(3, .int 0), (2, .ref 75), (1, .ref 0), (0, .ref x_scr)], [.int 0, .ref 0], x_h0, 98, 10728)) rfl ?_
  refine x_R.steps 4 (c' := (2317, [(3, .int 0), (2, .ref 75), (1, .ref 0), (0, .ref x_scr)], [.int 2, .ref x_scr, .int 0, .ref 0], x_h0, 98, 10728)) rfl ?_
  refine x_R.steps 1 (c' := (2318, [(3, .int 0), (2, .ref 75), (1, .ref 0), (0, .ref x_scr)], [.int (xs 2), .int 0, .ref 0], x_h0, 98, 10728)) rfl ?_
  refine x_R.steps 4 (c' := (2322, [(3, .int 0), (2, .ref 75), (1, .ref 0), (0, .ref x_scr)], [.int 3, .ref x_scr, .int (xs 2), .int 0, .ref 0], x_h0, 98, 10728)) rfl ?_
  refine x_R.steps 1 (c' := (2323, [(3, .int 0), (2, .ref 75), (1, .ref 0), (0, .ref x_scr)], [.int 0, .int (xs 2), .int 0, .ref 0], x_h0, 98, 10728)) rfl ?_
  refine x_R.steps 4 (c' := (2327, [(3, .int 0), (2, .ref 75), (1, .ref 0), (0, .ref x_scr)], [.int 4, .ref x_scr, .int 0, .int (xs 2), .int 0, .ref 0], x_h0, 98, 10728)) rfl ?_
  refine x_R.steps 1 (c' := (2328, [(3, .int 0), (2, .ref 75), (1, .ref 0), (0, .ref x_scr)], [.int (xs 4), .int 0, .int (xs 2), .int 0, .ref 0], x_h0, 98, 10728)) rfl ?_
  refine x_R.steps 4 (c' := (2332, [(3, .int 0), (2, .ref 75), (1, .ref 0), (0, .ref x_scr)], [.int 5, .ref x_scr, .int (xs 4), .int 0, .int (xs 2), .int 0, .ref 0], x_h0, 98, 10728)) rfl ?_
  refine x_R.steps 1 (c' := (2333, [(3, .int 0), (2, .ref 75), (1, .ref 0), (0, .ref x_scr)], [.int (xs 5), .int (xs 4), .int 0, .int (xs 2), .int 0, .ref 0], x_h0, 98, 10728)) rfl ?_
  refine x_R.call (a := 181) (vs := [.ref 0, .int 0, .int (xs 2), .int 0, .int (xs 4), .int (xs 5)]) (rest := []) (M' := M_cX11_paste) rfl rfl rfl ?_
  refine x_R.steps 1 (c' := (1, [(0, .ref 0), (1, .int 0), (2, .int (xs 2)), (3, .int 0), (4, .int (xs 4)), (5, .int (xs 5))], [.int 0], x_h0, 0, 0)) rfl ?_
  refine x_R.call (a := 182) (vs := [.int 0]) (rest := []) (M' := M_cX11_isSlot) rfl rfl rfl ?_
  refine x_R.steps 1 (c' := (1, [(0, .int 0)], [.int 0], x_h0, 0, 0)) rfl ?_
  refine x_R.steps 1 (c' := (4, [(0, .int 0)], [], x_h0, 0, 0)) rfl ?_
  refine x_R.steps 2 (c' := (6, [(0, .int 0)], [.int 4, .int 0], x_h0, 0, 0)) rfl ?_
  refine x_R.steps 1 (c' := (9, [(0, .int 0)], [], x_h0, 0, 0)) rfl ?_
  refine x_R.steps 2 (c' := (14, [(0, .int 0)], [.int 1], x_h0, 0, 0)) rfl ?_
  refine x_R.ret (v := some (.int 1)) rfl ?_
  refine x_R.steps 0 (c' := (4, [(0, .ref 0), (1, .int 0), (2, .int (xs 2)), (3, .int 0), (4, .int (xs 4)), (5, .int (xs 5))], [.int 1], x_h0, 0, 0)) rfl ?_
  refine x_R.steps 1 (c' := (7, [(0, .ref 0), (1, .int 0), (2, .int (xs 2)), (3, .int 0), (4, .int (xs 4)), (5, .int (xs 5))], [], x_h0, 0, 0)) rfl ?_
  refine x_R.steps 1 (c' := (8, [(0, .ref 0), (1, .int 0), (2, .int (xs 2)), (3, .int 0), (4, .int (xs 4)), (5, .int (xs 5))], [.int 0], x_h0, 0, 0)) rfl ?_
  refine x_R.call (a := 182) (vs := [.int 0]) (rest := []) (M' := M_cX11_isSlot) rfl rfl rfl ?_
  refine x_R.steps 1 (c' := (1, [(0, .int 0)], [.int 0], x_h0, 0, 0)) rfl ?_
  refine x_R.steps 1 (c' := (4, [(0, .int 0)], [], x_h0, 0, 0)) rfl ?_
  refine x_R.steps 2 (c' := (6, [(0, .int 0)], [.int 4, .int 0], x_h0, 0, 0)) rfl ?_
  refine x_R.steps 1 (c' := (9, [(0, .int 0)], [], x_h0, 0, 0)) rfl ?_
  refine x_R.steps 2 (c' := (14, [(0, .int 0)], [.int 1], x_h0, 0, 0)) rfl ?_
  refine x_R.ret (v := some (.int 1)) rfl ?_
  refine x_R.steps 0 (c' := (11, [(0, .ref 0), (1, .int 0), (2, .int (xs 2)), (3, .int 0), (4, .int (xs 4)), (5, .int (xs 5))], [.int 1], x_h0, 0, 0)) rfl ?_
  refine x_R.steps 1 (c' := (17, [(0, .ref 0), (1, .int 0), (2, .int (xs 2)), (3, .int 0), (4, .int (xs 4)), (5, .int (xs 5))], [], x_h0, 0, 0)) rfl ?_
  refine x_R.steps 3 (c' := (22, [(0, .ref 0), (1, .int 0), (2, .int (xs 2)), (3, .int 0), (4, .int (xs 4)), (5, .int (xs 5))], [.int 0, .ref 42], x_h0, 0, 0)) rfl ?_
  refine x_R.steps 1 (c' := (23, [(0, .ref 0), (1, .int 0), (2, .int (xs 2)), (3, .int 0), (4, .int (xs 4)), (5, .int (xs 5))], [.ref 67], x_h0, 0, 0)) rfl ?_
  refine x_R.steps 4 (c' := (30, [(6, .ref 67), (0, .ref 0), (1, .int 0), (2, .int (xs 2)), (3, .int 0), (4, .int (xs 4)), (5, .int (xs 5))], [.int 0, .ref 42], x_h0, 0, 0)) rfl ?_
  refine x_R.steps 1 (c' := (31, [(6, .ref 67), (0, .ref 0), (1, .int 0), (2, .int (xs 2)), (3, .int 0), (4, .int (xs 4)), (5, .int (xs 5))], [.ref 67], x_h0, 0, 0)) rfl ?_
  refine x_R.steps 2 (c' := (35, [(7, .ref 67), (6, .ref 67), (0, .ref 0), (1, .int 0), (2, .int (xs 2)), (3, .int 0), (4, .int (xs 4)), (5, .int (xs 5))], [.ref 67], x_h0, 0, 0)) rfl ?_
  refine x_R.call (a := 91) (vs := [.ref 67]) (rest := []) (M' := M_cX8_isMade) rfl rfl rfl ?_
  refine x_R.steps 2 (c' := (4, [(0, .ref 67)], [.int (-1)], x_h0, 0, 0)) rfl ?_
  refine x_R.steps 1 (c' := (11, [(0, .ref 67)], [], x_h0, 0, 0)) rfl ?_
  refine x_R.steps 1 (c' := (12, [(0, .ref 67)], [.int 0], x_h0, 0, 0)) rfl ?_
  refine x_R.ret (v := some (.int 0)) rfl ?_
  refine x_R.steps 0 (c' := (38, [(7, .ref 67), (6, .ref 67), (0, .ref 0), (1, .int 0), (2, .int (xs 2)), (3, .int 0), (4, .int (xs 4)), (5, .int (xs 5))], [.int 0], x_h0, 0, 0)) rfl ?_
  refine x_R.steps 1 (c' := (49, [(7, .ref 67), (6, .ref 67), (0, .ref 0), (1, .int 0), (2, .int (xs 2)), (3, .int 0), (4, .int (xs 4)), (5, .int (xs 5))], [], x_h0, 0, 0)) rfl ?_
  refine x_R.steps 1 (c' := (51, [(7, .ref 67), (6, .ref 67), (0, .ref 0), (1, .int 0), (2, .int (xs 2)), (3, .int 0), (4, .int (xs 4)), (5, .int (xs 5))], [.int (-6)], x_h0, 0, 0)) rfl ?_
  refine x_R.ret (v := some (.int (-6))) rfl ?_
  refine x_R.steps 0 (c' := (2336, [(3, .int 0), (2, .ref 75), (1, .ref 0), (0, .ref x_scr)], [.int (-6)], x_h0, 98, 10728)) rfl ?_
  refine x_R.steps 5 (c' := (2341, [(3, .int 0), (2, .ref 75), (1, .ref 0), (0, .ref x_scr)], [.int 1, .ref x_scr, .ref 75, .int (-6)], x_h0, 98, 10728)) rfl ?_
  refine x_R.steps 1 (c' := (2342, [(3, .int 0), (2, .ref 75), (1, .ref 0), (0, .ref x_scr)], [.int 0, .ref 75, .int (-6)], x_h0, 98, 10728)) rfl ?_
  refine x_R.steps 4 (c' := (2346, [(3, .int 0), (2, .ref 75), (1, .ref 0), (0, .ref x_scr)], [.int 2, .ref x_scr, .int 0, .ref 75, .int (-6)], x_h0, 98, 10728)) rfl ?_
  refine x_R.steps 1 (c' := (2347, [(3, .int 0), (2, .ref 75), (1, .ref 0), (0, .ref x_scr)], [.int (xs 2), .int 0, .ref 75, .int (-6)], x_h0, 98, 10728)) rfl ?_
  refine x_R.steps 4 (c' := (2351, [(3, .int 0), (2, .ref 75), (1, .ref 0), (0, .ref x_scr)], [.int 3, .ref x_scr, .int (xs 2), .int 0, .ref 75, .int (-6)], x_h0, 98, 10728)) rfl ?_
  refine x_R.steps 1 (c' := (2352, [(3, .int 0), (2, .ref 75), (1, .ref 0), (0, .ref x_scr)], [.int 0, .int (xs 2), .int 0, .ref 75, .int (-6)], x_h0, 98, 10728)) rfl ?_
  refine x_R.steps 4 (c' := (2356, [(3, .int 0), (2, .ref 75), (1, .ref 0), (0, .ref x_scr)], [.int 4, .ref x_scr, .int 0, .int (xs 2), .int 0, .ref 75, .int (-6)], x_h0, 98, 10728)) rfl ?_
  refine x_R.steps 1 (c' := (2357, [(3, .int 0), (2, .ref 75), (1, .ref 0), (0, .ref x_scr)], [.int (xs 4), .int 0, .int (xs 2), .int 0, .ref 75, .int (-6)], x_h0, 98, 10728)) rfl ?_
  refine x_R.steps 4 (c' := (2361, [(3, .int 0), (2, .ref 75), (1, .ref 0), (0, .ref x_scr)], [.int 5, .ref x_scr, .int (xs 4), .int 0, .int (xs 2), .int 0, .ref 75, .int (-6)], x_h0, 98, 10728)) rfl ?_
  refine x_R.steps 1 (c' := (2362, [(3, .int 0), (2, .ref 75), (1, .ref 0), (0, .ref x_scr)], [.int (xs 5), .int (xs 4), .int 0, .int (xs 2), .int 0, .ref 75, .int (-6)], x_h0, 98, 10728)) rfl ?_
  refine x_R.call (a := 355) (vs := [.ref 75, .int 0, .int (xs 2), .int 0, .int (xs 4), .int (xs 5)]) (rest := [.int (-6)]) (M' := M_cX12_paste) rfl rfl rfl ?_
  refine x_R.steps 1 (c' := (1, [(0, .ref 75), (1, .int 0), (2, .int (xs 2)), (3, .int 0), (4, .int (xs 4)), (5, .int (xs 5))], [.int 0], x_h0, 0, 0)) rfl ?_
  refine x_R.call (a := 351) (vs := [.int 0]) (rest := []) (M' := M_cX12_isSlot) rfl rfl rfl ?_
  refine x_R.steps 4 (c' := (6, [(0, .int 0)], [.long 3, .long 0, .long 0], x_h0, 0, 0)) rfl ?_
  refine x_R.call (a := 196) (vs := [.long 0, .long 0, .long 3]) (rest := []) (M' := M_cX12_in) rfl rfl rfl ?_
  refine x_R.steps 3 (c' := (3, [(0, .long 0), (2, .long 0), (4, .long 3)], [.int 0], x_h0, 0, 0)) rfl ?_
  refine x_R.steps 1 (c' := (6, [(0, .long 0), (2, .long 0), (4, .long 3)], [], x_h0, 0, 0)) rfl ?_
  refine x_R.steps 3 (c' := (10, [(0, .long 0), (2, .long 0), (4, .long 3)], [.int (-1)], x_h0, 0, 0)) rfl ?_
  refine x_R.steps 1 (c' := (13, [(0, .long 0), (2, .long 0), (4, .long 3)], [], x_h0, 0, 0)) rfl ?_
  refine x_R.steps 2 (c' := (18, [(0, .long 0), (2, .long 0), (4, .long 3)], [.int 1], x_h0, 0, 0)) rfl ?_
  refine x_R.ret (v := some (.int 1)) rfl ?_
  refine x_R.steps 0 (c' := (9, [(0, .int 0)], [.int 1], x_h0, 0, 0)) rfl ?_
  refine x_R.ret (v := some (.int 1)) rfl ?_
  refine x_R.steps 0 (c' := (4, [(0, .ref 75), (1, .int 0), (2, .int (xs 2)), (3, .int 0), (4, .int (xs 4)), (5, .int (xs 5))], [.int 1], x_h0, 0, 0)) rfl ?_
  refine x_R.steps 1 (c' := (7, [(0, .ref 75), (1, .int 0), (2, .int (xs 2)), (3, .int 0), (4, .int (xs 4)), (5, .int (xs 5))], [], x_h0, 0, 0)) rfl ?_
  refine x_R.steps 1 (c' := (8, [(0, .ref 75), (1, .int 0), (2, .int (xs 2)), (3, .int 0), (4, .int (xs 4)), (5, .int (xs 5))], [.int 0], x_h0, 0, 0)) rfl ?_
  refine x_R.call (a := 351) (vs := [.int 0]) (rest := []) (M' := M_cX12_isSlot) rfl rfl rfl ?_
  refine x_R.steps 4 (c' := (6, [(0, .int 0)], [.long 3, .long 0, .long 0], x_h0, 0, 0)) rfl ?_
  refine x_R.call (a := 196) (vs := [.long 0, .long 0, .long 3]) (rest := []) (M' := M_cX12_in) rfl rfl rfl ?_
  refine x_R.steps 3 (c' := (3, [(0, .long 0), (2, .long 0), (4, .long 3)], [.int 0], x_h0, 0, 0)) rfl ?_
  refine x_R.steps 1 (c' := (6, [(0, .long 0), (2, .long 0), (4, .long 3)], [], x_h0, 0, 0)) rfl ?_
  refine x_R.steps 3 (c' := (10, [(0, .long 0), (2, .long 0), (4, .long 3)], [.int (-1)], x_h0, 0, 0)) rfl ?_
  refine x_R.steps 1 (c' := (13, [(0, .long 0), (2, .long 0), (4, .long 3)], [], x_h0, 0, 0)) rfl ?_
  refine x_R.steps 2 (c' := (18, [(0, .long 0), (2, .long 0), (4, .long 3)], [.int 1], x_h0, 0, 0)) rfl ?_
  refine x_R.ret (v := some (.int 1)) rfl ?_
  refine x_R.steps 0 (c' := (9, [(0, .int 0)], [.int 1], x_h0, 0, 0)) rfl ?_
  refine x_R.ret (v := some (.int 1)) rfl ?_
  refine x_R.steps 0 (c' := (11, [(0, .ref 75), (1, .int 0), (2, .int (xs 2)), (3, .int 0), (4, .int (xs 4)), (5, .int (xs 5))], [.int 1], x_h0, 0, 0)) rfl ?_
  refine x_R.steps 1 (c' := (17, [(0, .ref 75), (1, .int 0), (2, .int (xs 2)), (3, .int 0), (4, .int (xs 4)), (5, .int (xs 5))], [], x_h0, 0, 0)) rfl ?_
  refine x_R.steps 3 (c' := (22, [(0, .ref 75), (1, .int 0), (2, .int (xs 2)), (3, .int 0), (4, .int (xs 4)), (5, .int (xs 5))], [.int 0, .ref 94], x_h0, 0, 0)) rfl ?_
  refine x_R.steps 1 (c' := (23, [(0, .ref 75), (1, .int 0), (2, .int (xs 2)), (3, .int 0), (4, .int (xs 4)), (5, .int (xs 5))], [.int (-1)], x_h0, 0, 0)) rfl ?_
  refine x_R.steps 1 (c' := (24, [(0, .ref 75), (1, .int 0), (2, .int (xs 2)), (3, .int 0), (4, .int (xs 4)), (5, .int (xs 5))], [.int (-1), .int (-1)], x_h0, 0, 0)) rfl ?_
  refine x_R.steps 1 (c' := (37, [(0, .ref 75), (1, .int 0), (2, .int (xs 2)), (3, .int 0), (4, .int (xs 4)), (5, .int (xs 5))], [], x_h0, 0, 0)) rfl ?_
  refine x_R.steps 1 (c' := (39, [(0, .ref 75), (1, .int 0), (2, .int (xs 2)), (3, .int 0), (4, .int (xs 4)), (5, .int (xs 5))], [.int (-6)], x_h0, 0, 0)) rfl ?_
  refine x_R.ret (v := some (.int (-6))) rfl ?_
  refine x_R.steps 0 (c' := (2365, [(3, .int 0), (2, .ref 75), (1, .ref 0), (0, .ref x_scr)], [.int (-6), .int (-6)], x_h0, 98, 10728)) rfl ?_
  refine x_R.steps 1 (c' := (2370, [(3, .int 0), (2, .ref 75), (1, .ref 0), (0, .ref x_scr)], [], x_h0, 98, 10728)) rfl ?_
  refine x_R.steps 7 (c' := (24, [(3, .int 6), (2, .ref 75), (1, .ref 0), (0, .ref x_scr)], [.int 0, .int 6], x_h0, 98, 10728)) rfl ?_
  refine x_R.steps 1 (c' := (2376, [(3, .int 6), (2, .ref 75), (1, .ref 0), (0, .ref x_scr)], [], x_h0, 98, 10728)) rfl ?_
  refine x_R.steps 1 (c' := (2377, [(3, .int 6), (2, .ref 75), (1, .ref 0), (0, .ref x_scr)], [.int 1], x_h0, 98, 10728)) rfl ?_
  exact x_R.ret (v := some (.int 1)) rfl x_fin
set_option maxRecDepth 100000 in
set_option maxHeartbeats 4000000 in
theorem x_c69_1 (xs : Nat → Int32)  : x_R x_mt (some (6, (x_ov 3 1 (x_ov 1 0 xs)))) 13 M_law (2307, [(3, .int 0), (2, .ref 75), (1, .ref 0), (0, .ref x_scr)], [], x_h0, 98, 10728) x_P := by
  refine x_R.steps 5 (c' := (2312, [(3, .int 0), (2, .ref 75), (1, .ref 0), (0, .ref x_scr)], [.int 1, .ref x_scr, .ref 0], x_h0, 98, 10728)) rfl ?_
  refine x_R.steps 1 (c' := (2313, [(3, .int 0), (2, .ref 75), (1, .ref 0), (0, .ref x_scr)], [.int 0, .ref 0], x_h0, 98, 10728)) rfl ?_
  refine x_R.steps 4 (c' := (2317, [(3, .int 0), (2, .ref 75), (1, .ref 0), (0, .ref x_scr)], [.int 2, .ref x_scr, .int 0, .ref 0], x_h0, 98, 10728)) rfl ?_
  refine x_R.steps 1 (c' := (2318, [(3, .int 0), (2, .ref 75), (1, .ref 0), (0, .ref x_scr)], [.int (xs 2), .int 0, .ref 0], x_h0, 98, 10728)) rfl ?_
  refine x_R.steps 4 (c' := (2322, [(3, .int 0), (2, .ref 75), (1, .ref 0), (0, .ref x_scr)], [.int 3, .ref x_scr, .int (xs 2), .int 0, .ref 0], x_h0, 98, 10728)) rfl ?_
  refine x_R.steps 1 (c' := (2323, [(3, .int 0), (2, .ref 75), (1, .ref 0), (0, .ref x_scr)], [.int 1, .int (xs 2), .int 0, .ref 0], x_h0, 98, 10728)) rfl ?_
  refine x_R.steps 4 (c' := (2327, [(3, .int 0), (2, .ref 75), (1, .ref 0), (0, .ref x_scr)], [.int 4, .ref x_scr, .int 1, .int (xs 2), .int 0, .ref 0], x_h0, 98, 10728)) rfl ?_
  refine x_R.steps 1 (c' := (2328, [(3, .int 0), (2, .ref 75), (1, .ref 0), (0, .ref x_scr)], [.int (xs 4), .int 1, .int (xs 2), .int 0, .ref 0], x_h0, 98, 10728)) rfl ?_
  refine x_R.steps 4 (c' := (2332, [(3, .int 0), (2, .ref 75), (1, .ref 0), (0, .ref x_scr)], [.int 5, .ref x_scr, .int (xs 4), .int 1, .int (xs 2), .int 0, .ref 0], x_h0, 98, 10728)) rfl ?_
  refine x_R.steps 1 (c' := (2333, [(3, .int 0), (2, .ref 75), (1, .ref 0), (0, .ref x_scr)], [.int (xs 5), .int (xs 4), .int 1, .int (xs 2), .int 0, .ref 0], x_h0, 98, 10728)) rfl ?_
  refine x_R.call (a := 181) (vs := [.ref 0, .int 0, .int (xs 2), .int 1, .int (xs 4), .int (xs 5)]) (rest := []) (M' := M_cX11_paste) rfl rfl rfl ?_
  refine x_R.steps 1 (c' := (1, [(0, .ref 0), (1, .int 0), (2, .int (xs 2)), (3, .int 1), (4, .int (xs 4)), (5, .int (xs 5))], [.int 0], x_h0, 0, 0)) rfl ?_
  refine x_R.call (a := 182) (vs := [.int 0]) (rest := []) (M' := M_cX11_isSlot) rfl rfl rfl ?_
  refine x_R.steps 1 (c' := (1, [(0, .int 0)], [.int 0], x_h0, 0, 0)) rfl ?_
  refine x_R.steps 1 (c' := (4, [(0, .int 0)], [], x_h0, 0, 0)) rfl ?_
  refine x_R.steps 2 (c' := (6, [(0, .int 0)], [.int 4, .int 0], x_h0, 0, 0)) rfl ?_
  refine x_R.steps 1 (c' := (9, [(0, .int 0)], [], x_h0, 0, 0)) rfl ?_
  refine x_R.steps 2 (c' := (14, [(0, .int 0)], [.int 1], x_h0, 0, 0)) rfl ?_
  refine x_R.ret (v := some (.int 1)) rfl ?_
  refine x_R.steps 0 (c' := (4, [(0, .ref 0), (1, .int 0), (2, .int (xs 2)), (3, .int 1), (4, .int (xs 4)), (5, .int (xs 5))], [.int 1], x_h0, 0, 0)) rfl ?_
  refine x_R.steps 1 (c' := (7, [(0, .ref 0), (1, .int 0), (2, .int (xs 2)), (3, .int 1), (4, .int (xs 4)), (5, .int (xs 5))], [], x_h0, 0, 0)) rfl ?_
  refine x_R.steps 1 (c' := (8, [(0, .ref 0), (1, .int 0), (2, .int (xs 2)), (3, .int 1), (4, .int (xs 4)), (5, .int (xs 5))], [.int 1], x_h0, 0, 0)) rfl ?_
  refine x_R.call (a := 182) (vs := [.int 1]) (rest := []) (M' := M_cX11_isSlot) rfl rfl rfl ?_
  refine x_R.steps 1 (c' := (1, [(0, .int 1)], [.int 1], x_h0, 0, 0)) rfl ?_
  refine x_R.steps 1 (c' := (4, [(0, .int 1)], [], x_h0, 0, 0)) rfl ?_
  refine x_R.steps 2 (c' := (6, [(0, .int 1)], [.int 4, .int 1], x_h0, 0, 0)) rfl ?_
  refine x_R.steps 1 (c' := (9, [(0, .int 1)], [], x_h0, 0, 0)) rfl ?_
  refine x_R.steps 2 (c' := (14, [(0, .int 1)], [.int 1], x_h0, 0, 0)) rfl ?_
  refine x_R.ret (v := some (.int 1)) rfl ?_
  refine x_R.steps 0 (c' := (11, [(0, .ref 0), (1, .int 0), (2, .int (xs 2)), (3, .int 1), (4, .int (xs 4)), (5, .int (xs 5))], [.int 1], x_h0, 0, 0)) rfl ?_
  refine x_R.steps 1 (c' := (17, [(0, .ref 0), (1, .int 0), (2, .int (xs 2)), (3, .int 1), (4, .int (xs 4)), (5, .int (xs 5))], [], x_h0, 0, 0)) rfl ?_
  refine x_R.steps 3 (c' := (22, [(0, .ref 0), (1, .int 0), (2, .int (xs 2)), (3, .int 1), (4, .int (xs 4)), (5, .int (xs 5))], [.int 0, .ref 42], x_h0, 0, 0)) rfl ?_
  refine x_R.steps 1 (c' := (23, [(0, .ref 0), (1, .int 0), (2, .int (xs 2)), (3, .int 1), (4, .int (xs 4)), (5, .int (xs 5))], [.ref 67], x_h0, 0, 0)) rfl ?_
  refine x_R.steps 4 (c' := (30, [(6, .ref 67), (0, .ref 0), (1, .int 0), (2, .int (xs 2)), (3, .int 1), (4, .int (xs 4)), (5, .int (xs 5))], [.int 1, .ref 42], x_h0, 0, 0)) rfl ?_
  refine x_R.steps 1 (c' := (31, [(6, .ref 67), (0, .ref 0), (1, .int 0), (2, .int (xs 2)), (3, .int 1), (4, .int (xs 4)), (5, .int (xs 5))], [.ref 69], x_h0, 0, 0)) rfl ?_
  refine x_R.steps 2 (c' := (35, [(7, .ref 69), (6, .ref 67), (0, .ref 0), (1, .int 0), (2, .int (xs 2)), (3, .int 1), (4, .int (xs 4)), (5, .int (xs 5))], [.ref 67], x_h0, 0, 0)) rfl ?_
  refine x_R.call (a := 91) (vs := [.ref 67]) (rest := []) (M' := M_cX8_isMade) rfl rfl rfl ?_
  refine x_R.steps 2 (c' := (4, [(0, .ref 67)], [.int (-1)], x_h0, 0, 0)) rfl ?_
  refine x_R.steps 1 (c' := (11, [(0, .ref 67)], [], x_h0, 0, 0)) rfl ?_
  refine x_R.steps 1 (c' := (12, [(0, .ref 67)], [.int 0], x_h0, 0, 0)) rfl ?_
  refine x_R.ret (v := some (.int 0)) rfl ?_
  refine x_R.steps 0 (c' := (38, [(7, .ref 69), (6, .ref 67), (0, .ref 0), (1, .int 0), (2, .int (xs 2)), (3, .int 1), (4, .int (xs 4)), (5, .int (xs 5))], [.int 0], x_h0, 0, 0)) rfl ?_
  refine x_R.steps 1 (c' := (49, [(7, .ref 69), (6, .ref 67), (0, .ref 0), (1, .int 0), (2, .int (xs 2)), (3, .int 1), (4, .int (xs 4)), (5, .int (xs 5))], [], x_h0, 0, 0)) rfl ?_
  refine x_R.steps 1 (c' := (51, [(7, .ref 69), (6, .ref 67), (0, .ref 0), (1, .int 0), (2, .int (xs 2)), (3, .int 1), (4, .int (xs 4)), (5, .int (xs 5))], [.int (-6)], x_h0, 0, 0)) rfl ?_
  refine x_R.ret (v := some (.int (-6))) rfl ?_
  refine x_R.steps 0 (c' := (2336, [(3, .int 0), (2, .ref 75), (1, .ref 0), (0, .ref x_scr)], [.int (-6)], x_h0, 98, 10728)) rfl ?_
  refine x_R.steps 5 (c' := (2341, [(3, .int 0), (2, .ref 75), (1, .ref 0), (0, .ref x_scr)], [.int 1, .ref x_scr, .ref 75, .int (-6)], x_h0, 98, 10728)) rfl ?_
  refine x_R.steps 1 (c' := (2342, [(3, .int 0), (2, .ref 75), (1, .ref 0), (0, .ref x_scr)], [.int 0, .ref 75, .int (-6)], x_h0, 98, 10728)) rfl ?_
  refine x_R.steps 4 (c' := (2346, [(3, .int 0), (2, .ref 75), (1, .ref 0), (0, .ref x_scr)], [.int 2, .ref x_scr, .int 0, .ref 75, .int (-6)], x_h0, 98, 10728)) rfl ?_
  refine x_R.steps 1 (c' := (2347, [(3, .int 0), (2, .ref 75), (1, .ref 0), (0, .ref x_scr)], [.int (xs 2), .int 0, .ref 75, .int (-6)], x_h0, 98, 10728)) rfl ?_
  refine x_R.steps 4 (c' := (2351, [(3, .int 0), (2, .ref 75), (1, .ref 0), (0, .ref x_scr)], [.int 3, .ref x_scr, .int (xs 2), .int 0, .ref 75, .int (-6)], x_h0, 98, 10728)) rfl ?_
  refine x_R.steps 1 (c' := (2352, [(3, .int 0), (2, .ref 75), (1, .ref 0), (0, .ref x_scr)], [.int 1, .int (xs 2), .int 0, .ref 75, .int (-6)], x_h0, 98, 10728)) rfl ?_
  refine x_R.steps 4 (c' := (2356, [(3, .int 0), (2, .ref 75), (1, .ref 0), (0, .ref x_scr)], [.int 4, .ref x_scr, .int 1, .int (xs 2), .int 0, .ref 75, .int (-6)], x_h0, 98, 10728)) rfl ?_
  refine x_R.steps 1 (c' := (2357, [(3, .int 0), (2, .ref 75), (1, .ref 0), (0, .ref x_scr)], [.int (xs 4), .int 1, .int (xs 2), .int 0, .ref 75, .int (-6)], x_h0, 98, 10728)) rfl ?_
  refine x_R.steps 4 (c' := (2361, [(3, .int 0), (2, .ref 75), (1, .ref 0), (0, .ref x_scr)], [.int 5, .ref x_scr, .int (xs 4), .int 1, .int (xs 2), .int 0, .ref 75, .int (-6)], x_h0, 98, 10728)) rfl ?_
  refine x_R.steps 1 (c' := (2362, [(3, .int 0), (2, .ref 75), (1, .ref 0), (0, .ref x_scr)], [.int (xs 5), .int (xs 4), .int 1, .int (xs 2), .int 0, .ref 75, .int (-6)], x_h0, 98, 10728)) rfl ?_
  refine x_R.call (a := 355) (vs := [.ref 75, .int 0, .int (xs 2), .int 1, .int (xs 4), .int (xs 5)]) (rest := [.int (-6)]) (M' := M_cX12_paste) rfl rfl rfl ?_
  refine x_R.steps 1 (c' := (1, [(0, .ref 75), (1, .int 0), (2, .int (xs 2)), (3, .int 1), (4, .int (xs 4)), (5, .int (xs 5))], [.int 0], x_h0, 0, 0)) rfl ?_
  refine x_R.call (a := 351) (vs := [.int 0]) (rest := []) (M' := M_cX12_isSlot) rfl rfl rfl ?_
  refine x_R.steps 4 (c' := (6, [(0, .int 0)], [.long 3, .long 0, .long 0], x_h0, 0, 0)) rfl ?_
  refine x_R.call (a := 196) (vs := [.long 0, .long 0, .long 3]) (rest := []) (M' := M_cX12_in) rfl rfl rfl ?_
  refine x_R.steps 3 (c' := (3, [(0, .long 0), (2, .long 0), (4, .long 3)], [.int 0], x_h0, 0, 0)) rfl ?_
  refine x_R.steps 1 (c' := (6, [(0, .long 0), (2, .long 0), (4, .long 3)], [], x_h0, 0, 0)) rfl ?_
  refine x_R.steps 3 (c' := (10, [(0, .long 0), (2, .long 0), (4, .long 3)], [.int (-1)], x_h0, 0, 0)) rfl ?_
  refine x_R.steps 1 (c' := (13, [(0, .long 0), (2, .long 0), (4, .long 3)], [], x_h0, 0, 0)) rfl ?_
  refine x_R.steps 2 (c' := (18, [(0, .long 0), (2, .long 0), (4, .long 3)], [.int 1], x_h0, 0, 0)) rfl ?_
  refine x_R.ret (v := some (.int 1)) rfl ?_
  refine x_R.steps 0 (c' := (9, [(0, .int 0)], [.int 1], x_h0, 0, 0)) rfl ?_
  refine x_R.ret (v := some (.int 1)) rfl ?_
  refine x_R.steps 0 (c' := (4, [(0, .ref 75), (1, .int 0), (2, .int (xs 2)), (3, .int 1), (4, .int (xs 4)), (5, .int (xs 5))], [.int 1], x_h0, 0, 0)) rfl ?_
  refine x_R.steps 1 (c' := (7, [(0, .ref 75), (1, .int 0), (2, .int (xs 2)), (3, .int 1), (4, .int (xs 4)), (5, .int (xs 5))], [], x_h0, 0, 0)) rfl ?_
  refine x_R.steps 1 (c' := (8, [(0, .ref 75), (1, .int 0), (2, .int (xs 2)), (3, .int 1), (4, .int (xs 4)), (5, .int (xs 5))], [.int 1], x_h0, 0, 0)) rfl ?_
  refine x_R.call (a := 351) (vs := [.int 1]) (rest := []) (M' := M_cX12_isSlot) rfl rfl rfl ?_
  refine x_R.steps 4 (c' := (6, [(0, .int 1)], [.long 3, .long 0, .long 1], x_h0, 0, 0)) rfl ?_
  refine x_R.call (a := 196) (vs := [.long 1, .long 0, .long 3]) (rest := []) (M' := M_cX12_in) rfl rfl rfl ?_
  refine x_R.steps 3 (c' := (3, [(0, .long 1), (2, .long 0), (4, .long 3)], [.int 1], x_h0, 0, 0)) rfl ?_
  refine x_R.steps 1 (c' := (6, [(0, .long 1), (2, .long 0), (4, .long 3)], [], x_h0, 0, 0)) rfl ?_
  refine x_R.steps 3 (c' := (10, [(0, .long 1), (2, .long 0), (4, .long 3)], [.int (-1)], x_h0, 0, 0)) rfl ?_
  refine x_R.steps 1 (c' := (13, [(0, .long 1), (2, .long 0), (4, .long 3)], [], x_h0, 0, 0)) rfl ?_
  refine x_R.steps 2 (c' := (18, [(0, .long 1), (2, .long 0), (4, .long 3)], [.int 1], x_h0, 0, 0)) rfl ?_
  refine x_R.ret (v := some (.int 1)) rfl ?_
  refine x_R.steps 0 (c' := (9, [(0, .int 1)], [.int 1], x_h0, 0, 0)) rfl ?_
  refine x_R.ret (v := some (.int 1)) rfl ?_
  refine x_R.steps 0 (c' := (11, [(0, .ref 75), (1, .int 0), (2, .int (xs 2)), (3, .int 1), (4, .int (xs 4)), (5, .int (xs 5))], [.int 1], x_h0, 0, 0)) rfl ?_
  refine x_R.steps 1 (c' := (17, [(0, .ref 75), (1, .int 0), (2, .int (xs 2)), (3, .int 1), (4, .int (xs 4)), (5, .int (xs 5))], [], x_h0, 0, 0)) rfl ?_
  refine x_R.steps 3 (c' := (22, [(0, .ref 75), (1, .int 0), (2, .int (xs 2)), (3, .int 1), (4, .int (xs 4)), (5, .int (xs 5))], [.int 0, .ref 94], x_h0, 0, 0)) rfl ?_
  refine x_R.steps 1 (c' := (23, [(0, .ref 75), (1, .int 0), (2, .int (xs 2)), (3, .int 1), (4, .int (xs 4)), (5, .int (xs 5))], [.int (-1)], x_h0, 0, 0)) rfl ?_
  refine x_R.steps 1 (c' := (24, [(0, .ref 75), (1, .int 0), (2, .int (xs 2)), (3, .int 1), (4, .int (xs 4)), (5, .int (xs 5))], [.int (-1), .int (-1)], x_h0, 0, 0)) rfl ?_
  refine x_R.steps 1 (c' := (37, [(0, .ref 75), (1, .int 0), (2, .int (xs 2)), (3, .int 1), (4, .int (xs 4)), (5, .int (xs 5))], [], x_h0, 0, 0)) rfl ?_
  refine x_R.steps 1 (c' := (39, [(0, .ref 75), (1, .int 0), (2, .int (xs 2)), (3, .int 1), (4, .int (xs 4)), (5, .int (xs 5))], [.int (-6)], x_h0, 0, 0)) rfl ?_
  refine x_R.ret (v := some (.int (-6))) rfl ?_
  refine x_R.steps 0 (c' := (2365, [(3, .int 0), (2, .ref 75), (1, .ref 0), (0, .ref x_scr)], [.int (-6), .int (-6)], x_h0, 98, 10728)) rfl ?_
  refine x_R.steps 1 (c' := (2370, [(3, .int 0), (2, .ref 75), (1, .ref 0), (0, .ref x_scr)], [], x_h0, 98, 10728)) rfl ?_
  refine x_R.steps 7 (c' := (24, [(3, .int 6), (2, .ref 75), (1, .ref 0), (0, .ref x_scr)], [.int 0, .int 6], x_h0, 98, 10728)) rfl ?_
  refine x_R.steps 1 (c' := (2376, [(3, .int 6), (2, .ref 75), (1, .ref 0), (0, .ref x_scr)], [], x_h0, 98, 10728)) rfl ?_
  refine x_R.steps 1 (c' := (2377, [(3, .int 6), (2, .ref 75), (1, .ref 0), (0, .ref x_scr)], [.int 1], x_h0, 98, 10728)) rfl ?_
  exact x_R.ret (v := some (.int 1)) rfl x_fin
set_option maxRecDepth 100000 in
set_option maxHeartbeats 4000000 in
theorem x_c69_2 (xs : Nat → Int32)  : x_R x_mt (some (6, (x_ov 3 2 (x_ov 1 0 xs)))) 13 M_law (2307, [(3, .int 0), (2, .ref 75), (1, .ref 0), (0, .ref x_scr)], [], x_h0, 98, 10728) x_P := by
  refine x_R.steps 5 (c' := (2312, [(3, .int 0), (2, .ref 75), (1, .ref 0), (0, .ref x_scr)], [.int 1, .ref x_scr, .ref 0], x_h0, 98, 10728)) rfl ?_
  refine x_R.steps 1 (c' := (2313, [(3, .int 0), (2, .ref 75), (1, .ref 0), (0, .ref x_scr)], [.int 0, .ref 0], x_h0, 98, 10728)) rfl ?_
  refine x_R.steps 4 (c' := (2317, [(3, .int 0), (2, .ref 75), (1, .ref 0), (0, .ref x_scr)], [.int 2, .ref x_scr, .int 0, .ref 0], x_h0, 98, 10728)) rfl ?_
  refine x_R.steps 1 (c' := (2318, [(3, .int 0), (2, .ref 75), (1, .ref 0), (0, .ref x_scr)], [.int (xs 2), .int 0, .ref 0], x_h0, 98, 10728)) rfl ?_
  refine x_R.steps 4 (c' := (2322, [(3, .int 0), (2, .ref 75), (1, .ref 0), (0, .ref x_scr)], [.int 3, .ref x_scr, .int (xs 2), .int 0, .ref 0], x_h0, 98, 10728)) rfl ?_
  refine x_R.steps 1 (c' := (2323, [(3, .int 0), (2, .ref 75), (1, .ref 0), (0, .ref x_scr)], [.int 2, .int (xs 2), .int 0, .ref 0], x_h0, 98, 10728)) rfl ?_
  refine x_R.steps 4 (c' := (2327, [(3, .int 0), (2, .ref 75), (1, .ref 0), (0, .ref x_scr)], [.int 4, .ref x_scr, .int 2, .int (xs 2), .int 0, .ref 0], x_h0, 98, 10728)) rfl ?_
  refine x_R.steps 1 (c' := (2328, [(3, .int 0), (2, .ref 75), (1, .ref 0), (0, .ref x_scr)], [.int (xs 4), .int 2, .int (xs 2), .int 0, .ref 0], x_h0, 98, 10728)) rfl ?_
  refine x_R.steps 4 (c' := (2332, [(3, .int 0), (2, .ref 75), (1, .ref 0), (0, .ref x_scr)], [.int 5, .ref x_scr, .int (xs 4), .int 2, .int (xs 2), .int 0, .ref 0], x_h0, 98, 10728)) rfl ?_
  refine x_R.steps 1 (c' := (2333, [(3, .int 0), (2, .ref 75), (1, .ref 0), (0, .ref x_scr)], [.int (xs 5), .int (xs 4), .int 2, .int (xs 2), .int 0, .ref 0], x_h0, 98, 10728)) rfl ?_
  refine x_R.call (a := 181) (vs := [.ref 0, .int 0, .int (xs 2), .int 2, .int (xs 4), .int (xs 5)]) (rest := []) (M' := M_cX11_paste) rfl rfl rfl ?_
  refine x_R.steps 1 (c' := (1, [(0, .ref 0), (1, .int 0), (2, .int (xs 2)), (3, .int 2), (4, .int (xs 4)), (5, .int (xs 5))], [.int 0], x_h0, 0, 0)) rfl ?_
  refine x_R.call (a := 182) (vs := [.int 0]) (rest := []) (M' := M_cX11_isSlot) rfl rfl rfl ?_
  refine x_R.steps 1 (c' := (1, [(0, .int 0)], [.int 0], x_h0, 0, 0)) rfl ?_
  refine x_R.steps 1 (c' := (4, [(0, .int 0)], [], x_h0, 0, 0)) rfl ?_
  refine x_R.steps 2 (c' := (6, [(0, .int 0)], [.int 4, .int 0], x_h0, 0, 0)) rfl ?_
  refine x_R.steps 1 (c' := (9, [(0, .int 0)], [], x_h0, 0, 0)) rfl ?_
  refine x_R.steps 2 (c' := (14, [(0, .int 0)], [.int 1], x_h0, 0, 0)) rfl ?_
  refine x_R.ret (v := some (.int 1)) rfl ?_
  refine x_R.steps 0 (c' := (4, [(0, .ref 0), (1, .int 0), (2, .int (xs 2)), (3, .int 2), (4, .int (xs 4)), (5, .int (xs 5))], [.int 1], x_h0, 0, 0)) rfl ?_
  refine x_R.steps 1 (c' := (7, [(0, .ref 0), (1, .int 0), (2, .int (xs 2)), (3, .int 2), (4, .int (xs 4)), (5, .int (xs 5))], [], x_h0, 0, 0)) rfl ?_
  refine x_R.steps 1 (c' := (8, [(0, .ref 0), (1, .int 0), (2, .int (xs 2)), (3, .int 2), (4, .int (xs 4)), (5, .int (xs 5))], [.int 2], x_h0, 0, 0)) rfl ?_
  refine x_R.call (a := 182) (vs := [.int 2]) (rest := []) (M' := M_cX11_isSlot) rfl rfl rfl ?_
  refine x_R.steps 1 (c' := (1, [(0, .int 2)], [.int 2], x_h0, 0, 0)) rfl ?_
  refine x_R.steps 1 (c' := (4, [(0, .int 2)], [], x_h0, 0, 0)) rfl ?_
  refine x_R.steps 2 (c' := (6, [(0, .int 2)], [.int 4, .int 2], x_h0, 0, 0)) rfl ?_
  refine x_R.steps 1 (c' := (9, [(0, .int 2)], [], x_h0, 0, 0)) rfl ?_
  refine x_R.steps 2 (c' := (14, [(0, .int 2)], [.int 1], x_h0, 0, 0)) rfl ?_
  refine x_R.ret (v := some (.int 1)) rfl ?_
  refine x_R.steps 0 (c' := (11, [(0, .ref 0), (1, .int 0), (2, .int (xs 2)), (3, .int 2), (4, .int (xs 4)), (5, .int (xs 5))], [.int 1], x_h0, 0, 0)) rfl ?_
  refine x_R.steps 1 (c' := (17, [(0, .ref 0), (1, .int 0), (2, .int (xs 2)), (3, .int 2), (4, .int (xs 4)), (5, .int (xs 5))], [], x_h0, 0, 0)) rfl ?_
  refine x_R.steps 3 (c' := (22, [(0, .ref 0), (1, .int 0), (2, .int (xs 2)), (3, .int 2), (4, .int (xs 4)), (5, .int (xs 5))], [.int 0, .ref 42], x_h0, 0, 0)) rfl ?_
  refine x_R.steps 1 (c' := (23, [(0, .ref 0), (1, .int 0), (2, .int (xs 2)), (3, .int 2), (4, .int (xs 4)), (5, .int (xs 5))], [.ref 67], x_h0, 0, 0)) rfl ?_
  refine x_R.steps 4 (c' := (30, [(6, .ref 67), (0, .ref 0), (1, .int 0), (2, .int (xs 2)), (3, .int 2), (4, .int (xs 4)), (5, .int (xs 5))], [.int 2, .ref 42], x_h0, 0, 0)) rfl ?_
  refine x_R.steps 1 (c' := (31, [(6, .ref 67), (0, .ref 0), (1, .int 0), (2, .int (xs 2)), (3, .int 2), (4, .int (xs 4)), (5, .int (xs 5))], [.ref 71], x_h0, 0, 0)) rfl ?_
  refine x_R.steps 2 (c' := (35, [(7, .ref 71), (6, .ref 67), (0, .ref 0), (1, .int 0), (2, .int (xs 2)), (3, .int 2), (4, .int (xs 4)), (5, .int (xs 5))], [.ref 67], x_h0, 0, 0)) rfl ?_
  refine x_R.call (a := 91) (vs := [.ref 67]) (rest := []) (M' := M_cX8_isMade) rfl rfl rfl ?_
  refine x_R.steps 2 (c' := (4, [(0, .ref 67)], [.int (-1)], x_h0, 0, 0)) rfl ?_
  refine x_R.steps 1 (c' := (11, [(0, .ref 67)], [], x_h0, 0, 0)) rfl ?_
  refine x_R.steps 1 (c' := (12, [(0, .ref 67)], [.int 0], x_h0, 0, 0)) rfl ?_
  refine x_R.ret (v := some (.int 0)) rfl ?_
  refine x_R.steps 0 (c' := (38, [(7, .ref 71), (6, .ref 67), (0, .ref 0), (1, .int 0), (2, .int (xs 2)), (3, .int 2), (4, .int (xs 4)), (5, .int (xs 5))], [.int 0], x_h0, 0, 0)) rfl ?_
  refine x_R.steps 1 (c' := (49, [(7, .ref 71), (6, .ref 67), (0, .ref 0), (1, .int 0), (2, .int (xs 2)), (3, .int 2), (4, .int (xs 4)), (5, .int (xs 5))], [], x_h0, 0, 0)) rfl ?_
  refine x_R.steps 1 (c' := (51, [(7, .ref 71), (6, .ref 67), (0, .ref 0), (1, .int 0), (2, .int (xs 2)), (3, .int 2), (4, .int (xs 4)), (5, .int (xs 5))], [.int (-6)], x_h0, 0, 0)) rfl ?_
  refine x_R.ret (v := some (.int (-6))) rfl ?_
  refine x_R.steps 0 (c' := (2336, [(3, .int 0), (2, .ref 75), (1, .ref 0), (0, .ref x_scr)], [.int (-6)], x_h0, 98, 10728)) rfl ?_
  refine x_R.steps 5 (c' := (2341, [(3, .int 0), (2, .ref 75), (1, .ref 0), (0, .ref x_scr)], [.int 1, .ref x_scr, .ref 75, .int (-6)], x_h0, 98, 10728)) rfl ?_
  refine x_R.steps 1 (c' := (2342, [(3, .int 0), (2, .ref 75), (1, .ref 0), (0, .ref x_scr)], [.int 0, .ref 75, .int (-6)], x_h0, 98, 10728)) rfl ?_
  refine x_R.steps 4 (c' := (2346, [(3, .int 0), (2, .ref 75), (1, .ref 0), (0, .ref x_scr)], [.int 2, .ref x_scr, .int 0, .ref 75, .int (-6)], x_h0, 98, 10728)) rfl ?_
  refine x_R.steps 1 (c' := (2347, [(3, .int 0), (2, .ref 75), (1, .ref 0), (0, .ref x_scr)], [.int (xs 2), .int 0, .ref 75, .int (-6)], x_h0, 98, 10728)) rfl ?_
  refine x_R.steps 4 (c' := (2351, [(3, .int 0), (2, .ref 75), (1, .ref 0), (0, .ref x_scr)], [.int 3, .ref x_scr, .int (xs 2), .int 0, .ref 75, .int (-6)], x_h0, 98, 10728)) rfl ?_
  refine x_R.steps 1 (c' := (2352, [(3, .int 0), (2, .ref 75), (1, .ref 0), (0, .ref x_scr)], [.int 2, .int (xs 2), .int 0, .ref 75, .int (-6)], x_h0, 98, 10728)) rfl ?_
  refine x_R.steps 4 (c' := (2356, [(3, .int 0), (2, .ref 75), (1, .ref 0), (0, .ref x_scr)], [.int 4, .ref x_scr, .int 2, .int (xs 2), .int 0, .ref 75, .int (-6)], x_h0, 98, 10728)) rfl ?_
  refine x_R.steps 1 (c' := (2357, [(3, .int 0), (2, .ref 75), (1, .ref 0), (0, .ref x_scr)], [.int (xs 4), .int 2, .int (xs 2), .int 0, .ref 75, .int (-6)], x_h0, 98, 10728)) rfl ?_
  refine x_R.steps 4 (c' := (2361, [(3, .int 0), (2, .ref 75), (1, .ref 0), (0, .ref x_scr)], [.int 5, .ref x_scr, .int (xs 4), .int 2, .int (xs 2), .int 0, .ref 75, .int (-6)], x_h0, 98, 10728)) rfl ?_
  refine x_R.steps 1 (c' := (2362, [(3, .int 0), (2, .ref 75), (1, .ref 0), (0, .ref x_scr)], [.int (xs 5), .int (xs 4), .int 2, .int (xs 2), .int 0, .ref 75, .int (-6)], x_h0, 98, 10728)) rfl ?_
  refine x_R.call (a := 355) (vs := [.ref 75, .int 0, .int (xs 2), .int 2, .int (xs 4), .int (xs 5)]) (rest := [.int (-6)]) (M' := M_cX12_paste) rfl rfl rfl ?_
  refine x_R.steps 1 (c' := (1, [(0, .ref 75), (1, .int 0), (2, .int (xs 2)), (3, .int 2), (4, .int (xs 4)), (5, .int (xs 5))], [.int 0], x_h0, 0, 0)) rfl ?_
  refine x_R.call (a := 351) (vs := [.int 0]) (rest := []) (M' := M_cX12_isSlot) rfl rfl rfl ?_
  refine x_R.steps 4 (c' := (6, [(0, .int 0)], [.long 3, .long 0, .long 0], x_h0, 0, 0)) rfl ?_
  refine x_R.call (a := 196) (vs := [.long 0, .long 0, .long 3]) (rest := []) (M' := M_cX12_in) rfl rfl rfl ?_
  refine x_R.steps 3 (c' := (3, [(0, .long 0), (2, .long 0), (4, .long 3)], [.int 0], x_h0, 0, 0)) rfl ?_
  refine x_R.steps 1 (c' := (6, [(0, .long 0), (2, .long 0), (4, .long 3)], [], x_h0, 0, 0)) rfl ?_
  refine x_R.steps 3 (c' := (10, [(0, .long 0), (2, .long 0), (4, .long 3)], [.int (-1)], x_h0, 0, 0)) rfl ?_
  refine x_R.steps 1 (c' := (13, [(0, .long 0), (2, .long 0), (4, .long 3)], [], x_h0, 0, 0)) rfl ?_
  refine x_R.steps 2 (c' := (18, [(0, .long 0), (2, .long 0), (4, .long 3)], [.int 1], x_h0, 0, 0)) rfl ?_
  refine x_R.ret (v := some (.int 1)) rfl ?_
  refine x_R.steps 0 (c' := (9, [(0, .int 0)], [.int 1], x_h0, 0, 0)) rfl ?_
  refine x_R.ret (v := some (.int 1)) rfl ?_
  refine x_R.steps 0 (c' := (4, [(0, .ref 75), (1, .int 0), (2, .int (xs 2)), (3, .int 2), (4, .int (xs 4)), (5, .int (xs 5))], [.int 1], x_h0, 0, 0)) rfl ?_
  refine x_R.steps 1 (c' := (7, [(0, .ref 75), (1, .int 0), (2, .int (xs 2)), (3, .int 2), (4, .int (xs 4)), (5, .int (xs 5))], [], x_h0, 0, 0)) rfl ?_
  refine x_R.steps 1 (c' := (8, [(0, .ref 75), (1, .int 0), (2, .int (xs 2)), (3, .int 2), (4, .int (xs 4)), (5, .int (xs 5))], [.int 2], x_h0, 0, 0)) rfl ?_
  refine x_R.call (a := 351) (vs := [.int 2]) (rest := []) (M' := M_cX12_isSlot) rfl rfl rfl ?_
  refine x_R.steps 4 (c' := (6, [(0, .int 2)], [.long 3, .long 0, .long 2], x_h0, 0, 0)) rfl ?_
  refine x_R.call (a := 196) (vs := [.long 2, .long 0, .long 3]) (rest := []) (M' := M_cX12_in) rfl rfl rfl ?_
  refine x_R.steps 3 (c' := (3, [(0, .long 2), (2, .long 0), (4, .long 3)], [.int 1], x_h0, 0, 0)) rfl ?_
  refine x_R.steps 1 (c' := (6, [(0, .long 2), (2, .long 0), (4, .long 3)], [], x_h0, 0, 0)) rfl ?_
  refine x_R.steps 3 (c' := (10, [(0, .long 2), (2, .long 0), (4, .long 3)], [.int (-1)], x_h0, 0, 0)) rfl ?_
  refine x_R.steps 1 (c' := (13, [(0, .long 2), (2, .long 0), (4, .long 3)], [], x_h0, 0, 0)) rfl ?_
  refine x_R.steps 2 (c' := (18, [(0, .long 2), (2, .long 0), (4, .long 3)], [.int 1], x_h0, 0, 0)) rfl ?_
  refine x_R.ret (v := some (.int 1)) rfl ?_
  refine x_R.steps 0 (c' := (9, [(0, .int 2)], [.int 1], x_h0, 0, 0)) rfl ?_
  refine x_R.ret (v := some (.int 1)) rfl ?_
  refine x_R.steps 0 (c' := (11, [(0, .ref 75), (1, .int 0), (2, .int (xs 2)), (3, .int 2), (4, .int (xs 4)), (5, .int (xs 5))], [.int 1], x_h0, 0, 0)) rfl ?_
  refine x_R.steps 1 (c' := (17, [(0, .ref 75), (1, .int 0), (2, .int (xs 2)), (3, .int 2), (4, .int (xs 4)), (5, .int (xs 5))], [], x_h0, 0, 0)) rfl ?_
  refine x_R.steps 3 (c' := (22, [(0, .ref 75), (1, .int 0), (2, .int (xs 2)), (3, .int 2), (4, .int (xs 4)), (5, .int (xs 5))], [.int 0, .ref 94], x_h0, 0, 0)) rfl ?_
  refine x_R.steps 1 (c' := (23, [(0, .ref 75), (1, .int 0), (2, .int (xs 2)), (3, .int 2), (4, .int (xs 4)), (5, .int (xs 5))], [.int (-1)], x_h0, 0, 0)) rfl ?_
  refine x_R.steps 1 (c' := (24, [(0, .ref 75), (1, .int 0), (2, .int (xs 2)), (3, .int 2), (4, .int (xs 4)), (5, .int (xs 5))], [.int (-1), .int (-1)], x_h0, 0, 0)) rfl ?_
  refine x_R.steps 1 (c' := (37, [(0, .ref 75), (1, .int 0), (2, .int (xs 2)), (3, .int 2), (4, .int (xs 4)), (5, .int (xs 5))], [], x_h0, 0, 0)) rfl ?_
  refine x_R.steps 1 (c' := (39, [(0, .ref 75), (1, .int 0), (2, .int (xs 2)), (3, .int 2), (4, .int (xs 4)), (5, .int (xs 5))], [.int (-6)], x_h0, 0, 0)) rfl ?_
  refine x_R.ret (v := some (.int (-6))) rfl ?_
  refine x_R.steps 0 (c' := (2365, [(3, .int 0), (2, .ref 75), (1, .ref 0), (0, .ref x_scr)], [.int (-6), .int (-6)], x_h0, 98, 10728)) rfl ?_
  refine x_R.steps 1 (c' := (2370, [(3, .int 0), (2, .ref 75), (1, .ref 0), (0, .ref x_scr)], [], x_h0, 98, 10728)) rfl ?_
  refine x_R.steps 7 (c' := (24, [(3, .int 6), (2, .ref 75), (1, .ref 0), (0, .ref x_scr)], [.int 0, .int 6], x_h0, 98, 10728)) rfl ?_
  refine x_R.steps 1 (c' := (2376, [(3, .int 6), (2, .ref 75), (1, .ref 0), (0, .ref x_scr)], [], x_h0, 98, 10728)) rfl ?_
  refine x_R.steps 1 (c' := (2377, [(3, .int 6), (2, .ref 75), (1, .ref 0), (0, .ref x_scr)], [.int 1], x_h0, 98, 10728)) rfl ?_
  exact x_R.ret (v := some (.int 1)) rfl x_fin
set_option maxRecDepth 100000 in
set_option maxHeartbeats 4000000 in
theorem x_c69_3 (xs : Nat → Int32)  : x_R x_mt (some (6, (x_ov 3 3 (x_ov 1 0 xs)))) 13 M_law (2307, [(3, .int 0), (2, .ref 75), (1, .ref 0), (0, .ref x_scr)], [], x_h0, 98, 10728) x_P := by
  refine x_R.steps 5 (c' := (2312, [(3, .int 0), (2, .ref 75), (1, .ref 0), (0, .ref x_scr)], [.int 1, .ref x_scr, .ref 0], x_h0, 98, 10728)) rfl ?_
  refine x_R.steps 1 (c' := (2313, [(3, .int 0), (2, .ref 75), (1, .ref 0), (0, .ref x_scr)], [.int 0, .ref 0], x_h0, 98, 10728)) rfl ?_
  refine x_R.steps 4 (c' := (2317, [(3, .int 0), (2, .ref 75), (1, .ref 0), (0, .ref x_scr)], [.int 2, .ref x_scr, .int 0, .ref 0], x_h0, 98, 10728)) rfl ?_
  refine x_R.steps 1 (c' := (2318, [(3, .int 0), (2, .ref 75), (1, .ref 0), (0, .ref x_scr)], [.int (xs 2), .int 0, .ref 0], x_h0, 98, 10728)) rfl ?_
  refine x_R.steps 4 (c' := (2322, [(3, .int 0), (2, .ref 75), (1, .ref 0), (0, .ref x_scr)], [.int 3, .ref x_scr, .int (xs 2), .int 0, .ref 0], x_h0, 98, 10728)) rfl ?_
  refine x_R.steps 1 (c' := (2323, [(3, .int 0), (2, .ref 75), (1, .ref 0), (0, .ref x_scr)], [.int 3, .int (xs 2), .int 0, .ref 0], x_h0, 98, 10728)) rfl ?_
  refine x_R.steps 4 (c' := (2327, [(3, .int 0), (2, .ref 75), (1, .ref 0), (0, .ref x_scr)], [.int 4, .ref x_scr, .int 3, .int (xs 2), .int 0, .ref 0], x_h0, 98, 10728)) rfl ?_
  refine x_R.steps 1 (c' := (2328, [(3, .int 0), (2, .ref 75), (1, .ref 0), (0, .ref x_scr)], [.int (xs 4), .int 3, .int (xs 2), .int 0, .ref 0], x_h0, 98, 10728)) rfl ?_
  refine x_R.steps 4 (c' := (2332, [(3, .int 0), (2, .ref 75), (1, .ref 0), (0, .ref x_scr)], [.int 5, .ref x_scr, .int (xs 4), .int 3, .int (xs 2), .int 0, .ref 0], x_h0, 98, 10728)) rfl ?_
  refine x_R.steps 1 (c' := (2333, [(3, .int 0), (2, .ref 75), (1, .ref 0), (0, .ref x_scr)], [.int (xs 5), .int (xs 4), .int 3, .int (xs 2), .int 0, .ref 0], x_h0, 98, 10728)) rfl ?_
  refine x_R.call (a := 181) (vs := [.ref 0, .int 0, .int (xs 2), .int 3, .int (xs 4), .int (xs 5)]) (rest := []) (M' := M_cX11_paste) rfl rfl rfl ?_
  refine x_R.steps 1 (c' := (1, [(0, .ref 0), (1, .int 0), (2, .int (xs 2)), (3, .int 3), (4, .int (xs 4)), (5, .int (xs 5))], [.int 0], x_h0, 0, 0)) rfl ?_
  refine x_R.call (a := 182) (vs := [.int 0]) (rest := []) (M' := M_cX11_isSlot) rfl rfl rfl ?_
  refine x_R.steps 1 (c' := (1, [(0, .int 0)], [.int 0], x_h0, 0, 0)) rfl ?_
  refine x_R.steps 1 (c' := (4, [(0, .int 0)], [], x_h0, 0, 0)) rfl ?_
  refine x_R.steps 2 (c' := (6, [(0, .int 0)], [.int 4, .int 0], x_h0, 0, 0)) rfl ?_
  refine x_R.steps 1 (c' := (9, [(0, .int 0)], [], x_h0, 0, 0)) rfl ?_
  refine x_R.steps 2 (c' := (14, [(0, .int 0)], [.int 1], x_h0, 0, 0)) rfl ?_
  refine x_R.ret (v := some (.int 1)) rfl ?_
  refine x_R.steps 0 (c' := (4, [(0, .ref 0), (1, .int 0), (2, .int (xs 2)), (3, .int 3), (4, .int (xs 4)), (5, .int (xs 5))], [.int 1], x_h0, 0, 0)) rfl ?_
  refine x_R.steps 1 (c' := (7, [(0, .ref 0), (1, .int 0), (2, .int (xs 2)), (3, .int 3), (4, .int (xs 4)), (5, .int (xs 5))], [], x_h0, 0, 0)) rfl ?_
  refine x_R.steps 1 (c' := (8, [(0, .ref 0), (1, .int 0), (2, .int (xs 2)), (3, .int 3), (4, .int (xs 4)), (5, .int (xs 5))], [.int 3], x_h0, 0, 0)) rfl ?_
  refine x_R.call (a := 182) (vs := [.int 3]) (rest := []) (M' := M_cX11_isSlot) rfl rfl rfl ?_
  refine x_R.steps 1 (c' := (1, [(0, .int 3)], [.int 3], x_h0, 0, 0)) rfl ?_
  refine x_R.steps 1 (c' := (4, [(0, .int 3)], [], x_h0, 0, 0)) rfl ?_
  refine x_R.steps 2 (c' := (6, [(0, .int 3)], [.int 4, .int 3], x_h0, 0, 0)) rfl ?_
  refine x_R.steps 1 (c' := (9, [(0, .int 3)], [], x_h0, 0, 0)) rfl ?_
  refine x_R.steps 2 (c' := (14, [(0, .int 3)], [.int 1], x_h0, 0, 0)) rfl ?_
  refine x_R.ret (v := some (.int 1)) rfl ?_
  refine x_R.steps 0 (c' := (11, [(0, .ref 0), (1, .int 0), (2, .int (xs 2)), (3, .int 3), (4, .int (xs 4)), (5, .int (xs 5))], [.int 1], x_h0, 0, 0)) rfl ?_
  refine x_R.steps 1 (c' := (17, [(0, .ref 0), (1, .int 0), (2, .int (xs 2)), (3, .int 3), (4, .int (xs 4)), (5, .int (xs 5))], [], x_h0, 0, 0)) rfl ?_
  refine x_R.steps 3 (c' := (22, [(0, .ref 0), (1, .int 0), (2, .int (xs 2)), (3, .int 3), (4, .int (xs 4)), (5, .int (xs 5))], [.int 0, .ref 42], x_h0, 0, 0)) rfl ?_
  refine x_R.steps 1 (c' := (23, [(0, .ref 0), (1, .int 0), (2, .int (xs 2)), (3, .int 3), (4, .int (xs 4)), (5, .int (xs 5))], [.ref 67], x_h0, 0, 0)) rfl ?_
  refine x_R.steps 4 (c' := (30, [(6, .ref 67), (0, .ref 0), (1, .int 0), (2, .int (xs 2)), (3, .int 3), (4, .int (xs 4)), (5, .int (xs 5))], [.int 3, .ref 42], x_h0, 0, 0)) rfl ?_
  refine x_R.steps 1 (c' := (31, [(6, .ref 67), (0, .ref 0), (1, .int 0), (2, .int (xs 2)), (3, .int 3), (4, .int (xs 4)), (5, .int (xs 5))], [.ref 73], x_h0, 0, 0)) rfl ?_
  refine x_R.steps 2 (c' := (35, [(7, .ref 73), (6, .ref 67), (0, .ref 0), (1, .int 0), (2, .int (xs 2)), (3, .int 3), (4, .int (xs 4)), (5, .int (xs 5))], [.ref 67], x_h0, 0, 0)) rfl ?_
  refine x_R.call (a := 91) (vs := [.ref 67]) (rest := []) (M' := M_cX8_isMade) rfl rfl rfl ?_
  refine x_R.steps 2 (c' := (4, [(0, .ref 67)], [.int (-1)], x_h0, 0, 0)) rfl ?_
  refine x_R.steps 1 (c' := (11, [(0, .ref 67)], [], x_h0, 0, 0)) rfl ?_
  refine x_R.steps 1 (c' := (12, [(0, .ref 67)], [.int 0], x_h0, 0, 0)) rfl ?_
  refine x_R.ret (v := some (.int 0)) rfl ?_
  refine x_R.steps 0 (c' := (38, [(7, .ref 73), (6, .ref 67), (0, .ref 0), (1, .int 0), (2, .int (xs 2)), (3, .int 3), (4, .int (xs 4)), (5, .int (xs 5))], [.int 0], x_h0, 0, 0)) rfl ?_
  refine x_R.steps 1 (c' := (49, [(7, .ref 73), (6, .ref 67), (0, .ref 0), (1, .int 0), (2, .int (xs 2)), (3, .int 3), (4, .int (xs 4)), (5, .int (xs 5))], [], x_h0, 0, 0)) rfl ?_
  refine x_R.steps 1 (c' := (51, [(7, .ref 73), (6, .ref 67), (0, .ref 0), (1, .int 0), (2, .int (xs 2)), (3, .int 3), (4, .int (xs 4)), (5, .int (xs 5))], [.int (-6)], x_h0, 0, 0)) rfl ?_
  refine x_R.ret (v := some (.int (-6))) rfl ?_
  refine x_R.steps 0 (c' := (2336, [(3, .int 0), (2, .ref 75), (1, .ref 0), (0, .ref x_scr)], [.int (-6)], x_h0, 98, 10728)) rfl ?_
  refine x_R.steps 5 (c' := (2341, [(3, .int 0), (2, .ref 75), (1, .ref 0), (0, .ref x_scr)], [.int 1, .ref x_scr, .ref 75, .int (-6)], x_h0, 98, 10728)) rfl ?_
  refine x_R.steps 1 (c' := (2342, [(3, .int 0), (2, .ref 75), (1, .ref 0), (0, .ref x_scr)], [.int 0, .ref 75, .int (-6)], x_h0, 98, 10728)) rfl ?_
  refine x_R.steps 4 (c' := (2346, [(3, .int 0), (2, .ref 75), (1, .ref 0), (0, .ref x_scr)], [.int 2, .ref x_scr, .int 0, .ref 75, .int (-6)], x_h0, 98, 10728)) rfl ?_
  refine x_R.steps 1 (c' := (2347, [(3, .int 0), (2, .ref 75), (1, .ref 0), (0, .ref x_scr)], [.int (xs 2), .int 0, .ref 75, .int (-6)], x_h0, 98, 10728)) rfl ?_
  refine x_R.steps 4 (c' := (2351, [(3, .int 0), (2, .ref 75), (1, .ref 0), (0, .ref x_scr)], [.int 3, .ref x_scr, .int (xs 2), .int 0, .ref 75, .int (-6)], x_h0, 98, 10728)) rfl ?_
  refine x_R.steps 1 (c' := (2352, [(3, .int 0), (2, .ref 75), (1, .ref 0), (0, .ref x_scr)], [.int 3, .int (xs 2), .int 0, .ref 75, .int (-6)], x_h0, 98, 10728)) rfl ?_
  refine x_R.steps 4 (c' := (2356, [(3, .int 0), (2, .ref 75), (1, .ref 0), (0, .ref x_scr)], [.int 4, .ref x_scr, .int 3, .int (xs 2), .int 0, .ref 75, .int (-6)], x_h0, 98, 10728)) rfl ?_
  refine x_R.steps 1 (c' := (2357, [(3, .int 0), (2, .ref 75), (1, .ref 0), (0, .ref x_scr)], [.int (xs 4), .int 3, .int (xs 2), .int 0, .ref 75, .int (-6)], x_h0, 98, 10728)) rfl ?_
  refine x_R.steps 4 (c' := (2361, [(3, .int 0), (2, .ref 75), (1, .ref 0), (0, .ref x_scr)], [.int 5, .ref x_scr, .int (xs 4), .int 3, .int (xs 2), .int 0, .ref 75, .int (-6)], x_h0, 98, 10728)) rfl ?_
  refine x_R.steps 1 (c' := (2362, [(3, .int 0), (2, .ref 75), (1, .ref 0), (0, .ref x_scr)], [.int (xs 5), .int (xs 4), .int 3, .int (xs 2), .int 0, .ref 75, .int (-6)], x_h0, 98, 10728)) rfl ?_
  refine x_R.call (a := 355) (vs := [.ref 75, .int 0, .int (xs 2), .int 3, .int (xs 4), .int (xs 5)]) (rest := [.int (-6)]) (M' := M_cX12_paste) rfl rfl rfl ?_
  refine x_R.steps 1 (c' := (1, [(0, .ref 75), (1, .int 0), (2, .int (xs 2)), (3, .int 3), (4, .int (xs 4)), (5, .int (xs 5))], [.int 0], x_h0, 0, 0)) rfl ?_
  refine x_R.call (a := 351) (vs := [.int 0]) (rest := []) (M' := M_cX12_isSlot) rfl rfl rfl ?_
  refine x_R.steps 4 (c' := (6, [(0, .int 0)], [.long 3, .long 0, .long 0], x_h0, 0, 0)) rfl ?_
  refine x_R.call (a := 196) (vs := [.long 0, .long 0, .long 3]) (rest := []) (M' := M_cX12_in) rfl rfl rfl ?_
  refine x_R.steps 3 (c' := (3, [(0, .long 0), (2, .long 0), (4, .long 3)], [.int 0], x_h0, 0, 0)) rfl ?_
  refine x_R.steps 1 (c' := (6, [(0, .long 0), (2, .long 0), (4, .long 3)], [], x_h0, 0, 0)) rfl ?_
  refine x_R.steps 3 (c' := (10, [(0, .long 0), (2, .long 0), (4, .long 3)], [.int (-1)], x_h0, 0, 0)) rfl ?_
  refine x_R.steps 1 (c' := (13, [(0, .long 0), (2, .long 0), (4, .long 3)], [], x_h0, 0, 0)) rfl ?_
  refine x_R.steps 2 (c' := (18, [(0, .long 0), (2, .long 0), (4, .long 3)], [.int 1], x_h0, 0, 0)) rfl ?_
  refine x_R.ret (v := some (.int 1)) rfl ?_
  refine x_R.steps 0 (c' := (9, [(0, .int 0)], [.int 1], x_h0, 0, 0)) rfl ?_
  refine x_R.ret (v := some (.int 1)) rfl ?_
  refine x_R.steps 0 (c' := (4, [(0, .ref 75), (1, .int 0), (2, .int (xs 2)), (3, .int 3), (4, .int (xs 4)), (5, .int (xs 5))], [.int 1], x_h0, 0, 0)) rfl ?_
  refine x_R.steps 1 (c' := (7, [(0, .ref 75), (1, .int 0), (2, .int (xs 2)), (3, .int 3), (4, .int (xs 4)), (5, .int (xs 5))], [], x_h0, 0, 0)) rfl ?_
  refine x_R.steps 1 (c' := (8, [(0, .ref 75), (1, .int 0), (2, .int (xs 2)), (3, .int 3), (4, .int (xs 4)), (5, .int (xs 5))], [.int 3], x_h0, 0, 0)) rfl ?_
  refine x_R.call (a := 351) (vs := [.int 3]) (rest := []) (M' := M_cX12_isSlot) rfl rfl rfl ?_
  refine x_R.steps 4 (c' := (6, [(0, .int 3)], [.long 3, .long 0, .long 3], x_h0, 0, 0)) rfl ?_
  refine x_R.call (a := 196) (vs := [.long 3, .long 0, .long 3]) (rest := []) (M' := M_cX12_in) rfl rfl rfl ?_
  refine x_R.steps 3 (c' := (3, [(0, .long 3), (2, .long 0), (4, .long 3)], [.int 1], x_h0, 0, 0)) rfl ?_
  refine x_R.steps 1 (c' := (6, [(0, .long 3), (2, .long 0), (4, .long 3)], [], x_h0, 0, 0)) rfl ?_
  refine x_R.steps 3 (c' := (10, [(0, .long 3), (2, .long 0), (4, .long 3)], [.int 0], x_h0, 0, 0)) rfl ?_
  refine x_R.steps 1 (c' := (13, [(0, .long 3), (2, .long 0), (4, .long 3)], [], x_h0, 0, 0)) rfl ?_
  refine x_R.steps 2 (c' := (18, [(0, .long 3), (2, .long 0), (4, .long 3)], [.int 1], x_h0, 0, 0)) rfl ?_
  refine x_R.ret (v := some (.int 1)) rfl ?_
  refine x_R.steps 0 (c' := (9, [(0, .int 3)], [.int 1], x_h0, 0, 0)) rfl ?_
  refine x_R.ret (v := some (.int 1)) rfl ?_
  refine x_R.steps 0 (c' := (11, [(0, .ref 75), (1, .int 0), (2, .int (xs 2)), (3, .int 3), (4, .int (xs 4)), (5, .int (xs 5))], [.int 1], x_h0, 0, 0)) rfl ?_
  refine x_R.steps 1 (c' := (17, [(0, .ref 75), (1, .int 0), (2, .int (xs 2)), (3, .int 3), (4, .int (xs 4)), (5, .int (xs 5))], [], x_h0, 0, 0)) rfl ?_
  refine x_R.steps 3 (c' := (22, [(0, .ref 75), (1, .int 0), (2, .int (xs 2)), (3, .int 3), (4, .int (xs 4)), (5, .int (xs 5))], [.int 0, .ref 94], x_h0, 0, 0)) rfl ?_
  refine x_R.steps 1 (c' := (23, [(0, .ref 75), (1, .int 0), (2, .int (xs 2)), (3, .int 3), (4, .int (xs 4)), (5, .int (xs 5))], [.int (-1)], x_h0, 0, 0)) rfl ?_
  refine x_R.steps 1 (c' := (24, [(0, .ref 75), (1, .int 0), (2, .int (xs 2)), (3, .int 3), (4, .int (xs 4)), (5, .int (xs 5))], [.int (-1), .int (-1)], x_h0, 0, 0)) rfl ?_
  refine x_R.steps 1 (c' := (37, [(0, .ref 75), (1, .int 0), (2, .int (xs 2)), (3, .int 3), (4, .int (xs 4)), (5, .int (xs 5))], [], x_h0, 0, 0)) rfl ?_
  refine x_R.steps 1 (c' := (39, [(0, .ref 75), (1, .int 0), (2, .int (xs 2)), (3, .int 3), (4, .int (xs 4)), (5, .int (xs 5))], [.int (-6)], x_h0, 0, 0)) rfl ?_
  refine x_R.ret (v := some (.int (-6))) rfl ?_
  refine x_R.steps 0 (c' := (2365, [(3, .int 0), (2, .ref 75), (1, .ref 0), (0, .ref x_scr)], [.int (-6), .int (-6)], x_h0, 98, 10728)) rfl ?_
  refine x_R.steps 1 (c' := (2370, [(3, .int 0), (2, .ref 75), (1, .ref 0), (0, .ref x_scr)], [], x_h0, 98, 10728)) rfl ?_
  refine x_R.steps 7 (c' := (24, [(3, .int 6), (2, .ref 75), (1, .ref 0), (0, .ref x_scr)], [.int 0, .int 6], x_h0, 98, 10728)) rfl ?_
  refine x_R.steps 1 (c' := (2376, [(3, .int 6), (2, .ref 75), (1, .ref 0), (0, .ref x_scr)], [], x_h0, 98, 10728)) rfl ?_
  refine x_R.steps 1 (c' := (2377, [(3, .int 6), (2, .ref 75), (1, .ref 0), (0, .ref x_scr)], [.int 1], x_h0, 98, 10728)) rfl ?_
  exact x_R.ret (v := some (.int 1)) rfl x_fin
set_option maxRecDepth 100000 in
set_option maxHeartbeats 4000000 in
theorem x_c69_4 (xs : Nat → Int32) (f0 : (xs 3).toInt < 0) : x_R x_mt (some (6, (x_ov 1 0 xs))) 13 M_law (2307, [(3, .int 0), (2, .ref 75), (1, .ref 0), (0, .ref x_scr)], [], x_h0, 98, 10728) x_P := by
  refine x_R.steps 5 (c' := (2312, [(3, .int 0), (2, .ref 75), (1, .ref 0), (0, .ref x_scr)], [.int 1, .ref x_scr, .ref 0], x_h0, 98, 10728)) rfl ?_
  refine x_R.steps 1 (c' := (2313, [(3, .int 0), (2, .ref 75), (1, .ref 0), (0, .ref x_scr)], [.int 0, .ref 0], x_h0, 98, 10728)) rfl ?_
  refine x_R.steps 4 (c' := (2317, [(3, .int 0), (2, .ref 75), (1, .ref 0), (0, .ref x_scr)], [.int 2, .ref x_scr, .int 0, .ref 0], x_h0, 98, 10728)) rfl ?_
  refine x_R.steps 1 (c' := (2318, [(3, .int 0), (2, .ref 75), (1, .ref 0), (0, .ref x_scr)], [.int (xs 2), .int 0, .ref 0], x_h0, 98, 10728)) rfl ?_
  refine x_R.steps 4 (c' := (2322, [(3, .int 0), (2, .ref 75), (1, .ref 0), (0, .ref x_scr)], [.int 3, .ref x_scr, .int (xs 2), .int 0, .ref 0], x_h0, 98, 10728)) rfl ?_
  refine x_R.steps 1 (c' := (2323, [(3, .int 0), (2, .ref 75), (1, .ref 0), (0, .ref x_scr)], [.int (xs 3), .int (xs 2), .int 0, .ref 0], x_h0, 98, 10728)) rfl ?_
  refine x_R.steps 4 (c' := (2327, [(3, .int 0), (2, .ref 75), (1, .ref 0), (0, .ref x_scr)], [.int 4, .ref x_scr, .int (xs 3), .int (xs 2), .int 0, .ref 0], x_h0, 98, 10728)) rfl ?_
  refine x_R.steps 1 (c' := (2328, [(3, .int 0), (2, .ref 75), (1, .ref 0), (0, .ref x_scr)], [.int (xs 4), .int (xs 3), .int (xs 2), .int 0, .ref 0], x_h0, 98, 10728)) rfl ?_
  refine x_R.steps 4 (c' := (2332, [(3, .int 0), (2, .ref 75), (1, .ref 0), (0, .ref x_scr)], [.int 5, .ref x_scr, .int (xs 4), .int (xs 3), .int (xs 2), .int 0, .ref 0], x_h0, 98, 10728)) rfl ?_
  refine x_R.steps 1 (c' := (2333, [(3, .int 0), (2, .ref 75), (1, .ref 0), (0, .ref x_scr)], [.int (xs 5), .int (xs 4), .int (xs 3), .int (xs 2), .int 0, .ref 0], x_h0, 98, 10728)) rfl ?_
  refine x_R.call (a := 181) (vs := [.ref 0, .int 0, .int (xs 2), .int (xs 3), .int (xs 4), .int (xs 5)]) (rest := []) (M' := M_cX11_paste) rfl rfl rfl ?_
  refine x_R.steps 1 (c' := (1, [(0, .ref 0), (1, .int 0), (2, .int (xs 2)), (3, .int (xs 3)), (4, .int (xs 4)), (5, .int (xs 5))], [.int 0], x_h0, 0, 0)) rfl ?_
  refine x_R.call (a := 182) (vs := [.int 0]) (rest := []) (M' := M_cX11_isSlot) rfl rfl rfl ?_
  refine x_R.steps 1 (c' := (1, [(0, .int 0)], [.int 0], x_h0, 0, 0)) rfl ?_
  refine x_R.steps 1 (c' := (4, [(0, .int 0)], [], x_h0, 0, 0)) rfl ?_
  refine x_R.steps 2 (c' := (6, [(0, .int 0)], [.int 4, .int 0], x_h0, 0, 0)) rfl ?_
  refine x_R.steps 1 (c' := (9, [(0, .int 0)], [], x_h0, 0, 0)) rfl ?_
  refine x_R.steps 2 (c' := (14, [(0, .int 0)], [.int 1], x_h0, 0, 0)) rfl ?_
  refine x_R.ret (v := some (.int 1)) rfl ?_
  refine x_R.steps 0 (c' := (4, [(0, .ref 0), (1, .int 0), (2, .int (xs 2)), (3, .int (xs 3)), (4, .int (xs 4)), (5, .int (xs 5))], [.int 1], x_h0, 0, 0)) rfl ?_
  refine x_R.steps 1 (c' := (7, [(0, .ref 0), (1, .int 0), (2, .int (xs 2)), (3, .int (xs 3)), (4, .int (xs 4)), (5, .int (xs 5))], [], x_h0, 0, 0)) rfl ?_
  refine x_R.steps 1 (c' := (8, [(0, .ref 0), (1, .int 0), (2, .int (xs 2)), (3, .int (xs 3)), (4, .int (xs 4)), (5, .int (xs 5))], [.int (xs 3)], x_h0, 0, 0)) rfl ?_
  refine x_R.call (a := 182) (vs := [.int (xs 3)]) (rest := []) (M' := M_cX11_isSlot) rfl rfl rfl ?_
  refine x_R.steps 1 (c' := (1, [(0, .int (xs 3))], [.int (xs 3)], x_h0, 0, 0)) rfl ?_
  refine x_R.ite (p := (xs 3) < (0 : Int32)) (c1 := (13, [(0, .int (xs 3))], [], x_h0, 0, 0)) (c2 := (4, [(0, .int (xs 3))], [], x_h0, 0, 0)) rfl (fun h1 => ?_) (fun h1 => ?_)
  · have g1 := (x_i_lt (C := 0) (by decide)).mp h1
    refine x_R.steps 1 (c' := (14, [(0, .int (xs 3))], [.int 0], x_h0, 0, 0)) rfl ?_
    refine x_R.ret (v := some (.int 0)) rfl ?_
    refine x_R.steps 0 (c' := (11, [(0, .ref 0), (1, .int 0), (2, .int (xs 2)), (3, .int (xs 3)), (4, .int (xs 4)), (5, .int (xs 5))], [.int 0], x_h0, 0, 0)) rfl ?_
    refine x_R.steps 1 (c' := (14, [(0, .ref 0), (1, .int 0), (2, .int (xs 2)), (3, .int (xs 3)), (4, .int (xs 4)), (5, .int (xs 5))], [], x_h0, 0, 0)) rfl ?_
    refine x_R.steps 1 (c' := (16, [(0, .ref 0), (1, .int 0), (2, .int (xs 2)), (3, .int (xs 3)), (4, .int (xs 4)), (5, .int (xs 5))], [.int (-2)], x_h0, 0, 0)) rfl ?_
    refine x_R.ret (v := some (.int (-2))) rfl ?_
    refine x_R.steps 0 (c' := (2336, [(3, .int 0), (2, .ref 75), (1, .ref 0), (0, .ref x_scr)], [.int (-2)], x_h0, 98, 10728)) rfl ?_
    refine x_R.steps 5 (c' := (2341, [(3, .int 0), (2, .ref 75), (1, .ref 0), (0, .ref x_scr)], [.int 1, .ref x_scr, .ref 75, .int (-2)], x_h0, 98, 10728)) rfl ?_
    refine x_R.steps 1 (c' := (2342, [(3, .int 0), (2, .ref 75), (1, .ref 0), (0, .ref x_scr)], [.int 0, .ref 75, .int (-2)], x_h0, 98, 10728)) rfl ?_
    refine x_R.steps 4 (c' := (2346, [(3, .int 0), (2, .ref 75), (1, .ref 0), (0, .ref x_scr)], [.int 2, .ref x_scr, .int 0, .ref 75, .int (-2)], x_h0, 98, 10728)) rfl ?_
    refine x_R.steps 1 (c' := (2347, [(3, .int 0), (2, .ref 75), (1, .ref 0), (0, .ref x_scr)], [.int (xs 2), .int 0, .ref 75, .int (-2)], x_h0, 98, 10728)) rfl ?_
    refine x_R.steps 4 (c' := (2351, [(3, .int 0), (2, .ref 75), (1, .ref 0), (0, .ref x_scr)], [.int 3, .ref x_scr, .int (xs 2), .int 0, .ref 75, .int (-2)], x_h0, 98, 10728)) rfl ?_
    refine x_R.steps 1 (c' := (2352, [(3, .int 0), (2, .ref 75), (1, .ref 0), (0, .ref x_scr)], [.int (xs 3), .int (xs 2), .int 0, .ref 75, .int (-2)], x_h0, 98, 10728)) rfl ?_
    refine x_R.steps 4 (c' := (2356, [(3, .int 0), (2, .ref 75), (1, .ref 0), (0, .ref x_scr)], [.int 4, .ref x_scr, .int (xs 3), .int (xs 2), .int 0, .ref 75, .int (-2)], x_h0, 98, 10728)) rfl ?_
    refine x_R.steps 1 (c' := (2357, [(3, .int 0), (2, .ref 75), (1, .ref 0), (0, .ref x_scr)], [.int (xs 4), .int (xs 3), .int (xs 2), .int 0, .ref 75, .int (-2)], x_h0, 98, 10728)) rfl ?_
    refine x_R.steps 4 (c' := (2361, [(3, .int 0), (2, .ref 75), (1, .ref 0), (0, .ref x_scr)], [.int 5, .ref x_scr, .int (xs 4), .int (xs 3), .int (xs 2), .int 0, .ref 75, .int (-2)], x_h0, 98, 10728)) rfl ?_
    refine x_R.steps 1 (c' := (2362, [(3, .int 0), (2, .ref 75), (1, .ref 0), (0, .ref x_scr)], [.int (xs 5), .int (xs 4), .int (xs 3), .int (xs 2), .int 0, .ref 75, .int (-2)], x_h0, 98, 10728)) rfl ?_
    refine x_R.call (a := 355) (vs := [.ref 75, .int 0, .int (xs 2), .int (xs 3), .int (xs 4), .int (xs 5)]) (rest := [.int (-2)]) (M' := M_cX12_paste) rfl rfl rfl ?_
    refine x_R.steps 1 (c' := (1, [(0, .ref 75), (1, .int 0), (2, .int (xs 2)), (3, .int (xs 3)), (4, .int (xs 4)), (5, .int (xs 5))], [.int 0], x_h0, 0, 0)) rfl ?_
    refine x_R.call (a := 351) (vs := [.int 0]) (rest := []) (M' := M_cX12_isSlot) rfl rfl rfl ?_
    refine x_R.steps 4 (c' := (6, [(0, .int 0)], [.long 3, .long 0, .long 0], x_h0, 0, 0)) rfl ?_
    refine x_R.call (a := 196) (vs := [.long 0, .long 0, .long 3]) (rest := []) (M' := M_cX12_in) rfl rfl rfl ?_
    refine x_R.steps 3 (c' := (3, [(0, .long 0), (2, .long 0), (4, .long 3)], [.int 0], x_h0, 0, 0)) rfl ?_
    refine x_R.steps 1 (c' := (6, [(0, .long 0), (2, .long 0), (4, .long 3)], [], x_h0, 0, 0)) rfl ?_
    refine x_R.steps 3 (c' := (10, [(0, .long 0), (2, .long 0), (4, .long 3)], [.int (-1)], x_h0, 0, 0)) rfl ?_
    refine x_R.steps 1 (c' := (13, [(0, .long 0), (2, .long 0), (4, .long 3)], [], x_h0, 0, 0)) rfl ?_
    refine x_R.steps 2 (c' := (18, [(0, .long 0), (2, .long 0), (4, .long 3)], [.int 1], x_h0, 0, 0)) rfl ?_
    refine x_R.ret (v := some (.int 1)) rfl ?_
    refine x_R.steps 0 (c' := (9, [(0, .int 0)], [.int 1], x_h0, 0, 0)) rfl ?_
    refine x_R.ret (v := some (.int 1)) rfl ?_
    refine x_R.steps 0 (c' := (4, [(0, .ref 75), (1, .int 0), (2, .int (xs 2)), (3, .int (xs 3)), (4, .int (xs 4)), (5, .int (xs 5))], [.int 1], x_h0, 0, 0)) rfl ?_
    refine x_R.steps 1 (c' := (7, [(0, .ref 75), (1, .int 0), (2, .int (xs 2)), (3, .int (xs 3)), (4, .int (xs 4)), (5, .int (xs 5))], [], x_h0, 0, 0)) rfl ?_
    refine x_R.steps 1 (c' := (8, [(0, .ref 75), (1, .int 0), (2, .int (xs 2)), (3, .int (xs 3)), (4, .int (xs 4)), (5, .int (xs 5))], [.int (xs 3)], x_h0, 0, 0)) rfl ?_
    refine x_R.call (a := 351) (vs := [.int (xs 3)]) (rest := []) (M' := M_cX12_isSlot) rfl rfl rfl ?_
    refine x_R.steps 4 (c' := (6, [(0, .int (xs 3))], [.long 3, .long 0, .long ((xs 3)).toInt64], x_h0, 0, 0)) rfl ?_
    refine x_R.call (a := 196) (vs := [.long ((xs 3)).toInt64, .long 0, .long 3]) (rest := []) (M' := M_cX12_in) rfl rfl rfl ?_
    refine x_R.steps 3 (c' := (3, [(0, .long ((xs 3)).toInt64), (2, .long 0), (4, .long 3)], [.int (lg_cmp ((xs 3)).toInt64 0)], x_h0, 0, 0)) rfl ?_
    refine x_R.ite (p := (lg_cmp ((xs 3)).toInt64 0) < (0 : Int32)) (c1 := (17, [(0, .long ((xs 3)).toInt64), (2, .long 0), (4, .long 3)], [], x_h0, 0, 0)) (c2 := (6, [(0, .long ((xs 3)).toInt64), (2, .long 0), (4, .long 3)], [], x_h0, 0, 0)) rfl (fun h2 => ?_) (fun h2 => ?_)
    · have g2 := (x_lg_lt (C := 0) (by decide)).mp h2
      refine x_R.steps 1 (c' := (18, [(0, .long ((xs 3)).toInt64), (2, .long 0), (4, .long 3)], [.int 0], x_h0, 0, 0)) rfl ?_
      refine x_R.ret (v := some (.int 0)) rfl ?_
      refine x_R.steps 0 (c' := (9, [(0, .int (xs 3))], [.int 0], x_h0, 0, 0)) rfl ?_
      refine x_R.ret (v := some (.int 0)) rfl ?_
      refine x_R.steps 0 (c' := (11, [(0, .ref 75), (1, .int 0), (2, .int (xs 2)), (3, .int (xs 3)), (4, .int (xs 4)), (5, .int (xs 5))], [.int 0], x_h0, 0, 0)) rfl ?_
      refine x_R.steps 1 (c' := (14, [(0, .ref 75), (1, .int 0), (2, .int (xs 2)), (3, .int (xs 3)), (4, .int (xs 4)), (5, .int (xs 5))], [], x_h0, 0, 0)) rfl ?_
      refine x_R.steps 1 (c' := (16, [(0, .ref 75), (1, .int 0), (2, .int (xs 2)), (3, .int (xs 3)), (4, .int (xs 4)), (5, .int (xs 5))], [.int (-2)], x_h0, 0, 0)) rfl ?_
      refine x_R.ret (v := some (.int (-2))) rfl ?_
      refine x_R.steps 0 (c' := (2365, [(3, .int 0), (2, .ref 75), (1, .ref 0), (0, .ref x_scr)], [.int (-2), .int (-2)], x_h0, 98, 10728)) rfl ?_
      refine x_R.steps 1 (c' := (2370, [(3, .int 0), (2, .ref 75), (1, .ref 0), (0, .ref x_scr)], [], x_h0, 98, 10728)) rfl ?_
      refine x_R.steps 7 (c' := (24, [(3, .int 6), (2, .ref 75), (1, .ref 0), (0, .ref x_scr)], [.int 0, .int 6], x_h0, 98, 10728)) rfl ?_
      refine x_R.steps 1 (c' := (2376, [(3, .int 6), (2, .ref 75), (1, .ref 0), (0, .ref x_scr)], [], x_h0, 98, 10728)) rfl ?_
      refine x_R.steps 1 (c' := (2377, [(3, .int 6), (2, .ref 75), (1, .ref 0), (0, .ref x_scr)], [.int 1], x_h0, 98, 10728)) rfl ?_
      exact x_R.ret (v := some (.int 1)) rfl x_fin
    · have g2 := mt (x_lg_lt (C := 0) (by decide)).mpr h2
      exfalso; omega
  · have g1 := mt (x_i_lt (C := 0) (by decide)).mpr h1
    exfalso; omega
set_option maxRecDepth 100000 in
set_option maxHeartbeats 4000000 in
theorem x_c69_5 (xs : Nat → Int32) (f0 : (xs 3).toInt > 3) : x_R x_mt (some (6, (x_ov 1 0 xs))) 13 M_law (2307, [(3, .int 0), (2, .ref 75), (1, .ref 0), (0, .ref x_scr)], [], x_h0, 98, 10728) x_P := by
  refine x_R.steps 5 (c' := (2312, [(3, .int 0), (2, .ref 75), (1, .ref 0), (0, .ref x_scr)], [.int 1, .ref x_scr, .ref 0], x_h0, 98, 10728)) rfl ?_
  refine x_R.steps 1 (c' := (2313, [(3, .int 0), (2, .ref 75), (1, .ref 0), (0, .ref x_scr)], [.int 0, .ref 0], x_h0, 98, 10728)) rfl ?_
  refine x_R.steps 4 (c' := (2317, [(3, .int 0), (2, .ref 75), (1, .ref 0), (0, .ref x_scr)], [.int 2, .ref x_scr, .int 0, .ref 0], x_h0, 98, 10728)) rfl ?_
  refine x_R.steps 1 (c' := (2318, [(3, .int 0), (2, .ref 75), (1, .ref 0), (0, .ref x_scr)], [.int (xs 2), .int 0, .ref 0], x_h0, 98, 10728)) rfl ?_
  refine x_R.steps 4 (c' := (2322, [(3, .int 0), (2, .ref 75), (1, .ref 0), (0, .ref x_scr)], [.int 3, .ref x_scr, .int (xs 2), .int 0, .ref 0], x_h0, 98, 10728)) rfl ?_
  refine x_R.steps 1 (c' := (2323, [(3, .int 0), (2, .ref 75), (1, .ref 0), (0, .ref x_scr)], [.int (xs 3), .int (xs 2), .int 0, .ref 0], x_h0, 98, 10728)) rfl ?_
  refine x_R.steps 4 (c' := (2327, [(3, .int 0), (2, .ref 75), (1, .ref 0), (0, .ref x_scr)], [.int 4, .ref x_scr, .int (xs 3), .int (xs 2), .int 0, .ref 0], x_h0, 98, 10728)) rfl ?_
  refine x_R.steps 1 (c' := (2328, [(3, .int 0), (2, .ref 75), (1, .ref 0), (0, .ref x_scr)], [.int (xs 4), .int (xs 3), .int (xs 2), .int 0, .ref 0], x_h0, 98, 10728)) rfl ?_
  refine x_R.steps 4 (c' := (2332, [(3, .int 0), (2, .ref 75), (1, .ref 0), (0, .ref x_scr)], [.int 5, .ref x_scr, .int (xs 4), .int (xs 3), .int (xs 2), .int 0, .ref 0], x_h0, 98, 10728)) rfl ?_
  refine x_R.steps 1 (c' := (2333, [(3, .int 0), (2, .ref 75), (1, .ref 0), (0, .ref x_scr)], [.int (xs 5), .int (xs 4), .int (xs 3), .int (xs 2), .int 0, .ref 0], x_h0, 98, 10728)) rfl ?_
  refine x_R.call (a := 181) (vs := [.ref 0, .int 0, .int (xs 2), .int (xs 3), .int (xs 4), .int (xs 5)]) (rest := []) (M' := M_cX11_paste) rfl rfl rfl ?_
  refine x_R.steps 1 (c' := (1, [(0, .ref 0), (1, .int 0), (2, .int (xs 2)), (3, .int (xs 3)), (4, .int (xs 4)), (5, .int (xs 5))], [.int 0], x_h0, 0, 0)) rfl ?_
  refine x_R.call (a := 182) (vs := [.int 0]) (rest := []) (M' := M_cX11_isSlot) rfl rfl rfl ?_
  refine x_R.steps 1 (c' := (1, [(0, .int 0)], [.int 0], x_h0, 0, 0)) rfl ?_
  refine x_R.steps 1 (c' := (4, [(0, .int 0)], [], x_h0, 0, 0)) rfl ?_
  refine x_R.steps 2 (c' := (6, [(0, .int 0)], [.int 4, .int 0], x_h0, 0, 0)) rfl ?_
  refine x_R.steps 1 (c' := (9, [(0, .int 0)], [], x_h0, 0, 0)) rfl ?_
  refine x_R.steps 2 (c' := (14, [(0, .int 0)], [.int 1], x_h0, 0, 0)) rfl ?_
  refine x_R.ret (v := some (.int 1)) rfl ?_
  refine x_R.steps 0 (c' := (4, [(0, .ref 0), (1, .int 0), (2, .int (xs 2)), (3, .int (xs 3)), (4, .int (xs 4)), (5, .int (xs 5))], [.int 1], x_h0, 0, 0)) rfl ?_
  refine x_R.steps 1 (c' := (7, [(0, .ref 0), (1, .int 0), (2, .int (xs 2)), (3, .int (xs 3)), (4, .int (xs 4)), (5, .int (xs 5))], [], x_h0, 0, 0)) rfl ?_
  refine x_R.steps 1 (c' := (8, [(0, .ref 0), (1, .int 0), (2, .int (xs 2)), (3, .int (xs 3)), (4, .int (xs 4)), (5, .int (xs 5))], [.int (xs 3)], x_h0, 0, 0)) rfl ?_
  refine x_R.call (a := 182) (vs := [.int (xs 3)]) (rest := []) (M' := M_cX11_isSlot) rfl rfl rfl ?_
  refine x_R.steps 1 (c' := (1, [(0, .int (xs 3))], [.int (xs 3)], x_h0, 0, 0)) rfl ?_
  refine x_R.ite (p := (xs 3) < (0 : Int32)) (c1 := (13, [(0, .int (xs 3))], [], x_h0, 0, 0)) (c2 := (4, [(0, .int (xs 3))], [], x_h0, 0, 0)) rfl (fun h1 => ?_) (fun h1 => ?_)
  · have g1 := (x_i_lt (C := 0) (by decide)).mp h1
    exfalso; omega
  · have g1 := mt (x_i_lt (C := 0) (by decide)).mpr h1
    refine x_R.steps 2 (c' := (6, [(0, .int (xs 3))], [.int 4, .int (xs 3)], x_h0, 0, 0)) rfl ?_
    refine x_R.ite (p := (4 : Int32) ≤ (xs 3)) (c1 := (13, [(0, .int (xs 3))], [], x_h0, 0, 0)) (c2 := (9, [(0, .int (xs 3))], [], x_h0, 0, 0)) rfl (fun h2 => ?_) (fun h2 => ?_)
    · have g2 := (x_i_ge (C := 4) (by decide)).mp h2
      refine x_R.steps 1 (c' := (14, [(0, .int (xs 3))], [.int 0], x_h0, 0, 0)) rfl ?_
      refine x_R.ret (v := some (.int 0)) rfl ?_
      refine x_R.steps 0 (c' := (11, [(0, .ref 0), (1, .int 0), (2, .int (xs 2)), (3, .int (xs 3)), (4, .int (xs 4)), (5, .int (xs 5))], [.int 0], x_h0, 0, 0)) rfl ?_
      refine x_R.steps 1 (c' := (14, [(0, .ref 0), (1, .int 0), (2, .int (xs 2)), (3, .int (xs 3)), (4, .int (xs 4)), (5, .int (xs 5))], [], x_h0, 0, 0)) rfl ?_
      refine x_R.steps 1 (c' := (16, [(0, .ref 0), (1, .int 0), (2, .int (xs 2)), (3, .int (xs 3)), (4, .int (xs 4)), (5, .int (xs 5))], [.int (-2)], x_h0, 0, 0)) rfl ?_
      refine x_R.ret (v := some (.int (-2))) rfl ?_
      refine x_R.steps 0 (c' := (2336, [(3, .int 0), (2, .ref 75), (1, .ref 0), (0, .ref x_scr)], [.int (-2)], x_h0, 98, 10728)) rfl ?_
      refine x_R.steps 5 (c' := (2341, [(3, .int 0), (2, .ref 75), (1, .ref 0), (0, .ref x_scr)], [.int 1, .ref x_scr, .ref 75, .int (-2)], x_h0, 98, 10728)) rfl ?_
      refine x_R.steps 1 (c' := (2342, [(3, .int 0), (2, .ref 75), (1, .ref 0), (0, .ref x_scr)], [.int 0, .ref 75, .int (-2)], x_h0, 98, 10728)) rfl ?_
      refine x_R.steps 4 (c' := (2346, [(3, .int 0), (2, .ref 75), (1, .ref 0), (0, .ref x_scr)], [.int 2, .ref x_scr, .int 0, .ref 75, .int (-2)], x_h0, 98, 10728)) rfl ?_
      refine x_R.steps 1 (c' := (2347, [(3, .int 0), (2, .ref 75), (1, .ref 0), (0, .ref x_scr)], [.int (xs 2), .int 0, .ref 75, .int (-2)], x_h0, 98, 10728)) rfl ?_
      refine x_R.steps 4 (c' := (2351, [(3, .int 0), (2, .ref 75), (1, .ref 0), (0, .ref x_scr)], [.int 3, .ref x_scr, .int (xs 2), .int 0, .ref 75, .int (-2)], x_h0, 98, 10728)) rfl ?_
      refine x_R.steps 1 (c' := (2352, [(3, .int 0), (2, .ref 75), (1, .ref 0), (0, .ref x_scr)], [.int (xs 3), .int (xs 2), .int 0, .ref 75, .int (-2)], x_h0, 98, 10728)) rfl ?_
      refine x_R.steps 4 (c' := (2356, [(3, .int 0), (2, .ref 75), (1, .ref 0), (0, .ref x_scr)], [.int 4, .ref x_scr, .int (xs 3), .int (xs 2), .int 0, .ref 75, .int (-2)], x_h0, 98, 10728)) rfl ?_
      refine x_R.steps 1 (c' := (2357, [(3, .int 0), (2, .ref 75), (1, .ref 0), (0, .ref x_scr)], [.int (xs 4), .int (xs 3), .int (xs 2), .int 0, .ref 75, .int (-2)], x_h0, 98, 10728)) rfl ?_
      refine x_R.steps 4 (c' := (2361, [(3, .int 0), (2, .ref 75), (1, .ref 0), (0, .ref x_scr)], [.int 5, .ref x_scr, .int (xs 4), .int (xs 3), .int (xs 2), .int 0, .ref 75, .int (-2)], x_h0, 98, 10728)) rfl ?_
      refine x_R.steps 1 (c' := (2362, [(3, .int 0), (2, .ref 75), (1, .ref 0), (0, .ref x_scr)], [.int (xs 5), .int (xs 4), .int (xs 3), .int (xs 2), .int 0, .ref 75, .int (-2)], x_h0, 98, 10728)) rfl ?_
      refine x_R.call (a := 355) (vs := [.ref 75, .int 0, .int (xs 2), .int (xs 3), .int (xs 4), .int (xs 5)]) (rest := [.int (-2)]) (M' := M_cX12_paste) rfl rfl rfl ?_
      refine x_R.steps 1 (c' := (1, [(0, .ref 75), (1, .int 0), (2, .int (xs 2)), (3, .int (xs 3)), (4, .int (xs 4)), (5, .int (xs 5))], [.int 0], x_h0, 0, 0)) rfl ?_
      refine x_R.call (a := 351) (vs := [.int 0]) (rest := []) (M' := M_cX12_isSlot) rfl rfl rfl ?_
      refine x_R.steps 4 (c' := (6, [(0, .int 0)], [.long 3, .long 0, .long 0], x_h0, 0, 0)) rfl ?_
      refine x_R.call (a := 196) (vs := [.long 0, .long 0, .long 3]) (rest := []) (M' := M_cX12_in) rfl rfl rfl ?_
      refine x_R.steps 3 (c' := (3, [(0, .long 0), (2, .long 0), (4, .long 3)], [.int 0], x_h0, 0, 0)) rfl ?_
      refine x_R.steps 1 (c' := (6, [(0, .long 0), (2, .long 0), (4, .long 3)], [], x_h0, 0, 0)) rfl ?_
      refine x_R.steps 3 (c' := (10, [(0, .long 0), (2, .long 0), (4, .long 3)], [.int (-1)], x_h0, 0, 0)) rfl ?_
      refine x_R.steps 1 (c' := (13, [(0, .long 0), (2, .long 0), (4, .long 3)], [], x_h0, 0, 0)) rfl ?_
      refine x_R.steps 2 (c' := (18, [(0, .long 0), (2, .long 0), (4, .long 3)], [.int 1], x_h0, 0, 0)) rfl ?_
      refine x_R.ret (v := some (.int 1)) rfl ?_
      refine x_R.steps 0 (c' := (9, [(0, .int 0)], [.int 1], x_h0, 0, 0)) rfl ?_
      refine x_R.ret (v := some (.int 1)) rfl ?_
      refine x_R.steps 0 (c' := (4, [(0, .ref 75), (1, .int 0), (2, .int (xs 2)), (3, .int (xs 3)), (4, .int (xs 4)), (5, .int (xs 5))], [.int 1], x_h0, 0, 0)) rfl ?_
      refine x_R.steps 1 (c' := (7, [(0, .ref 75), (1, .int 0), (2, .int (xs 2)), (3, .int (xs 3)), (4, .int (xs 4)), (5, .int (xs 5))], [], x_h0, 0, 0)) rfl ?_
      refine x_R.steps 1 (c' := (8, [(0, .ref 75), (1, .int 0), (2, .int (xs 2)), (3, .int (xs 3)), (4, .int (xs 4)), (5, .int (xs 5))], [.int (xs 3)], x_h0, 0, 0)) rfl ?_
      refine x_R.call (a := 351) (vs := [.int (xs 3)]) (rest := []) (M' := M_cX12_isSlot) rfl rfl rfl ?_
      refine x_R.steps 4 (c' := (6, [(0, .int (xs 3))], [.long 3, .long 0, .long ((xs 3)).toInt64], x_h0, 0, 0)) rfl ?_
      refine x_R.call (a := 196) (vs := [.long ((xs 3)).toInt64, .long 0, .long 3]) (rest := []) (M' := M_cX12_in) rfl rfl rfl ?_
      refine x_R.steps 3 (c' := (3, [(0, .long ((xs 3)).toInt64), (2, .long 0), (4, .long 3)], [.int (lg_cmp ((xs 3)).toInt64 0)], x_h0, 0, 0)) rfl ?_
      refine x_R.ite (p := (lg_cmp ((xs 3)).toInt64 0) < (0 : Int32)) (c1 := (17, [(0, .long ((xs 3)).toInt64), (2, .long 0), (4, .long 3)], [], x_h0, 0, 0)) (c2 := (6, [(0, .long ((xs 3)).toInt64), (2, .long 0), (4, .long 3)], [], x_h0, 0, 0)) rfl (fun h3 => ?_) (fun h3 => ?_)
      · have g3 := (x_lg_lt (C := 0) (by decide)).mp h3
        exfalso; omega
      · have g3 := mt (x_lg_lt (C := 0) (by decide)).mpr h3
        refine x_R.steps 3 (c' := (10, [(0, .long ((xs 3)).toInt64), (2, .long 0), (4, .long 3)], [.int (lg_cmp ((xs 3)).toInt64 3)], x_h0, 0, 0)) rfl ?_
        refine x_R.ite (p := (0 : Int32) < (lg_cmp ((xs 3)).toInt64 3)) (c1 := (17, [(0, .long ((xs 3)).toInt64), (2, .long 0), (4, .long 3)], [], x_h0, 0, 0)) (c2 := (13, [(0, .long ((xs 3)).toInt64), (2, .long 0), (4, .long 3)], [], x_h0, 0, 0)) rfl (fun h4 => ?_) (fun h4 => ?_)
        · have g4 := (x_lg_gt (C := 3) (by decide)).mp h4
          refine x_R.steps 1 (c' := (18, [(0, .long ((xs 3)).toInt64), (2, .long 0), (4, .long 3)], [.int 0], x_h0, 0, 0)) rfl ?_
          refine x_R.ret (v := some (.int 0)) rfl ?_
          refine x_R.steps 0 (c' := (9, [(0, .int (xs 3))], [.int 0], x_h0, 0, 0)) rfl ?_
          refine x_R.ret (v := some (.int 0)) rfl ?_
          refine x_R.steps 0 (c' := (11, [(0, .ref 75), (1, .int 0), (2, .int (xs 2)), (3, .int (xs 3)), (4, .int (xs 4)), (5, .int (xs 5))], [.int 0], x_h0, 0, 0)) rfl ?_
          refine x_R.steps 1 (c' := (14, [(0, .ref 75), (1, .int 0), (2, .int (xs 2)), (3, .int (xs 3)), (4, .int (xs 4)), (5, .int (xs 5))], [], x_h0, 0, 0)) rfl ?_
          refine x_R.steps 1 (c' := (16, [(0, .ref 75), (1, .int 0), (2, .int (xs 2)), (3, .int (xs 3)), (4, .int (xs 4)), (5, .int (xs 5))], [.int (-2)], x_h0, 0, 0)) rfl ?_
          refine x_R.ret (v := some (.int (-2))) rfl ?_
          refine x_R.steps 0 (c' := (2365, [(3, .int 0), (2, .ref 75), (1, .ref 0), (0, .ref x_scr)], [.int (-2), .int (-2)], x_h0, 98, 10728)) rfl ?_
          refine x_R.steps 1 (c' := (2370, [(3, .int 0), (2, .ref 75), (1, .ref 0), (0, .ref x_scr)], [], x_h0, 98, 10728)) rfl ?_
          refine x_R.steps 7 (c' := (24, [(3, .int 6), (2, .ref 75), (1, .ref 0), (0, .ref x_scr)], [.int 0, .int 6], x_h0, 98, 10728)) rfl ?_
          refine x_R.steps 1 (c' := (2376, [(3, .int 6), (2, .ref 75), (1, .ref 0), (0, .ref x_scr)], [], x_h0, 98, 10728)) rfl ?_
          refine x_R.steps 1 (c' := (2377, [(3, .int 6), (2, .ref 75), (1, .ref 0), (0, .ref x_scr)], [.int 1], x_h0, 98, 10728)) rfl ?_
          exact x_R.ret (v := some (.int 1)) rfl x_fin
        · have g4 := mt (x_lg_gt (C := 3) (by decide)).mpr h4
          exfalso; omega
    · have g2 := mt (x_i_ge (C := 4) (by decide)).mpr h2
      exfalso; omega
set_option maxRecDepth 100000 in
set_option maxHeartbeats 4000000 in
theorem x_c69_6 (xs : Nat → Int32)  : x_R x_mt (some (6, (x_ov 3 0 (x_ov 1 1 xs)))) 13 M_law (2307, [(3, .int 0), (2, .ref 75), (1, .ref 0), (0, .ref x_scr)], [], x_h0, 98, 10728) x_P := by
  refine x_R.steps 5 (c' := (2312, [(3, .int 0), (2, .ref 75), (1, .ref 0), (0, .ref x_scr)], [.int 1, .ref x_scr, .ref 0], x_h0, 98, 10728)) rfl ?_
  refine x_R.steps 1 (c' := (2313, [(3, .int 0), (2, .ref 75), (1, .ref 0), (0, .ref x_scr)], [.int 1, .ref 0], x_h0, 98, 10728)) rfl ?_
  refine x_R.steps 4 (c' := (2317, [(3, .int 0), (2, .ref 75), (1, .ref 0), (0, .ref x_scr)], [.int 2, .ref x_scr, .int 1, .ref 0], x_h0, 98, 10728)) rfl ?_
  refine x_R.steps 1 (c' := (2318, [(3, .int 0), (2, .ref 75), (1, .ref 0), (0, .ref x_scr)], [.int (xs 2), .int 1, .ref 0], x_h0, 98, 10728)) rfl ?_
  refine x_R.steps 4 (c' := (2322, [(3, .int 0), (2, .ref 75), (1, .ref 0), (0, .ref x_scr)], [.int 3, .ref x_scr, .int (xs 2), .int 1, .ref 0], x_h0, 98, 10728)) rfl ?_
  refine x_R.steps 1 (c' := (2323, [(3, .int 0), (2, .ref 75), (1, .ref 0), (0, .ref x_scr)], [.int 0, .int (xs 2), .int 1, .ref 0], x_h0, 98, 10728)) rfl ?_
  refine x_R.steps 4 (c' := (2327, [(3, .int 0), (2, .ref 75), (1, .ref 0), (0, .ref x_scr)], [.int 4, .ref x_scr, .int 0, .int (xs 2), .int 1, .ref 0], x_h0, 98, 10728)) rfl ?_
  refine x_R.steps 1 (c' := (2328, [(3, .int 0), (2, .ref 75), (1, .ref 0), (0, .ref x_scr)], [.int (xs 4), .int 0, .int (xs 2), .int 1, .ref 0], x_h0, 98, 10728)) rfl ?_
  refine x_R.steps 4 (c' := (2332, [(3, .int 0), (2, .ref 75), (1, .ref 0), (0, .ref x_scr)], [.int 5, .ref x_scr, .int (xs 4), .int 0, .int (xs 2), .int 1, .ref 0], x_h0, 98, 10728)) rfl ?_
  refine x_R.steps 1 (c' := (2333, [(3, .int 0), (2, .ref 75), (1, .ref 0), (0, .ref x_scr)], [.int (xs 5), .int (xs 4), .int 0, .int (xs 2), .int 1, .ref 0], x_h0, 98, 10728)) rfl ?_
  refine x_R.call (a := 181) (vs := [.ref 0, .int 1, .int (xs 2), .int 0, .int (xs 4), .int (xs 5)]) (rest := []) (M' := M_cX11_paste) rfl rfl rfl ?_
  refine x_R.steps 1 (c' := (1, [(0, .ref 0), (1, .int 1), (2, .int (xs 2)), (3, .int 0), (4, .int (xs 4)), (5, .int (xs 5))], [.int 1], x_h0, 0, 0)) rfl ?_
  refine x_R.call (a := 182) (vs := [.int 1]) (rest := []) (M' := M_cX11_isSlot) rfl rfl rfl ?_
  refine x_R.steps 1 (c' := (1, [(0, .int 1)], [.int 1], x_h0, 0, 0)) rfl ?_
  refine x_R.steps 1 (c' := (4, [(0, .int 1)], [], x_h0, 0, 0)) rfl ?_
  refine x_R.steps 2 (c' := (6, [(0, .int 1)], [.int 4, .int 1], x_h0, 0, 0)) rfl ?_
  refine x_R.steps 1 (c' := (9, [(0, .int 1)], [], x_h0, 0, 0)) rfl ?_
  refine x_R.steps 2 (c' := (14, [(0, .int 1)], [.int 1], x_h0, 0, 0)) rfl ?_
  refine x_R.ret (v := some (.int 1)) rfl ?_
  refine x_R.steps 0 (c' := (4, [(0, .ref 0), (1, .int 1), (2, .int (xs 2)), (3, .int 0), (4, .int (xs 4)), (5, .int (xs 5))], [.int 1], x_h0, 0, 0)) rfl ?_
  refine x_R.steps 1 (c' := (7, [(0, .ref 0), (1, .int 1), (2, .int (xs 2)), (3, .int 0), (4, .int (xs 4)), (5, .int (xs 5))], [], x_h0, 0, 0)) rfl ?_
  refine x_R.steps 1 (c' := (8, [(0, .ref 0), (1, .int 1), (2, .int (xs 2)), (3, .int 0), (4, .int (xs 4)), (5, .int (xs 5))], [.int 0], x_h0, 0, 0)) rfl ?_
  refine x_R.call (a := 182) (vs := [.int 0]) (rest := []) (M' := M_cX11_isSlot) rfl rfl rfl ?_
  refine x_R.steps 1 (c' := (1, [(0, .int 0)], [.int 0], x_h0, 0, 0)) rfl ?_
  refine x_R.steps 1 (c' := (4, [(0, .int 0)], [], x_h0, 0, 0)) rfl ?_
  refine x_R.steps 2 (c' := (6, [(0, .int 0)], [.int 4, .int 0], x_h0, 0, 0)) rfl ?_
  refine x_R.steps 1 (c' := (9, [(0, .int 0)], [], x_h0, 0, 0)) rfl ?_
  refine x_R.steps 2 (c' := (14, [(0, .int 0)], [.int 1], x_h0, 0, 0)) rfl ?_
  refine x_R.ret (v := some (.int 1)) rfl ?_
  refine x_R.steps 0 (c' := (11, [(0, .ref 0), (1, .int 1), (2, .int (xs 2)), (3, .int 0), (4, .int (xs 4)), (5, .int (xs 5))], [.int 1], x_h0, 0, 0)) rfl ?_
  refine x_R.steps 1 (c' := (17, [(0, .ref 0), (1, .int 1), (2, .int (xs 2)), (3, .int 0), (4, .int (xs 4)), (5, .int (xs 5))], [], x_h0, 0, 0)) rfl ?_
  refine x_R.steps 3 (c' := (22, [(0, .ref 0), (1, .int 1), (2, .int (xs 2)), (3, .int 0), (4, .int (xs 4)), (5, .int (xs 5))], [.int 1, .ref 42], x_h0, 0, 0)) rfl ?_
  refine x_R.steps 1 (c' := (23, [(0, .ref 0), (1, .int 1), (2, .int (xs 2)), (3, .int 0), (4, .int (xs 4)), (5, .int (xs 5))], [.ref 69], x_h0, 0, 0)) rfl ?_
  refine x_R.steps 4 (c' := (30, [(6, .ref 69), (0, .ref 0), (1, .int 1), (2, .int (xs 2)), (3, .int 0), (4, .int (xs 4)), (5, .int (xs 5))], [.int 0, .ref 42], x_h0, 0, 0)) rfl ?_
  refine x_R.steps 1 (c' := (31, [(6, .ref 69), (0, .ref 0), (1, .int 1), (2, .int (xs 2)), (3, .int 0), (4, .int (xs 4)), (5, .int (xs 5))], [.ref 67], x_h0, 0, 0)) rfl ?_
  refine x_R.steps 2 (c' := (35, [(7, .ref 67), (6, .ref 69), (0, .ref 0), (1, .int 1), (2, .int (xs 2)), (3, .int 0), (4, .int (xs 4)), (5, .int (xs 5))], [.ref 69], x_h0, 0, 0)) rfl ?_
  refine x_R.call (a := 91) (vs := [.ref 69]) (rest := []) (M' := M_cX8_isMade) rfl rfl rfl ?_
  refine x_R.steps 2 (c' := (4, [(0, .ref 69)], [.int (-1)], x_h0, 0, 0)) rfl ?_
  refine x_R.steps 1 (c' := (11, [(0, .ref 69)], [], x_h0, 0, 0)) rfl ?_
  refine x_R.steps 1 (c' := (12, [(0, .ref 69)], [.int 0], x_h0, 0, 0)) rfl ?_
  refine x_R.ret (v := some (.int 0)) rfl ?_
  refine x_R.steps 0 (c' := (38, [(7, .ref 67), (6, .ref 69), (0, .ref 0), (1, .int 1), (2, .int (xs 2)), (3, .int 0), (4, .int (xs 4)), (5, .int (xs 5))], [.int 0], x_h0, 0, 0)) rfl ?_
  refine x_R.steps 1 (c' := (49, [(7, .ref 67), (6, .ref 69), (0, .ref 0), (1, .int 1), (2, .int (xs 2)), (3, .int 0), (4, .int (xs 4)), (5, .int (xs 5))], [], x_h0, 0, 0)) rfl ?_
  refine x_R.steps 1 (c' := (51, [(7, .ref 67), (6, .ref 69), (0, .ref 0), (1, .int 1), (2, .int (xs 2)), (3, .int 0), (4, .int (xs 4)), (5, .int (xs 5))], [.int (-6)], x_h0, 0, 0)) rfl ?_
  refine x_R.ret (v := some (.int (-6))) rfl ?_
  refine x_R.steps 0 (c' := (2336, [(3, .int 0), (2, .ref 75), (1, .ref 0), (0, .ref x_scr)], [.int (-6)], x_h0, 98, 10728)) rfl ?_
  refine x_R.steps 5 (c' := (2341, [(3, .int 0), (2, .ref 75), (1, .ref 0), (0, .ref x_scr)], [.int 1, .ref x_scr, .ref 75, .int (-6)], x_h0, 98, 10728)) rfl ?_
  refine x_R.steps 1 (c' := (2342, [(3, .int 0), (2, .ref 75), (1, .ref 0), (0, .ref x_scr)], [.int 1, .ref 75, .int (-6)], x_h0, 98, 10728)) rfl ?_
  refine x_R.steps 4 (c' := (2346, [(3, .int 0), (2, .ref 75), (1, .ref 0), (0, .ref x_scr)], [.int 2, .ref x_scr, .int 1, .ref 75, .int (-6)], x_h0, 98, 10728)) rfl ?_
  refine x_R.steps 1 (c' := (2347, [(3, .int 0), (2, .ref 75), (1, .ref 0), (0, .ref x_scr)], [.int (xs 2), .int 1, .ref 75, .int (-6)], x_h0, 98, 10728)) rfl ?_
  refine x_R.steps 4 (c' := (2351, [(3, .int 0), (2, .ref 75), (1, .ref 0), (0, .ref x_scr)], [.int 3, .ref x_scr, .int (xs 2), .int 1, .ref 75, .int (-6)], x_h0, 98, 10728)) rfl ?_
  refine x_R.steps 1 (c' := (2352, [(3, .int 0), (2, .ref 75), (1, .ref 0), (0, .ref x_scr)], [.int 0, .int (xs 2), .int 1, .ref 75, .int (-6)], x_h0, 98, 10728)) rfl ?_
  refine x_R.steps 4 (c' := (2356, [(3, .int 0), (2, .ref 75), (1, .ref 0), (0, .ref x_scr)], [.int 4, .ref x_scr, .int 0, .int (xs 2), .int 1, .ref 75, .int (-6)], x_h0, 98, 10728)) rfl ?_
  refine x_R.steps 1 (c' := (2357, [(3, .int 0), (2, .ref 75), (1, .ref 0), (0, .ref x_scr)], [.int (xs 4), .int 0, .int (xs 2), .int 1, .ref 75, .int (-6)], x_h0, 98, 10728)) rfl ?_
  refine x_R.steps 4 (c' := (2361, [(3, .int 0), (2, .ref 75), (1, .ref 0), (0, .ref x_scr)], [.int 5, .ref x_scr, .int (xs 4), .int 0, .int (xs 2), .int 1, .ref 75, .int (-6)], x_h0, 98, 10728)) rfl ?_
  refine x_R.steps 1 (c' := (2362, [(3, .int 0), (2, .ref 75), (1, .ref 0), (0, .ref x_scr)], [.int (xs 5), .int (xs 4), .int 0, .int (xs 2), .int 1, .ref 75, .int (-6)], x_h0, 98, 10728)) rfl ?_
  refine x_R.call (a := 355) (vs := [.ref 75, .int 1, .int (xs 2), .int 0, .int (xs 4), .int (xs 5)]) (rest := [.int (-6)]) (M' := M_cX12_paste) rfl rfl rfl ?_
  refine x_R.steps 1 (c' := (1, [(0, .ref 75), (1, .int 1), (2, .int (xs 2)), (3, .int 0), (4, .int (xs 4)), (5, .int (xs 5))], [.int 1], x_h0, 0, 0)) rfl ?_
  refine x_R.call (a := 351) (vs := [.int 1]) (rest := []) (M' := M_cX12_isSlot) rfl rfl rfl ?_
  refine x_R.steps 4 (c' := (6, [(0, .int 1)], [.long 3, .long 0, .long 1], x_h0, 0, 0)) rfl ?_
  refine x_R.call (a := 196) (vs := [.long 1, .long 0, .long 3]) (rest := []) (M' := M_cX12_in) rfl rfl rfl ?_
  refine x_R.steps 3 (c' := (3, [(0, .long 1), (2, .long 0), (4, .long 3)], [.int 1], x_h0, 0, 0)) rfl ?_
  refine x_R.steps 1 (c' := (6, [(0, .long 1), (2, .long 0), (4, .long 3)], [], x_h0, 0, 0)) rfl ?_
  refine x_R.steps 3 (c' := (10, [(0, .long 1), (2, .long 0), (4, .long 3)], [.int (-1)], x_h0, 0, 0)) rfl ?_
  refine x_R.steps 1 (c' := (13, [(0, .long 1), (2, .long 0), (4, .long 3)], [], x_h0, 0, 0)) rfl ?_
  refine x_R.steps 2 (c' := (18, [(0, .long 1), (2, .long 0), (4, .long 3)], [.int 1], x_h0, 0, 0)) rfl ?_
  refine x_R.ret (v := some (.int 1)) rfl ?_
  refine x_R.steps 0 (c' := (9, [(0, .int 1)], [.int 1], x_h0, 0, 0)) rfl ?_
  refine x_R.ret (v := some (.int 1)) rfl ?_
  refine x_R.steps 0 (c' := (4, [(0, .ref 75), (1, .int 1), (2, .int (xs 2)), (3, .int 0), (4, .int (xs 4)), (5, .int (xs 5))], [.int 1], x_h0, 0, 0)) rfl ?_
  refine x_R.steps 1 (c' := (7, [(0, .ref 75), (1, .int 1), (2, .int (xs 2)), (3, .int 0), (4, .int (xs 4)), (5, .int (xs 5))], [], x_h0, 0, 0)) rfl ?_
  refine x_R.steps 1 (c' := (8, [(0, .ref 75), (1, .int 1), (2, .int (xs 2)), (3, .int 0), (4, .int (xs 4)), (5, .int (xs 5))], [.int 0], x_h0, 0, 0)) rfl ?_
  refine x_R.call (a := 351) (vs := [.int 0]) (rest := []) (M' := M_cX12_isSlot) rfl rfl rfl ?_
  refine x_R.steps 4 (c' := (6, [(0, .int 0)], [.long 3, .long 0, .long 0], x_h0, 0, 0)) rfl ?_
  refine x_R.call (a := 196) (vs := [.long 0, .long 0, .long 3]) (rest := []) (M' := M_cX12_in) rfl rfl rfl ?_
  refine x_R.steps 3 (c' := (3, [(0, .long 0), (2, .long 0), (4, .long 3)], [.int 0], x_h0, 0, 0)) rfl ?_
  refine x_R.steps 1 (c' := (6, [(0, .long 0), (2, .long 0), (4, .long 3)], [], x_h0, 0, 0)) rfl ?_
  refine x_R.steps 3 (c' := (10, [(0, .long 0), (2, .long 0), (4, .long 3)], [.int (-1)], x_h0, 0, 0)) rfl ?_
  refine x_R.steps 1 (c' := (13, [(0, .long 0), (2, .long 0), (4, .long 3)], [], x_h0, 0, 0)) rfl ?_
  refine x_R.steps 2 (c' := (18, [(0, .long 0), (2, .long 0), (4, .long 3)], [.int 1], x_h0, 0, 0)) rfl ?_
  refine x_R.ret (v := some (.int 1)) rfl ?_
  refine x_R.steps 0 (c' := (9, [(0, .int 0)], [.int 1], x_h0, 0, 0)) rfl ?_
  refine x_R.ret (v := some (.int 1)) rfl ?_
  refine x_R.steps 0 (c' := (11, [(0, .ref 75), (1, .int 1), (2, .int (xs 2)), (3, .int 0), (4, .int (xs 4)), (5, .int (xs 5))], [.int 1], x_h0, 0, 0)) rfl ?_
  refine x_R.steps 1 (c' := (17, [(0, .ref 75), (1, .int 1), (2, .int (xs 2)), (3, .int 0), (4, .int (xs 4)), (5, .int (xs 5))], [], x_h0, 0, 0)) rfl ?_
  refine x_R.steps 3 (c' := (22, [(0, .ref 75), (1, .int 1), (2, .int (xs 2)), (3, .int 0), (4, .int (xs 4)), (5, .int (xs 5))], [.int 1, .ref 94], x_h0, 0, 0)) rfl ?_
  refine x_R.steps 1 (c' := (23, [(0, .ref 75), (1, .int 1), (2, .int (xs 2)), (3, .int 0), (4, .int (xs 4)), (5, .int (xs 5))], [.int (-1)], x_h0, 0, 0)) rfl ?_
  refine x_R.steps 1 (c' := (24, [(0, .ref 75), (1, .int 1), (2, .int (xs 2)), (3, .int 0), (4, .int (xs 4)), (5, .int (xs 5))], [.int (-1), .int (-1)], x_h0, 0, 0)) rfl ?_
  refine x_R.steps 1 (c' := (37, [(0, .ref 75), (1, .int 1), (2, .int (xs 2)), (3, .int 0), (4, .int (xs 4)), (5, .int (xs 5))], [], x_h0, 0, 0)) rfl ?_
  refine x_R.steps 1 (c' := (39, [(0, .ref 75), (1, .int 1), (2, .int (xs 2)), (3, .int 0), (4, .int (xs 4)), (5, .int (xs 5))], [.int (-6)], x_h0, 0, 0)) rfl ?_
  refine x_R.ret (v := some (.int (-6))) rfl ?_
  refine x_R.steps 0 (c' := (2365, [(3, .int 0), (2, .ref 75), (1, .ref 0), (0, .ref x_scr)], [.int (-6), .int (-6)], x_h0, 98, 10728)) rfl ?_
  refine x_R.steps 1 (c' := (2370, [(3, .int 0), (2, .ref 75), (1, .ref 0), (0, .ref x_scr)], [], x_h0, 98, 10728)) rfl ?_
  refine x_R.steps 7 (c' := (24, [(3, .int 6), (2, .ref 75), (1, .ref 0), (0, .ref x_scr)], [.int 0, .int 6], x_h0, 98, 10728)) rfl ?_
  refine x_R.steps 1 (c' := (2376, [(3, .int 6), (2, .ref 75), (1, .ref 0), (0, .ref x_scr)], [], x_h0, 98, 10728)) rfl ?_
  refine x_R.steps 1 (c' := (2377, [(3, .int 6), (2, .ref 75), (1, .ref 0), (0, .ref x_scr)], [.int 1], x_h0, 98, 10728)) rfl ?_
  exact x_R.ret (v := some (.int 1)) rfl x_fin
set_option maxRecDepth 100000 in
set_option maxHeartbeats 4000000 in
theorem x_c69_7 (xs : Nat → Int32)  : x_R x_mt (some (6, (x_ov 3 1 (x_ov 1 1 xs)))) 13 M_law (2307, [(3, .int 0), (2, .ref 75), (1, .ref 0), (0, .ref x_scr)], [], x_h0, 98, 10728) x_P := by
  refine x_R.steps 5 (c' := (2312, [(3, .int 0), (2, .ref 75), (1, .ref 0), (0, .ref x_scr)], [.int 1, .ref x_scr, .ref 0], x_h0, 98, 10728)) rfl ?_
  refine x_R.steps 1 (c' := (2313, [(3, .int 0), (2, .ref 75), (1, .ref 0), (0, .ref x_scr)], [.int 1, .ref 0], x_h0, 98, 10728)) rfl ?_
  refine x_R.steps 4 (c' := (2317, [(3, .int 0), (2, .ref 75), (1, .ref 0), (0, .ref x_scr)], [.int 2, .ref x_scr, .int 1, .ref 0], x_h0, 98, 10728)) rfl ?_
  refine x_R.steps 1 (c' := (2318, [(3, .int 0), (2, .ref 75), (1, .ref 0), (0, .ref x_scr)], [.int (xs 2), .int 1, .ref 0], x_h0, 98, 10728)) rfl ?_
  refine x_R.steps 4 (c' := (2322, [(3, .int 0), (2, .ref 75), (1, .ref 0), (0, .ref x_scr)], [.int 3, .ref x_scr, .int (xs 2), .int 1, .ref 0], x_h0, 98, 10728)) rfl ?_
  refine x_R.steps 1 (c' := (2323, [(3, .int 0), (2, .ref 75), (1, .ref 0), (0, .ref x_scr)], [.int 1, .int (xs 2), .int 1, .ref 0], x_h0, 98, 10728)) rfl ?_
  refine x_R.steps 4 (c' := (2327, [(3, .int 0), (2, .ref 75), (1, .ref 0), (0, .ref x_scr)], [.int 4, .ref x_scr, .int 1, .int (xs 2), .int 1, .ref 0], x_h0, 98, 10728)) rfl ?_
  refine x_R.steps 1 (c' := (2328, [(3, .int 0), (2, .ref 75), (1, .ref 0), (0, .ref x_scr)], [.int (xs 4), .int 1, .int (xs 2), .int 1, .ref 0], x_h0, 98, 10728)) rfl ?_
  refine x_R.steps 4 (c' := (2332, [(3, .int 0), (2, .ref 75), (1, .ref 0), (0, .ref x_scr)], [.int 5, .ref x_scr, .int (xs 4), .int 1, .int (xs 2), .int 1, .ref 0], x_h0, 98, 10728)) rfl ?_
  refine x_R.steps 1 (c' := (2333, [(3, .int 0), (2, .ref 75), (1, .ref 0), (0, .ref x_scr)], [.int (xs 5), .int (xs 4), .int 1, .int (xs 2), .int 1, .ref 0], x_h0, 98, 10728)) rfl ?_
  refine x_R.call (a := 181) (vs := [.ref 0, .int 1, .int (xs 2), .int 1, .int (xs 4), .int (xs 5)]) (rest := []) (M' := M_cX11_paste) rfl rfl rfl ?_
  refine x_R.steps 1 (c' := (1, [(0, .ref 0), (1, .int 1), (2, .int (xs 2)), (3, .int 1), (4, .int (xs 4)), (5, .int (xs 5))], [.int 1], x_h0, 0, 0)) rfl ?_
  refine x_R.call (a := 182) (vs := [.int 1]) (rest := []) (M' := M_cX11_isSlot) rfl rfl rfl ?_
  refine x_R.steps 1 (c' := (1, [(0, .int 1)], [.int 1], x_h0, 0, 0)) rfl ?_
  refine x_R.steps 1 (c' := (4, [(0, .int 1)], [], x_h0, 0, 0)) rfl ?_
  refine x_R.steps 2 (c' := (6, [(0, .int 1)], [.int 4, .int 1], x_h0, 0, 0)) rfl ?_
  refine x_R.steps 1 (c' := (9, [(0, .int 1)], [], x_h0, 0, 0)) rfl ?_
  refine x_R.steps 2 (c' := (14, [(0, .int 1)], [.int 1], x_h0, 0, 0)) rfl ?_
  refine x_R.ret (v := some (.int 1)) rfl ?_
  refine x_R.steps 0 (c' := (4, [(0, .ref 0), (1, .int 1), (2, .int (xs 2)), (3, .int 1), (4, .int (xs 4)), (5, .int (xs 5))], [.int 1], x_h0, 0, 0)) rfl ?_
  refine x_R.steps 1 (c' := (7, [(0, .ref 0), (1, .int 1), (2, .int (xs 2)), (3, .int 1), (4, .int (xs 4)), (5, .int (xs 5))], [], x_h0, 0, 0)) rfl ?_
  refine x_R.steps 1 (c' := (8, [(0, .ref 0), (1, .int 1), (2, .int (xs 2)), (3, .int 1), (4, .int (xs 4)), (5, .int (xs 5))], [.int 1], x_h0, 0, 0)) rfl ?_
  refine x_R.call (a := 182) (vs := [.int 1]) (rest := []) (M' := M_cX11_isSlot) rfl rfl rfl ?_
  refine x_R.steps 1 (c' := (1, [(0, .int 1)], [.int 1], x_h0, 0, 0)) rfl ?_
  refine x_R.steps 1 (c' := (4, [(0, .int 1)], [], x_h0, 0, 0)) rfl ?_
  refine x_R.steps 2 (c' := (6, [(0, .int 1)], [.int 4, .int 1], x_h0, 0, 0)) rfl ?_
  refine x_R.steps 1 (c' := (9, [(0, .int 1)], [], x_h0, 0, 0)) rfl ?_
  refine x_R.steps 2 (c' := (14, [(0, .int 1)], [.int 1], x_h0, 0, 0)) rfl ?_
  refine x_R.ret (v := some (.int 1)) rfl ?_
  refine x_R.steps 0 (c' := (11, [(0, .ref 0), (1, .int 1), (2, .int (xs 2)), (3, .int 1), (4, .int (xs 4)), (5, .int (xs 5))], [.int 1], x_h0, 0, 0)) rfl ?_
  refine x_R.steps 1 (c' := (17, [(0, .ref 0), (1, .int 1), (2, .int (xs 2)), (3, .int 1), (4, .int (xs 4)), (5, .int (xs 5))], [], x_h0, 0, 0)) rfl ?_
  refine x_R.steps 3 (c' := (22, [(0, .ref 0), (1, .int 1), (2, .int (xs 2)), (3, .int 1), (4, .int (xs 4)), (5, .int (xs 5))], [.int 1, .ref 42], x_h0, 0, 0)) rfl ?_
  refine x_R.steps 1 (c' := (23, [(0, .ref 0), (1, .int 1), (2, .int (xs 2)), (3, .int 1), (4, .int (xs 4)), (5, .int (xs 5))], [.ref 69], x_h0, 0, 0)) rfl ?_
  refine x_R.steps 4 (c' := (30, [(6, .ref 69), (0, .ref 0), (1, .int 1), (2, .int (xs 2)), (3, .int 1), (4, .int (xs 4)), (5, .int (xs 5))], [.int 1, .ref 42], x_h0, 0, 0)) rfl ?_
  refine x_R.steps 1 (c' := (31, [(6, .ref 69), (0, .ref 0), (1, .int 1), (2, .int (xs 2)), (3, .int 1), (4, .int (xs 4)), (5, .int (xs 5))], [.ref 69], x_h0, 0, 0)) rfl ?_
  refine x_R.steps 2 (c' := (35, [(7, .ref 69), (6, .ref 69), (0, .ref 0), (1, .int 1), (2, .int (xs 2)), (3, .int 1), (4, .int (xs 4)), (5, .int (xs 5))], [.ref 69], x_h0, 0, 0)) rfl ?_
  refine x_R.call (a := 91) (vs := [.ref 69]) (rest := []) (M' := M_cX8_isMade) rfl rfl rfl ?_
  refine x_R.steps 2 (c' := (4, [(0, .ref 69)], [.int (-1)], x_h0, 0, 0)) rfl ?_
  refine x_R.steps 1 (c' := (11, [(0, .ref 69)], [], x_h0, 0, 0)) rfl ?_
  refine x_R.steps 1 (c' := (12, [(0, .ref 69)], [.int 0], x_h0, 0, 0)) rfl ?_
  refine x_R.ret (v := some (.int 0)) rfl ?_
  refine x_R.steps 0 (c' := (38, [(7, .ref 69), (6, .ref 69), (0, .ref 0), (1, .int 1), (2, .int (xs 2)), (3, .int 1), (4, .int (xs 4)), (5, .int (xs 5))], [.int 0], x_h0, 0, 0)) rfl ?_
  refine x_R.steps 1 (c' := (49, [(7, .ref 69), (6, .ref 69), (0, .ref 0), (1, .int 1), (2, .int (xs 2)), (3, .int 1), (4, .int (xs 4)), (5, .int (xs 5))], [], x_h0, 0, 0)) rfl ?_
  refine x_R.steps 1 (c' := (51, [(7, .ref 69), (6, .ref 69), (0, .ref 0), (1, .int 1), (2, .int (xs 2)), (3, .int 1), (4, .int (xs 4)), (5, .int (xs 5))], [.int (-6)], x_h0, 0, 0)) rfl ?_
  refine x_R.ret (v := some (.int (-6))) rfl ?_
  refine x_R.steps 0 (c' := (2336, [(3, .int 0), (2, .ref 75), (1, .ref 0), (0, .ref x_scr)], [.int (-6)], x_h0, 98, 10728)) rfl ?_
  refine x_R.steps 5 (c' := (2341, [(3, .int 0), (2, .ref 75), (1, .ref 0), (0, .ref x_scr)], [.int 1, .ref x_scr, .ref 75, .int (-6)], x_h0, 98, 10728)) rfl ?_
  refine x_R.steps 1 (c' := (2342, [(3, .int 0), (2, .ref 75), (1, .ref 0), (0, .ref x_scr)], [.int 1, .ref 75, .int (-6)], x_h0, 98, 10728)) rfl ?_
  refine x_R.steps 4 (c' := (2346, [(3, .int 0), (2, .ref 75), (1, .ref 0), (0, .ref x_scr)], [.int 2, .ref x_scr, .int 1, .ref 75, .int (-6)], x_h0, 98, 10728)) rfl ?_
  refine x_R.steps 1 (c' := (2347, [(3, .int 0), (2, .ref 75), (1, .ref 0), (0, .ref x_scr)], [.int (xs 2), .int 1, .ref 75, .int (-6)], x_h0, 98, 10728)) rfl ?_
  refine x_R.steps 4 (c' := (2351, [(3, .int 0), (2, .ref 75), (1, .ref 0), (0, .ref x_scr)], [.int 3, .ref x_scr, .int (xs 2), .int 1, .ref 75, .int (-6)], x_h0, 98, 10728)) rfl ?_
  refine x_R.steps 1 (c' := (2352, [(3, .int 0), (2, .ref 75), (1, .ref 0), (0, .ref x_scr)], [.int 1, .int (xs 2), .int 1, .ref 75, .int (-6)], x_h0, 98, 10728)) rfl ?_
  refine x_R.steps 4 (c' := (2356, [(3, .int 0), (2, .ref 75), (1, .ref 0), (0, .ref x_scr)], [.int 4, .ref x_scr, .int 1, .int (xs 2), .int 1, .ref 75, .int (-6)], x_h0, 98, 10728)) rfl ?_
  refine x_R.steps 1 (c' := (2357, [(3, .int 0), (2, .ref 75), (1, .ref 0), (0, .ref x_scr)], [.int (xs 4), .int 1, .int (xs 2), .int 1, .ref 75, .int (-6)], x_h0, 98, 10728)) rfl ?_
  refine x_R.steps 4 (c' := (2361, [(3, .int 0), (2, .ref 75), (1, .ref 0), (0, .ref x_scr)], [.int 5, .ref x_scr, .int (xs 4), .int 1, .int (xs 2), .int 1, .ref 75, .int (-6)], x_h0, 98, 10728)) rfl ?_
  refine x_R.steps 1 (c' := (2362, [(3, .int 0), (2, .ref 75), (1, .ref 0), (0, .ref x_scr)], [.int (xs 5), .int (xs 4), .int 1, .int (xs 2), .int 1, .ref 75, .int (-6)], x_h0, 98, 10728)) rfl ?_
  refine x_R.call (a := 355) (vs := [.ref 75, .int 1, .int (xs 2), .int 1, .int (xs 4), .int (xs 5)]) (rest := [.int (-6)]) (M' := M_cX12_paste) rfl rfl rfl ?_
  refine x_R.steps 1 (c' := (1, [(0, .ref 75), (1, .int 1), (2, .int (xs 2)), (3, .int 1), (4, .int (xs 4)), (5, .int (xs 5))], [.int 1], x_h0, 0, 0)) rfl ?_
  refine x_R.call (a := 351) (vs := [.int 1]) (rest := []) (M' := M_cX12_isSlot) rfl rfl rfl ?_
  refine x_R.steps 4 (c' := (6, [(0, .int 1)], [.long 3, .long 0, .long 1], x_h0, 0, 0)) rfl ?_
  refine x_R.call (a := 196) (vs := [.long 1, .long 0, .long 3]) (rest := []) (M' := M_cX12_in) rfl rfl rfl ?_
  refine x_R.steps 3 (c' := (3, [(0, .long 1), (2, .long 0), (4, .long 3)], [.int 1], x_h0, 0, 0)) rfl ?_
  refine x_R.steps 1 (c' := (6, [(0, .long 1), (2, .long 0), (4, .long 3)], [], x_h0, 0, 0)) rfl ?_
  refine x_R.steps 3 (c' := (10, [(0, .long 1), (2, .long 0), (4, .long 3)], [.int (-1)], x_h0, 0, 0)) rfl ?_
  refine x_R.steps 1 (c' := (13, [(0, .long 1), (2, .long 0), (4, .long 3)], [], x_h0, 0, 0)) rfl ?_
  refine x_R.steps 2 (c' := (18, [(0, .long 1), (2, .long 0), (4, .long 3)], [.int 1], x_h0, 0, 0)) rfl ?_
  refine x_R.ret (v := some (.int 1)) rfl ?_
  refine x_R.steps 0 (c' := (9, [(0, .int 1)], [.int 1], x_h0, 0, 0)) rfl ?_
  refine x_R.ret (v := some (.int 1)) rfl ?_
  refine x_R.steps 0 (c' := (4, [(0, .ref 75), (1, .int 1), (2, .int (xs 2)), (3, .int 1), (4, .int (xs 4)), (5, .int (xs 5))], [.int 1], x_h0, 0, 0)) rfl ?_
  refine x_R.steps 1 (c' := (7, [(0, .ref 75), (1, .int 1), (2, .int (xs 2)), (3, .int 1), (4, .int (xs 4)), (5, .int (xs 5))], [], x_h0, 0, 0)) rfl ?_
  refine x_R.steps 1 (c' := (8, [(0, .ref 75), (1, .int 1), (2, .int (xs 2)), (3, .int 1), (4, .int (xs 4)), (5, .int (xs 5))], [.int 1], x_h0, 0, 0)) rfl ?_
  refine x_R.call (a := 351) (vs := [.int 1]) (rest := []) (M' := M_cX12_isSlot) rfl rfl rfl ?_
  refine x_R.steps 4 (c' := (6, [(0, .int 1)], [.long 3, .long 0, .long 1], x_h0, 0, 0)) rfl ?_
  refine x_R.call (a := 196) (vs := [.long 1, .long 0, .long 3]) (rest := []) (M' := M_cX12_in) rfl rfl rfl ?_
  refine x_R.steps 3 (c' := (3, [(0, .long 1), (2, .long 0), (4, .long 3)], [.int 1], x_h0, 0, 0)) rfl ?_
  refine x_R.steps 1 (c' := (6, [(0, .long 1), (2, .long 0), (4, .long 3)], [], x_h0, 0, 0)) rfl ?_
  refine x_R.steps 3 (c' := (10, [(0, .long 1), (2, .long 0), (4, .long 3)], [.int (-1)], x_h0, 0, 0)) rfl ?_
  refine x_R.steps 1 (c' := (13, [(0, .long 1), (2, .long 0), (4, .long 3)], [], x_h0, 0, 0)) rfl ?_
  refine x_R.steps 2 (c' := (18, [(0, .long 1), (2, .long 0), (4, .long 3)], [.int 1], x_h0, 0, 0)) rfl ?_
  refine x_R.ret (v := some (.int 1)) rfl ?_
  refine x_R.steps 0 (c' := (9, [(0, .int 1)], [.int 1], x_h0, 0, 0)) rfl ?_
  refine x_R.ret (v := some (.int 1)) rfl ?_
  refine x_R.steps 0 (c' := (11, [(0, .ref 75), (1, .int 1), (2, .int (xs 2)), (3, .int 1), (4, .int (xs 4)), (5, .int (xs 5))], [.int 1], x_h0, 0, 0)) rfl ?_
  refine x_R.steps 1 (c' := (17, [(0, .ref 75), (1, .int 1), (2, .int (xs 2)), (3, .int 1), (4, .int (xs 4)), (5, .int (xs 5))], [], x_h0, 0, 0)) rfl ?_
  refine x_R.steps 3 (c' := (22, [(0, .ref 75), (1, .int 1), (2, .int (xs 2)), (3, .int 1), (4, .int (xs 4)), (5, .int (xs 5))], [.int 1, .ref 94], x_h0, 0, 0)) rfl ?_
  refine x_R.steps 1 (c' := (23, [(0, .ref 75), (1, .int 1), (2, .int (xs 2)), (3, .int 1), (4, .int (xs 4)), (5, .int (xs 5))], [.int (-1)], x_h0, 0, 0)) rfl ?_
  refine x_R.steps 1 (c' := (24, [(0, .ref 75), (1, .int 1), (2, .int (xs 2)), (3, .int 1), (4, .int (xs 4)), (5, .int (xs 5))], [.int (-1), .int (-1)], x_h0, 0, 0)) rfl ?_
  refine x_R.steps 1 (c' := (37, [(0, .ref 75), (1, .int 1), (2, .int (xs 2)), (3, .int 1), (4, .int (xs 4)), (5, .int (xs 5))], [], x_h0, 0, 0)) rfl ?_
  refine x_R.steps 1 (c' := (39, [(0, .ref 75), (1, .int 1), (2, .int (xs 2)), (3, .int 1), (4, .int (xs 4)), (5, .int (xs 5))], [.int (-6)], x_h0, 0, 0)) rfl ?_
  refine x_R.ret (v := some (.int (-6))) rfl ?_
  refine x_R.steps 0 (c' := (2365, [(3, .int 0), (2, .ref 75), (1, .ref 0), (0, .ref x_scr)], [.int (-6), .int (-6)], x_h0, 98, 10728)) rfl ?_
  refine x_R.steps 1 (c' := (2370, [(3, .int 0), (2, .ref 75), (1, .ref 0), (0, .ref x_scr)], [], x_h0, 98, 10728)) rfl ?_
  refine x_R.steps 7 (c' := (24, [(3, .int 6), (2, .ref 75), (1, .ref 0), (0, .ref x_scr)], [.int 0, .int 6], x_h0, 98, 10728)) rfl ?_
  refine x_R.steps 1 (c' := (2376, [(3, .int 6), (2, .ref 75), (1, .ref 0), (0, .ref x_scr)], [], x_h0, 98, 10728)) rfl ?_
  refine x_R.steps 1 (c' := (2377, [(3, .int 6), (2, .ref 75), (1, .ref 0), (0, .ref x_scr)], [.int 1], x_h0, 98, 10728)) rfl ?_
  exact x_R.ret (v := some (.int 1)) rfl x_fin
set_option maxRecDepth 100000 in
set_option maxHeartbeats 4000000 in
theorem x_c69_8 (xs : Nat → Int32)  : x_R x_mt (some (6, (x_ov 3 2 (x_ov 1 1 xs)))) 13 M_law (2307, [(3, .int 0), (2, .ref 75), (1, .ref 0), (0, .ref x_scr)], [], x_h0, 98, 10728) x_P := by
  refine x_R.steps 5 (c' := (2312, [(3, .int 0), (2, .ref 75), (1, .ref 0), (0, .ref x_scr)], [.int 1, .ref x_scr, .ref 0], x_h0, 98, 10728)) rfl ?_
  refine x_R.steps 1 (c' := (2313, [(3, .int 0), (2, .ref 75), (1, .ref 0), (0, .ref x_scr)], [.int 1, .ref 0], x_h0, 98, 10728)) rfl ?_
  refine x_R.steps 4 (c' := (2317, [(3, .int 0), (2, .ref 75), (1, .ref 0), (0, .ref x_scr)], [.int 2, .ref x_scr, .int 1, .ref 0], x_h0, 98, 10728)) rfl ?_
  refine x_R.steps 1 (c' := (2318, [(3, .int 0), (2, .ref 75), (1, .ref 0), (0, .ref x_scr)], [.int (xs 2), .int 1, .ref 0], x_h0, 98, 10728)) rfl ?_
  refine x_R.steps 4 (c' := (2322, [(3, .int 0), (2, .ref 75), (1, .ref 0), (0, .ref x_scr)], [.int 3, .ref x_scr, .int (xs 2), .int 1, .ref 0], x_h0, 98, 10728)) rfl ?_
  refine x_R.steps 1 (c' := (2323, [(3, .int 0), (2, .ref 75), (1, .ref 0), (0, .ref x_scr)], [.int 2, .int (xs 2), .int 1, .ref 0], x_h0, 98, 10728)) rfl ?_
  refine x_R.steps 4 (c' := (2327, [(3, .int 0), (2, .ref 75), (1, .ref 0), (0, .ref x_scr)], [.int 4, .ref x_scr, .int 2, .int (xs 2), .int 1, .ref 0], x_h0, 98, 10728)) rfl ?_
  refine x_R.steps 1 (c' := (2328, [(3, .int 0), (2, .ref 75), (1, .ref 0), (0, .ref x_scr)], [.int (xs 4), .int 2, .int (xs 2), .int 1, .ref 0], x_h0, 98, 10728)) rfl ?_
  refine x_R.steps 4 (c' := (2332, [(3, .int 0), (2, .ref 75), (1, .ref 0), (0, .ref x_scr)], [.int 5, .ref x_scr, .int (xs 4), .int 2, .int (xs 2), .int 1, .ref 0], x_h0, 98, 10728)) rfl ?_
  refine x_R.steps 1 (c' := (2333, [(3, .int 0), (2, .ref 75), (1, .ref 0), (0, .ref x_scr)], [.int (xs 5), .int (xs 4), .int 2, .int (xs 2), .int 1, .ref 0], x_h0, 98, 10728)) rfl ?_
  refine x_R.call (a := 181) (vs := [.ref 0, .int 1, .int (xs 2), .int 2, .int (xs 4), .int (xs 5)]) (rest := []) (M' := M_cX11_paste) rfl rfl rfl ?_
  refine x_R.steps 1 (c' := (1, [(0, .ref 0), (1, .int 1), (2, .int (xs 2)), (3, .int 2), (4, .int (xs 4)), (5, .int (xs 5))], [.int 1], x_h0, 0, 0)) rfl ?_
  refine x_R.call (a := 182) (vs := [.int 1]) (rest := []) (M' := M_cX11_isSlot) rfl rfl rfl ?_
  refine x_R.steps 1 (c' := (1, [(0, .int 1)], [.int 1], x_h0, 0, 0)) rfl ?_
  refine x_R.steps 1 (c' := (4, [(0, .int 1)], [], x_h0, 0, 0)) rfl ?_
  refine x_R.steps 2 (c' := (6, [(0, .int 1)], [.int 4, .int 1], x_h0, 0, 0)) rfl ?_
  refine x_R.steps 1 (c' := (9, [(0, .int 1)], [], x_h0, 0, 0)) rfl ?_
  refine x_R.steps 2 (c' := (14, [(0, .int 1)], [.int 1], x_h0, 0, 0)) rfl ?_
  refine x_R.ret (v := some (.int 1)) rfl ?_
  refine x_R.steps 0 (c' := (4, [(0, .ref 0), (1, .int 1), (2, .int (xs 2)), (3, .int 2), (4, .int (xs 4)), (5, .int (xs 5))], [.int 1], x_h0, 0, 0)) rfl ?_
  refine x_R.steps 1 (c' := (7, [(0, .ref 0), (1, .int 1), (2, .int (xs 2)), (3, .int 2), (4, .int (xs 4)), (5, .int (xs 5))], [], x_h0, 0, 0)) rfl ?_
  refine x_R.steps 1 (c' := (8, [(0, .ref 0), (1, .int 1), (2, .int (xs 2)), (3, .int 2), (4, .int (xs 4)), (5, .int (xs 5))], [.int 2], x_h0, 0, 0)) rfl ?_
  refine x_R.call (a := 182) (vs := [.int 2]) (rest := []) (M' := M_cX11_isSlot) rfl rfl rfl ?_
  refine x_R.steps 1 (c' := (1, [(0, .int 2)], [.int 2], x_h0, 0, 0)) rfl ?_
  refine x_R.steps 1 (c' := (4, [(0, .int 2)], [], x_h0, 0, 0)) rfl ?_
  refine x_R.steps 2 (c' := (6, [(0, .int 2)], [.int 4, .int 2], x_h0, 0, 0)) rfl ?_
  refine x_R.steps 1 (c' := (9, [(0, .int 2)], [], x_h0, 0, 0)) rfl ?_
  refine x_R.steps 2 (c' := (14, [(0, .int 2)], [.int 1], x_h0, 0, 0)) rfl ?_
  refine x_R.ret (v := some (.int 1)) rfl ?_
  refine x_R.steps 0 (c' := (11, [(0, .ref 0), (1, .int 1), (2, .int (xs 2)), (3, .int 2), (4, .int (xs 4)), (5, .int (xs 5))], [.int 1], x_h0, 0, 0)) rfl ?_
  refine x_R.steps 1 (c' := (17, [(0, .ref 0), (1, .int 1), (2, .int (xs 2)), (3, .int 2), (4, .int (xs 4)), (5, .int (xs 5))], [], x_h0, 0, 0)) rfl ?_
  refine x_R.steps 3 (c' := (22, [(0, .ref 0), (1, .int 1), (2, .int (xs 2)), (3, .int 2), (4, .int (xs 4)), (5, .int (xs 5))], [.int 1, .ref 42], x_h0, 0, 0)) rfl ?_
  refine x_R.steps 1 (c' := (23, [(0, .ref 0), (1, .int 1), (2, .int (xs 2)), (3, .int 2), (4, .int (xs 4)), (5, .int (xs 5))], [.ref 69], x_h0, 0, 0)) rfl ?_
  refine x_R.steps 4 (c' := (30, [(6, .ref 69), (0, .ref 0), (1, .int 1), (2, .int (xs 2)), (3, .int 2), (4, .int (xs 4)), (5, .int (xs 5))], [.int 2, .ref 42], x_h0, 0, 0)) rfl ?_
  refine x_R.steps 1 (c' := (31, [(6, .ref 69), (0, .ref 0), (1, .int 1), (2, .int (xs 2)), (3, .int 2), (4, .int (xs 4)), (5, .int (xs 5))], [.ref 71], x_h0, 0, 0)) rfl ?_
  refine x_R.steps 2 (c' := (35, [(7, .ref 71), (6, .ref 69), (0, .ref 0), (1, .int 1), (2, .int (xs 2)), (3, .int 2), (4, .int (xs 4)), (5, .int (xs 5))], [.ref 69], x_h0, 0, 0)) rfl ?_
  refine x_R.call (a := 91) (vs := [.ref 69]) (rest := []) (M' := M_cX8_isMade) rfl rfl rfl ?_
  refine x_R.steps 2 (c' := (4, [(0, .ref 69)], [.int (-1)], x_h0, 0, 0)) rfl ?_
  refine x_R.steps 1 (c' := (11, [(0, .ref 69)], [], x_h0, 0, 0)) rfl ?_
  refine x_R.steps 1 (c' := (12, [(0, .ref 69)], [.int 0], x_h0, 0, 0)) rfl ?_
  refine x_R.ret (v := some (.int 0)) rfl ?_
  refine x_R.steps 0 (c' := (38, [(7, .ref 71), (6, .ref 69), (0, .ref 0), (1, .int 1), (2, .int (xs 2)), (3, .int 2), (4, .int (xs 4)), (5, .int (xs 5))], [.int 0], x_h0, 0, 0)) rfl ?_
  refine x_R.steps 1 (c' := (49, [(7, .ref 71), (6, .ref 69), (0, .ref 0), (1, .int 1), (2, .int (xs 2)), (3, .int 2), (4, .int (xs 4)), (5, .int (xs 5))], [], x_h0, 0, 0)) rfl ?_
  refine x_R.steps 1 (c' := (51, [(7, .ref 71), (6, .ref 69), (0, .ref 0), (1, .int 1), (2, .int (xs 2)), (3, .int 2), (4, .int (xs 4)), (5, .int (xs 5))], [.int (-6)], x_h0, 0, 0)) rfl ?_
  refine x_R.ret (v := some (.int (-6))) rfl ?_
  refine x_R.steps 0 (c' := (2336, [(3, .int 0), (2, .ref 75), (1, .ref 0), (0, .ref x_scr)], [.int (-6)], x_h0, 98, 10728)) rfl ?_
  refine x_R.steps 5 (c' := (2341, [(3, .int 0), (2, .ref 75), (1, .ref 0), (0, .ref x_scr)], [.int 1, .ref x_scr, .ref 75, .int (-6)], x_h0, 98, 10728)) rfl ?_
  refine x_R.steps 1 (c' := (2342, [(3, .int 0), (2, .ref 75), (1, .ref 0), (0, .ref x_scr)], [.int 1, .ref 75, .int (-6)], x_h0, 98, 10728)) rfl ?_
  refine x_R.steps 4 (c' := (2346, [(3, .int 0), (2, .ref 75), (1, .ref 0), (0, .ref x_scr)], [.int 2, .ref x_scr, .int 1, .ref 75, .int (-6)], x_h0, 98, 10728)) rfl ?_
  refine x_R.steps 1 (c' := (2347, [(3, .int 0), (2, .ref 75), (1, .ref 0), (0, .ref x_scr)], [.int (xs 2), .int 1, .ref 75, .int (-6)], x_h0, 98, 10728)) rfl ?_
  refine x_R.steps 4 (c' := (2351, [(3, .int 0), (2, .ref 75), (1, .ref 0), (0, .ref x_scr)], [.int 3, .ref x_scr, .int (xs 2), .int 1, .ref 75, .int (-6)], x_h0, 98, 10728)) rfl ?_
  refine x_R.steps 1 (c' := (2352, [(3, .int 0), (2, .ref 75), (1, .ref 0), (0, .ref x_scr)], [.int 2, .int (xs 2), .int 1, .ref 75, .int (-6)], x_h0, 98, 10728)) rfl ?_
  refine x_R.steps 4 (c' := (2356, [(3, .int 0), (2, .ref 75), (1, .ref 0), (0, .ref x_scr)], [.int 4, .ref x_scr, .int 2, .int (xs 2), .int 1, .ref 75, .int (-6)], x_h0, 98, 10728)) rfl ?_
  refine x_R.steps 1 (c' := (2357, [(3, .int 0), (2, .ref 75), (1, .ref 0), (0, .ref x_scr)], [.int (xs 4), .int 2, .int (xs 2), .int 1, .ref 75, .int (-6)], x_h0, 98, 10728)) rfl ?_
  refine x_R.steps 4 (c' := (2361, [(3, .int 0), (2, .ref 75), (1, .ref 0), (0, .ref x_scr)], [.int 5, .ref x_scr, .int (xs 4), .int 2, .int (xs 2), .int 1, .ref 75, .int (-6)], x_h0, 98, 10728)) rfl ?_
  refine x_R.steps 1 (c' := (2362, [(3, .int 0), (2, .ref 75), (1, .ref 0), (0, .ref x_scr)], [.int (xs 5), .int (xs 4), .int 2, .int (xs 2), .int 1, .ref 75, .int (-6)], x_h0, 98, 10728)) rfl ?_
  refine x_R.call (a := 355) (vs := [.ref 75, .int 1, .int (xs 2), .int 2, .int (xs 4), .int (xs 5)]) (rest := [.int (-6)]) (M' := M_cX12_paste) rfl rfl rfl ?_
  refine x_R.steps 1 (c' := (1, [(0, .ref 75), (1, .int 1), (2, .int (xs 2)), (3, .int 2), (4, .int (xs 4)), (5, .int (xs 5))], [.int 1], x_h0, 0, 0)) rfl ?_
  refine x_R.call (a := 351) (vs := [.int 1]) (rest := []) (M' := M_cX12_isSlot) rfl rfl rfl ?_
  refine x_R.steps 4 (c' := (6, [(0, .int 1)], [.long 3, .long 0, .long 1], x_h0, 0, 0)) rfl ?_
  refine x_R.call (a := 196) (vs := [.long 1, .long 0, .long 3]) (rest := []) (M' := M_cX12_in) rfl rfl rfl ?_
  refine x_R.steps 3 (c' := (3, [(0, .long 1), (2, .long 0), (4, .long 3)], [.int 1], x_h0, 0, 0)) rfl ?_
  refine x_R.steps 1 (c' := (6, [(0, .long 1), (2, .long 0), (4, .long 3)], [], x_h0, 0, 0)) rfl ?_
  refine x_R.steps 3 (c' := (10, [(0, .long 1), (2, .long 0), (4, .long 3)], [.int (-1)], x_h0, 0, 0)) rfl ?_
  refine x_R.steps 1 (c' := (13, [(0, .long 1), (2, .long 0), (4, .long 3)], [], x_h0, 0, 0)) rfl ?_
  refine x_R.steps 2 (c' := (18, [(0, .long 1), (2, .long 0), (4, .long 3)], [.int 1], x_h0, 0, 0)) rfl ?_
  refine x_R.ret (v := some (.int 1)) rfl ?_
  refine x_R.steps 0 (c' := (9, [(0, .int 1)], [.int 1], x_h0, 0, 0)) rfl ?_
  refine x_R.ret (v := some (.int 1)) rfl ?_
  refine x_R.steps 0 (c' := (4, [(0, .ref 75), (1, .int 1), (2, .int (xs 2)), (3, .int 2), (4, .int (xs 4)), (5, .int (xs 5))], [.int 1], x_h0, 0, 0)) rfl ?_
  refine x_R.steps 1 (c' := (7, [(0, .ref 75), (1, .int 1), (2, .int (xs 2)), (3, .int 2), (4, .int (xs 4)), (5, .int (xs 5))], [], x_h0, 0, 0)) rfl ?_
  refine x_R.steps 1 (c' := (8, [(0, .ref 75), (1, .int 1), (2, .int (xs 2)), (3, .int 2), (4, .int (xs 4)), (5, .int (xs 5))], [.int 2], x_h0, 0, 0)) rfl ?_
  refine x_R.call (a := 351) (vs := [.int 2]) (rest := []) (M' := M_cX12_isSlot) rfl rfl rfl ?_
  refine x_R.steps 4 (c' := (6, [(0, .int 2)], [.long 3, .long 0, .long 2], x_h0, 0, 0)) rfl ?_
  refine x_R.call (a := 196) (vs := [.long 2, .long 0, .long 3]) (rest := []) (M' := M_cX12_in) rfl rfl rfl ?_
  refine x_R.steps 3 (c' := (3, [(0, .long 2), (2, .long 0), (4, .long 3)], [.int 1], x_h0, 0, 0)) rfl ?_
  refine x_R.steps 1 (c' := (6, [(0, .long 2), (2, .long 0), (4, .long 3)], [], x_h0, 0, 0)) rfl ?_
  refine x_R.steps 3 (c' := (10, [(0, .long 2), (2, .long 0), (4, .long 3)], [.int (-1)], x_h0, 0, 0)) rfl ?_
  refine x_R.steps 1 (c' := (13, [(0, .long 2), (2, .long 0), (4, .long 3)], [], x_h0, 0, 0)) rfl ?_
  refine x_R.steps 2 (c' := (18, [(0, .long 2), (2, .long 0), (4, .long 3)], [.int 1], x_h0, 0, 0)) rfl ?_
  refine x_R.ret (v := some (.int 1)) rfl ?_
  refine x_R.steps 0 (c' := (9, [(0, .int 2)], [.int 1], x_h0, 0, 0)) rfl ?_
  refine x_R.ret (v := some (.int 1)) rfl ?_
  refine x_R.steps 0 (c' := (11, [(0, .ref 75), (1, .int 1), (2, .int (xs 2)), (3, .int 2), (4, .int (xs 4)), (5, .int (xs 5))], [.int 1], x_h0, 0, 0)) rfl ?_
  refine x_R.steps 1 (c' := (17, [(0, .ref 75), (1, .int 1), (2, .int (xs 2)), (3, .int 2), (4, .int (xs 4)), (5, .int (xs 5))], [], x_h0, 0, 0)) rfl ?_
  refine x_R.steps 3 (c' := (22, [(0, .ref 75), (1, .int 1), (2, .int (xs 2)), (3, .int 2), (4, .int (xs 4)), (5, .int (xs 5))], [.int 1, .ref 94], x_h0, 0, 0)) rfl ?_
  refine x_R.steps 1 (c' := (23, [(0, .ref 75), (1, .int 1), (2, .int (xs 2)), (3, .int 2), (4, .int (xs 4)), (5, .int (xs 5))], [.int (-1)], x_h0, 0, 0)) rfl ?_
  refine x_R.steps 1 (c' := (24, [(0, .ref 75), (1, .int 1), (2, .int (xs 2)), (3, .int 2), (4, .int (xs 4)), (5, .int (xs 5))], [.int (-1), .int (-1)], x_h0, 0, 0)) rfl ?_
  refine x_R.steps 1 (c' := (37, [(0, .ref 75), (1, .int 1), (2, .int (xs 2)), (3, .int 2), (4, .int (xs 4)), (5, .int (xs 5))], [], x_h0, 0, 0)) rfl ?_
  refine x_R.steps 1 (c' := (39, [(0, .ref 75), (1, .int 1), (2, .int (xs 2)), (3, .int 2), (4, .int (xs 4)), (5, .int (xs 5))], [.int (-6)], x_h0, 0, 0)) rfl ?_
  refine x_R.ret (v := some (.int (-6))) rfl ?_
  refine x_R.steps 0 (c' := (2365, [(3, .int 0), (2, .ref 75), (1, .ref 0), (0, .ref x_scr)], [.int (-6), .int (-6)], x_h0, 98, 10728)) rfl ?_
  refine x_R.steps 1 (c' := (2370, [(3, .int 0), (2, .ref 75), (1, .ref 0), (0, .ref x_scr)], [], x_h0, 98, 10728)) rfl ?_
  refine x_R.steps 7 (c' := (24, [(3, .int 6), (2, .ref 75), (1, .ref 0), (0, .ref x_scr)], [.int 0, .int 6], x_h0, 98, 10728)) rfl ?_
  refine x_R.steps 1 (c' := (2376, [(3, .int 6), (2, .ref 75), (1, .ref 0), (0, .ref x_scr)], [], x_h0, 98, 10728)) rfl ?_
  refine x_R.steps 1 (c' := (2377, [(3, .int 6), (2, .ref 75), (1, .ref 0), (0, .ref x_scr)], [.int 1], x_h0, 98, 10728)) rfl ?_
  exact x_R.ret (v := some (.int 1)) rfl x_fin
