set_option maxRecDepth 100000 in
set_option maxHeartbeats 4000000 in
theorem x_c26_0 (xs : Nat → Int32)  : x_R x_mt (some (6, xs)) 13 M_law (1066, [(3, .int 0), (2, .ref 75), (1, .ref 0), (0, .ref x_scr)], [], x_h0, 98, 10728) x_P := by
  refine x_R.steps 5 (c' := (1071, [(3, .int 0), (2, .ref 75), (1, .ref 0), (0, .ref x_scr)], [.int 1, .ref x_scr, .ref 0], x_h0, 98, 10728)) rfl ?_
  refine x_R.steps 1 (c' := (1072, [(3, .int 0), (2, .ref 75), (1, .ref 0), (0, .ref x_scr)], [.int (xs 1), .ref 0], x_h0, 98, 10728)) rfl ?_
  refine x_R.call (a := 141) (vs := [.ref 0, .int (xs 1)]) (rest := []) (M' := M_cX11_middle) rfl rfl rfl ?_
  refine x_R.steps 2 (c' := (4, [(0, .ref 0), (1, .int (xs 1))], [.ref 1], x_h0, 0, 0)) rfl ?_
  refine x_R.call (a := 11) (vs := [.ref 1]) (rest := []) (M' := M_cX2_isTold) rfl rfl rfl ?_
  refine x_R.steps 2 (c' := (4, [(0, .ref 1)], [.int 0], x_h0, 0, 0)) rfl ?_
  refine x_R.steps 1 (c' := (11, [(0, .ref 1)], [], x_h0, 0, 0)) rfl ?_
  refine x_R.steps 1 (c' := (12, [(0, .ref 1)], [.int 0], x_h0, 0, 0)) rfl ?_
  refine x_R.ret (v := some (.int 0)) rfl ?_
  refine x_R.steps 0 (c' := (7, [(0, .ref 0), (1, .int (xs 1))], [.int 0], x_h0, 0, 0)) rfl ?_
  refine x_R.steps 1 (c' := (19, [(0, .ref 0), (1, .int (xs 1))], [], x_h0, 0, 0)) rfl ?_
  refine x_R.steps 1 (c' := (21, [(0, .ref 0), (1, .int (xs 1))], [.int (-2)], x_h0, 0, 0)) rfl ?_
  refine x_R.ret (v := some (.int (-2))) rfl ?_
  refine x_R.steps 0 (c' := (1075, [(3, .int 0), (2, .ref 75), (1, .ref 0), (0, .ref x_scr)], [.int (-2)], x_h0, 98, 10728)) rfl ?_
  refine x_R.steps 5 (c' := (1080, [(3, .int 0), (2, .ref 75), (1, .ref 0), (0, .ref x_scr)], [.int 1, .ref x_scr, .ref 75, .int (-2)], x_h0, 98, 10728)) rfl ?_
  refine x_R.steps 1 (c' := (1081, [(3, .int 0), (2, .ref 75), (1, .ref 0), (0, .ref x_scr)], [.int (xs 1), .ref 75, .int (-2)], x_h0, 98, 10728)) rfl ?_
  refine x_R.call (a := 282) (vs := [.ref 75, .int (xs 1)]) (rest := [.int (-2)]) (M' := M_cX12_middle) rfl rfl rfl ?_
  refine x_R.steps 1 (c' := (1, [(0, .ref 75), (1, .int (xs 1))], [.ref 75], x_h0, 0, 0)) rfl ?_
  refine x_R.call (a := 199) (vs := [.ref 75]) (rest := []) (M' := M_cX12_isBoard) rfl rfl rfl ?_
  refine x_R.steps 3 (c' := (5, [(0, .ref 75)], [.int 0, .ref 76], x_h0, 0, 0)) rfl ?_
  refine x_R.steps 1 (c' := (6, [(0, .ref 75)], [.int 0], x_h0, 0, 0)) rfl ?_
  refine x_R.steps 1 (c' := (13, [(0, .ref 75)], [], x_h0, 0, 0)) rfl ?_
  refine x_R.steps 1 (c' := (14, [(0, .ref 75)], [.int 0], x_h0, 0, 0)) rfl ?_
  refine x_R.ret (v := some (.int 0)) rfl ?_
  refine x_R.steps 0 (c' := (4, [(0, .ref 75), (1, .int (xs 1))], [.int 0], x_h0, 0, 0)) rfl ?_
  refine x_R.steps 1 (c' := (17, [(0, .ref 75), (1, .int (xs 1))], [], x_h0, 0, 0)) rfl ?_
  refine x_R.steps 1 (c' := (19, [(0, .ref 75), (1, .int (xs 1))], [.int (-2)], x_h0, 0, 0)) rfl ?_
  refine x_R.ret (v := some (.int (-2))) rfl ?_
  refine x_R.steps 0 (c' := (1084, [(3, .int 0), (2, .ref 75), (1, .ref 0), (0, .ref x_scr)], [.int (-2), .int (-2)], x_h0, 98, 10728)) rfl ?_
  refine x_R.steps 1 (c' := (2370, [(3, .int 0), (2, .ref 75), (1, .ref 0), (0, .ref x_scr)], [], x_h0, 98, 10728)) rfl ?_
  refine x_R.steps 7 (c' := (24, [(3, .int 6), (2, .ref 75), (1, .ref 0), (0, .ref x_scr)], [.int 0, .int 6], x_h0, 98, 10728)) rfl ?_
  refine x_R.steps 1 (c' := (2376, [(3, .int 6), (2, .ref 75), (1, .ref 0), (0, .ref x_scr)], [], x_h0, 98, 10728)) rfl ?_
  refine x_R.steps 1 (c' := (2377, [(3, .int 6), (2, .ref 75), (1, .ref 0), (0, .ref x_scr)], [.int 1], x_h0, 98, 10728)) rfl ?_
  exact x_R.ret (v := some (.int 1)) rfl x_fin
set_option maxRecDepth 100000 in
set_option maxHeartbeats 4000000 in
theorem x_c27_0 (xs : Nat → Int32)  : x_R x_mt (some (6, xs)) 13 M_law (1089, [(3, .int 0), (2, .ref 75), (1, .ref 0), (0, .ref x_scr)], [], x_h0, 98, 10728) x_P := by
  refine x_R.steps 5 (c' := (1094, [(3, .int 0), (2, .ref 75), (1, .ref 0), (0, .ref x_scr)], [.int 1, .ref x_scr, .ref 0], x_h0, 98, 10728)) rfl ?_
  refine x_R.steps 1 (c' := (1095, [(3, .int 0), (2, .ref 75), (1, .ref 0), (0, .ref x_scr)], [.int (xs 1), .ref 0], x_h0, 98, 10728)) rfl ?_
  refine x_R.steps 4 (c' := (1099, [(3, .int 0), (2, .ref 75), (1, .ref 0), (0, .ref x_scr)], [.int 2, .ref x_scr, .int (xs 1), .ref 0], x_h0, 98, 10728)) rfl ?_
  refine x_R.steps 1 (c' := (1100, [(3, .int 0), (2, .ref 75), (1, .ref 0), (0, .ref x_scr)], [.int (xs 2), .int (xs 1), .ref 0], x_h0, 98, 10728)) rfl ?_
  refine x_R.call (a := 142) (vs := [.ref 0, .int (xs 1), .int (xs 2)]) (rest := []) (M' := M_cX11_reach) rfl rfl rfl ?_
  refine x_R.steps 3 (c' := (5, [(0, .ref 0), (1, .int (xs 1)), (2, .int (xs 2))], [.int (xs 1), .ref 1], x_h0, 0, 0)) rfl ?_
  refine x_R.call (a := 15) (vs := [.ref 1, .int (xs 1)]) (rest := []) (M' := M_cX2_isPlayer) rfl rfl rfl ?_
  refine x_R.steps 1 (c' := (1, [(0, .ref 1), (1, .int (xs 1))], [.int (xs 1)], x_h0, 0, 0)) rfl ?_
  refine x_R.ite (p := (xs 1) < (0 : Int32)) (c1 := (16, [(0, .ref 1), (1, .int (xs 1))], [], x_h0, 0, 0)) (c2 := (4, [(0, .ref 1), (1, .int (xs 1))], [], x_h0, 0, 0)) rfl (fun h1 => ?_) (fun h1 => ?_)
  · have g1 := (x_i_lt (C := 0) (by decide)).mp h1
    refine x_R.steps 1 (c' := (17, [(0, .ref 1), (1, .int (xs 1))], [.int 0], x_h0, 0, 0)) rfl ?_
    refine x_R.ret (v := some (.int 0)) rfl ?_
    refine x_R.steps 0 (c' := (8, [(0, .ref 0), (1, .int (xs 1)), (2, .int (xs 2))], [.int 0], x_h0, 0, 0)) rfl ?_
    refine x_R.steps 1 (c' := (22, [(0, .ref 0), (1, .int (xs 1)), (2, .int (xs 2))], [], x_h0, 0, 0)) rfl ?_
    refine x_R.steps 1 (c' := (24, [(0, .ref 0), (1, .int (xs 1)), (2, .int (xs 2))], [.int (-2)], x_h0, 0, 0)) rfl ?_
    refine x_R.ret (v := some (.int (-2))) rfl ?_
    refine x_R.steps 0 (c' := (1103, [(3, .int 0), (2, .ref 75), (1, .ref 0), (0, .ref x_scr)], [.int (-2)], x_h0, 98, 10728)) rfl ?_
    refine x_R.steps 5 (c' := (1108, [(3, .int 0), (2, .ref 75), (1, .ref 0), (0, .ref x_scr)], [.int 1, .ref x_scr, .ref 75, .int (-2)], x_h0, 98, 10728)) rfl ?_
    refine x_R.steps 1 (c' := (1109, [(3, .int 0), (2, .ref 75), (1, .ref 0), (0, .ref x_scr)], [.int (xs 1), .ref 75, .int (-2)], x_h0, 98, 10728)) rfl ?_
    refine x_R.steps 4 (c' := (1113, [(3, .int 0), (2, .ref 75), (1, .ref 0), (0, .ref x_scr)], [.int 2, .ref x_scr, .int (xs 1), .ref 75, .int (-2)], x_h0, 98, 10728)) rfl ?_
    refine x_R.steps 1 (c' := (1114, [(3, .int 0), (2, .ref 75), (1, .ref 0), (0, .ref x_scr)], [.int (xs 2), .int (xs 1), .ref 75, .int (-2)], x_h0, 98, 10728)) rfl ?_
    refine x_R.call (a := 284) (vs := [.ref 75, .int (xs 1), .int (xs 2)]) (rest := [.int (-2)]) (M' := M_cX12_reach) rfl rfl rfl ?_
    refine x_R.steps 2 (c' := (2, [(0, .ref 75), (1, .int (xs 1)), (2, .int (xs 2))], [.int (xs 1), .ref 75], x_h0, 0, 0)) rfl ?_
    refine x_R.call (a := 205) (vs := [.ref 75, .int (xs 1)]) (rest := []) (M' := M_cX12_isPlayer) rfl rfl rfl ?_
    refine x_R.steps 6 (c' := (9, [(0, .ref 75), (1, .int (xs 1))], [.int 6, .ref 76, .long 0, .long ((xs 1)).toInt64], x_h0, 0, 0)) rfl ?_
    refine x_R.steps 1 (c' := (10, [(0, .ref 75), (1, .int (xs 1))], [.int 0, .long 0, .long ((xs 1)).toInt64], x_h0, 0, 0)) rfl ?_
    refine x_R.steps 3 (c' := (13, [(0, .ref 75), (1, .int (xs 1))], [.long (-1), .long 0, .long ((xs 1)).toInt64], x_h0, 0, 0)) rfl ?_
    refine x_R.call (a := 196) (vs := [.long ((xs 1)).toInt64, .long 0, .long (-1)]) (rest := []) (M' := M_cX12_in) rfl rfl rfl ?_
    refine x_R.steps 3 (c' := (3, [(0, .long ((xs 1)).toInt64), (2, .long 0), (4, .long (-1))], [.int (lg_cmp ((xs 1)).toInt64 0)], x_h0, 0, 0)) rfl ?_
    refine x_R.ite (p := (lg_cmp ((xs 1)).toInt64 0) < (0 : Int32)) (c1 := (17, [(0, .long ((xs 1)).toInt64), (2, .long 0), (4, .long (-1))], [], x_h0, 0, 0)) (c2 := (6, [(0, .long ((xs 1)).toInt64), (2, .long 0), (4, .long (-1))], [], x_h0, 0, 0)) rfl (fun h2 => ?_) (fun h2 => ?_)
    · have g2 := (x_lg_lt (C := 0) (by decide)).mp h2
      refine x_R.steps 1 (c' := (18, [(0, .long ((xs 1)).toInt64), (2, .long 0), (4, .long (-1))], [.int 0], x_h0, 0, 0)) rfl ?_
      refine x_R.ret (v := some (.int 0)) rfl ?_
      refine x_R.steps 0 (c' := (16, [(0, .ref 75), (1, .int (xs 1))], [.int 0], x_h0, 0, 0)) rfl ?_
      refine x_R.ret (v := some (.int 0)) rfl ?_
      refine x_R.steps 0 (c' := (5, [(0, .ref 75), (1, .int (xs 1)), (2, .int (xs 2))], [.int 0], x_h0, 0, 0)) rfl ?_
      refine x_R.steps 1 (c' := (26, [(0, .ref 75), (1, .int (xs 1)), (2, .int (xs 2))], [], x_h0, 0, 0)) rfl ?_
      refine x_R.steps 1 (c' := (28, [(0, .ref 75), (1, .int (xs 1)), (2, .int (xs 2))], [.int (-2)], x_h0, 0, 0)) rfl ?_
      refine x_R.ret (v := some (.int (-2))) rfl ?_
      refine x_R.steps 0 (c' := (1117, [(3, .int 0), (2, .ref 75), (1, .ref 0), (0, .ref x_scr)], [.int (-2), .int (-2)], x_h0, 98, 10728)) rfl ?_
      refine x_R.steps 1 (c' := (2370, [(3, .int 0), (2, .ref 75), (1, .ref 0), (0, .ref x_scr)], [], x_h0, 98, 10728)) rfl ?_
      refine x_R.steps 7 (c' := (24, [(3, .int 6), (2, .ref 75), (1, .ref 0), (0, .ref x_scr)], [.int 0, .int 6], x_h0, 98, 10728)) rfl ?_
      refine x_R.steps 1 (c' := (2376, [(3, .int 6), (2, .ref 75), (1, .ref 0), (0, .ref x_scr)], [], x_h0, 98, 10728)) rfl ?_
      refine x_R.steps 1 (c' := (2377, [(3, .int 6), (2, .ref 75), (1, .ref 0), (0, .ref x_scr)], [.int 1], x_h0, 98, 10728)) rfl ?_
      exact x_R.ret (v := some (.int 1)) rfl x_fin
    · have g2 := mt (x_lg_lt (C := 0) (by decide)).mpr h2
      exfalso; omega
  · have g1 := mt (x_i_lt (C := 0) (by decide)).mpr h1
    refine x_R.steps 3 (c' := (9, [(0, .ref 1), (1, .int (xs 1))], [.int 0, .int (xs 1)], x_h0, 0, 0)) rfl ?_
    refine x_R.ite (p := (0 : Int32) ≤ (xs 1)) (c1 := (16, [(0, .ref 1), (1, .int (xs 1))], [], x_h0, 0, 0)) (c2 := (12, [(0, .ref 1), (1, .int (xs 1))], [], x_h0, 0, 0)) rfl (fun h3 => ?_) (fun h3 => ?_)
    · have g3 := (x_i_ge (C := 0) (by decide)).mp h3
      refine x_R.steps 1 (c' := (17, [(0, .ref 1), (1, .int (xs 1))], [.int 0], x_h0, 0, 0)) rfl ?_
      refine x_R.ret (v := some (.int 0)) rfl ?_
      refine x_R.steps 0 (c' := (8, [(0, .ref 0), (1, .int (xs 1)), (2, .int (xs 2))], [.int 0], x_h0, 0, 0)) rfl ?_
      refine x_R.steps 1 (c' := (22, [(0, .ref 0), (1, .int (xs 1)), (2, .int (xs 2))], [], x_h0, 0, 0)) rfl ?_
      refine x_R.steps 1 (c' := (24, [(0, .ref 0), (1, .int (xs 1)), (2, .int (xs 2))], [.int (-2)], x_h0, 0, 0)) rfl ?_
      refine x_R.ret (v := some (.int (-2))) rfl ?_
      refine x_R.steps 0 (c' := (1103, [(3, .int 0), (2, .ref 75), (1, .ref 0), (0, .ref x_scr)], [.int (-2)], x_h0, 98, 10728)) rfl ?_
      refine x_R.steps 5 (c' := (1108, [(3, .int 0), (2, .ref 75), (1, .ref 0), (0, .ref x_scr)], [.int 1, .ref x_scr, .ref 75, .int (-2)], x_h0, 98, 10728)) rfl ?_
      refine x_R.steps 1 (c' := (1109, [(3, .int 0), (2, .ref 75), (1, .ref 0), (0, .ref x_scr)], [.int (xs 1), .ref 75, .int (-2)], x_h0, 98, 10728)) rfl ?_
      refine x_R.steps 4 (c' := (1113, [(3, .int 0), (2, .ref 75), (1, .ref 0), (0, .ref x_scr)], [.int 2, .ref x_scr, .int (xs 1), .ref 75, .int (-2)], x_h0, 98, 10728)) rfl ?_
      refine x_R.steps 1 (c' := (1114, [(3, .int 0), (2, .ref 75), (1, .ref 0), (0, .ref x_scr)], [.int (xs 2), .int (xs 1), .ref 75, .int (-2)], x_h0, 98, 10728)) rfl ?_
      refine x_R.call (a := 284) (vs := [.ref 75, .int (xs 1), .int (xs 2)]) (rest := [.int (-2)]) (M' := M_cX12_reach) rfl rfl rfl ?_
      refine x_R.steps 2 (c' := (2, [(0, .ref 75), (1, .int (xs 1)), (2, .int (xs 2))], [.int (xs 1), .ref 75], x_h0, 0, 0)) rfl ?_
      refine x_R.call (a := 205) (vs := [.ref 75, .int (xs 1)]) (rest := []) (M' := M_cX12_isPlayer) rfl rfl rfl ?_
      refine x_R.steps 6 (c' := (9, [(0, .ref 75), (1, .int (xs 1))], [.int 6, .ref 76, .long 0, .long ((xs 1)).toInt64], x_h0, 0, 0)) rfl ?_
      refine x_R.steps 1 (c' := (10, [(0, .ref 75), (1, .int (xs 1))], [.int 0, .long 0, .long ((xs 1)).toInt64], x_h0, 0, 0)) rfl ?_
      refine x_R.steps 3 (c' := (13, [(0, .ref 75), (1, .int (xs 1))], [.long (-1), .long 0, .long ((xs 1)).toInt64], x_h0, 0, 0)) rfl ?_
      refine x_R.call (a := 196) (vs := [.long ((xs 1)).toInt64, .long 0, .long (-1)]) (rest := []) (M' := M_cX12_in) rfl rfl rfl ?_
      refine x_R.steps 3 (c' := (3, [(0, .long ((xs 1)).toInt64), (2, .long 0), (4, .long (-1))], [.int (lg_cmp ((xs 1)).toInt64 0)], x_h0, 0, 0)) rfl ?_
      refine x_R.ite (p := (lg_cmp ((xs 1)).toInt64 0) < (0 : Int32)) (c1 := (17, [(0, .long ((xs 1)).toInt64), (2, .long 0), (4, .long (-1))], [], x_h0, 0, 0)) (c2 := (6, [(0, .long ((xs 1)).toInt64), (2, .long 0), (4, .long (-1))], [], x_h0, 0, 0)) rfl (fun h4 => ?_) (fun h4 => ?_)
      · have g4 := (x_lg_lt (C := 0) (by decide)).mp h4
        exfalso; omega
      · have g4 := mt (x_lg_lt (C := 0) (by decide)).mpr h4
        refine x_R.steps 3 (c' := (10, [(0, .long ((xs 1)).toInt64), (2, .long 0), (4, .long (-1))], [.int (lg_cmp ((xs 1)).toInt64 (-1))], x_h0, 0, 0)) rfl ?_
        refine x_R.ite (p := (0 : Int32) < (lg_cmp ((xs 1)).toInt64 (-1))) (c1 := (17, [(0, .long ((xs 1)).toInt64), (2, .long 0), (4, .long (-1))], [], x_h0, 0, 0)) (c2 := (13, [(0, .long ((xs 1)).toInt64), (2, .long 0), (4, .long (-1))], [], x_h0, 0, 0)) rfl (fun h5 => ?_) (fun h5 => ?_)
        · have g5 := (x_lg_gt (C := -1) (by decide)).mp h5
          refine x_R.steps 1 (c' := (18, [(0, .long ((xs 1)).toInt64), (2, .long 0), (4, .long (-1))], [.int 0], x_h0, 0, 0)) rfl ?_
          refine x_R.ret (v := some (.int 0)) rfl ?_
          refine x_R.steps 0 (c' := (16, [(0, .ref 75), (1, .int (xs 1))], [.int 0], x_h0, 0, 0)) rfl ?_
          refine x_R.ret (v := some (.int 0)) rfl ?_
          refine x_R.steps 0 (c' := (5, [(0, .ref 75), (1, .int (xs 1)), (2, .int (xs 2))], [.int 0], x_h0, 0, 0)) rfl ?_
          refine x_R.steps 1 (c' := (26, [(0, .ref 75), (1, .int (xs 1)), (2, .int (xs 2))], [], x_h0, 0, 0)) rfl ?_
          refine x_R.steps 1 (c' := (28, [(0, .ref 75), (1, .int (xs 1)), (2, .int (xs 2))], [.int (-2)], x_h0, 0, 0)) rfl ?_
          refine x_R.ret (v := some (.int (-2))) rfl ?_
          refine x_R.steps 0 (c' := (1117, [(3, .int 0), (2, .ref 75), (1, .ref 0), (0, .ref x_scr)], [.int (-2), .int (-2)], x_h0, 98, 10728)) rfl ?_
          refine x_R.steps 1 (c' := (2370, [(3, .int 0), (2, .ref 75), (1, .ref 0), (0, .ref x_scr)], [], x_h0, 98, 10728)) rfl ?_
          refine x_R.steps 7 (c' := (24, [(3, .int 6), (2, .ref 75), (1, .ref 0), (0, .ref x_scr)], [.int 0, .int 6], x_h0, 98, 10728)) rfl ?_
          refine x_R.steps 1 (c' := (2376, [(3, .int 6), (2, .ref 75), (1, .ref 0), (0, .ref x_scr)], [], x_h0, 98, 10728)) rfl ?_
          refine x_R.steps 1 (c' := (2377, [(3, .int 6), (2, .ref 75), (1, .ref 0), (0, .ref x_scr)], [.int 1], x_h0, 98, 10728)) rfl ?_
          exact x_R.ret (v := some (.int 1)) rfl x_fin
        · have g5 := mt (x_lg_gt (C := -1) (by decide)).mpr h5
          exfalso; omega
    · have g3 := mt (x_i_ge (C := 0) (by decide)).mpr h3
      exfalso; omega
set_option maxRecDepth 100000 in
set_option maxHeartbeats 4000000 in
theorem x_c28_0 (xs : Nat → Int32)  : x_R x_mt (some (6, xs)) 13 M_law (1122, [(3, .int 0), (2, .ref 75), (1, .ref 0), (0, .ref x_scr)], [], x_h0, 98, 10728) x_P := by
  refine x_R.steps 5 (c' := (1127, [(3, .int 0), (2, .ref 75), (1, .ref 0), (0, .ref x_scr)], [.int 1, .ref x_scr, .ref 0], x_h0, 98, 10728)) rfl ?_
  refine x_R.steps 1 (c' := (1128, [(3, .int 0), (2, .ref 75), (1, .ref 0), (0, .ref x_scr)], [.int (xs 1), .ref 0], x_h0, 98, 10728)) rfl ?_
  refine x_R.call (a := 143) (vs := [.ref 0, .int (xs 1)]) (rest := []) (M' := M_cX11_post) rfl rfl rfl ?_
  refine x_R.steps 3 (c' := (5, [(0, .ref 0), (1, .int (xs 1))], [.int (xs 1), .ref 1], x_h0, 0, 0)) rfl ?_
  refine x_R.call (a := 15) (vs := [.ref 1, .int (xs 1)]) (rest := []) (M' := M_cX2_isPlayer) rfl rfl rfl ?_
  refine x_R.steps 1 (c' := (1, [(0, .ref 1), (1, .int (xs 1))], [.int (xs 1)], x_h0, 0, 0)) rfl ?_
  refine x_R.ite (p := (xs 1) < (0 : Int32)) (c1 := (16, [(0, .ref 1), (1, .int (xs 1))], [], x_h0, 0, 0)) (c2 := (4, [(0, .ref 1), (1, .int (xs 1))], [], x_h0, 0, 0)) rfl (fun h1 => ?_) (fun h1 => ?_)
  · have g1 := (x_i_lt (C := 0) (by decide)).mp h1
    refine x_R.steps 1 (c' := (17, [(0, .ref 1), (1, .int (xs 1))], [.int 0], x_h0, 0, 0)) rfl ?_
    refine x_R.ret (v := some (.int 0)) rfl ?_
    refine x_R.steps 0 (c' := (8, [(0, .ref 0), (1, .int (xs 1))], [.int 0], x_h0, 0, 0)) rfl ?_
    refine x_R.steps 1 (c' := (11, [(0, .ref 0), (1, .int (xs 1))], [], x_h0, 0, 0)) rfl ?_
    refine x_R.steps 1 (c' := (13, [(0, .ref 0), (1, .int (xs 1))], [.int (-2)], x_h0, 0, 0)) rfl ?_
    refine x_R.ret (v := some (.int (-2))) rfl ?_
    refine x_R.steps 0 (c' := (1131, [(3, .int 0), (2, .ref 75), (1, .ref 0), (0, .ref x_scr)], [.int (-2)], x_h0, 98, 10728)) rfl ?_
    refine x_R.steps 5 (c' := (1136, [(3, .int 0), (2, .ref 75), (1, .ref 0), (0, .ref x_scr)], [.int 1, .ref x_scr, .ref 75, .int (-2)], x_h0, 98, 10728)) rfl ?_
    refine x_R.steps 1 (c' := (1137, [(3, .int 0), (2, .ref 75), (1, .ref 0), (0, .ref x_scr)], [.int (xs 1), .ref 75, .int (-2)], x_h0, 98, 10728)) rfl ?_
    refine x_R.call (a := 286) (vs := [.ref 75, .int (xs 1)]) (rest := [.int (-2)]) (M' := M_cX12_post) rfl rfl rfl ?_
    refine x_R.steps 2 (c' := (2, [(0, .ref 75), (1, .int (xs 1))], [.int (xs 1), .ref 75], x_h0, 0, 0)) rfl ?_
    refine x_R.call (a := 205) (vs := [.ref 75, .int (xs 1)]) (rest := []) (M' := M_cX12_isPlayer) rfl rfl rfl ?_
    refine x_R.steps 6 (c' := (9, [(0, .ref 75), (1, .int (xs 1))], [.int 6, .ref 76, .long 0, .long ((xs 1)).toInt64], x_h0, 0, 0)) rfl ?_
    refine x_R.steps 1 (c' := (10, [(0, .ref 75), (1, .int (xs 1))], [.int 0, .long 0, .long ((xs 1)).toInt64], x_h0, 0, 0)) rfl ?_
    refine x_R.steps 3 (c' := (13, [(0, .ref 75), (1, .int (xs 1))], [.long (-1), .long 0, .long ((xs 1)).toInt64], x_h0, 0, 0)) rfl ?_
    refine x_R.call (a := 196) (vs := [.long ((xs 1)).toInt64, .long 0, .long (-1)]) (rest := []) (M' := M_cX12_in) rfl rfl rfl ?_
    refine x_R.steps 3 (c' := (3, [(0, .long ((xs 1)).toInt64), (2, .long 0), (4, .long (-1))], [.int (lg_cmp ((xs 1)).toInt64 0)], x_h0, 0, 0)) rfl ?_
    refine x_R.ite (p := (lg_cmp ((xs 1)).toInt64 0) < (0 : Int32)) (c1 := (17, [(0, .long ((xs 1)).toInt64), (2, .long 0), (4, .long (-1))], [], x_h0, 0, 0)) (c2 := (6, [(0, .long ((xs 1)).toInt64), (2, .long 0), (4, .long (-1))], [], x_h0, 0, 0)) rfl (fun h2 => ?_) (fun h2 => ?_)
    · have g2 := (x_lg_lt (C := 0) (by decide)).mp h2
      refine x_R.steps 1 (c' := (18, [(0, .long ((xs 1)).toInt64), (2, .long 0), (4, .long (-1))], [.int 0], x_h0, 0, 0)) rfl ?_
      refine x_R.ret (v := some (.int 0)) rfl ?_
      refine x_R.steps 0 (c' := (16, [(0, .ref 75), (1, .int (xs 1))], [.int 0], x_h0, 0, 0)) rfl ?_
      refine x_R.ret (v := some (.int 0)) rfl ?_
      refine x_R.steps 0 (c' := (5, [(0, .ref 75), (1, .int (xs 1))], [.int 0], x_h0, 0, 0)) rfl ?_
      refine x_R.steps 1 (c' := (8, [(0, .ref 75), (1, .int (xs 1))], [], x_h0, 0, 0)) rfl ?_
      refine x_R.steps 1 (c' := (10, [(0, .ref 75), (1, .int (xs 1))], [.int (-2)], x_h0, 0, 0)) rfl ?_
      refine x_R.ret (v := some (.int (-2))) rfl ?_
      refine x_R.steps 0 (c' := (1140, [(3, .int 0), (2, .ref 75), (1, .ref 0), (0, .ref x_scr)], [.int (-2), .int (-2)], x_h0, 98, 10728)) rfl ?_
      refine x_R.steps 1 (c' := (2370, [(3, .int 0), (2, .ref 75), (1, .ref 0), (0, .ref x_scr)], [], x_h0, 98, 10728)) rfl ?_
      refine x_R.steps 7 (c' := (24, [(3, .int 6), (2, .ref 75), (1, .ref 0), (0, .ref x_scr)], [.int 0, .int 6], x_h0, 98, 10728)) rfl ?_
      refine x_R.steps 1 (c' := (2376, [(3, .int 6), (2, .ref 75), (1, .ref 0), (0, .ref x_scr)], [], x_h0, 98, 10728)) rfl ?_
      refine x_R.steps 1 (c' := (2377, [(3, .int 6), (2, .ref 75), (1, .ref 0), (0, .ref x_scr)], [.int 1], x_h0, 98, 10728)) rfl ?_
      exact x_R.ret (v := some (.int 1)) rfl x_fin
    · have g2 := mt (x_lg_lt (C := 0) (by decide)).mpr h2
      exfalso; omega
  · have g1 := mt (x_i_lt (C := 0) (by decide)).mpr h1
    refine x_R.steps 3 (c' := (9, [(0, .ref 1), (1, .int (xs 1))], [.int 0, .int (xs 1)], x_h0, 0, 0)) rfl ?_
    refine x_R.ite (p := (0 : Int32) ≤ (xs 1)) (c1 := (16, [(0, .ref 1), (1, .int (xs 1))], [], x_h0, 0, 0)) (c2 := (12, [(0, .ref 1), (1, .int (xs 1))], [], x_h0, 0, 0)) rfl (fun h3 => ?_) (fun h3 => ?_)
    · have g3 := (x_i_ge (C := 0) (by decide)).mp h3
      refine x_R.steps 1 (c' := (17, [(0, .ref 1), (1, .int (xs 1))], [.int 0], x_h0, 0, 0)) rfl ?_
      refine x_R.ret (v := some (.int 0)) rfl ?_
      refine x_R.steps 0 (c' := (8, [(0, .ref 0), (1, .int (xs 1))], [.int 0], x_h0, 0, 0)) rfl ?_
      refine x_R.steps 1 (c' := (11, [(0, .ref 0), (1, .int (xs 1))], [], x_h0, 0, 0)) rfl ?_
      refine x_R.steps 1 (c' := (13, [(0, .ref 0), (1, .int (xs 1))], [.int (-2)], x_h0, 0, 0)) rfl ?_
      refine x_R.ret (v := some (.int (-2))) rfl ?_
      refine x_R.steps 0 (c' := (1131, [(3, .int 0), (2, .ref 75), (1, .ref 0), (0, .ref x_scr)], [.int (-2)], x_h0, 98, 10728)) rfl ?_
      refine x_R.steps 5 (c' := (1136, [(3, .int 0), (2, .ref 75), (1, .ref 0), (0, .ref x_scr)], [.int 1, .ref x_scr, .ref 75, .int (-2)], x_h0, 98, 10728)) rfl ?_
      refine x_R.steps 1 (c' := (1137, [(3, .int 0), (2, .ref 75), (1, .ref 0), (0, .ref x_scr)], [.int (xs 1), .ref 75, .int (-2)], x_h0, 98, 10728)) rfl ?_
      refine x_R.call (a := 286) (vs := [.ref 75, .int (xs 1)]) (rest := [.int (-2)]) (M' := M_cX12_post) rfl rfl rfl ?_
      refine x_R.steps 2 (c' := (2, [(0, .ref 75), (1, .int (xs 1))], [.int (xs 1), .ref 75], x_h0, 0, 0)) rfl ?_
      refine x_R.call (a := 205) (vs := [.ref 75, .int (xs 1)]) (rest := []) (M' := M_cX12_isPlayer) rfl rfl rfl ?_
      refine x_R.steps 6 (c' := (9, [(0, .ref 75), (1, .int (xs 1))], [.int 6, .ref 76, .long 0, .long ((xs 1)).toInt64], x_h0, 0, 0)) rfl ?_
      refine x_R.steps 1 (c' := (10, [(0, .ref 75), (1, .int (xs 1))], [.int 0, .long 0, .long ((xs 1)).toInt64], x_h0, 0, 0)) rfl ?_
      refine x_R.steps 3 (c' := (13, [(0, .ref 75), (1, .int (xs 1))], [.long (-1), .long 0, .long ((xs 1)).toInt64], x_h0, 0, 0)) rfl ?_
      refine x_R.call (a := 196) (vs := [.long ((xs 1)).toInt64, .long 0, .long (-1)]) (rest := []) (M' := M_cX12_in) rfl rfl rfl ?_
      refine x_R.steps 3 (c' := (3, [(0, .long ((xs 1)).toInt64), (2, .long 0), (4, .long (-1))], [.int (lg_cmp ((xs 1)).toInt64 0)], x_h0, 0, 0)) rfl ?_
      refine x_R.ite (p := (lg_cmp ((xs 1)).toInt64 0) < (0 : Int32)) (c1 := (17, [(0, .long ((xs 1)).toInt64), (2, .long 0), (4, .long (-1))], [], x_h0, 0, 0)) (c2 := (6, [(0, .long ((xs 1)).toInt64), (2, .long 0), (4, .long (-1))], [], x_h0, 0, 0)) rfl (fun h4 => ?_) (fun h4 => ?_)
      · have g4 := (x_lg_lt (C := 0) (by decide)).mp h4
        exfalso; omega
      · have g4 := mt (x_lg_lt (C := 0) (by decide)).mpr h4
        refine x_R.steps 3 (c' := (10, [(0, .long ((xs 1)).toInt64), (2, .long 0), (4, .long (-1))], [.int (lg_cmp ((xs 1)).toInt64 (-1))], x_h0, 0, 0)) rfl ?_
        refine x_R.ite (p := (0 : Int32) < (lg_cmp ((xs 1)).toInt64 (-1))) (c1 := (17, [(0, .long ((xs 1)).toInt64), (2, .long 0), (4, .long (-1))], [], x_h0, 0, 0)) (c2 := (13, [(0, .long ((xs 1)).toInt64), (2, .long 0), (4, .long (-1))], [], x_h0, 0, 0)) rfl (fun h5 => ?_) (fun h5 => ?_)
        · have g5 := (x_lg_gt (C := -1) (by decide)).mp h5
          refine x_R.steps 1 (c' := (18, [(0, .long ((xs 1)).toInt64), (2, .long 0), (4, .long (-1))], [.int 0], x_h0, 0, 0)) rfl ?_
          refine x_R.ret (v := some (.int 0)) rfl ?_
          refine x_R.steps 0 (c' := (16, [(0, .ref 75), (1, .int (xs 1))], [.int 0], x_h0, 0, 0)) rfl ?_
          refine x_R.ret (v := some (.int 0)) rfl ?_
          refine x_R.steps 0 (c' := (5, [(0, .ref 75), (1, .int (xs 1))], [.int 0], x_h0, 0, 0)) rfl ?_
          refine x_R.steps 1 (c' := (8, [(0, .ref 75), (1, .int (xs 1))], [], x_h0, 0, 0)) rfl ?_
          refine x_R.steps 1 (c' := (10, [(0, .ref 75), (1, .int (xs 1))], [.int (-2)], x_h0, 0, 0)) rfl ?_
          refine x_R.ret (v := some (.int (-2))) rfl ?_
          refine x_R.steps 0 (c' := (1140, [(3, .int 0), (2, .ref 75), (1, .ref 0), (0, .ref x_scr)], [.int (-2), .int (-2)], x_h0, 98, 10728)) rfl ?_
          refine x_R.steps 1 (c' := (2370, [(3, .int 0), (2, .ref 75), (1, .ref 0), (0, .ref x_scr)], [], x_h0, 98, 10728)) rfl ?_
          refine x_R.steps 7 (c' := (24, [(3, .int 6), (2, .ref 75), (1, .ref 0), (0, .ref x_scr)], [.int 0, .int 6], x_h0, 98, 10728)) rfl ?_
          refine x_R.steps 1 (c' := (2376, [(3, .int 6), (2, .ref 75), (1, .ref 0), (0, .ref x_scr)], [], x_h0, 98, 10728)) rfl ?_
          refine x_R.steps 1 (c' := (2377, [(3, .int 6), (2, .ref 75), (1, .ref 0), (0, .ref x_scr)], [.int 1], x_h0, 98, 10728)) rfl ?_
          exact x_R.ret (v := some (.int 1)) rfl x_fin
        · have g5 := mt (x_lg_gt (C := -1) (by decide)).mpr h5
          exfalso; omega
    · have g3 := mt (x_i_ge (C := 0) (by decide)).mpr h3
      exfalso; omega
set_option maxRecDepth 100000 in
set_option maxHeartbeats 4000000 in
theorem x_c29_0 (xs : Nat → Int32)  : x_R x_mt (some (6, xs)) 13 M_law (1145, [(3, .int 0), (2, .ref 75), (1, .ref 0), (0, .ref x_scr)], [], x_h0, 98, 10728) x_P := by
  refine x_R.steps 5 (c' := (1150, [(3, .int 0), (2, .ref 75), (1, .ref 0), (0, .ref x_scr)], [.int 1, .ref x_scr, .ref 0], x_h0, 98, 10728)) rfl ?_
  refine x_R.steps 1 (c' := (1151, [(3, .int 0), (2, .ref 75), (1, .ref 0), (0, .ref x_scr)], [.int (xs 1), .ref 0], x_h0, 98, 10728)) rfl ?_
  refine x_R.call (a := 138) (vs := [.ref 0, .int (xs 1)]) (rest := []) (M' := M_cX11_slack) rfl rfl rfl ?_
  refine x_R.steps 2 (c' := (2, [(0, .ref 0), (1, .int (xs 1))], [.int (xs 1), .ref 0], x_h0, 0, 0)) rfl ?_
  refine x_R.call (a := 186) (vs := [.ref 0, .int (xs 1)]) (rest := []) (M' := M_cX11_makeReady) rfl rfl rfl ?_
  refine x_R.steps 3 (c' := (5, [(0, .ref 0), (1, .int (xs 1))], [.int (xs 1), .ref 1], x_h0, 0, 0)) rfl ?_
  refine x_R.call (a := 15) (vs := [.ref 1, .int (xs 1)]) (rest := []) (M' := M_cX2_isPlayer) rfl rfl rfl ?_
  refine x_R.steps 1 (c' := (1, [(0, .ref 1), (1, .int (xs 1))], [.int (xs 1)], x_h0, 0, 0)) rfl ?_
  refine x_R.ite (p := (xs 1) < (0 : Int32)) (c1 := (16, [(0, .ref 1), (1, .int (xs 1))], [], x_h0, 0, 0)) (c2 := (4, [(0, .ref 1), (1, .int (xs 1))], [], x_h0, 0, 0)) rfl (fun h1 => ?_) (fun h1 => ?_)
  · have g1 := (x_i_lt (C := 0) (by decide)).mp h1
    refine x_R.steps 1 (c' := (17, [(0, .ref 1), (1, .int (xs 1))], [.int 0], x_h0, 0, 0)) rfl ?_
    refine x_R.ret (v := some (.int 0)) rfl ?_
    refine x_R.steps 0 (c' := (8, [(0, .ref 0), (1, .int (xs 1))], [.int 0], x_h0, 0, 0)) rfl ?_
    refine x_R.steps 1 (c' := (11, [(0, .ref 0), (1, .int (xs 1))], [], x_h0, 0, 0)) rfl ?_
    refine x_R.steps 1 (c' := (12, [(0, .ref 0), (1, .int (xs 1))], [.int 0], x_h0, 0, 0)) rfl ?_
    refine x_R.ret (v := some (.int 0)) rfl ?_
    refine x_R.steps 0 (c' := (5, [(0, .ref 0), (1, .int (xs 1))], [.int 0], x_h0, 0, 0)) rfl ?_
    refine x_R.steps 1 (c' := (8, [(0, .ref 0), (1, .int (xs 1))], [], x_h0, 0, 0)) rfl ?_
    refine x_R.steps 1 (c' := (10, [(0, .ref 0), (1, .int (xs 1))], [.int (-2)], x_h0, 0, 0)) rfl ?_
    refine x_R.ret (v := some (.int (-2))) rfl ?_
    refine x_R.steps 0 (c' := (1154, [(3, .int 0), (2, .ref 75), (1, .ref 0), (0, .ref x_scr)], [.int (-2)], x_h0, 98, 10728)) rfl ?_
    refine x_R.steps 5 (c' := (1159, [(3, .int 0), (2, .ref 75), (1, .ref 0), (0, .ref x_scr)], [.int 1, .ref x_scr, .ref 75, .int (-2)], x_h0, 98, 10728)) rfl ?_
    refine x_R.steps 1 (c' := (1160, [(3, .int 0), (2, .ref 75), (1, .ref 0), (0, .ref x_scr)], [.int (xs 1), .ref 75, .int (-2)], x_h0, 98, 10728)) rfl ?_
    refine x_R.call (a := 288) (vs := [.ref 75, .int (xs 1)]) (rest := [.int (-2)]) (M' := M_cX12_slack) rfl rfl rfl ?_
    refine x_R.steps 2 (c' := (2, [(0, .ref 75), (1, .int (xs 1))], [.int (xs 1), .ref 75], x_h0, 0, 0)) rfl ?_
    refine x_R.call (a := 205) (vs := [.ref 75, .int (xs 1)]) (rest := []) (M' := M_cX12_isPlayer) rfl rfl rfl ?_
    refine x_R.steps 6 (c' := (9, [(0, .ref 75), (1, .int (xs 1))], [.int 6, .ref 76, .long 0, .long ((xs 1)).toInt64], x_h0, 0, 0)) rfl ?_
    refine x_R.steps 1 (c' := (10, [(0, .ref 75), (1, .int (xs 1))], [.int 0, .long 0, .long ((xs 1)).toInt64], x_h0, 0, 0)) rfl ?_
    refine x_R.steps 3 (c' := (13, [(0, .ref 75), (1, .int (xs 1))], [.long (-1), .long 0, .long ((xs 1)).toInt64], x_h0, 0, 0)) rfl ?_
    refine x_R.call (a := 196) (vs := [.long ((xs 1)).toInt64, .long 0, .long (-1)]) (rest := []) (M' := M_cX12_in) rfl rfl rfl ?_
    refine x_R.steps 3 (c' := (3, [(0, .long ((xs 1)).toInt64), (2, .long 0), (4, .long (-1))], [.int (lg_cmp ((xs 1)).toInt64 0)], x_h0, 0, 0)) rfl ?_
    refine x_R.ite (p := (lg_cmp ((xs 1)).toInt64 0) < (0 : Int32)) (c1 := (17, [(0, .long ((xs 1)).toInt64), (2, .long 0), (4, .long (-1))], [], x_h0, 0, 0)) (c2 := (6, [(0, .long ((xs 1)).toInt64), (2, .long 0), (4, .long (-1))], [], x_h0, 0, 0)) rfl (fun h2 => ?_) (fun h2 => ?_)
    · have g2 := (x_lg_lt (C := 0) (by decide)).mp h2
      refine x_R.steps 1 (c' := (18, [(0, .long ((xs 1)).toInt64), (2, .long 0), (4, .long (-1))], [.int 0], x_h0, 0, 0)) rfl ?_
      refine x_R.ret (v := some (.int 0)) rfl ?_
      refine x_R.steps 0 (c' := (16, [(0, .ref 75), (1, .int (xs 1))], [.int 0], x_h0, 0, 0)) rfl ?_
      refine x_R.ret (v := some (.int 0)) rfl ?_
      refine x_R.steps 0 (c' := (5, [(0, .ref 75), (1, .int (xs 1))], [.int 0], x_h0, 0, 0)) rfl ?_
      refine x_R.steps 1 (c' := (8, [(0, .ref 75), (1, .int (xs 1))], [], x_h0, 0, 0)) rfl ?_
      refine x_R.steps 1 (c' := (10, [(0, .ref 75), (1, .int (xs 1))], [.int (-2)], x_h0, 0, 0)) rfl ?_
      refine x_R.ret (v := some (.int (-2))) rfl ?_
      refine x_R.steps 0 (c' := (1163, [(3, .int 0), (2, .ref 75), (1, .ref 0), (0, .ref x_scr)], [.int (-2), .int (-2)], x_h0, 98, 10728)) rfl ?_
      refine x_R.steps 1 (c' := (2370, [(3, .int 0), (2, .ref 75), (1, .ref 0), (0, .ref x_scr)], [], x_h0, 98, 10728)) rfl ?_
      refine x_R.steps 7 (c' := (24, [(3, .int 6), (2, .ref 75), (1, .ref 0), (0, .ref x_scr)], [.int 0, .int 6], x_h0, 98, 10728)) rfl ?_
      refine x_R.steps 1 (c' := (2376, [(3, .int 6), (2, .ref 75), (1, .ref 0), (0, .ref x_scr)], [], x_h0, 98, 10728)) rfl ?_
      refine x_R.steps 1 (c' := (2377, [(3, .int 6), (2, .ref 75), (1, .ref 0), (0, .ref x_scr)], [.int 1], x_h0, 98, 10728)) rfl ?_
      exact x_R.ret (v := some (.int 1)) rfl x_fin
    · have g2 := mt (x_lg_lt (C := 0) (by decide)).mpr h2
      exfalso; omega
  · have g1 := mt (x_i_lt (C := 0) (by decide)).mpr h1
    refine x_R.steps 3 (c' := (9, [(0, .ref 1), (1, .int (xs 1))], [.int 0, .int (xs 1)], x_h0, 0, 0)) rfl ?_
    refine x_R.ite (p := (0 : Int32) ≤ (xs 1)) (c1 := (16, [(0, .ref 1), (1, .int (xs 1))], [], x_h0, 0, 0)) (c2 := (12, [(0, .ref 1), (1, .int (xs 1))], [], x_h0, 0, 0)) rfl (fun h3 => ?_) (fun h3 => ?_)
    · have g3 := (x_i_ge (C := 0) (by decide)).mp h3
      refine x_R.steps 1 (c' := (17, [(0, .ref 1), (1, .int (xs 1))], [.int 0], x_h0, 0, 0)) rfl ?_
      refine x_R.ret (v := some (.int 0)) rfl ?_
      refine x_R.steps 0 (c' := (8, [(0, .ref 0), (1, .int (xs 1))], [.int 0], x_h0, 0, 0)) rfl ?_
      refine x_R.steps 1 (c' := (11, [(0, .ref 0), (1, .int (xs 1))], [], x_h0, 0, 0)) rfl ?_
      refine x_R.steps 1 (c' := (12, [(0, .ref 0), (1, .int (xs 1))], [.int 0], x_h0, 0, 0)) rfl ?_
      refine x_R.ret (v := some (.int 0)) rfl ?_
      refine x_R.steps 0 (c' := (5, [(0, .ref 0), (1, .int (xs 1))], [.int 0], x_h0, 0, 0)) rfl ?_
      refine x_R.steps 1 (c' := (8, [(0, .ref 0), (1, .int (xs 1))], [], x_h0, 0, 0)) rfl ?_
      refine x_R.steps 1 (c' := (10, [(0, .ref 0), (1, .int (xs 1))], [.int (-2)], x_h0, 0, 0)) rfl ?_
      refine x_R.ret (v := some (.int (-2))) rfl ?_
      refine x_R.steps 0 (c' := (1154, [(3, .int 0), (2, .ref 75), (1, .ref 0), (0, .ref x_scr)], [.int (-2)], x_h0, 98, 10728)) rfl ?_
      refine x_R.steps 5 (c' := (1159, [(3, .int 0), (2, .ref 75), (1, .ref 0), (0, .ref x_scr)], [.int 1, .ref x_scr, .ref 75, .int (-2)], x_h0, 98, 10728)) rfl ?_
      refine x_R.steps 1 (c' := (1160, [(3, .int 0), (2, .ref 75), (1, .ref 0), (0, .ref x_scr)], [.int (xs 1), .ref 75, .int (-2)], x_h0, 98, 10728)) rfl ?_
      refine x_R.call (a := 288) (vs := [.ref 75, .int (xs 1)]) (rest := [.int (-2)]) (M' := M_cX12_slack) rfl rfl rfl ?_
      refine x_R.steps 2 (c' := (2, [(0, .ref 75), (1, .int (xs 1))], [.int (xs 1), .ref 75], x_h0, 0, 0)) rfl ?_
      refine x_R.call (a := 205) (vs := [.ref 75, .int (xs 1)]) (rest := []) (M' := M_cX12_isPlayer) rfl rfl rfl ?_
      refine x_R.steps 6 (c' := (9, [(0, .ref 75), (1, .int (xs 1))], [.int 6, .ref 76, .long 0, .long ((xs 1)).toInt64], x_h0, 0, 0)) rfl ?_
      refine x_R.steps 1 (c' := (10, [(0, .ref 75), (1, .int (xs 1))], [.int 0, .long 0, .long ((xs 1)).toInt64], x_h0, 0, 0)) rfl ?_
      refine x_R.steps 3 (c' := (13, [(0, .ref 75), (1, .int (xs 1))], [.long (-1), .long 0, .long ((xs 1)).toInt64], x_h0, 0, 0)) rfl ?_
      refine x_R.call (a := 196) (vs := [.long ((xs 1)).toInt64, .long 0, .long (-1)]) (rest := []) (M' := M_cX12_in) rfl rfl rfl ?_
      refine x_R.steps 3 (c' := (3, [(0, .long ((xs 1)).toInt64), (2, .long 0), (4, .long (-1))], [.int (lg_cmp ((xs 1)).toInt64 0)], x_h0, 0, 0)) rfl ?_
      refine x_R.ite (p := (lg_cmp ((xs 1)).toInt64 0) < (0 : Int32)) (c1 := (17, [(0, .long ((xs 1)).toInt64), (2, .long 0), (4, .long (-1))], [], x_h0, 0, 0)) (c2 := (6, [(0, .long ((xs 1)).toInt64), (2, .long 0), (4, .long (-1))], [], x_h0, 0, 0)) rfl (fun h4 => ?_) (fun h4 => ?_)
      · have g4 := (x_lg_lt (C := 0) (by decide)).mp h4
        exfalso; omega
      · have g4 := mt (x_lg_lt (C := 0) (by decide)).mpr h4
        refine x_R.steps 3 (c' := (10, [(0, .long ((xs 1)).toInt64), (2, .long 0), (4, .long (-1))], [.int (lg_cmp ((xs 1)).toInt64 (-1))], x_h0, 0, 0)) rfl ?_
        refine x_R.ite (p := (0 : Int32) < (lg_cmp ((xs 1)).toInt64 (-1))) (c1 := (17, [(0, .long ((xs 1)).toInt64), (2, .long 0), (4, .long (-1))], [], x_h0, 0, 0)) (c2 := (13, [(0, .long ((xs 1)).toInt64), (2, .long 0), (4, .long (-1))], [], x_h0, 0, 0)) rfl (fun h5 => ?_) (fun h5 => ?_)
        · have g5 := (x_lg_gt (C := -1) (by decide)).mp h5
          refine x_R.steps 1 (c' := (18, [(0, .long ((xs 1)).toInt64), (2, .long 0), (4, .long (-1))], [.int 0], x_h0, 0, 0)) rfl ?_
          refine x_R.ret (v := some (.int 0)) rfl ?_
          refine x_R.steps 0 (c' := (16, [(0, .ref 75), (1, .int (xs 1))], [.int 0], x_h0, 0, 0)) rfl ?_
          refine x_R.ret (v := some (.int 0)) rfl ?_
          refine x_R.steps 0 (c' := (5, [(0, .ref 75), (1, .int (xs 1))], [.int 0], x_h0, 0, 0)) rfl ?_
          refine x_R.steps 1 (c' := (8, [(0, .ref 75), (1, .int (xs 1))], [], x_h0, 0, 0)) rfl ?_
          refine x_R.steps 1 (c' := (10, [(0, .ref 75), (1, .int (xs 1))], [.int (-2)], x_h0, 0, 0)) rfl ?_
          refine x_R.ret (v := some (.int (-2))) rfl ?_
          refine x_R.steps 0 (c' := (1163, [(3, .int 0), (2, .ref 75), (1, .ref 0), (0, .ref x_scr)], [.int (-2), .int (-2)], x_h0, 98, 10728)) rfl ?_
          refine x_R.steps 1 (c' := (2370, [(3, .int 0), (2, .ref 75), (1, .ref 0), (0, .ref x_scr)], [], x_h0, 98, 10728)) rfl ?_
          refine x_R.steps 7 (c' := (24, [(3, .int 6), (2, .ref 75), (1, .ref 0), (0, .ref x_scr)], [.int 0, .int 6], x_h0, 98, 10728)) rfl ?_
          refine x_R.steps 1 (c' := (2376, [(3, .int 6), (2, .ref 75), (1, .ref 0), (0, .ref x_scr)], [], x_h0, 98, 10728)) rfl ?_
          refine x_R.steps 1 (c' := (2377, [(3, .int 6), (2, .ref 75), (1, .ref 0), (0, .ref x_scr)], [.int 1], x_h0, 98, 10728)) rfl ?_
          exact x_R.ret (v := some (.int 1)) rfl x_fin
        · have g5 := mt (x_lg_gt (C := -1) (by decide)).mpr h5
          exfalso; omega
    · have g3 := mt (x_i_ge (C := 0) (by decide)).mpr h3
      exfalso; omega
set_option maxRecDepth 100000 in
set_option maxHeartbeats 4000000 in
theorem x_c30_0 (xs : Nat → Int32)  : x_R x_mt (some (6, xs)) 13 M_law (1168, [(3, .int 0), (2, .ref 75), (1, .ref 0), (0, .ref x_scr)], [], x_h0, 98, 10728) x_P := by
  refine x_R.steps 5 (c' := (1173, [(3, .int 0), (2, .ref 75), (1, .ref 0), (0, .ref x_scr)], [.int 1, .ref x_scr, .ref 0], x_h0, 98, 10728)) rfl ?_
  refine x_R.steps 1 (c' := (1174, [(3, .int 0), (2, .ref 75), (1, .ref 0), (0, .ref x_scr)], [.int (xs 1), .ref 0], x_h0, 98, 10728)) rfl ?_
  refine x_R.steps 4 (c' := (1178, [(3, .int 0), (2, .ref 75), (1, .ref 0), (0, .ref x_scr)], [.int 2, .ref x_scr, .int (xs 1), .ref 0], x_h0, 98, 10728)) rfl ?_
  refine x_R.steps 1 (c' := (1179, [(3, .int 0), (2, .ref 75), (1, .ref 0), (0, .ref x_scr)], [.int (xs 2), .int (xs 1), .ref 0], x_h0, 98, 10728)) rfl ?_
  refine x_R.call (a := 144) (vs := [.ref 0, .int (xs 1), .int (xs 2)]) (rest := []) (M' := M_cX11_rows) rfl rfl rfl ?_
  refine x_R.steps 3 (c' := (3, [(0, .ref 0), (1, .int (xs 1)), (2, .int (xs 2))], [.int (xs 2), .int (xs 1), .ref 0], x_h0, 0, 0)) rfl ?_
  refine x_R.call (a := 192) (vs := [.ref 0, .int (xs 1), .int (xs 2)]) (rest := []) (M' := M_cX11_countLots) rfl rfl rfl ?_
  refine x_R.steps 2 (c' := (4, [(0, .ref 0), (1, .int (xs 1)), (2, .int (xs 2))], [.ref 1], x_h0, 0, 0)) rfl ?_
  refine x_R.call (a := 11) (vs := [.ref 1]) (rest := []) (M' := M_cX2_isTold) rfl rfl rfl ?_
  refine x_R.steps 2 (c' := (4, [(0, .ref 1)], [.int 0], x_h0, 0, 0)) rfl ?_
  refine x_R.steps 1 (c' := (11, [(0, .ref 1)], [], x_h0, 0, 0)) rfl ?_
  refine x_R.steps 1 (c' := (12, [(0, .ref 1)], [.int 0], x_h0, 0, 0)) rfl ?_
  refine x_R.ret (v := some (.int 0)) rfl ?_
  refine x_R.steps 0 (c' := (7, [(0, .ref 0), (1, .int (xs 1)), (2, .int (xs 2))], [.int 0], x_h0, 0, 0)) rfl ?_
  refine x_R.steps 1 (c' := (28, [(0, .ref 0), (1, .int (xs 1)), (2, .int (xs 2))], [], x_h0, 0, 0)) rfl ?_
  refine x_R.steps 1 (c' := (29, [(0, .ref 0), (1, .int (xs 1)), (2, .int (xs 2))], [.int 0], x_h0, 0, 0)) rfl ?_
  refine x_R.ret (v := some (.int 0)) rfl ?_
  refine x_R.steps 0 (c' := (6, [(0, .ref 0), (1, .int (xs 1)), (2, .int (xs 2))], [.int 0], x_h0, 0, 0)) rfl ?_
  refine x_R.steps 1 (c' := (23, [(0, .ref 0), (1, .int (xs 1)), (2, .int (xs 2))], [], x_h0, 0, 0)) rfl ?_
  refine x_R.steps 1 (c' := (26, [(0, .ref 0), (1, .int (xs 1)), (2, .int (xs 2))], [.long (-2)], x_h0, 0, 0)) rfl ?_
  refine x_R.ret (v := some (.long (-2))) rfl ?_
  refine x_R.steps 0 (c' := (1182, [(3, .int 0), (2, .ref 75), (1, .ref 0), (0, .ref x_scr)], [.long (-2)], x_h0, 98, 10728)) rfl ?_
  refine x_R.steps 5 (c' := (1187, [(3, .int 0), (2, .ref 75), (1, .ref 0), (0, .ref x_scr)], [.int 1, .ref x_scr, .ref 75, .long (-2)], x_h0, 98, 10728)) rfl ?_
  refine x_R.steps 1 (c' := (1188, [(3, .int 0), (2, .ref 75), (1, .ref 0), (0, .ref x_scr)], [.int (xs 1), .ref 75, .long (-2)], x_h0, 98, 10728)) rfl ?_
  refine x_R.steps 4 (c' := (1192, [(3, .int 0), (2, .ref 75), (1, .ref 0), (0, .ref x_scr)], [.int 2, .ref x_scr, .int (xs 1), .ref 75, .long (-2)], x_h0, 98, 10728)) rfl ?_
  refine x_R.steps 1 (c' := (1193, [(3, .int 0), (2, .ref 75), (1, .ref 0), (0, .ref x_scr)], [.int (xs 2), .int (xs 1), .ref 75, .long (-2)], x_h0, 98, 10728)) rfl ?_
  refine x_R.call (a := 293) (vs := [.ref 75, .int (xs 1), .int (xs 2)]) (rest := [.long (-2)]) (M' := M_cX12_rows) rfl rfl rfl ?_
  refine x_R.steps 1 (c' := (1, [(0, .ref 75), (1, .int (xs 1)), (2, .int (xs 2))], [.ref 75], x_h0, 0, 0)) rfl ?_
  refine x_R.call (a := 199) (vs := [.ref 75]) (rest := []) (M' := M_cX12_isBoard) rfl rfl rfl ?_
  refine x_R.steps 3 (c' := (5, [(0, .ref 75)], [.int 0, .ref 76], x_h0, 0, 0)) rfl ?_
  refine x_R.steps 1 (c' := (6, [(0, .ref 75)], [.int 0], x_h0, 0, 0)) rfl ?_
  refine x_R.steps 1 (c' := (13, [(0, .ref 75)], [], x_h0, 0, 0)) rfl ?_
  refine x_R.steps 1 (c' := (14, [(0, .ref 75)], [.int 0], x_h0, 0, 0)) rfl ?_
  refine x_R.ret (v := some (.int 0)) rfl ?_
  refine x_R.steps 0 (c' := (4, [(0, .ref 75), (1, .int (xs 1)), (2, .int (xs 2))], [.int 0], x_h0, 0, 0)) rfl ?_
  refine x_R.steps 1 (c' := (26, [(0, .ref 75), (1, .int (xs 1)), (2, .int (xs 2))], [], x_h0, 0, 0)) rfl ?_
  refine x_R.steps 1 (c' := (29, [(0, .ref 75), (1, .int (xs 1)), (2, .int (xs 2))], [.long (-2)], x_h0, 0, 0)) rfl ?_
  refine x_R.ret (v := some (.long (-2))) rfl ?_
  refine x_R.steps 0 (c' := (1196, [(3, .int 0), (2, .ref 75), (1, .ref 0), (0, .ref x_scr)], [.long (-2), .long (-2)], x_h0, 98, 10728)) rfl ?_
  refine x_R.steps 1 (c' := (1197, [(3, .int 0), (2, .ref 75), (1, .ref 0), (0, .ref x_scr)], [.int 0], x_h0, 98, 10728)) rfl ?_
  refine x_R.steps 1 (c' := (2370, [(3, .int 0), (2, .ref 75), (1, .ref 0), (0, .ref x_scr)], [], x_h0, 98, 10728)) rfl ?_
  refine x_R.steps 7 (c' := (24, [(3, .int 6), (2, .ref 75), (1, .ref 0), (0, .ref x_scr)], [.int 0, .int 6], x_h0, 98, 10728)) rfl ?_
  refine x_R.steps 1 (c' := (2376, [(3, .int 6), (2, .ref 75), (1, .ref 0), (0, .ref x_scr)], [], x_h0, 98, 10728)) rfl ?_
  refine x_R.steps 1 (c' := (2377, [(3, .int 6), (2, .ref 75), (1, .ref 0), (0, .ref x_scr)], [.int 1], x_h0, 98, 10728)) rfl ?_
  exact x_R.ret (v := some (.int 1)) rfl x_fin
set_option maxRecDepth 100000 in
set_option maxHeartbeats 4000000 in
theorem x_c31_0 (xs : Nat → Int32)  : x_R x_mt (some (6, xs)) 13 M_law (1202, [(3, .int 0), (2, .ref 75), (1, .ref 0), (0, .ref x_scr)], [], x_h0, 98, 10728) x_P := by
  refine x_R.steps 5 (c' := (1207, [(3, .int 0), (2, .ref 75), (1, .ref 0), (0, .ref x_scr)], [.int 1, .ref x_scr, .ref 0], x_h0, 98, 10728)) rfl ?_
  refine x_R.steps 1 (c' := (1208, [(3, .int 0), (2, .ref 75), (1, .ref 0), (0, .ref x_scr)], [.int (xs 1), .ref 0], x_h0, 98, 10728)) rfl ?_
  refine x_R.steps 4 (c' := (1212, [(3, .int 0), (2, .ref 75), (1, .ref 0), (0, .ref x_scr)], [.int 2, .ref x_scr, .int (xs 1), .ref 0], x_h0, 98, 10728)) rfl ?_
  refine x_R.steps 1 (c' := (1213, [(3, .int 0), (2, .ref 75), (1, .ref 0), (0, .ref x_scr)], [.int (xs 2), .int (xs 1), .ref 0], x_h0, 98, 10728)) rfl ?_
  refine x_R.steps 4 (c' := (1217, [(3, .int 0), (2, .ref 75), (1, .ref 0), (0, .ref x_scr)], [.int 3, .ref x_scr, .int (xs 2), .int (xs 1), .ref 0], x_h0, 98, 10728)) rfl ?_
  refine x_R.steps 1 (c' := (1218, [(3, .int 0), (2, .ref 75), (1, .ref 0), (0, .ref x_scr)], [.int (xs 3), .int (xs 2), .int (xs 1), .ref 0], x_h0, 98, 10728)) rfl ?_
  refine x_R.call (a := 145) (vs := [.ref 0, .int (xs 1), .int (xs 2), .int (xs 3)]) (rest := []) (M' := M_cX11_ends) rfl rfl rfl ?_
  refine x_R.steps 3 (c' := (5, [(0, .ref 0), (1, .int (xs 1)), (2, .int (xs 2)), (3, .int (xs 3))], [.int (xs 3), .ref 1], x_h0, 0, 0)) rfl ?_
  refine x_R.call (a := 13) (vs := [.ref 1, .int (xs 3)]) (rest := []) (M' := M_cX2_isHole) rfl rfl rfl ?_
  refine x_R.steps 1 (c' := (1, [(0, .ref 1), (1, .int (xs 3))], [.int (xs 3)], x_h0, 0, 0)) rfl ?_
  refine x_R.ite (p := (xs 3) < (0 : Int32)) (c1 := (16, [(0, .ref 1), (1, .int (xs 3))], [], x_h0, 0, 0)) (c2 := (4, [(0, .ref 1), (1, .int (xs 3))], [], x_h0, 0, 0)) rfl (fun h1 => ?_) (fun h1 => ?_)
  · have g1 := (x_i_lt (C := 0) (by decide)).mp h1
    refine x_R.steps 1 (c' := (17, [(0, .ref 1), (1, .int (xs 3))], [.int 0], x_h0, 0, 0)) rfl ?_
    refine x_R.ret (v := some (.int 0)) rfl ?_
    refine x_R.steps 0 (c' := (8, [(0, .ref 0), (1, .int (xs 1)), (2, .int (xs 2)), (3, .int (xs 3))], [.int 0], x_h0, 0, 0)) rfl ?_
    refine x_R.steps 1 (c' := (35, [(0, .ref 0), (1, .int (xs 1)), (2, .int (xs 2)), (3, .int (xs 3))], [], x_h0, 0, 0)) rfl ?_
    refine x_R.steps 1 (c' := (38, [(0, .ref 0), (1, .int (xs 1)), (2, .int (xs 2)), (3, .int (xs 3))], [.long (-2)], x_h0, 0, 0)) rfl ?_
    refine x_R.ret (v := some (.long (-2))) rfl ?_
    refine x_R.steps 0 (c' := (1221, [(3, .int 0), (2, .ref 75), (1, .ref 0), (0, .ref x_scr)], [.long (-2)], x_h0, 98, 10728)) rfl ?_
    refine x_R.steps 5 (c' := (1226, [(3, .int 0), (2, .ref 75), (1, .ref 0), (0, .ref x_scr)], [.int 1, .ref x_scr, .ref 75, .long (-2)], x_h0, 98, 10728)) rfl ?_
    refine x_R.steps 1 (c' := (1227, [(3, .int 0), (2, .ref 75), (1, .ref 0), (0, .ref x_scr)], [.int (xs 1), .ref 75, .long (-2)], x_h0, 98, 10728)) rfl ?_
    refine x_R.steps 4 (c' := (1231, [(3, .int 0), (2, .ref 75), (1, .ref 0), (0, .ref x_scr)], [.int 2, .ref x_scr, .int (xs 1), .ref 75, .long (-2)], x_h0, 98, 10728)) rfl ?_
    refine x_R.steps 1 (c' := (1232, [(3, .int 0), (2, .ref 75), (1, .ref 0), (0, .ref x_scr)], [.int (xs 2), .int (xs 1), .ref 75, .long (-2)], x_h0, 98, 10728)) rfl ?_
    refine x_R.steps 4 (c' := (1236, [(3, .int 0), (2, .ref 75), (1, .ref 0), (0, .ref x_scr)], [.int 3, .ref x_scr, .int (xs 2), .int (xs 1), .ref 75, .long (-2)], x_h0, 98, 10728)) rfl ?_
    refine x_R.steps 1 (c' := (1237, [(3, .int 0), (2, .ref 75), (1, .ref 0), (0, .ref x_scr)], [.int (xs 3), .int (xs 2), .int (xs 1), .ref 75, .long (-2)], x_h0, 98, 10728)) rfl ?_
    refine x_R.call (a := 294) (vs := [.ref 75, .int (xs 1), .int (xs 2), .int (xs 3)]) (rest := [.long (-2)]) (M' := M_cX12_ends) rfl rfl rfl ?_
    refine x_R.steps 3 (c' := (3, [(0, .ref 75), (1, .int (xs 1)), (2, .int (xs 2)), (3, .int (xs 3))], [.long ((xs 3)).toInt64, .ref 75], x_h0, 0, 0)) rfl ?_
    refine x_R.call (a := 201) (vs := [.ref 75, .long ((xs 3)).toInt64]) (rest := []) (M' := M_cX12_isHole) rfl rfl rfl ?_
    refine x_R.steps 3 (c' := (3, [(0, .ref 75), (1, .long ((xs 3)).toInt64)], [.ref 75, .long 0, .long ((xs 3)).toInt64], x_h0, 0, 0)) rfl ?_
    refine x_R.call (a := 200) (vs := [.ref 75]) (rest := [.long 0, .long ((xs 3)).toInt64]) (M' := M_cX12_holes) rfl rfl rfl ?_
    refine x_R.steps 3 (c' := (5, [(0, .ref 75)], [.int 0, .ref 76], x_h0, 0, 0)) rfl ?_
    refine x_R.steps 1 (c' := (6, [(0, .ref 75)], [.int 0], x_h0, 0, 0)) rfl ?_
    refine x_R.steps 3 (c' := (11, [(0, .ref 75)], [.int 1, .ref 76, .int 0], x_h0, 0, 0)) rfl ?_
    refine x_R.steps 1 (c' := (12, [(0, .ref 75)], [.int 0, .int 0], x_h0, 0, 0)) rfl ?_
    refine x_R.steps 1 (c' := (13, [(0, .ref 75)], [.int 0], x_h0, 0, 0)) rfl ?_
    refine x_R.ret (v := some (.int 0)) rfl ?_
    refine x_R.steps 0 (c' := (6, [(0, .ref 75), (1, .long ((xs 3)).toInt64)], [.int 0, .long 0, .long ((xs 3)).toInt64], x_h0, 0, 0)) rfl ?_
    refine x_R.steps 3 (c' := (9, [(0, .ref 75), (1, .long ((xs 3)).toInt64)], [.long (-1), .long 0, .long ((xs 3)).toInt64], x_h0, 0, 0)) rfl ?_
    refine x_R.call (a := 196) (vs := [.long ((xs 3)).toInt64, .long 0, .long (-1)]) (rest := []) (M' := M_cX12_in) rfl rfl rfl ?_
    refine x_R.steps 3 (c' := (3, [(0, .long ((xs 3)).toInt64), (2, .long 0), (4, .long (-1))], [.int (lg_cmp ((xs 3)).toInt64 0)], x_h0, 0, 0)) rfl ?_
    refine x_R.ite (p := (lg_cmp ((xs 3)).toInt64 0) < (0 : Int32)) (c1 := (17, [(0, .long ((xs 3)).toInt64), (2, .long 0), (4, .long (-1))], [], x_h0, 0, 0)) (c2 := (6, [(0, .long ((xs 3)).toInt64), (2, .long 0), (4, .long (-1))], [], x_h0, 0, 0)) rfl (fun h2 => ?_) (fun h2 => ?_)
    · have g2 := (x_lg_lt (C := 0) (by decide)).mp h2
      refine x_R.steps 1 (c' := (18, [(0, .long ((xs 3)).toInt64), (2, .long 0), (4, .long (-1))], [.int 0], x_h0, 0, 0)) rfl ?_
      refine x_R.ret (v := some (.int 0)) rfl ?_
      refine x_R.steps 0 (c' := (12, [(0, .ref 75), (1, .long ((xs 3)).toInt64)], [.int 0], x_h0, 0, 0)) rfl ?_
      refine x_R.ret (v := some (.int 0)) rfl ?_
      refine x_R.steps 0 (c' := (6, [(0, .ref 75), (1, .int (xs 1)), (2, .int (xs 2)), (3, .int (xs 3))], [.int 0], x_h0, 0, 0)) rfl ?_
      refine x_R.steps 1 (c' := (28, [(0, .ref 75), (1, .int (xs 1)), (2, .int (xs 2)), (3, .int (xs 3))], [], x_h0, 0, 0)) rfl ?_
      refine x_R.steps 1 (c' := (31, [(0, .ref 75), (1, .int (xs 1)), (2, .int (xs 2)), (3, .int (xs 3))], [.long (-2)], x_h0, 0, 0)) rfl ?_
      refine x_R.ret (v := some (.long (-2))) rfl ?_
      refine x_R.steps 0 (c' := (1240, [(3, .int 0), (2, .ref 75), (1, .ref 0), (0, .ref x_scr)], [.long (-2), .long (-2)], x_h0, 98, 10728)) rfl ?_
      refine x_R.steps 1 (c' := (1241, [(3, .int 0), (2, .ref 75), (1, .ref 0), (0, .ref x_scr)], [.int 0], x_h0, 98, 10728)) rfl ?_
      refine x_R.steps 1 (c' := (2370, [(3, .int 0), (2, .ref 75), (1, .ref 0), (0, .ref x_scr)], [], x_h0, 98, 10728)) rfl ?_
      refine x_R.steps 7 (c' := (24, [(3, .int 6), (2, .ref 75), (1, .ref 0), (0, .ref x_scr)], [.int 0, .int 6], x_h0, 98, 10728)) rfl ?_
      refine x_R.steps 1 (c' := (2376, [(3, .int 6), (2, .ref 75), (1, .ref 0), (0, .ref x_scr)], [], x_h0, 98, 10728)) rfl ?_
      refine x_R.steps 1 (c' := (2377, [(3, .int 6), (2, .ref 75), (1, .ref 0), (0, .ref x_scr)], [.int 1], x_h0, 98, 10728)) rfl ?_
      exact x_R.ret (v := some (.int 1)) rfl x_fin
    · have g2 := mt (x_lg_lt (C := 0) (by decide)).mpr h2
      exfalso; omega
  · have g1 := mt (x_i_lt (C := 0) (by decide)).mpr h1
    refine x_R.steps 2 (c' := (6, [(0, .ref 1), (1, .int (xs 3))], [.ref 1, .int (xs 3)], x_h0, 0, 0)) rfl ?_
    refine x_R.call (a := 12) (vs := [.ref 1]) (rest := [.int (xs 3)]) (M' := M_cX2_holes) rfl rfl rfl ?_
    refine x_R.steps 5 (c' := (9, [(0, .ref 1)], [.int 0], x_h0, 0, 0)) rfl ?_
    refine x_R.ret (v := some (.int 0)) rfl ?_
    refine x_R.steps 0 (c' := (9, [(0, .ref 1), (1, .int (xs 3))], [.int 0, .int (xs 3)], x_h0, 0, 0)) rfl ?_
    refine x_R.ite (p := (0 : Int32) ≤ (xs 3)) (c1 := (16, [(0, .ref 1), (1, .int (xs 3))], [], x_h0, 0, 0)) (c2 := (12, [(0, .ref 1), (1, .int (xs 3))], [], x_h0, 0, 0)) rfl (fun h3 => ?_) (fun h3 => ?_)
    · have g3 := (x_i_ge (C := 0) (by decide)).mp h3
      refine x_R.steps 1 (c' := (17, [(0, .ref 1), (1, .int (xs 3))], [.int 0], x_h0, 0, 0)) rfl ?_
      refine x_R.ret (v := some (.int 0)) rfl ?_
      refine x_R.steps 0 (c' := (8, [(0, .ref 0), (1, .int (xs 1)), (2, .int (xs 2)), (3, .int (xs 3))], [.int 0], x_h0, 0, 0)) rfl ?_
      refine x_R.steps 1 (c' := (35, [(0, .ref 0), (1, .int (xs 1)), (2, .int (xs 2)), (3, .int (xs 3))], [], x_h0, 0, 0)) rfl ?_
      refine x_R.steps 1 (c' := (38, [(0, .ref 0), (1, .int (xs 1)), (2, .int (xs 2)), (3, .int (xs 3))], [.long (-2)], x_h0, 0, 0)) rfl ?_
      refine x_R.ret (v := some (.long (-2))) rfl ?_
      refine x_R.steps 0 (c' := (1221, [(3, .int 0), (2, .ref 75), (1, .ref 0), (0, .ref x_scr)], [.long (-2)], x_h0, 98, 10728)) rfl ?_
      refine x_R.steps 5 (c' := (1226, [(3, .int 0), (2, .ref 75), (1, .ref 0), (0, .ref x_scr)], [.int 1, .ref x_scr, .ref 75, .long (-2)], x_h0, 98, 10728)) rfl ?_
      refine x_R.steps 1 (c' := (1227, [(3, .int 0), (2, .ref 75), (1, .ref 0), (0, .ref x_scr)], [.int (xs 1), .ref 75, .long (-2)], x_h0, 98, 10728)) rfl ?_
      refine x_R.steps 4 (c' := (1231, [(3, .int 0), (2, .ref 75), (1, .ref 0), (0, .ref x_scr)], [.int 2, .ref x_scr, .int (xs 1), .ref 75, .long (-2)], x_h0, 98, 10728)) rfl ?_
      refine x_R.steps 1 (c' := (1232, [(3, .int 0), (2, .ref 75), (1, .ref 0), (0, .ref x_scr)], [.int (xs 2), .int (xs 1), .ref 75, .long (-2)], x_h0, 98, 10728)) rfl ?_
      refine x_R.steps 4 (c' := (1236, [(3, .int 0), (2, .ref 75), (1, .ref 0), (0, .ref x_scr)], [.int 3, .ref x_scr, .int (xs 2), .int (xs 1), .ref 75, .long (-2)], x_h0, 98, 10728)) rfl ?_
      refine x_R.steps 1 (c' := (1237, [(3, .int 0), (2, .ref 75), (1, .ref 0), (0, .ref x_scr)], [.int (xs 3), .int (xs 2), .int (xs 1), .ref 75, .long (-2)], x_h0, 98, 10728)) rfl ?_
      refine x_R.call (a := 294) (vs := [.ref 75, .int (xs 1), .int (xs 2), .int (xs 3)]) (rest := [.long (-2)]) (M' := M_cX12_ends) rfl rfl rfl ?_
      refine x_R.steps 3 (c' := (3, [(0, .ref 75), (1, .int (xs 1)), (2, .int (xs 2)), (3, .int (xs 3))], [.long ((xs 3)).toInt64, .ref 75], x_h0, 0, 0)) rfl ?_
      refine x_R.call (a := 201) (vs := [.ref 75, .long ((xs 3)).toInt64]) (rest := []) (M' := M_cX12_isHole) rfl rfl rfl ?_
      refine x_R.steps 3 (c' := (3, [(0, .ref 75), (1, .long ((xs 3)).toInt64)], [.ref 75, .long 0, .long ((xs 3)).toInt64], x_h0, 0, 0)) rfl ?_
      refine x_R.call (a := 200) (vs := [.ref 75]) (rest := [.long 0, .long ((xs 3)).toInt64]) (M' := M_cX12_holes) rfl rfl rfl ?_
      refine x_R.steps 3 (c' := (5, [(0, .ref 75)], [.int 0, .ref 76], x_h0, 0, 0)) rfl ?_
      refine x_R.steps 1 (c' := (6, [(0, .ref 75)], [.int 0], x_h0, 0, 0)) rfl ?_
      refine x_R.steps 3 (c' := (11, [(0, .ref 75)], [.int 1, .ref 76, .int 0], x_h0, 0, 0)) rfl ?_
      refine x_R.steps 1 (c' := (12, [(0, .ref 75)], [.int 0, .int 0], x_h0, 0, 0)) rfl ?_
      refine x_R.steps 1 (c' := (13, [(0, .ref 75)], [.int 0], x_h0, 0, 0)) rfl ?_
      refine x_R.ret (v := some (.int 0)) rfl ?_
      refine x_R.steps 0 (c' := (6, [(0, .ref 75), (1, .long ((xs 3)).toInt64)], [.int 0, .long 0, .long ((xs 3)).toInt64], x_h0, 0, 0)) rfl ?_
      refine x_R.steps 3 (c' := (9, [(0, .ref 75), (1, .long ((xs 3)).toInt64)], [.long (-1), .long 0, .long ((xs 3)).toInt64], x_h0, 0, 0)) rfl ?_
      refine x_R.call (a := 196) (vs := [.long ((xs 3)).toInt64, .long 0, .long (-1)]) (rest := []) (M' := M_cX12_in) rfl rfl rfl ?_
      refine x_R.steps 3 (c' := (3, [(0, .long ((xs 3)).toInt64), (2, .long 0), (4, .long (-1))], [.int (lg_cmp ((xs 3)).toInt64 0)], x_h0, 0, 0)) rfl ?_
      refine x_R.ite (p := (lg_cmp ((xs 3)).toInt64 0) < (0 : Int32)) (c1 := (17, [(0, .long ((xs 3)).toInt64), (2, .long 0), (4, .long (-1))], [], x_h0, 0, 0)) (c2 := (6, [(0, .long ((xs 3)).toInt64), (2, .long 0), (4, .long (-1))], [], x_h0, 0, 0)) rfl (fun h4 => ?_) (fun h4 => ?_)
      · have g4 := (x_lg_lt (C := 0) (by decide)).mp h4
        exfalso; omega
      · have g4 := mt (x_lg_lt (C := 0) (by decide)).mpr h4
        refine x_R.steps 3 (c' := (10, [(0, .long ((xs 3)).toInt64), (2, .long 0), (4, .long (-1))], [.int (lg_cmp ((xs 3)).toInt64 (-1))], x_h0, 0, 0)) rfl ?_
        refine x_R.ite (p := (0 : Int32) < (lg_cmp ((xs 3)).toInt64 (-1))) (c1 := (17, [(0, .long ((xs 3)).toInt64), (2, .long 0), (4, .long (-1))], [], x_h0, 0, 0)) (c2 := (13, [(0, .long ((xs 3)).toInt64), (2, .long 0), (4, .long (-1))], [], x_h0, 0, 0)) rfl (fun h5 => ?_) (fun h5 => ?_)
        · have g5 := (x_lg_gt (C := -1) (by decide)).mp h5
          refine x_R.steps 1 (c' := (18, [(0, .long ((xs 3)).toInt64), (2, .long 0), (4, .long (-1))], [.int 0], x_h0, 0, 0)) rfl ?_
          refine x_R.ret (v := some (.int 0)) rfl ?_
          refine x_R.steps 0 (c' := (12, [(0, .ref 75), (1, .long ((xs 3)).toInt64)], [.int 0], x_h0, 0, 0)) rfl ?_
          refine x_R.ret (v := some (.int 0)) rfl ?_
          refine x_R.steps 0 (c' := (6, [(0, .ref 75), (1, .int (xs 1)), (2, .int (xs 2)), (3, .int (xs 3))], [.int 0], x_h0, 0, 0)) rfl ?_
          refine x_R.steps 1 (c' := (28, [(0, .ref 75), (1, .int (xs 1)), (2, .int (xs 2)), (3, .int (xs 3))], [], x_h0, 0, 0)) rfl ?_
          refine x_R.steps 1 (c' := (31, [(0, .ref 75), (1, .int (xs 1)), (2, .int (xs 2)), (3, .int (xs 3))], [.long (-2)], x_h0, 0, 0)) rfl ?_
          refine x_R.ret (v := some (.long (-2))) rfl ?_
          refine x_R.steps 0 (c' := (1240, [(3, .int 0), (2, .ref 75), (1, .ref 0), (0, .ref x_scr)], [.long (-2), .long (-2)], x_h0, 98, 10728)) rfl ?_
          refine x_R.steps 1 (c' := (1241, [(3, .int 0), (2, .ref 75), (1, .ref 0), (0, .ref x_scr)], [.int 0], x_h0, 98, 10728)) rfl ?_
          refine x_R.steps 1 (c' := (2370, [(3, .int 0), (2, .ref 75), (1, .ref 0), (0, .ref x_scr)], [], x_h0, 98, 10728)) rfl ?_
          refine x_R.steps 7 (c' := (24, [(3, .int 6), (2, .ref 75), (1, .ref 0), (0, .ref x_scr)], [.int 0, .int 6], x_h0, 98, 10728)) rfl ?_
          refine x_R.steps 1 (c' := (2376, [(3, .int 6), (2, .ref 75), (1, .ref 0), (0, .ref x_scr)], [], x_h0, 98, 10728)) rfl ?_
          refine x_R.steps 1 (c' := (2377, [(3, .int 6), (2, .ref 75), (1, .ref 0), (0, .ref x_scr)], [.int 1], x_h0, 98, 10728)) rfl ?_
          exact x_R.ret (v := some (.int 1)) rfl x_fin
        · have g5 := mt (x_lg_gt (C := -1) (by decide)).mpr h5
          exfalso; omega
    · have g3 := mt (x_i_ge (C := 0) (by decide)).mpr h3
      exfalso; omega
set_option maxRecDepth 100000 in
set_option maxHeartbeats 4000000 in
theorem x_c32_0 (xs : Nat → Int32)  : x_R x_mt (some (6, xs)) 13 M_law (1246, [(3, .int 0), (2, .ref 75), (1, .ref 0), (0, .ref x_scr)], [], x_h0, 98, 10728) x_P := by
  refine x_R.steps 5 (c' := (1251, [(3, .int 0), (2, .ref 75), (1, .ref 0), (0, .ref x_scr)], [.int 1, .ref x_scr, .ref 0], x_h0, 98, 10728)) rfl ?_
  refine x_R.steps 1 (c' := (1252, [(3, .int 0), (2, .ref 75), (1, .ref 0), (0, .ref x_scr)], [.int (xs 1), .ref 0], x_h0, 98, 10728)) rfl ?_
  refine x_R.call (a := 146) (vs := [.ref 0, .int (xs 1)]) (rest := []) (M' := M_cX11_fair) rfl rfl rfl ?_
  refine x_R.steps 2 (c' := (4, [(0, .ref 0), (1, .int (xs 1))], [.ref 1], x_h0, 0, 0)) rfl ?_
  refine x_R.call (a := 11) (vs := [.ref 1]) (rest := []) (M' := M_cX2_isTold) rfl rfl rfl ?_
  refine x_R.steps 2 (c' := (4, [(0, .ref 1)], [.int 0], x_h0, 0, 0)) rfl ?_
  refine x_R.steps 1 (c' := (11, [(0, .ref 1)], [], x_h0, 0, 0)) rfl ?_
  refine x_R.steps 1 (c' := (12, [(0, .ref 1)], [.int 0], x_h0, 0, 0)) rfl ?_
  refine x_R.ret (v := some (.int 0)) rfl ?_
  refine x_R.steps 0 (c' := (7, [(0, .ref 0), (1, .int (xs 1))], [.int 0], x_h0, 0, 0)) rfl ?_
  refine x_R.steps 1 (c' := (17, [(0, .ref 0), (1, .int (xs 1))], [], x_h0, 0, 0)) rfl ?_
  refine x_R.steps 1 (c' := (19, [(0, .ref 0), (1, .int (xs 1))], [.int (-2)], x_h0, 0, 0)) rfl ?_
  refine x_R.ret (v := some (.int (-2))) rfl ?_
  refine x_R.steps 0 (c' := (1255, [(3, .int 0), (2, .ref 75), (1, .ref 0), (0, .ref x_scr)], [.int (-2)], x_h0, 98, 10728)) rfl ?_
  refine x_R.steps 5 (c' := (1260, [(3, .int 0), (2, .ref 75), (1, .ref 0), (0, .ref x_scr)], [.int 1, .ref x_scr, .ref 75, .int (-2)], x_h0, 98, 10728)) rfl ?_
  refine x_R.steps 1 (c' := (1261, [(3, .int 0), (2, .ref 75), (1, .ref 0), (0, .ref x_scr)], [.int (xs 1), .ref 75, .int (-2)], x_h0, 98, 10728)) rfl ?_
  refine x_R.call (a := 295) (vs := [.ref 75, .int (xs 1)]) (rest := [.int (-2)]) (M' := M_cX12_fair) rfl rfl rfl ?_
  refine x_R.steps 1 (c' := (1, [(0, .ref 75), (1, .int (xs 1))], [.ref 75], x_h0, 0, 0)) rfl ?_
  refine x_R.call (a := 199) (vs := [.ref 75]) (rest := []) (M' := M_cX12_isBoard) rfl rfl rfl ?_
  refine x_R.steps 3 (c' := (5, [(0, .ref 75)], [.int 0, .ref 76], x_h0, 0, 0)) rfl ?_
  refine x_R.steps 1 (c' := (6, [(0, .ref 75)], [.int 0], x_h0, 0, 0)) rfl ?_
  refine x_R.steps 1 (c' := (13, [(0, .ref 75)], [], x_h0, 0, 0)) rfl ?_
  refine x_R.steps 1 (c' := (14, [(0, .ref 75)], [.int 0], x_h0, 0, 0)) rfl ?_
  refine x_R.ret (v := some (.int 0)) rfl ?_
  refine x_R.steps 0 (c' := (4, [(0, .ref 75), (1, .int (xs 1))], [.int 0], x_h0, 0, 0)) rfl ?_
  refine x_R.steps 1 (c' := (14, [(0, .ref 75), (1, .int (xs 1))], [], x_h0, 0, 0)) rfl ?_
  refine x_R.steps 1 (c' := (16, [(0, .ref 75), (1, .int (xs 1))], [.int (-2)], x_h0, 0, 0)) rfl ?_
  refine x_R.ret (v := some (.int (-2))) rfl ?_
  refine x_R.steps 0 (c' := (1264, [(3, .int 0), (2, .ref 75), (1, .ref 0), (0, .ref x_scr)], [.int (-2), .int (-2)], x_h0, 98, 10728)) rfl ?_
  refine x_R.steps 1 (c' := (2370, [(3, .int 0), (2, .ref 75), (1, .ref 0), (0, .ref x_scr)], [], x_h0, 98, 10728)) rfl ?_
  refine x_R.steps 7 (c' := (24, [(3, .int 6), (2, .ref 75), (1, .ref 0), (0, .ref x_scr)], [.int 0, .int 6], x_h0, 98, 10728)) rfl ?_
  refine x_R.steps 1 (c' := (2376, [(3, .int 6), (2, .ref 75), (1, .ref 0), (0, .ref x_scr)], [], x_h0, 98, 10728)) rfl ?_
  refine x_R.steps 1 (c' := (2377, [(3, .int 6), (2, .ref 75), (1, .ref 0), (0, .ref x_scr)], [.int 1], x_h0, 98, 10728)) rfl ?_
  exact x_R.ret (v := some (.int 1)) rfl x_fin
set_option maxRecDepth 100000 in
set_option maxHeartbeats 4000000 in
theorem x_c33_0 (xs : Nat → Int32)  : x_R x_mt (some (6, xs)) 13 M_law (1269, [(3, .int 0), (2, .ref 75), (1, .ref 0), (0, .ref x_scr)], [], x_h0, 98, 10728) x_P := by
  refine x_R.steps 5 (c' := (1274, [(3, .int 0), (2, .ref 75), (1, .ref 0), (0, .ref x_scr)], [.int 1, .ref x_scr, .ref 0], x_h0, 98, 10728)) rfl ?_
  refine x_R.steps 1 (c' := (1275, [(3, .int 0), (2, .ref 75), (1, .ref 0), (0, .ref x_scr)], [.int (xs 1), .ref 0], x_h0, 98, 10728)) rfl ?_
  refine x_R.call (a := 147) (vs := [.ref 0, .int (xs 1)]) (rest := []) (M' := M_cX11_breaks) rfl rfl rfl ?_
  refine x_R.steps 2 (c' := (4, [(0, .ref 0), (1, .int (xs 1))], [.ref 1], x_h0, 0, 0)) rfl ?_
  refine x_R.call (a := 11) (vs := [.ref 1]) (rest := []) (M' := M_cX2_isTold) rfl rfl rfl ?_
  refine x_R.steps 2 (c' := (4, [(0, .ref 1)], [.int 0], x_h0, 0, 0)) rfl ?_
  refine x_R.steps 1 (c' := (11, [(0, .ref 1)], [], x_h0, 0, 0)) rfl ?_
  refine x_R.steps 1 (c' := (12, [(0, .ref 1)], [.int 0], x_h0, 0, 0)) rfl ?_
  refine x_R.ret (v := some (.int 0)) rfl ?_
  refine x_R.steps 0 (c' := (7, [(0, .ref 0), (1, .int (xs 1))], [.int 0], x_h0, 0, 0)) rfl ?_
  refine x_R.steps 1 (c' := (17, [(0, .ref 0), (1, .int (xs 1))], [], x_h0, 0, 0)) rfl ?_
  refine x_R.steps 1 (c' := (19, [(0, .ref 0), (1, .int (xs 1))], [.int (-2)], x_h0, 0, 0)) rfl ?_
  refine x_R.ret (v := some (.int (-2))) rfl ?_
  refine x_R.steps 0 (c' := (1278, [(3, .int 0), (2, .ref 75), (1, .ref 0), (0, .ref x_scr)], [.int (-2)], x_h0, 98, 10728)) rfl ?_
  refine x_R.steps 5 (c' := (1283, [(3, .int 0), (2, .ref 75), (1, .ref 0), (0, .ref x_scr)], [.int 1, .ref x_scr, .ref 75, .int (-2)], x_h0, 98, 10728)) rfl ?_
  refine x_R.steps 1 (c' := (1284, [(3, .int 0), (2, .ref 75), (1, .ref 0), (0, .ref x_scr)], [.int (xs 1), .ref 75, .int (-2)], x_h0, 98, 10728)) rfl ?_
  refine x_R.call (a := 297) (vs := [.ref 75, .int (xs 1)]) (rest := [.int (-2)]) (M' := M_cX12_breaks) rfl rfl rfl ?_
  refine x_R.steps 1 (c' := (1, [(0, .ref 75), (1, .int (xs 1))], [.ref 75], x_h0, 0, 0)) rfl ?_
  refine x_R.call (a := 199) (vs := [.ref 75]) (rest := []) (M' := M_cX12_isBoard) rfl rfl rfl ?_
  refine x_R.steps 3 (c' := (5, [(0, .ref 75)], [.int 0, .ref 76], x_h0, 0, 0)) rfl ?_
  refine x_R.steps 1 (c' := (6, [(0, .ref 75)], [.int 0], x_h0, 0, 0)) rfl ?_
  refine x_R.steps 1 (c' := (13, [(0, .ref 75)], [], x_h0, 0, 0)) rfl ?_
  refine x_R.steps 1 (c' := (14, [(0, .ref 75)], [.int 0], x_h0, 0, 0)) rfl ?_
  refine x_R.ret (v := some (.int 0)) rfl ?_
  refine x_R.steps 0 (c' := (4, [(0, .ref 75), (1, .int (xs 1))], [.int 0], x_h0, 0, 0)) rfl ?_
  refine x_R.steps 1 (c' := (14, [(0, .ref 75), (1, .int (xs 1))], [], x_h0, 0, 0)) rfl ?_
  refine x_R.steps 1 (c' := (16, [(0, .ref 75), (1, .int (xs 1))], [.int (-2)], x_h0, 0, 0)) rfl ?_
  refine x_R.ret (v := some (.int (-2))) rfl ?_
  refine x_R.steps 0 (c' := (1287, [(3, .int 0), (2, .ref 75), (1, .ref 0), (0, .ref x_scr)], [.int (-2), .int (-2)], x_h0, 98, 10728)) rfl ?_
  refine x_R.steps 1 (c' := (2370, [(3, .int 0), (2, .ref 75), (1, .ref 0), (0, .ref x_scr)], [], x_h0, 98, 10728)) rfl ?_
  refine x_R.steps 7 (c' := (24, [(3, .int 6), (2, .ref 75), (1, .ref 0), (0, .ref x_scr)], [.int 0, .int 6], x_h0, 98, 10728)) rfl ?_
  refine x_R.steps 1 (c' := (2376, [(3, .int 6), (2, .ref 75), (1, .ref 0), (0, .ref x_scr)], [], x_h0, 98, 10728)) rfl ?_
  refine x_R.steps 1 (c' := (2377, [(3, .int 6), (2, .ref 75), (1, .ref 0), (0, .ref x_scr)], [.int 1], x_h0, 98, 10728)) rfl ?_
  exact x_R.ret (v := some (.int 1)) rfl x_fin
set_option maxRecDepth 100000 in
set_option maxHeartbeats 4000000 in
theorem x_c34_0 (xs : Nat → Int32)  : x_R x_mt (some (6, xs)) 13 M_law (1292, [(3, .int 0), (2, .ref 75), (1, .ref 0), (0, .ref x_scr)], [], x_h0, 98, 10728) x_P := by
  refine x_R.steps 5 (c' := (1297, [(3, .int 0), (2, .ref 75), (1, .ref 0), (0, .ref x_scr)], [.int 1, .ref x_scr, .ref 0], x_h0, 98, 10728)) rfl ?_
  refine x_R.steps 1 (c' := (1298, [(3, .int 0), (2, .ref 75), (1, .ref 0), (0, .ref x_scr)], [.int (xs 1), .ref 0], x_h0, 98, 10728)) rfl ?_
  refine x_R.call (a := 148) (vs := [.ref 0, .int (xs 1)]) (rest := []) (M' := M_cX11_period) rfl rfl rfl ?_
  refine x_R.steps 2 (c' := (2, [(0, .ref 0), (1, .int (xs 1))], [.int (xs 1), .ref 0], x_h0, 0, 0)) rfl ?_
  refine x_R.call (a := 193) (vs := [.ref 0, .int (xs 1)]) (rest := []) (M' := M_cX11_whyUnheard) rfl rfl rfl ?_
  refine x_R.steps 1 (c' := (1, [(0, .ref 0), (1, .int (xs 1))], [.int (xs 1)], x_h0, 0, 0)) rfl ?_
  refine x_R.call (a := 182) (vs := [.int (xs 1)]) (rest := []) (M' := M_cX11_isSlot) rfl rfl rfl ?_
  refine x_R.steps 1 (c' := (1, [(0, .int (xs 1))], [.int (xs 1)], x_h0, 0, 0)) rfl ?_
  refine x_R.ite (p := (xs 1) < (0 : Int32)) (c1 := (13, [(0, .int (xs 1))], [], x_h0, 0, 0)) (c2 := (4, [(0, .int (xs 1))], [], x_h0, 0, 0)) rfl (fun h1 => ?_) (fun h1 => ?_)
  · have g1 := (x_i_lt (C := 0) (by decide)).mp h1
    refine x_R.steps 1 (c' := (14, [(0, .int (xs 1))], [.int 0], x_h0, 0, 0)) rfl ?_
    refine x_R.ret (v := some (.int 0)) rfl ?_
    refine x_R.steps 0 (c' := (4, [(0, .ref 0), (1, .int (xs 1))], [.int 0], x_h0, 0, 0)) rfl ?_
    refine x_R.steps 1 (c' := (17, [(0, .ref 0), (1, .int (xs 1))], [], x_h0, 0, 0)) rfl ?_
    refine x_R.steps 1 (c' := (19, [(0, .ref 0), (1, .int (xs 1))], [.int (-2)], x_h0, 0, 0)) rfl ?_
    refine x_R.ret (v := some (.int (-2))) rfl ?_
    refine x_R.steps 0 (c' := (5, [(0, .ref 0), (1, .int (xs 1))], [.int (-2)], x_h0, 0, 0)) rfl ?_
    refine x_R.steps 2 (c' := (7, [(2, .int (-2)), (0, .ref 0), (1, .int (xs 1))], [.int (-2)], x_h0, 0, 0)) rfl ?_
    refine x_R.steps 1 (c' := (22, [(2, .int (-2)), (0, .ref 0), (1, .int (xs 1))], [], x_h0, 0, 0)) rfl ?_
    refine x_R.steps 1 (c' := (23, [(2, .int (-2)), (0, .ref 0), (1, .int (xs 1))], [.int (-2)], x_h0, 0, 0)) rfl ?_
    refine x_R.ret (v := some (.int (-2))) rfl ?_
    refine x_R.steps 0 (c' := (1301, [(3, .int 0), (2, .ref 75), (1, .ref 0), (0, .ref x_scr)], [.int (-2)], x_h0, 98, 10728)) rfl ?_
    refine x_R.steps 5 (c' := (1306, [(3, .int 0), (2, .ref 75), (1, .ref 0), (0, .ref x_scr)], [.int 1, .ref x_scr, .ref 75, .int (-2)], x_h0, 98, 10728)) rfl ?_
    refine x_R.steps 1 (c' := (1307, [(3, .int 0), (2, .ref 75), (1, .ref 0), (0, .ref x_scr)], [.int (xs 1), .ref 75, .int (-2)], x_h0, 98, 10728)) rfl ?_
    refine x_R.call (a := 302) (vs := [.ref 75, .int (xs 1)]) (rest := [.int (-2)]) (M' := M_cX12_period) rfl rfl rfl ?_
    refine x_R.steps 2 (c' := (2, [(0, .ref 75), (1, .int (xs 1))], [.int (xs 1), .ref 75], x_h0, 0, 0)) rfl ?_
    refine x_R.call (a := 299) (vs := [.ref 75, .int (xs 1)]) (rest := []) (M' := M_cX12_asksHeard) rfl rfl rfl ?_
    refine x_R.steps 1 (c' := (1, [(0, .ref 75), (1, .int (xs 1))], [.int (xs 1)], x_h0, 0, 0)) rfl ?_
    refine x_R.call (a := 351) (vs := [.int (xs 1)]) (rest := []) (M' := M_cX12_isSlot) rfl rfl rfl ?_
    refine x_R.steps 4 (c' := (6, [(0, .int (xs 1))], [.long 3, .long 0, .long ((xs 1)).toInt64], x_h0, 0, 0)) rfl ?_
    refine x_R.call (a := 196) (vs := [.long ((xs 1)).toInt64, .long 0, .long 3]) (rest := []) (M' := M_cX12_in) rfl rfl rfl ?_
    refine x_R.steps 3 (c' := (3, [(0, .long ((xs 1)).toInt64), (2, .long 0), (4, .long 3)], [.int (lg_cmp ((xs 1)).toInt64 0)], x_h0, 0, 0)) rfl ?_
    refine x_R.ite (p := (lg_cmp ((xs 1)).toInt64 0) < (0 : Int32)) (c1 := (17, [(0, .long ((xs 1)).toInt64), (2, .long 0), (4, .long 3)], [], x_h0, 0, 0)) (c2 := (6, [(0, .long ((xs 1)).toInt64), (2, .long 0), (4, .long 3)], [], x_h0, 0, 0)) rfl (fun h2 => ?_) (fun h2 => ?_)
    · have g2 := (x_lg_lt (C := 0) (by decide)).mp h2
      refine x_R.steps 1 (c' := (18, [(0, .long ((xs 1)).toInt64), (2, .long 0), (4, .long 3)], [.int 0], x_h0, 0, 0)) rfl ?_
      refine x_R.ret (v := some (.int 0)) rfl ?_
      refine x_R.steps 0 (c' := (9, [(0, .int (xs 1))], [.int 0], x_h0, 0, 0)) rfl ?_
      refine x_R.ret (v := some (.int 0)) rfl ?_
      refine x_R.steps 0 (c' := (4, [(0, .ref 75), (1, .int (xs 1))], [.int 0], x_h0, 0, 0)) rfl ?_
      refine x_R.steps 1 (c' := (14, [(0, .ref 75), (1, .int (xs 1))], [], x_h0, 0, 0)) rfl ?_
      refine x_R.steps 1 (c' := (16, [(0, .ref 75), (1, .int (xs 1))], [.int (-2)], x_h0, 0, 0)) rfl ?_
      refine x_R.ret (v := some (.int (-2))) rfl ?_
      refine x_R.steps 0 (c' := (5, [(0, .ref 75), (1, .int (xs 1))], [.int (-2)], x_h0, 0, 0)) rfl ?_
      refine x_R.steps 2 (c' := (7, [(2, .int (-2)), (0, .ref 75), (1, .int (xs 1))], [.int (-2)], x_h0, 0, 0)) rfl ?_
      refine x_R.steps 1 (c' := (10, [(2, .int (-2)), (0, .ref 75), (1, .int (xs 1))], [], x_h0, 0, 0)) rfl ?_
      refine x_R.steps 2 (c' := (19, [(2, .int (-2)), (0, .ref 75), (1, .int (xs 1))], [.int (-2)], x_h0, 0, 0)) rfl ?_
      refine x_R.ret (v := some (.int (-2))) rfl ?_
      refine x_R.steps 0 (c' := (1310, [(3, .int 0), (2, .ref 75), (1, .ref 0), (0, .ref x_scr)], [.int (-2), .int (-2)], x_h0, 98, 10728)) rfl ?_
      refine x_R.steps 1 (c' := (2370, [(3, .int 0), (2, .ref 75), (1, .ref 0), (0, .ref x_scr)], [], x_h0, 98, 10728)) rfl ?_
      refine x_R.steps 7 (c' := (24, [(3, .int 6), (2, .ref 75), (1, .ref 0), (0, .ref x_scr)], [.int 0, .int 6], x_h0, 98, 10728)) rfl ?_
      refine x_R.steps 1 (c' := (2376, [(3, .int 6), (2, .ref 75), (1, .ref 0), (0, .ref x_scr)], [], x_h0, 98, 10728)) rfl ?_
      refine x_R.steps 1 (c' := (2377, [(3, .int 6), (2, .ref 75), (1, .ref 0), (0, .ref x_scr)], [.int 1], x_h0, 98, 10728)) rfl ?_
      exact x_R.ret (v := some (.int 1)) rfl x_fin
    · have g2 := mt (x_lg_lt (C := 0) (by decide)).mpr h2
      exfalso; omega
  · have g1 := mt (x_i_lt (C := 0) (by decide)).mpr h1
    refine x_R.steps 2 (c' := (6, [(0, .int (xs 1))], [.int 4, .int (xs 1)], x_h0, 0, 0)) rfl ?_
    refine x_R.ite (p := (4 : Int32) ≤ (xs 1)) (c1 := (13, [(0, .int (xs 1))], [], x_h0, 0, 0)) (c2 := (9, [(0, .int (xs 1))], [], x_h0, 0, 0)) rfl (fun h3 => ?_) (fun h3 => ?_)
    · have g3 := (x_i_ge (C := 4) (by decide)).mp h3
      refine x_R.steps 1 (c' := (14, [(0, .int (xs 1))], [.int 0], x_h0, 0, 0)) rfl ?_
      refine x_R.ret (v := some (.int 0)) rfl ?_
      refine x_R.steps 0 (c' := (4, [(0, .ref 0), (1, .int (xs 1))], [.int 0], x_h0, 0, 0)) rfl ?_
      refine x_R.steps 1 (c' := (17, [(0, .ref 0), (1, .int (xs 1))], [], x_h0, 0, 0)) rfl ?_
      refine x_R.steps 1 (c' := (19, [(0, .ref 0), (1, .int (xs 1))], [.int (-2)], x_h0, 0, 0)) rfl ?_
      refine x_R.ret (v := some (.int (-2))) rfl ?_
      refine x_R.steps 0 (c' := (5, [(0, .ref 0), (1, .int (xs 1))], [.int (-2)], x_h0, 0, 0)) rfl ?_
      refine x_R.steps 2 (c' := (7, [(2, .int (-2)), (0, .ref 0), (1, .int (xs 1))], [.int (-2)], x_h0, 0, 0)) rfl ?_
      refine x_R.steps 1 (c' := (22, [(2, .int (-2)), (0, .ref 0), (1, .int (xs 1))], [], x_h0, 0, 0)) rfl ?_
      refine x_R.steps 1 (c' := (23, [(2, .int (-2)), (0, .ref 0), (1, .int (xs 1))], [.int (-2)], x_h0, 0, 0)) rfl ?_
      refine x_R.ret (v := some (.int (-2))) rfl ?_
      refine x_R.steps 0 (c' := (1301, [(3, .int 0), (2, .ref 75), (1, .ref 0), (0, .ref x_scr)], [.int (-2)], x_h0, 98, 10728)) rfl ?_
      refine x_R.steps 5 (c' := (1306, [(3, .int 0), (2, .ref 75), (1, .ref 0), (0, .ref x_scr)], [.int 1, .ref x_scr, .ref 75, .int (-2)], x_h0, 98, 10728)) rfl ?_
      refine x_R.steps 1 (c' := (1307, [(3, .int 0), (2, .ref 75), (1, .ref 0), (0, .ref x_scr)], [.int (xs 1), .ref 75, .int (-2)], x_h0, 98, 10728)) rfl ?_
      refine x_R.call (a := 302) (vs := [.ref 75, .int (xs 1)]) (rest := [.int (-2)]) (M' := M_cX12_period) rfl rfl rfl ?_
      refine x_R.steps 2 (c' := (2, [(0, .ref 75), (1, .int (xs 1))], [.int (xs 1), .ref 75], x_h0, 0, 0)) rfl ?_
      refine x_R.call (a := 299) (vs := [.ref 75, .int (xs 1)]) (rest := []) (M' := M_cX12_asksHeard) rfl rfl rfl ?_
      refine x_R.steps 1 (c' := (1, [(0, .ref 75), (1, .int (xs 1))], [.int (xs 1)], x_h0, 0, 0)) rfl ?_
      refine x_R.call (a := 351) (vs := [.int (xs 1)]) (rest := []) (M' := M_cX12_isSlot) rfl rfl rfl ?_
      refine x_R.steps 4 (c' := (6, [(0, .int (xs 1))], [.long 3, .long 0, .long ((xs 1)).toInt64], x_h0, 0, 0)) rfl ?_
      refine x_R.call (a := 196) (vs := [.long ((xs 1)).toInt64, .long 0, .long 3]) (rest := []) (M' := M_cX12_in) rfl rfl rfl ?_
      refine x_R.steps 3 (c' := (3, [(0, .long ((xs 1)).toInt64), (2, .long 0), (4, .long 3)], [.int (lg_cmp ((xs 1)).toInt64 0)], x_h0, 0, 0)) rfl ?_
      refine x_R.ite (p := (lg_cmp ((xs 1)).toInt64 0) < (0 : Int32)) (c1 := (17, [(0, .long ((xs 1)).toInt64), (2, .long 0), (4, .long 3)], [], x_h0, 0, 0)) (c2 := (6, [(0, .long ((xs 1)).toInt64), (2, .long 0), (4, .long 3)], [], x_h0, 0, 0)) rfl (fun h4 => ?_) (fun h4 => ?_)
      · have g4 := (x_lg_lt (C := 0) (by decide)).mp h4
        exfalso; omega
      · have g4 := mt (x_lg_lt (C := 0) (by decide)).mpr h4
        refine x_R.steps 3 (c' := (10, [(0, .long ((xs 1)).toInt64), (2, .long 0), (4, .long 3)], [.int (lg_cmp ((xs 1)).toInt64 3)], x_h0, 0, 0)) rfl ?_
        refine x_R.ite (p := (0 : Int32) < (lg_cmp ((xs 1)).toInt64 3)) (c1 := (17, [(0, .long ((xs 1)).toInt64), (2, .long 0), (4, .long 3)], [], x_h0, 0, 0)) (c2 := (13, [(0, .long ((xs 1)).toInt64), (2, .long 0), (4, .long 3)], [], x_h0, 0, 0)) rfl (fun h5 => ?_) (fun h5 => ?_)
        · have g5 := (x_lg_gt (C := 3) (by decide)).mp h5
          refine x_R.steps 1 (c' := (18, [(0, .long ((xs 1)).toInt64), (2, .long 0), (4, .long 3)], [.int 0], x_h0, 0, 0)) rfl ?_
          refine x_R.ret (v := some (.int 0)) rfl ?_
          refine x_R.steps 0 (c' := (9, [(0, .int (xs 1))], [.int 0], x_h0, 0, 0)) rfl ?_
          refine x_R.ret (v := some (.int 0)) rfl ?_
          refine x_R.steps 0 (c' := (4, [(0, .ref 75), (1, .int (xs 1))], [.int 0], x_h0, 0, 0)) rfl ?_
          refine x_R.steps 1 (c' := (14, [(0, .ref 75), (1, .int (xs 1))], [], x_h0, 0, 0)) rfl ?_
          refine x_R.steps 1 (c' := (16, [(0, .ref 75), (1, .int (xs 1))], [.int (-2)], x_h0, 0, 0)) rfl ?_
          refine x_R.ret (v := some (.int (-2))) rfl ?_
          refine x_R.steps 0 (c' := (5, [(0, .ref 75), (1, .int (xs 1))], [.int (-2)], x_h0, 0, 0)) rfl ?_
          refine x_R.steps 2 (c' := (7, [(2, .int (-2)), (0, .ref 75), (1, .int (xs 1))], [.int (-2)], x_h0, 0, 0)) rfl ?_
          refine x_R.steps 1 (c' := (10, [(2, .int (-2)), (0, .ref 75), (1, .int (xs 1))], [], x_h0, 0, 0)) rfl ?_
          refine x_R.steps 2 (c' := (19, [(2, .int (-2)), (0, .ref 75), (1, .int (xs 1))], [.int (-2)], x_h0, 0, 0)) rfl ?_
          refine x_R.ret (v := some (.int (-2))) rfl ?_
          refine x_R.steps 0 (c' := (1310, [(3, .int 0), (2, .ref 75), (1, .ref 0), (0, .ref x_scr)], [.int (-2), .int (-2)], x_h0, 98, 10728)) rfl ?_
          refine x_R.steps 1 (c' := (2370, [(3, .int 0), (2, .ref 75), (1, .ref 0), (0, .ref x_scr)], [], x_h0, 98, 10728)) rfl ?_
          refine x_R.steps 7 (c' := (24, [(3, .int 6), (2, .ref 75), (1, .ref 0), (0, .ref x_scr)], [.int 0, .int 6], x_h0, 98, 10728)) rfl ?_
          refine x_R.steps 1 (c' := (2376, [(3, .int 6), (2, .ref 75), (1, .ref 0), (0, .ref x_scr)], [], x_h0, 98, 10728)) rfl ?_
          refine x_R.steps 1 (c' := (2377, [(3, .int 6), (2, .ref 75), (1, .ref 0), (0, .ref x_scr)], [.int 1], x_h0, 98, 10728)) rfl ?_
          exact x_R.ret (v := some (.int 1)) rfl x_fin
        · have g5 := mt (x_lg_gt (C := 3) (by decide)).mpr h5
          exfalso; omega
    · have g3 := mt (x_i_ge (C := 4) (by decide)).mpr h3
      refine x_R.steps 2 (c' := (14, [(0, .int (xs 1))], [.int 1], x_h0, 0, 0)) rfl ?_
      refine x_R.ret (v := some (.int 1)) rfl ?_
      refine x_R.steps 0 (c' := (4, [(0, .ref 0), (1, .int (xs 1))], [.int 1], x_h0, 0, 0)) rfl ?_
      refine x_R.steps 1 (c' := (7, [(0, .ref 0), (1, .int (xs 1))], [], x_h0, 0, 0)) rfl ?_
      refine x_R.steps 2 (c' := (11, [(0, .ref 0), (1, .int (xs 1))], [.ref 1], x_h0, 0, 0)) rfl ?_
      refine x_R.call (a := 11) (vs := [.ref 1]) (rest := []) (M' := M_cX2_isTold) rfl rfl rfl ?_
      refine x_R.steps 2 (c' := (4, [(0, .ref 1)], [.int 0], x_h0, 0, 0)) rfl ?_
      refine x_R.steps 1 (c' := (11, [(0, .ref 1)], [], x_h0, 0, 0)) rfl ?_
      refine x_R.steps 1 (c' := (12, [(0, .ref 1)], [.int 0], x_h0, 0, 0)) rfl ?_
      refine x_R.ret (v := some (.int 0)) rfl ?_
      refine x_R.steps 0 (c' := (14, [(0, .ref 0), (1, .int (xs 1))], [.int 0], x_h0, 0, 0)) rfl ?_
      refine x_R.steps 1 (c' := (17, [(0, .ref 0), (1, .int (xs 1))], [], x_h0, 0, 0)) rfl ?_
      refine x_R.steps 1 (c' := (19, [(0, .ref 0), (1, .int (xs 1))], [.int (-2)], x_h0, 0, 0)) rfl ?_
      refine x_R.ret (v := some (.int (-2))) rfl ?_
      refine x_R.steps 0 (c' := (5, [(0, .ref 0), (1, .int (xs 1))], [.int (-2)], x_h0, 0, 0)) rfl ?_
      refine x_R.steps 2 (c' := (7, [(2, .int (-2)), (0, .ref 0), (1, .int (xs 1))], [.int (-2)], x_h0, 0, 0)) rfl ?_
      refine x_R.steps 1 (c' := (22, [(2, .int (-2)), (0, .ref 0), (1, .int (xs 1))], [], x_h0, 0, 0)) rfl ?_
      refine x_R.steps 1 (c' := (23, [(2, .int (-2)), (0, .ref 0), (1, .int (xs 1))], [.int (-2)], x_h0, 0, 0)) rfl ?_
      refine x_R.ret (v := some (.int (-2))) rfl ?_
      refine x_R.steps 0 (c' := (1301, [(3, .int 0), (2, .ref 75), (1, .ref 0), (0, .ref x_scr)], [.int (-2)], x_h0, 98, 10728)) rfl ?_
      refine x_R.steps 5 (c' := (1306, [(3, .int 0), (2, .ref 75), (1, .ref 0), (0, .ref x_scr)], [.int 1, .ref x_scr, .ref 75, .int (-2)], x_h0, 98, 10728)) rfl ?_
      refine x_R.steps 1 (c' := (1307, [(3, .int 0), (2, .ref 75), (1, .ref 0), (0, .ref x_scr)], [.int (xs 1), .ref 75, .int (-2)], x_h0, 98, 10728)) rfl ?_
      refine x_R.call (a := 302) (vs := [.ref 75, .int (xs 1)]) (rest := [.int (-2)]) (M' := M_cX12_period) rfl rfl rfl ?_
      refine x_R.steps 2 (c' := (2, [(0, .ref 75), (1, .int (xs 1))], [.int (xs 1), .ref 75], x_h0, 0, 0)) rfl ?_
      refine x_R.call (a := 299) (vs := [.ref 75, .int (xs 1)]) (rest := []) (M' := M_cX12_asksHeard) rfl rfl rfl ?_
      refine x_R.steps 1 (c' := (1, [(0, .ref 75), (1, .int (xs 1))], [.int (xs 1)], x_h0, 0, 0)) rfl ?_
      refine x_R.call (a := 351) (vs := [.int (xs 1)]) (rest := []) (M' := M_cX12_isSlot) rfl rfl rfl ?_
      refine x_R.steps 4 (c' := (6, [(0, .int (xs 1))], [.long 3, .long 0, .long ((xs 1)).toInt64], x_h0, 0, 0)) rfl ?_
      refine x_R.call (a := 196) (vs := [.long ((xs 1)).toInt64, .long 0, .long 3]) (rest := []) (M' := M_cX12_in) rfl rfl rfl ?_
      refine x_R.steps 3 (c' := (3, [(0, .long ((xs 1)).toInt64), (2, .long 0), (4, .long 3)], [.int (lg_cmp ((xs 1)).toInt64 0)], x_h0, 0, 0)) rfl ?_
      refine x_R.ite (p := (lg_cmp ((xs 1)).toInt64 0) < (0 : Int32)) (c1 := (17, [(0, .long ((xs 1)).toInt64), (2, .long 0), (4, .long 3)], [], x_h0, 0, 0)) (c2 := (6, [(0, .long ((xs 1)).toInt64), (2, .long 0), (4, .long 3)], [], x_h0, 0, 0)) rfl (fun h6 => ?_) (fun h6 => ?_)
      · have g6 := (x_lg_lt (C := 0) (by decide)).mp h6
        exfalso; omega
      · have g6 := mt (x_lg_lt (C := 0) (by decide)).mpr h6
        refine x_R.steps 3 (c' := (10, [(0, .long ((xs 1)).toInt64), (2, .long 0), (4, .long 3)], [.int (lg_cmp ((xs 1)).toInt64 3)], x_h0, 0, 0)) rfl ?_
        refine x_R.ite (p := (0 : Int32) < (lg_cmp ((xs 1)).toInt64 3)) (c1 := (17, [(0, .long ((xs 1)).toInt64), (2, .long 0), (4, .long 3)], [], x_h0, 0, 0)) (c2 := (13, [(0, .long ((xs 1)).toInt64), (2, .long 0), (4, .long 3)], [], x_h0, 0, 0)) rfl (fun h7 => ?_) (fun h7 => ?_)
        · have g7 := (x_lg_gt (C := 3) (by decide)).mp h7
          exfalso; omega
        · have g7 := mt (x_lg_gt (C := 3) (by decide)).mpr h7
          refine x_R.steps 2 (c' := (18, [(0, .long ((xs 1)).toInt64), (2, .long 0), (4, .long 3)], [.int 1], x_h0, 0, 0)) rfl ?_
          refine x_R.ret (v := some (.int 1)) rfl ?_
          refine x_R.steps 0 (c' := (9, [(0, .int (xs 1))], [.int 1], x_h0, 0, 0)) rfl ?_
          refine x_R.ret (v := some (.int 1)) rfl ?_
          refine x_R.steps 0 (c' := (4, [(0, .ref 75), (1, .int (xs 1))], [.int 1], x_h0, 0, 0)) rfl ?_
          refine x_R.steps 1 (c' := (7, [(0, .ref 75), (1, .int (xs 1))], [], x_h0, 0, 0)) rfl ?_
          refine x_R.steps 1 (c' := (8, [(0, .ref 75), (1, .int (xs 1))], [.ref 75], x_h0, 0, 0)) rfl ?_
          refine x_R.call (a := 199) (vs := [.ref 75]) (rest := []) (M' := M_cX12_isBoard) rfl rfl rfl ?_
          refine x_R.steps 3 (c' := (5, [(0, .ref 75)], [.int 0, .ref 76], x_h0, 0, 0)) rfl ?_
          refine x_R.steps 1 (c' := (6, [(0, .ref 75)], [.int 0], x_h0, 0, 0)) rfl ?_
          refine x_R.steps 1 (c' := (13, [(0, .ref 75)], [], x_h0, 0, 0)) rfl ?_
          refine x_R.steps 1 (c' := (14, [(0, .ref 75)], [.int 0], x_h0, 0, 0)) rfl ?_
          refine x_R.ret (v := some (.int 0)) rfl ?_
          refine x_R.steps 0 (c' := (11, [(0, .ref 75), (1, .int (xs 1))], [.int 0], x_h0, 0, 0)) rfl ?_
          refine x_R.steps 1 (c' := (14, [(0, .ref 75), (1, .int (xs 1))], [], x_h0, 0, 0)) rfl ?_
          refine x_R.steps 1 (c' := (16, [(0, .ref 75), (1, .int (xs 1))], [.int (-2)], x_h0, 0, 0)) rfl ?_
          refine x_R.ret (v := some (.int (-2))) rfl ?_
          refine x_R.steps 0 (c' := (5, [(0, .ref 75), (1, .int (xs 1))], [.int (-2)], x_h0, 0, 0)) rfl ?_
          refine x_R.steps 2 (c' := (7, [(2, .int (-2)), (0, .ref 75), (1, .int (xs 1))], [.int (-2)], x_h0, 0, 0)) rfl ?_
          refine x_R.steps 1 (c' := (10, [(2, .int (-2)), (0, .ref 75), (1, .int (xs 1))], [], x_h0, 0, 0)) rfl ?_
          refine x_R.steps 2 (c' := (19, [(2, .int (-2)), (0, .ref 75), (1, .int (xs 1))], [.int (-2)], x_h0, 0, 0)) rfl ?_
          refine x_R.ret (v := some (.int (-2))) rfl ?_
          refine x_R.steps 0 (c' := (1310, [(3, .int 0), (2, .ref 75), (1, .ref 0), (0, .ref x_scr)], [.int (-2), .int (-2)], x_h0, 98, 10728)) rfl ?_
          refine x_R.steps 1 (c' := (2370, [(3, .int 0), (2, .ref 75), (1, .ref 0), (0, .ref x_scr)], [], x_h0, 98, 10728)) rfl ?_
          refine x_R.steps 7 (c' := (24, [(3, .int 6), (2, .ref 75), (1, .ref 0), (0, .ref x_scr)], [.int 0, .int 6], x_h0, 98, 10728)) rfl ?_
          refine x_R.steps 1 (c' := (2376, [(3, .int 6), (2, .ref 75), (1, .ref 0), (0, .ref x_scr)], [], x_h0, 98, 10728)) rfl ?_
          refine x_R.steps 1 (c' := (2377, [(3, .int 6), (2, .ref 75), (1, .ref 0), (0, .ref x_scr)], [.int 1], x_h0, 98, 10728)) rfl ?_
          exact x_R.ret (v := some (.int 1)) rfl x_fin
set_option maxRecDepth 100000 in
set_option maxHeartbeats 4000000 in
theorem x_c35_0 (xs : Nat → Int32)  : x_R x_mt (some (6, xs)) 13 M_law (1315, [(3, .int 0), (2, .ref 75), (1, .ref 0), (0, .ref x_scr)], [], x_h0, 98, 10728) x_P := by
  refine x_R.steps 5 (c' := (1320, [(3, .int 0), (2, .ref 75), (1, .ref 0), (0, .ref x_scr)], [.int 1, .ref x_scr, .ref 0], x_h0, 98, 10728)) rfl ?_
  refine x_R.steps 1 (c' := (1321, [(3, .int 0), (2, .ref 75), (1, .ref 0), (0, .ref x_scr)], [.int (xs 1), .ref 0], x_h0, 98, 10728)) rfl ?_
  refine x_R.call (a := 149) (vs := [.ref 0, .int (xs 1)]) (rest := []) (M' := M_cX11_periods) rfl rfl rfl ?_
  refine x_R.steps 2 (c' := (2, [(0, .ref 0), (1, .int (xs 1))], [.int (xs 1), .ref 0], x_h0, 0, 0)) rfl ?_
  refine x_R.call (a := 193) (vs := [.ref 0, .int (xs 1)]) (rest := []) (M' := M_cX11_whyUnheard) rfl rfl rfl ?_
  refine x_R.steps 1 (c' := (1, [(0, .ref 0), (1, .int (xs 1))], [.int (xs 1)], x_h0, 0, 0)) rfl ?_
  refine x_R.call (a := 182) (vs := [.int (xs 1)]) (rest := []) (M' := M_cX11_isSlot) rfl rfl rfl ?_
  refine x_R.steps 1 (c' := (1, [(0, .int (xs 1))], [.int (xs 1)], x_h0, 0, 0)) rfl ?_
  refine x_R.ite (p := (xs 1) < (0 : Int32)) (c1 := (13, [(0, .int (xs 1))], [], x_h0, 0, 0)) (c2 := (4, [(0, .int (xs 1))], [], x_h0, 0, 0)) rfl (fun h1 => ?_) (fun h1 => ?_)
  · have g1 := (x_i_lt (C := 0) (by decide)).mp h1
    refine x_R.steps 1 (c' := (14, [(0, .int (xs 1))], [.int 0], x_h0, 0, 0)) rfl ?_
    refine x_R.ret (v := some (.int 0)) rfl ?_
    refine x_R.steps 0 (c' := (4, [(0, .ref 0), (1, .int (xs 1))], [.int 0], x_h0, 0, 0)) rfl ?_
    refine x_R.steps 1 (c' := (17, [(0, .ref 0), (1, .int (xs 1))], [], x_h0, 0, 0)) rfl ?_
    refine x_R.steps 1 (c' := (19, [(0, .ref 0), (1, .int (xs 1))], [.int (-2)], x_h0, 0, 0)) rfl ?_
    refine x_R.ret (v := some (.int (-2))) rfl ?_
    refine x_R.steps 0 (c' := (5, [(0, .ref 0), (1, .int (xs 1))], [.int (-2)], x_h0, 0, 0)) rfl ?_
    refine x_R.steps 2 (c' := (7, [(2, .int (-2)), (0, .ref 0), (1, .int (xs 1))], [.int (-2)], x_h0, 0, 0)) rfl ?_
    refine x_R.steps 1 (c' := (22, [(2, .int (-2)), (0, .ref 0), (1, .int (xs 1))], [], x_h0, 0, 0)) rfl ?_
    refine x_R.steps 1 (c' := (23, [(2, .int (-2)), (0, .ref 0), (1, .int (xs 1))], [.int (-2)], x_h0, 0, 0)) rfl ?_
    refine x_R.ret (v := some (.int (-2))) rfl ?_
    refine x_R.steps 0 (c' := (1324, [(3, .int 0), (2, .ref 75), (1, .ref 0), (0, .ref x_scr)], [.int (-2)], x_h0, 98, 10728)) rfl ?_
    refine x_R.steps 5 (c' := (1329, [(3, .int 0), (2, .ref 75), (1, .ref 0), (0, .ref x_scr)], [.int 1, .ref x_scr, .ref 75, .int (-2)], x_h0, 98, 10728)) rfl ?_
    refine x_R.steps 1 (c' := (1330, [(3, .int 0), (2, .ref 75), (1, .ref 0), (0, .ref x_scr)], [.int (xs 1), .ref 75, .int (-2)], x_h0, 98, 10728)) rfl ?_
    refine x_R.call (a := 303) (vs := [.ref 75, .int (xs 1)]) (rest := [.int (-2)]) (M' := M_cX12_periods) rfl rfl rfl ?_
    refine x_R.steps 2 (c' := (2, [(0, .ref 75), (1, .int (xs 1))], [.int (xs 1), .ref 75], x_h0, 0, 0)) rfl ?_
    refine x_R.call (a := 299) (vs := [.ref 75, .int (xs 1)]) (rest := []) (M' := M_cX12_asksHeard) rfl rfl rfl ?_
    refine x_R.steps 1 (c' := (1, [(0, .ref 75), (1, .int (xs 1))], [.int (xs 1)], x_h0, 0, 0)) rfl ?_
    refine x_R.call (a := 351) (vs := [.int (xs 1)]) (rest := []) (M' := M_cX12_isSlot) rfl rfl rfl ?_
    refine x_R.steps 4 (c' := (6, [(0, .int (xs 1))], [.long 3, .long 0, .long ((xs 1)).toInt64], x_h0, 0, 0)) rfl ?_
    refine x_R.call (a := 196) (vs := [.long ((xs 1)).toInt64, .long 0, .long 3]) (rest := []) (M' := M_cX12_in) rfl rfl rfl ?_
    refine x_R.steps 3 (c' := (3, [(0, .long ((xs 1)).toInt64), (2, .long 0), (4, .long 3)], [.int (lg_cmp ((xs 1)).toInt64 0)], x_h0, 0, 0)) rfl ?_
    refine x_R.ite (p := (lg_cmp ((xs 1)).toInt64 0) < (0 : Int32)) (c1 := (17, [(0, .long ((xs 1)).toInt64), (2, .long 0), (4, .long 3)], [], x_h0, 0, 0)) (c2 := (6, [(0, .long ((xs 1)).toInt64), (2, .long 0), (4, .long 3)], [], x_h0, 0, 0)) rfl (fun h2 => ?_) (fun h2 => ?_)
    · have g2 := (x_lg_lt (C := 0) (by decide)).mp h2
      refine x_R.steps 1 (c' := (18, [(0, .long ((xs 1)).toInt64), (2, .long 0), (4, .long 3)], [.int 0], x_h0, 0, 0)) rfl ?_
      refine x_R.ret (v := some (.int 0)) rfl ?_
      refine x_R.steps 0 (c' := (9, [(0, .int (xs 1))], [.int 0], x_h0, 0, 0)) rfl ?_
      refine x_R.ret (v := some (.int 0)) rfl ?_
      refine x_R.steps 0 (c' := (4, [(0, .ref 75), (1, .int (xs 1))], [.int 0], x_h0, 0, 0)) rfl ?_
      refine x_R.steps 1 (c' := (14, [(0, .ref 75), (1, .int (xs 1))], [], x_h0, 0, 0)) rfl ?_
      refine x_R.steps 1 (c' := (16, [(0, .ref 75), (1, .int (xs 1))], [.int (-2)], x_h0, 0, 0)) rfl ?_
      refine x_R.ret (v := some (.int (-2))) rfl ?_
      refine x_R.steps 0 (c' := (5, [(0, .ref 75), (1, .int (xs 1))], [.int (-2)], x_h0, 0, 0)) rfl ?_
      refine x_R.steps 2 (c' := (7, [(2, .int (-2)), (0, .ref 75), (1, .int (xs 1))], [.int (-2)], x_h0, 0, 0)) rfl ?_
      refine x_R.steps 1 (c' := (10, [(2, .int (-2)), (0, .ref 75), (1, .int (xs 1))], [], x_h0, 0, 0)) rfl ?_
      refine x_R.steps 1 (c' := (11, [(2, .int (-2)), (0, .ref 75), (1, .int (xs 1))], [.int (-2)], x_h0, 0, 0)) rfl ?_
      refine x_R.ret (v := some (.int (-2))) rfl ?_
      refine x_R.steps 0 (c' := (1333, [(3, .int 0), (2, .ref 75), (1, .ref 0), (0, .ref x_scr)], [.int (-2), .int (-2)], x_h0, 98, 10728)) rfl ?_
      refine x_R.steps 1 (c' := (2370, [(3, .int 0), (2, .ref 75), (1, .ref 0), (0, .ref x_scr)], [], x_h0, 98, 10728)) rfl ?_
      refine x_R.steps 7 (c' := (24, [(3, .int 6), (2, .ref 75), (1, .ref 0), (0, .ref x_scr)], [.int 0, .int 6], x_h0, 98, 10728)) rfl ?_
      refine x_R.steps 1 (c' := (2376, [(3, .int 6), (2, .ref 75), (1, .ref 0), (0, .ref x_scr)], [], x_h0, 98, 10728)) rfl ?_
      refine x_R.steps 1 (c' := (2377, [(3, .int 6), (2, .ref 75), (1, .ref 0), (0, .ref x_scr)], [.int 1], x_h0, 98, 10728)) rfl ?_
      exact x_R.ret (v := some (.int 1)) rfl x_fin
    · have g2 := mt (x_lg_lt (C := 0) (by decide)).mpr h2
      exfalso; omega
  · have g1 := mt (x_i_lt (C := 0) (by decide)).mpr h1
    refine x_R.steps 2 (c' := (6, [(0, .int (xs 1))], [.int 4, .int (xs 1)], x_h0, 0, 0)) rfl ?_
    refine x_R.ite (p := (4 : Int32) ≤ (xs 1)) (c1 := (13, [(0, .int (xs 1))], [], x_h0, 0, 0)) (c2 := (9, [(0, .int (xs 1))], [], x_h0, 0, 0)) rfl (fun h3 => ?_) (fun h3 => ?_)
    · have g3 := (x_i_ge (C := 4) (by decide)).mp h3
      refine x_R.steps 1 (c' := (14, [(0, .int (xs 1))], [.int 0], x_h0, 0, 0)) rfl ?_
      refine x_R.ret (v := some (.int 0)) rfl ?_
      refine x_R.steps 0 (c' := (4, [(0, .ref 0), (1, .int (xs 1))], [.int 0], x_h0, 0, 0)) rfl ?_
      refine x_R.steps 1 (c' := (17, [(0, .ref 0), (1, .int (xs 1))], [], x_h0, 0, 0)) rfl ?_
      refine x_R.steps 1 (c' := (19, [(0, .ref 0), (1, .int (xs 1))], [.int (-2)], x_h0, 0, 0)) rfl ?_
      refine x_R.ret (v := some (.int (-2))) rfl ?_
      refine x_R.steps 0 (c' := (5, [(0, .ref 0), (1, .int (xs 1))], [.int (-2)], x_h0, 0, 0)) rfl ?_
      refine x_R.steps 2 (c' := (7, [(2, .int (-2)), (0, .ref 0), (1, .int (xs 1))], [.int (-2)], x_h0, 0, 0)) rfl ?_
      refine x_R.steps 1 (c' := (22, [(2, .int (-2)), (0, .ref 0), (1, .int (xs 1))], [], x_h0, 0, 0)) rfl ?_
      refine x_R.steps 1 (c' := (23, [(2, .int (-2)), (0, .ref 0), (1, .int (xs 1))], [.int (-2)], x_h0, 0, 0)) rfl ?_
      refine x_R.ret (v := some (.int (-2))) rfl ?_
      refine x_R.steps 0 (c' := (1324, [(3, .int 0), (2, .ref 75), (1, .ref 0), (0, .ref x_scr)], [.int (-2)], x_h0, 98, 10728)) rfl ?_
      refine x_R.steps 5 (c' := (1329, [(3, .int 0), (2, .ref 75), (1, .ref 0), (0, .ref x_scr)], [.int 1, .ref x_scr, .ref 75, .int (-2)], x_h0, 98, 10728)) rfl ?_
      refine x_R.steps 1 (c' := (1330, [(3, .int 0), (2, .ref 75), (1, .ref 0), (0, .ref x_scr)], [.int (xs 1), .ref 75, .int (-2)], x_h0, 98, 10728)) rfl ?_
      refine x_R.call (a := 303) (vs := [.ref 75, .int (xs 1)]) (rest := [.int (-2)]) (M' := M_cX12_periods) rfl rfl rfl ?_
      refine x_R.steps 2 (c' := (2, [(0, .ref 75), (1, .int (xs 1))], [.int (xs 1), .ref 75], x_h0, 0, 0)) rfl ?_
      refine x_R.call (a := 299) (vs := [.ref 75, .int (xs 1)]) (rest := []) (M' := M_cX12_asksHeard) rfl rfl rfl ?_
      refine x_R.steps 1 (c' := (1, [(0, .ref 75), (1, .int (xs 1))], [.int (xs 1)], x_h0, 0, 0)) rfl ?_
      refine x_R.call (a := 351) (vs := [.int (xs 1)]) (rest := []) (M' := M_cX12_isSlot) rfl rfl rfl ?_
      refine x_R.steps 4 (c' := (6, [(0, .int (xs 1))], [.long 3, .long 0, .long ((xs 1)).toInt64], x_h0, 0, 0)) rfl ?_
      refine x_R.call (a := 196) (vs := [.long ((xs 1)).toInt64, .long 0, .long 3]) (rest := []) (M' := M_cX12_in) rfl rfl rfl ?_
      refine x_R.steps 3 (c' := (3, [(0, .long ((xs 1)).toInt64), (2, .long 0), (4, .long 3)], [.int (lg_cmp ((xs 1)).toInt64 0)], x_h0, 0, 0)) rfl ?_
      refine x_R.ite (p := (lg_cmp ((xs 1)).toInt64 0) < (0 : Int32)) (c1 := (17, [(0, .long ((xs 1)).toInt64), (2, .long 0), (4, .long 3)], [], x_h0, 0, 0)) (c2 := (6, [(0, .long ((xs 1)).toInt64), (2, .long 0), (4, .long 3)], [], x_h0, 0, 0)) rfl (fun h4 => ?_) (fun h4 => ?_)
      · have g4 := (x_lg_lt (C := 0) (by decide)).mp h4
        exfalso; omega
      · have g4 := mt (x_lg_lt (C := 0) (by decide)).mpr h4
        refine x_R.steps 3 (c' := (10, [(0, .long ((xs 1)).toInt64), (2, .long 0), (4, .long 3)], [.int (lg_cmp ((xs 1)).toInt64 3)], x_h0, 0, 0)) rfl ?_
        refine x_R.ite (p := (0 : Int32) < (lg_cmp ((xs 1)).toInt64 3)) (c1 := (17, [(0, .long ((xs 1)).toInt64), (2, .long 0), (4, .long 3)], [], x_h0, 0, 0)) (c2 := (13, [(0, .long ((xs 1)).toInt64), (2, .long 0), (4, .long 3)], [], x_h0, 0, 0)) rfl (fun h5 => ?_) (fun h5 => ?_)
        · have g5 := (x_lg_gt (C := 3) (by decide)).mp h5
          refine x_R.steps 1 (c' := (18, [(0, .long ((xs 1)).toInt64), (2, .long 0), (4, .long 3)], [.int 0], x_h0, 0, 0)) rfl ?_
          refine x_R.ret (v := some (.int 0)) rfl ?_
          refine x_R.steps 0 (c' := (9, [(0, .int (xs 1))], [.int 0], x_h0, 0, 0)) rfl ?_
          refine x_R.ret (v := some (.int 0)) rfl ?_
          refine x_R.steps 0 (c' := (4, [(0, .ref 75), (1, .int (xs 1))], [.int 0], x_h0, 0, 0)) rfl ?_
          refine x_R.steps 1 (c' := (14, [(0, .ref 75), (1, .int (xs 1))], [], x_h0, 0, 0)) rfl ?_
          refine x_R.steps 1 (c' := (16, [(0, .ref 75), (1, .int (xs 1))], [.int (-2)], x_h0, 0, 0)) rfl ?_
          refine x_R.ret (v := some (.int (-2))) rfl ?_
          refine x_R.steps 0 (c' := (5, [(0, .ref 75), (1, .int (xs 1))], [.int (-2)], x_h0, 0, 0)) rfl ?_
          refine x_R.steps 2 (c' := (7, [(2, .int (-2)), (0, .ref 75), (1, .int (xs 1))], [.int (-2)], x_h0, 0, 0)) rfl ?_
          refine x_R.steps 1 (c' := (10, [(2, .int (-2)), (0, .ref 75), (1, .int (xs 1))], [], x_h0, 0, 0)) rfl ?_
          refine x_R.steps 1 (c' := (11, [(2, .int (-2)), (0, .ref 75), (1, .int (xs 1))], [.int (-2)], x_h0, 0, 0)) rfl ?_
          refine x_R.ret (v := some (.int (-2))) rfl ?_
          refine x_R.steps 0 (c' := (1333, [(3, .int 0), (2, .ref 75), (1, .ref 0), (0, .ref x_scr)], [.int (-2), .int (-2)], x_h0, 98, 10728)) rfl ?_
          refine x_R.steps 1 (c' := (2370, [(3, .int 0), (2, .ref 75), (1, .ref 0), (0, .ref x_scr)], [], x_h0, 98, 10728)) rfl ?_
          refine x_R.steps 7 (c' := (24, [(3, .int 6), (2, .ref 75), (1, .ref 0), (0, .ref x_scr)], [.int 0, .int 6], x_h0, 98, 10728)) rfl ?_
          refine x_R.steps 1 (c' := (2376, [(3, .int 6), (2, .ref 75), (1, .ref 0), (0, .ref x_scr)], [], x_h0, 98, 10728)) rfl ?_
          refine x_R.steps 1 (c' := (2377, [(3, .int 6), (2, .ref 75), (1, .ref 0), (0, .ref x_scr)], [.int 1], x_h0, 98, 10728)) rfl ?_
          exact x_R.ret (v := some (.int 1)) rfl x_fin
        · have g5 := mt (x_lg_gt (C := 3) (by decide)).mpr h5
          exfalso; omega
    · have g3 := mt (x_i_ge (C := 4) (by decide)).mpr h3
      refine x_R.steps 2 (c' := (14, [(0, .int (xs 1))], [.int 1], x_h0, 0, 0)) rfl ?_
      refine x_R.ret (v := some (.int 1)) rfl ?_
      refine x_R.steps 0 (c' := (4, [(0, .ref 0), (1, .int (xs 1))], [.int 1], x_h0, 0, 0)) rfl ?_
      refine x_R.steps 1 (c' := (7, [(0, .ref 0), (1, .int (xs 1))], [], x_h0, 0, 0)) rfl ?_
      refine x_R.steps 2 (c' := (11, [(0, .ref 0), (1, .int (xs 1))], [.ref 1], x_h0, 0, 0)) rfl ?_
      refine x_R.call (a := 11) (vs := [.ref 1]) (rest := []) (M' := M_cX2_isTold) rfl rfl rfl ?_
      refine x_R.steps 2 (c' := (4, [(0, .ref 1)], [.int 0], x_h0, 0, 0)) rfl ?_
      refine x_R.steps 1 (c' := (11, [(0, .ref 1)], [], x_h0, 0, 0)) rfl ?_
      refine x_R.steps 1 (c' := (12, [(0, .ref 1)], [.int 0], x_h0, 0, 0)) rfl ?_
      refine x_R.ret (v := some (.int 0)) rfl ?_
      refine x_R.steps 0 (c' := (14, [(0, .ref 0), (1, .int (xs 1))], [.int 0], x_h0, 0, 0)) rfl ?_
      refine x_R.steps 1 (c' := (17, [(0, .ref 0), (1, .int (xs 1))], [], x_h0, 0, 0)) rfl ?_
      refine x_R.steps 1 (c' := (19, [(0, .ref 0), (1, .int (xs 1))], [.int (-2)], x_h0, 0, 0)) rfl ?_
      refine x_R.ret (v := some (.int (-2))) rfl ?_
      refine x_R.steps 0 (c' := (5, [(0, .ref 0), (1, .int (xs 1))], [.int (-2)], x_h0, 0, 0)) rfl ?_
      refine x_R.steps 2 (c' := (7, [(2, .int (-2)), (0, .ref 0), (1, .int (xs 1))], [.int (-2)], x_h0, 0, 0)) rfl ?_
      refine x_R.steps 1 (c' := (22, [(2, .int (-2)), (0, .ref 0), (1, .int (xs 1))], [], x_h0, 0, 0)) rfl ?_
      refine x_R.steps 1 (c' := (23, [(2, .int (-2)), (0, .ref 0), (1, .int (xs 1))], [.int (-2)], x_h0, 0, 0)) rfl ?_
      refine x_R.ret (v := some (.int (-2))) rfl ?_
      refine x_R.steps 0 (c' := (1324, [(3, .int 0), (2, .ref 75), (1, .ref 0), (0, .ref x_scr)], [.int (-2)], x_h0, 98, 10728)) rfl ?_
      refine x_R.steps 5 (c' := (1329, [(3, .int 0), (2, .ref 75), (1, .ref 0), (0, .ref x_scr)], [.int 1, .ref x_scr, .ref 75, .int (-2)], x_h0, 98, 10728)) rfl ?_
      refine x_R.steps 1 (c' := (1330, [(3, .int 0), (2, .ref 75), (1, .ref 0), (0, .ref x_scr)], [.int (xs 1), .ref 75, .int (-2)], x_h0, 98, 10728)) rfl ?_
      refine x_R.call (a := 303) (vs := [.ref 75, .int (xs 1)]) (rest := [.int (-2)]) (M' := M_cX12_periods) rfl rfl rfl ?_
      refine x_R.steps 2 (c' := (2, [(0, .ref 75), (1, .int (xs 1))], [.int (xs 1), .ref 75], x_h0, 0, 0)) rfl ?_
      refine x_R.call (a := 299) (vs := [.ref 75, .int (xs 1)]) (rest := []) (M' := M_cX12_asksHeard) rfl rfl rfl ?_
      refine x_R.steps 1 (c' := (1, [(0, .ref 75), (1, .int (xs 1))], [.int (xs 1)], x_h0, 0, 0)) rfl ?_
      refine x_R.call (a := 351) (vs := [.int (xs 1)]) (rest := []) (M' := M_cX12_isSlot) rfl rfl rfl ?_
      refine x_R.steps 4 (c' := (6, [(0, .int (xs 1))], [.long 3, .long 0, .long ((xs 1)).toInt64], x_h0, 0, 0)) rfl ?_
      refine x_R.call (a := 196) (vs := [.long ((xs 1)).toInt64, .long 0, .long 3]) (rest := []) (M' := M_cX12_in) rfl rfl rfl ?_
      refine x_R.steps 3 (c' := (3, [(0, .long ((xs 1)).toInt64), (2, .long 0), (4, .long 3)], [.int (lg_cmp ((xs 1)).toInt64 0)], x_h0, 0, 0)) rfl ?_
      refine x_R.ite (p := (lg_cmp ((xs 1)).toInt64 0) < (0 : Int32)) (c1 := (17, [(0, .long ((xs 1)).toInt64), (2, .long 0), (4, .long 3)], [], x_h0, 0, 0)) (c2 := (6, [(0, .long ((xs 1)).toInt64), (2, .long 0), (4, .long 3)], [], x_h0, 0, 0)) rfl (fun h6 => ?_) (fun h6 => ?_)
      · have g6 := (x_lg_lt (C := 0) (by decide)).mp h6
        exfalso; omega
      · have g6 := mt (x_lg_lt (C := 0) (by decide)).mpr h6
        refine x_R.steps 3 (c' := (10, [(0, .long ((xs 1)).toInt64), (2, .long 0), (4, .long 3)], [.int (lg_cmp ((xs 1)).toInt64 3)], x_h0, 0, 0)) rfl ?_
        refine x_R.ite (p := (0 : Int32) < (lg_cmp ((xs 1)).toInt64 3)) (c1 := (17, [(0, .long ((xs 1)).toInt64), (2, .long 0), (4, .long 3)], [], x_h0, 0, 0)) (c2 := (13, [(0, .long ((xs 1)).toInt64), (2, .long 0), (4, .long 3)], [], x_h0, 0, 0)) rfl (fun h7 => ?_) (fun h7 => ?_)
        · have g7 := (x_lg_gt (C := 3) (by decide)).mp h7
          exfalso; omega
        · have g7 := mt (x_lg_gt (C := 3) (by decide)).mpr h7
          refine x_R.steps 2 (c' := (18, [(0, .long ((xs 1)).toInt64), (2, .long 0), (4, .long 3)], [.int 1], x_h0, 0, 0)) rfl ?_
          refine x_R.ret (v := some (.int 1)) rfl ?_
          refine x_R.steps 0 (c' := (9, [(0, .int (xs 1))], [.int 1], x_h0, 0, 0)) rfl ?_
          refine x_R.ret (v := some (.int 1)) rfl ?_
          refine x_R.steps 0 (c' := (4, [(0, .ref 75), (1, .int (xs 1))], [.int 1], x_h0, 0, 0)) rfl ?_
          refine x_R.steps 1 (c' := (7, [(0, .ref 75), (1, .int (xs 1))], [], x_h0, 0, 0)) rfl ?_
          refine x_R.steps 1 (c' := (8, [(0, .ref 75), (1, .int (xs 1))], [.ref 75], x_h0, 0, 0)) rfl ?_
          refine x_R.call (a := 199) (vs := [.ref 75]) (rest := []) (M' := M_cX12_isBoard) rfl rfl rfl ?_
          refine x_R.steps 3 (c' := (5, [(0, .ref 75)], [.int 0, .ref 76], x_h0, 0, 0)) rfl ?_
          refine x_R.steps 1 (c' := (6, [(0, .ref 75)], [.int 0], x_h0, 0, 0)) rfl ?_
          refine x_R.steps 1 (c' := (13, [(0, .ref 75)], [], x_h0, 0, 0)) rfl ?_
          refine x_R.steps 1 (c' := (14, [(0, .ref 75)], [.int 0], x_h0, 0, 0)) rfl ?_
          refine x_R.ret (v := some (.int 0)) rfl ?_
          refine x_R.steps 0 (c' := (11, [(0, .ref 75), (1, .int (xs 1))], [.int 0], x_h0, 0, 0)) rfl ?_
          refine x_R.steps 1 (c' := (14, [(0, .ref 75), (1, .int (xs 1))], [], x_h0, 0, 0)) rfl ?_
          refine x_R.steps 1 (c' := (16, [(0, .ref 75), (1, .int (xs 1))], [.int (-2)], x_h0, 0, 0)) rfl ?_
          refine x_R.ret (v := some (.int (-2))) rfl ?_
          refine x_R.steps 0 (c' := (5, [(0, .ref 75), (1, .int (xs 1))], [.int (-2)], x_h0, 0, 0)) rfl ?_
          refine x_R.steps 2 (c' := (7, [(2, .int (-2)), (0, .ref 75), (1, .int (xs 1))], [.int (-2)], x_h0, 0, 0)) rfl ?_
          refine x_R.steps 1 (c' := (10, [(2, .int (-2)), (0, .ref 75), (1, .int (xs 1))], [], x_h0, 0, 0)) rfl ?_
          refine x_R.steps 1 (c' := (11, [(2, .int (-2)), (0, .ref 75), (1, .int (xs 1))], [.int (-2)], x_h0, 0, 0)) rfl ?_
          refine x_R.ret (v := some (.int (-2))) rfl ?_
          refine x_R.steps 0 (c' := (1333, [(3, .int 0), (2, .ref 75), (1, .ref 0), (0, .ref x_scr)], [.int (-2), .int (-2)], x_h0, 98, 10728)) rfl ?_
          refine x_R.steps 1 (c' := (2370, [(3, .int 0), (2, .ref 75), (1, .ref 0), (0, .ref x_scr)], [], x_h0, 98, 10728)) rfl ?_
          refine x_R.steps 7 (c' := (24, [(3, .int 6), (2, .ref 75), (1, .ref 0), (0, .ref x_scr)], [.int 0, .int 6], x_h0, 98, 10728)) rfl ?_
          refine x_R.steps 1 (c' := (2376, [(3, .int 6), (2, .ref 75), (1, .ref 0), (0, .ref x_scr)], [], x_h0, 98, 10728)) rfl ?_
          refine x_R.steps 1 (c' := (2377, [(3, .int 6), (2, .ref 75), (1, .ref 0), (0, .ref x_scr)], [.int 1], x_h0, 98, 10728)) rfl ?_
          exact x_R.ret (v := some (.int 1)) rfl x_fin
set_option maxRecDepth 100000 in
set_option maxHeartbeats 4000000 in
theorem x_c36_0 (xs : Nat → Int32)  : x_R x_mt (some (6, xs)) 13 M_law (1338, [(3, .int 0), (2, .ref 75), (1, .ref 0), (0, .ref x_scr)], [], x_h0, 98, 10728) x_P := by
  refine x_R.steps 5 (c' := (1343, [(3, .int 0), (2, .ref 75), (1, .ref 0), (0, .ref x_scr)], [.int 1, .ref x_scr, .ref 0], x_h0, 98, 10728)) rfl ?_
  refine x_R.steps 1 (c' := (1344, [(3, .int 0), (2, .ref 75), (1, .ref 0), (0, .ref x_scr)], [.int (xs 1), .ref 0], x_h0, 98, 10728)) rfl ?_
  refine x_R.call (a := 150) (vs := [.ref 0, .int (xs 1)]) (rest := []) (M' := M_cX11_luck) rfl rfl rfl ?_
  refine x_R.steps 2 (c' := (2, [(0, .ref 0), (1, .int (xs 1))], [.int (xs 1), .ref 0], x_h0, 0, 0)) rfl ?_
  refine x_R.call (a := 193) (vs := [.ref 0, .int (xs 1)]) (rest := []) (M' := M_cX11_whyUnheard) rfl rfl rfl ?_
  refine x_R.steps 1 (c' := (1, [(0, .ref 0), (1, .int (xs 1))], [.int (xs 1)], x_h0, 0, 0)) rfl ?_
  refine x_R.call (a := 182) (vs := [.int (xs 1)]) (rest := []) (M' := M_cX11_isSlot) rfl rfl rfl ?_
  refine x_R.steps 1 (c' := (1, [(0, .int (xs 1))], [.int (xs 1)], x_h0, 0, 0)) rfl ?_
  refine x_R.ite (p := (xs 1) < (0 : Int32)) (c1 := (13, [(0, .int (xs 1))], [], x_h0, 0, 0)) (c2 := (4, [(0, .int (xs 1))], [], x_h0, 0, 0)) rfl (fun h1 => ?_) (fun h1 => ?_)
  · have g1 := (x_i_lt (C := 0) (by decide)).mp h1
    refine x_R.steps 1 (c' := (14, [(0, .int (xs 1))], [.int 0], x_h0, 0, 0)) rfl ?_
    refine x_R.ret (v := some (.int 0)) rfl ?_
    refine x_R.steps 0 (c' := (4, [(0, .ref 0), (1, .int (xs 1))], [.int 0], x_h0, 0, 0)) rfl ?_
    refine x_R.steps 1 (c' := (17, [(0, .ref 0), (1, .int (xs 1))], [], x_h0, 0, 0)) rfl ?_
    refine x_R.steps 1 (c' := (19, [(0, .ref 0), (1, .int (xs 1))], [.int (-2)], x_h0, 0, 0)) rfl ?_
    refine x_R.ret (v := some (.int (-2))) rfl ?_
    refine x_R.steps 0 (c' := (5, [(0, .ref 0), (1, .int (xs 1))], [.int (-2)], x_h0, 0, 0)) rfl ?_
    refine x_R.steps 2 (c' := (7, [(2, .int (-2)), (0, .ref 0), (1, .int (xs 1))], [.int (-2)], x_h0, 0, 0)) rfl ?_
    refine x_R.steps 1 (c' := (10, [(2, .int (-2)), (0, .ref 0), (1, .int (xs 1))], [], x_h0, 0, 0)) rfl ?_
    refine x_R.steps 1 (c' := (11, [(2, .int (-2)), (0, .ref 0), (1, .int (xs 1))], [.int (-2)], x_h0, 0, 0)) rfl ?_
    refine x_R.ret (v := some (.int (-2))) rfl ?_
    refine x_R.steps 0 (c' := (1347, [(3, .int 0), (2, .ref 75), (1, .ref 0), (0, .ref x_scr)], [.int (-2)], x_h0, 98, 10728)) rfl ?_
    refine x_R.steps 5 (c' := (1352, [(3, .int 0), (2, .ref 75), (1, .ref 0), (0, .ref x_scr)], [.int 1, .ref x_scr, .ref 75, .int (-2)], x_h0, 98, 10728)) rfl ?_
    refine x_R.steps 1 (c' := (1353, [(3, .int 0), (2, .ref 75), (1, .ref 0), (0, .ref x_scr)], [.int (xs 1), .ref 75, .int (-2)], x_h0, 98, 10728)) rfl ?_
    refine x_R.call (a := 304) (vs := [.ref 75, .int (xs 1)]) (rest := [.int (-2)]) (M' := M_cX12_luck) rfl rfl rfl ?_
    refine x_R.steps 2 (c' := (2, [(0, .ref 75), (1, .int (xs 1))], [.int (xs 1), .ref 75], x_h0, 0, 0)) rfl ?_
    refine x_R.call (a := 299) (vs := [.ref 75, .int (xs 1)]) (rest := []) (M' := M_cX12_asksHeard) rfl rfl rfl ?_
    refine x_R.steps 1 (c' := (1, [(0, .ref 75), (1, .int (xs 1))], [.int (xs 1)], x_h0, 0, 0)) rfl ?_
    refine x_R.call (a := 351) (vs := [.int (xs 1)]) (rest := []) (M' := M_cX12_isSlot) rfl rfl rfl ?_
    refine x_R.steps 4 (c' := (6, [(0, .int (xs 1))], [.long 3, .long 0, .long ((xs 1)).toInt64], x_h0, 0, 0)) rfl ?_
    refine x_R.call (a := 196) (vs := [.long ((xs 1)).toInt64, .long 0, .long 3]) (rest := []) (M' := M_cX12_in) rfl rfl rfl ?_
    refine x_R.steps 3 (c' := (3, [(0, .long ((xs 1)).toInt64), (2, .long 0), (4, .long 3)], [.int (lg_cmp ((xs 1)).toInt64 0)], x_h0, 0, 0)) rfl ?_
    refine x_R.ite (p := (lg_cmp ((xs 1)).toInt64 0) < (0 : Int32)) (c1 := (17, [(0, .long ((xs 1)).toInt64), (2, .long 0), (4, .long 3)], [], x_h0, 0, 0)) (c2 := (6, [(0, .long ((xs 1)).toInt64), (2, .long 0), (4, .long 3)], [], x_h0, 0, 0)) rfl (fun h2 => ?_) (fun h2 => ?_)
    · have g2 := (x_lg_lt (C := 0) (by decide)).mp h2
      refine x_R.steps 1 (c' := (18, [(0, .long ((xs 1)).toInt64), (2, .long 0), (4, .long 3)], [.int 0], x_h0, 0, 0)) rfl ?_
      refine x_R.ret (v := some (.int 0)) rfl ?_
      refine x_R.steps 0 (c' := (9, [(0, .int (xs 1))], [.int 0], x_h0, 0, 0)) rfl ?_
      refine x_R.ret (v := some (.int 0)) rfl ?_
      refine x_R.steps 0 (c' := (4, [(0, .ref 75), (1, .int (xs 1))], [.int 0], x_h0, 0, 0)) rfl ?_
      refine x_R.steps 1 (c' := (14, [(0, .ref 75), (1, .int (xs 1))], [], x_h0, 0, 0)) rfl ?_
      refine x_R.steps 1 (c' := (16, [(0, .ref 75), (1, .int (xs 1))], [.int (-2)], x_h0, 0, 0)) rfl ?_
      refine x_R.ret (v := some (.int (-2))) rfl ?_
      refine x_R.steps 0 (c' := (5, [(0, .ref 75), (1, .int (xs 1))], [.int (-2)], x_h0, 0, 0)) rfl ?_
      refine x_R.steps 2 (c' := (7, [(2, .int (-2)), (0, .ref 75), (1, .int (xs 1))], [.int (-2)], x_h0, 0, 0)) rfl ?_
      refine x_R.steps 1 (c' := (10, [(2, .int (-2)), (0, .ref 75), (1, .int (xs 1))], [], x_h0, 0, 0)) rfl ?_
      refine x_R.steps 1 (c' := (11, [(2, .int (-2)), (0, .ref 75), (1, .int (xs 1))], [.int (-2)], x_h0, 0, 0)) rfl ?_
      refine x_R.ret (v := some (.int (-2))) rfl ?_
      refine x_R.steps 0 (c' := (1356, [(3, .int 0), (2, .ref 75), (1, .ref 0), (0, .ref x_scr)], [.int (-2), .int (-2)], x_h0, 98, 10728)) rfl ?_
      refine x_R.steps 1 (c' := (2370, [(3, .int 0), (2, .ref 75), (1, .ref 0), (0, .ref x_scr)], [], x_h0, 98, 10728)) rfl ?_
      refine x_R.steps 7 (c' := (24, [(3, .int 6), (2, .ref 75), (1, .ref 0), (0, .ref x_scr)], [.int 0, .int 6], x_h0, 98, 10728)) rfl ?_
      refine x_R.steps 1 (c' := (2376, [(3, .int 6), (2, .ref 75), (1, .ref 0), (0, .ref x_scr)], [], x_h0, 98, 10728)) rfl ?_
      refine x_R.steps 1 (c' := (2377, [(3, .int 6), (2, .ref 75), (1, .ref 0), (0, .ref x_scr)], [.int 1], x_h0, 98, 10728)) rfl ?_
      exact x_R.ret (v := some (.int 1)) rfl x_fin
    · have g2 := mt (x_lg_lt (C := 0) (by decide)).mpr h2
      exfalso; omega
  · have g1 := mt (x_i_lt (C := 0) (by decide)).mpr h1
    refine x_R.steps 2 (c' := (6, [(0, .int (xs 1))], [.int 4, .int (xs 1)], x_h0, 0, 0)) rfl ?_
    refine x_R.ite (p := (4 : Int32) ≤ (xs 1)) (c1 := (13, [(0, .int (xs 1))], [], x_h0, 0, 0)) (c2 := (9, [(0, .int (xs 1))], [], x_h0, 0, 0)) rfl (fun h3 => ?_) (fun h3 => ?_)
    · have g3 := (x_i_ge (C := 4) (by decide)).mp h3
      refine x_R.steps 1 (c' := (14, [(0, .int (xs 1))], [.int 0], x_h0, 0, 0)) rfl ?_
      refine x_R.ret (v := some (.int 0)) rfl ?_
      refine x_R.steps 0 (c' := (4, [(0, .ref 0), (1, .int (xs 1))], [.int 0], x_h0, 0, 0)) rfl ?_
      refine x_R.steps 1 (c' := (17, [(0, .ref 0), (1, .int (xs 1))], [], x_h0, 0, 0)) rfl ?_
      refine x_R.steps 1 (c' := (19, [(0, .ref 0), (1, .int (xs 1))], [.int (-2)], x_h0, 0, 0)) rfl ?_
      refine x_R.ret (v := some (.int (-2))) rfl ?_
      refine x_R.steps 0 (c' := (5, [(0, .ref 0), (1, .int (xs 1))], [.int (-2)], x_h0, 0, 0)) rfl ?_
      refine x_R.steps 2 (c' := (7, [(2, .int (-2)), (0, .ref 0), (1, .int (xs 1))], [.int (-2)], x_h0, 0, 0)) rfl ?_
      refine x_R.steps 1 (c' := (10, [(2, .int (-2)), (0, .ref 0), (1, .int (xs 1))], [], x_h0, 0, 0)) rfl ?_
      refine x_R.steps 1 (c' := (11, [(2, .int (-2)), (0, .ref 0), (1, .int (xs 1))], [.int (-2)], x_h0, 0, 0)) rfl ?_
      refine x_R.ret (v := some (.int (-2))) rfl ?_
      refine x_R.steps 0 (c' := (1347, [(3, .int 0), (2, .ref 75), (1, .ref 0), (0, .ref x_scr)], [.int (-2)], x_h0, 98, 10728)) rfl ?_
      refine x_R.steps 5 (c' := (1352, [(3, .int 0), (2, .ref 75), (1, .ref 0), (0, .ref x_scr)], [.int 1, .ref x_scr, .ref 75, .int (-2)], x_h0, 98, 10728)) rfl ?_
      refine x_R.steps 1 (c' := (1353, [(3, .int 0), (2, .ref 75), (1, .ref 0), (0, .ref x_scr)], [.int (xs 1), .ref 75, .int (-2)], x_h0, 98, 10728)) rfl ?_
      refine x_R.call (a := 304) (vs := [.ref 75, .int (xs 1)]) (rest := [.int (-2)]) (M' := M_cX12_luck) rfl rfl rfl ?_
      refine x_R.steps 2 (c' := (2, [(0, .ref 75), (1, .int (xs 1))], [.int (xs 1), .ref 75], x_h0, 0, 0)) rfl ?_
      refine x_R.call (a := 299) (vs := [.ref 75, .int (xs 1)]) (rest := []) (M' := M_cX12_asksHeard) rfl rfl rfl ?_
      refine x_R.steps 1 (c' := (1, [(0, .ref 75), (1, .int (xs 1))], [.int (xs 1)], x_h0, 0, 0)) rfl ?_
      refine x_R.call (a := 351) (vs := [.int (xs 1)]) (rest := []) (M' := M_cX12_isSlot) rfl rfl rfl ?_
      refine x_R.steps 4 (c' := (6, [(0, .int (xs 1))], [.long 3, .long 0, .long ((xs 1)).toInt64], x_h0, 0, 0)) rfl ?_
      refine x_R.call (a := 196) (vs := [.long ((xs 1)).toInt64, .long 0, .long 3]) (rest := []) (M' := M_cX12_in) rfl rfl rfl ?_
      refine x_R.steps 3 (c' := (3, [(0, .long ((xs 1)).toInt64), (2, .long 0), (4, .long 3)], [.int (lg_cmp ((xs 1)).toInt64 0)], x_h0, 0, 0)) rfl ?_
      refine x_R.ite (p := (lg_cmp ((xs 1)).toInt64 0) < (0 : Int32)) (c1 := (17, [(0, .long ((xs 1)).toInt64), (2, .long 0), (4, .long 3)], [], x_h0, 0, 0)) (c2 := (6, [(0, .long ((xs 1)).toInt64), (2, .long 0), (4, .long 3)], [], x_h0, 0, 0)) rfl (fun h4 => ?_) (fun h4 => ?_)
      · have g4 := (x_lg_lt (C := 0) (by decide)).mp h4
        exfalso; omega
      · have g4 := mt (x_lg_lt (C := 0) (by decide)).mpr h4
        refine x_R.steps 3 (c' := (10, [(0, .long ((xs 1)).toInt64), (2, .long 0), (4, .long 3)], [.int (lg_cmp ((xs 1)).toInt64 3)], x_h0, 0, 0)) rfl ?_
        refine x_R.ite (p := (0 : Int32) < (lg_cmp ((xs 1)).toInt64 3)) (c1 := (17, [(0, .long ((xs 1)).toInt64), (2, .long 0), (4, .long 3)], [], x_h0, 0, 0)) (c2 := (13, [(0, .long ((xs 1)).toInt64), (2, .long 0), (4, .long 3)], [], x_h0, 0, 0)) rfl (fun h5 => ?_) (fun h5 => ?_)
        · have g5 := (x_lg_gt (C := 3) (by decide)).mp h5
          refine x_R.steps 1 (c' := (18, [(0, .long ((xs 1)).toInt64), (2, .long 0), (4, .long 3)], [.int 0], x_h0, 0, 0)) rfl ?_
          refine x_R.ret (v := some (.int 0)) rfl ?_
          refine x_R.steps 0 (c' := (9, [(0, .int (xs 1))], [.int 0], x_h0, 0, 0)) rfl ?_
          refine x_R.ret (v := some (.int 0)) rfl ?_
          refine x_R.steps 0 (c' := (4, [(0, .ref 75), (1, .int (xs 1))], [.int 0], x_h0, 0, 0)) rfl ?_
          refine x_R.steps 1 (c' := (14, [(0, .ref 75), (1, .int (xs 1))], [], x_h0, 0, 0)) rfl ?_
          refine x_R.steps 1 (c' := (16, [(0, .ref 75), (1, .int (xs 1))], [.int (-2)], x_h0, 0, 0)) rfl ?_
          refine x_R.ret (v := some (.int (-2))) rfl ?_
          refine x_R.steps 0 (c' := (5, [(0, .ref 75), (1, .int (xs 1))], [.int (-2)], x_h0, 0, 0)) rfl ?_
          refine x_R.steps 2 (c' := (7, [(2, .int (-2)), (0, .ref 75), (1, .int (xs 1))], [.int (-2)], x_h0, 0, 0)) rfl ?_
          refine x_R.steps 1 (c' := (10, [(2, .int (-2)), (0, .ref 75), (1, .int (xs 1))], [], x_h0, 0, 0)) rfl ?_
          refine x_R.steps 1 (c' := (11, [(2, .int (-2)), (0, .ref 75), (1, .int (xs 1))], [.int (-2)], x_h0, 0, 0)) rfl ?_
          refine x_R.ret (v := some (.int (-2))) rfl ?_
          refine x_R.steps 0 (c' := (1356, [(3, .int 0), (2, .ref 75), (1, .ref 0), (0, .ref x_scr)], [.int (-2), .int (-2)], x_h0, 98, 10728)) rfl ?_
          refine x_R.steps 1 (c' := (2370, [(3, .int 0), (2, .ref 75), (1, .ref 0), (0, .ref x_scr)], [], x_h0, 98, 10728)) rfl ?_
          refine x_R.steps 7 (c' := (24, [(3, .int 6), (2, .ref 75), (1, .ref 0), (0, .ref x_scr)], [.int 0, .int 6], x_h0, 98, 10728)) rfl ?_
          refine x_R.steps 1 (c' := (2376, [(3, .int 6), (2, .ref 75), (1, .ref 0), (0, .ref x_scr)], [], x_h0, 98, 10728)) rfl ?_
          refine x_R.steps 1 (c' := (2377, [(3, .int 6), (2, .ref 75), (1, .ref 0), (0, .ref x_scr)], [.int 1], x_h0, 98, 10728)) rfl ?_
          exact x_R.ret (v := some (.int 1)) rfl x_fin
        · have g5 := mt (x_lg_gt (C := 3) (by decide)).mpr h5
          exfalso; omega
    · have g3 := mt (x_i_ge (C := 4) (by decide)).mpr h3
      refine x_R.steps 2 (c' := (14, [(0, .int (xs 1))], [.int 1], x_h0, 0, 0)) rfl ?_
      refine x_R.ret (v := some (.int 1)) rfl ?_
      refine x_R.steps 0 (c' := (4, [(0, .ref 0), (1, .int (xs 1))], [.int 1], x_h0, 0, 0)) rfl ?_
      refine x_R.steps 1 (c' := (7, [(0, .ref 0), (1, .int (xs 1))], [], x_h0, 0, 0)) rfl ?_
      refine x_R.steps 2 (c' := (11, [(0, .ref 0), (1, .int (xs 1))], [.ref 1], x_h0, 0, 0)) rfl ?_
      refine x_R.call (a := 11) (vs := [.ref 1]) (rest := []) (M' := M_cX2_isTold) rfl rfl rfl ?_
      refine x_R.steps 2 (c' := (4, [(0, .ref 1)], [.int 0], x_h0, 0, 0)) rfl ?_
      refine x_R.steps 1 (c' := (11, [(0, .ref 1)], [], x_h0, 0, 0)) rfl ?_
      refine x_R.steps 1 (c' := (12, [(0, .ref 1)], [.int 0], x_h0, 0, 0)) rfl ?_
      refine x_R.ret (v := some (.int 0)) rfl ?_
      refine x_R.steps 0 (c' := (14, [(0, .ref 0), (1, .int (xs 1))], [.int 0], x_h0, 0, 0)) rfl ?_
      refine x_R.steps 1 (c' := (17, [(0, .ref 0), (1, .int (xs 1))], [], x_h0, 0, 0)) rfl ?_
      refine x_R.steps 1 (c' := (19, [(0, .ref 0), (1, .int (xs 1))], [.int (-2)], x_h0, 0, 0)) rfl ?_
      refine x_R.ret (v := some (.int (-2))) rfl ?_
      refine x_R.steps 0 (c' := (5, [(0, .ref 0), (1, .int (xs 1))], [.int (-2)], x_h0, 0, 0)) rfl ?_
      refine x_R.steps 2 (c' := (7, [(2, .int (-2)), (0, .ref 0), (1, .int (xs 1))], [.int (-2)], x_h0, 0, 0)) rfl ?_
      refine x_R.steps 1 (c' := (10, [(2, .int (-2)), (0, .ref 0), (1, .int (xs 1))], [], x_h0, 0, 0)) rfl ?_
      refine x_R.steps 1 (c' := (11, [(2, .int (-2)), (0, .ref 0), (1, .int (xs 1))], [.int (-2)], x_h0, 0, 0)) rfl ?_
      refine x_R.ret (v := some (.int (-2))) rfl ?_
      refine x_R.steps 0 (c' := (1347, [(3, .int 0), (2, .ref 75), (1, .ref 0), (0, .ref x_scr)], [.int (-2)], x_h0, 98, 10728)) rfl ?_
      refine x_R.steps 5 (c' := (1352, [(3, .int 0), (2, .ref 75), (1, .ref 0), (0, .ref x_scr)], [.int 1, .ref x_scr, .ref 75, .int (-2)], x_h0, 98, 10728)) rfl ?_
      refine x_R.steps 1 (c' := (1353, [(3, .int 0), (2, .ref 75), (1, .ref 0), (0, .ref x_scr)], [.int (xs 1), .ref 75, .int (-2)], x_h0, 98, 10728)) rfl ?_
      refine x_R.call (a := 304) (vs := [.ref 75, .int (xs 1)]) (rest := [.int (-2)]) (M' := M_cX12_luck) rfl rfl rfl ?_
      refine x_R.steps 2 (c' := (2, [(0, .ref 75), (1, .int (xs 1))], [.int (xs 1), .ref 75], x_h0, 0, 0)) rfl ?_
      refine x_R.call (a := 299) (vs := [.ref 75, .int (xs 1)]) (rest := []) (M' := M_cX12_asksHeard) rfl rfl rfl ?_
      refine x_R.steps 1 (c' := (1, [(0, .ref 75), (1, .int (xs 1))], [.int (xs 1)], x_h0, 0, 0)) rfl ?_
      refine x_R.call (a := 351) (vs := [.int (xs 1)]) (rest := []) (M' := M_cX12_isSlot) rfl rfl rfl ?_
      refine x_R.steps 4 (c' := (6, [(0, .int (xs 1))], [.long 3, .long 0, .long ((xs 1)).toInt64], x_h0, 0, 0)) rfl ?_
      refine x_R.call (a := 196) (vs := [.long ((xs 1)).toInt64, .long 0, .long 3]) (rest := []) (M' := M_cX12_in) rfl rfl rfl ?_
      refine x_R.steps 3 (c' := (3, [(0, .long ((xs 1)).toInt64), (2, .long 0), (4, .long 3)], [.int (lg_cmp ((xs 1)).toInt64 0)], x_h0, 0, 0)) rfl ?_
      refine x_R.ite (p := (lg_cmp ((xs 1)).toInt64 0) < (0 : Int32)) (c1 := (17, [(0, .long ((xs 1)).toInt64), (2, .long 0), (4, .long 3)], [], x_h0, 0, 0)) (c2 := (6, [(0, .long ((xs 1)).toInt64), (2, .long 0), (4, .long 3)], [], x_h0, 0, 0)) rfl (fun h6 => ?_) (fun h6 => ?_)
      · have g6 := (x_lg_lt (C := 0) (by decide)).mp h6
        exfalso; omega
      · have g6 := mt (x_lg_lt (C := 0) (by decide)).mpr h6
        refine x_R.steps 3 (c' := (10, [(0, .long ((xs 1)).toInt64), (2, .long 0), (4, .long 3)], [.int (lg_cmp ((xs 1)).toInt64 3)], x_h0, 0, 0)) rfl ?_
        refine x_R.ite (p := (0 : Int32) < (lg_cmp ((xs 1)).toInt64 3)) (c1 := (17, [(0, .long ((xs 1)).toInt64), (2, .long 0), (4, .long 3)], [], x_h0, 0, 0)) (c2 := (13, [(0, .long ((xs 1)).toInt64), (2, .long 0), (4, .long 3)], [], x_h0, 0, 0)) rfl (fun h7 => ?_) (fun h7 => ?_)
        · have g7 := (x_lg_gt (C := 3) (by decide)).mp h7
          exfalso; omega
        · have g7 := mt (x_lg_gt (C := 3) (by decide)).mpr h7
          refine x_R.steps 2 (c' := (18, [(0, .long ((xs 1)).toInt64), (2, .long 0), (4, .long 3)], [.int 1], x_h0, 0, 0)) rfl ?_
          refine x_R.ret (v := some (.int 1)) rfl ?_
          refine x_R.steps 0 (c' := (9, [(0, .int (xs 1))], [.int 1], x_h0, 0, 0)) rfl ?_
          refine x_R.ret (v := some (.int 1)) rfl ?_
          refine x_R.steps 0 (c' := (4, [(0, .ref 75), (1, .int (xs 1))], [.int 1], x_h0, 0, 0)) rfl ?_
          refine x_R.steps 1 (c' := (7, [(0, .ref 75), (1, .int (xs 1))], [], x_h0, 0, 0)) rfl ?_
          refine x_R.steps 1 (c' := (8, [(0, .ref 75), (1, .int (xs 1))], [.ref 75], x_h0, 0, 0)) rfl ?_
          refine x_R.call (a := 199) (vs := [.ref 75]) (rest := []) (M' := M_cX12_isBoard) rfl rfl rfl ?_
          refine x_R.steps 3 (c' := (5, [(0, .ref 75)], [.int 0, .ref 76], x_h0, 0, 0)) rfl ?_
          refine x_R.steps 1 (c' := (6, [(0, .ref 75)], [.int 0], x_h0, 0, 0)) rfl ?_
          refine x_R.steps 1 (c' := (13, [(0, .ref 75)], [], x_h0, 0, 0)) rfl ?_
          refine x_R.steps 1 (c' := (14, [(0, .ref 75)], [.int 0], x_h0, 0, 0)) rfl ?_
          refine x_R.ret (v := some (.int 0)) rfl ?_
          refine x_R.steps 0 (c' := (11, [(0, .ref 75), (1, .int (xs 1))], [.int 0], x_h0, 0, 0)) rfl ?_
          refine x_R.steps 1 (c' := (14, [(0, .ref 75), (1, .int (xs 1))], [], x_h0, 0, 0)) rfl ?_
          refine x_R.steps 1 (c' := (16, [(0, .ref 75), (1, .int (xs 1))], [.int (-2)], x_h0, 0, 0)) rfl ?_
          refine x_R.ret (v := some (.int (-2))) rfl ?_
          refine x_R.steps 0 (c' := (5, [(0, .ref 75), (1, .int (xs 1))], [.int (-2)], x_h0, 0, 0)) rfl ?_
          refine x_R.steps 2 (c' := (7, [(2, .int (-2)), (0, .ref 75), (1, .int (xs 1))], [.int (-2)], x_h0, 0, 0)) rfl ?_
          refine x_R.steps 1 (c' := (10, [(2, .int (-2)), (0, .ref 75), (1, .int (xs 1))], [], x_h0, 0, 0)) rfl ?_
          refine x_R.steps 1 (c' := (11, [(2, .int (-2)), (0, .ref 75), (1, .int (xs 1))], [.int (-2)], x_h0, 0, 0)) rfl ?_
          refine x_R.ret (v := some (.int (-2))) rfl ?_
          refine x_R.steps 0 (c' := (1356, [(3, .int 0), (2, .ref 75), (1, .ref 0), (0, .ref x_scr)], [.int (-2), .int (-2)], x_h0, 98, 10728)) rfl ?_
          refine x_R.steps 1 (c' := (2370, [(3, .int 0), (2, .ref 75), (1, .ref 0), (0, .ref x_scr)], [], x_h0, 98, 10728)) rfl ?_
          refine x_R.steps 7 (c' := (24, [(3, .int 6), (2, .ref 75), (1, .ref 0), (0, .ref x_scr)], [.int 0, .int 6], x_h0, 98, 10728)) rfl ?_
          refine x_R.steps 1 (c' := (2376, [(3, .int 6), (2, .ref 75), (1, .ref 0), (0, .ref x_scr)], [], x_h0, 98, 10728)) rfl ?_
          refine x_R.steps 1 (c' := (2377, [(3, .int 6), (2, .ref 75), (1, .ref 0), (0, .ref x_scr)], [.int 1], x_h0, 98, 10728)) rfl ?_
          exact x_R.ret (v := some (.int 1)) rfl x_fin
set_option maxRecDepth 100000 in
set_option maxHeartbeats 4000000 in
theorem x_c37_0 (xs : Nat → Int32)  : x_R x_mt (some (6, xs)) 13 M_law (1361, [(3, .int 0), (2, .ref 75), (1, .ref 0), (0, .ref x_scr)], [], x_h0, 98, 10728) x_P := by
  refine x_R.steps 5 (c' := (1366, [(3, .int 0), (2, .ref 75), (1, .ref 0), (0, .ref x_scr)], [.int 1, .ref x_scr, .ref 0], x_h0, 98, 10728)) rfl ?_
  refine x_R.steps 1 (c' := (1367, [(3, .int 0), (2, .ref 75), (1, .ref 0), (0, .ref x_scr)], [.int (xs 1), .ref 0], x_h0, 98, 10728)) rfl ?_
  refine x_R.call (a := 151) (vs := [.ref 0, .int (xs 1)]) (rest := []) (M' := M_cX11_fits) rfl rfl rfl ?_
  refine x_R.steps 2 (c' := (2, [(0, .ref 0), (1, .int (xs 1))], [.int (xs 1), .ref 0], x_h0, 0, 0)) rfl ?_
  refine x_R.call (a := 193) (vs := [.ref 0, .int (xs 1)]) (rest := []) (M' := M_cX11_whyUnheard) rfl rfl rfl ?_
  refine x_R.steps 1 (c' := (1, [(0, .ref 0), (1, .int (xs 1))], [.int (xs 1)], x_h0, 0, 0)) rfl ?_
  refine x_R.call (a := 182) (vs := [.int (xs 1)]) (rest := []) (M' := M_cX11_isSlot) rfl rfl rfl ?_
  refine x_R.steps 1 (c' := (1, [(0, .int (xs 1))], [.int (xs 1)], x_h0, 0, 0)) rfl ?_
  refine x_R.ite (p := (xs 1) < (0 : Int32)) (c1 := (13, [(0, .int (xs 1))], [], x_h0, 0, 0)) (c2 := (4, [(0, .int (xs 1))], [], x_h0, 0, 0)) rfl (fun h1 => ?_) (fun h1 => ?_)
  · have g1 := (x_i_lt (C := 0) (by decide)).mp h1
    refine x_R.steps 1 (c' := (14, [(0, .int (xs 1))], [.int 0], x_h0, 0, 0)) rfl ?_
    refine x_R.ret (v := some (.int 0)) rfl ?_
    refine x_R.steps 0 (c' := (4, [(0, .ref 0), (1, .int (xs 1))], [.int 0], x_h0, 0, 0)) rfl ?_
    refine x_R.steps 1 (c' := (17, [(0, .ref 0), (1, .int (xs 1))], [], x_h0, 0, 0)) rfl ?_
    refine x_R.steps 1 (c' := (19, [(0, .ref 0), (1, .int (xs 1))], [.int (-2)], x_h0, 0, 0)) rfl ?_
    refine x_R.ret (v := some (.int (-2))) rfl ?_
    refine x_R.steps 0 (c' := (5, [(0, .ref 0), (1, .int (xs 1))], [.int (-2)], x_h0, 0, 0)) rfl ?_
    refine x_R.steps 2 (c' := (7, [(2, .int (-2)), (0, .ref 0), (1, .int (xs 1))], [.int (-2)], x_h0, 0, 0)) rfl ?_
    refine x_R.steps 1 (c' := (10, [(2, .int (-2)), (0, .ref 0), (1, .int (xs 1))], [], x_h0, 0, 0)) rfl ?_
    refine x_R.steps 1 (c' := (11, [(2, .int (-2)), (0, .ref 0), (1, .int (xs 1))], [.int (-2)], x_h0, 0, 0)) rfl ?_
    refine x_R.ret (v := some (.int (-2))) rfl ?_
    refine x_R.steps 0 (c' := (1370, [(3, .int 0), (2, .ref 75), (1, .ref 0), (0, .ref x_scr)], [.int (-2)], x_h0, 98, 10728)) rfl ?_
    refine x_R.steps 5 (c' := (1375, [(3, .int 0), (2, .ref 75), (1, .ref 0), (0, .ref x_scr)], [.int 1, .ref x_scr, .ref 75, .int (-2)], x_h0, 98, 10728)) rfl ?_
    refine x_R.steps 1 (c' := (1376, [(3, .int 0), (2, .ref 75), (1, .ref 0), (0, .ref x_scr)], [.int (xs 1), .ref 75, .int (-2)], x_h0, 98, 10728)) rfl ?_
    refine x_R.call (a := 306) (vs := [.ref 75, .int (xs 1)]) (rest := [.int (-2)]) (M' := M_cX12_fits) rfl rfl rfl ?_
    refine x_R.steps 2 (c' := (2, [(0, .ref 75), (1, .int (xs 1))], [.int (xs 1), .ref 75], x_h0, 0, 0)) rfl ?_
    refine x_R.call (a := 299) (vs := [.ref 75, .int (xs 1)]) (rest := []) (M' := M_cX12_asksHeard) rfl rfl rfl ?_
    refine x_R.steps 1 (c' := (1, [(0, .ref 75), (1, .int (xs 1))], [.int (xs 1)], x_h0, 0, 0)) rfl ?_
    refine x_R.call (a := 351) (vs := [.int (xs 1)]) (rest := []) (M' := M_cX12_isSlot) rfl rfl rfl ?_
    refine x_R.steps 4 (c' := (6, [(0, .int (xs 1))], [.long 3, .long 0, .long ((xs 1)).toInt64], x_h0, 0, 0)) rfl ?_
    refine x_R.call (a := 196) (vs := [.long ((xs 1)).toInt64, .long 0, .long 3]) (rest := []) (M' := M_cX12_in) rfl rfl rfl ?_
    refine x_R.steps 3 (c' := (3, [(0, .long ((xs 1)).toInt64), (2, .long 0), (4, .long 3)], [.int (lg_cmp ((xs 1)).toInt64 0)], x_h0, 0, 0)) rfl ?_
    refine x_R.ite (p := (lg_cmp ((xs 1)).toInt64 0) < (0 : Int32)) (c1 := (17, [(0, .long ((xs 1)).toInt64), (2, .long 0), (4, .long 3)], [], x_h0, 0, 0)) (c2 := (6, [(0, .long ((xs 1)).toInt64), (2, .long 0), (4, .long 3)], [], x_h0, 0, 0)) rfl (fun h2 => ?_) (fun h2 => ?_)
    · have g2 := (x_lg_lt (C := 0) (by decide)).mp h2
      refine x_R.steps 1 (c' := (18, [(0, .long ((xs 1)).toInt64), (2, .long 0), (4, .long 3)], [.int 0], x_h0, 0, 0)) rfl ?_
      refine x_R.ret (v := some (.int 0)) rfl ?_
      refine x_R.steps 0 (c' := (9, [(0, .int (xs 1))], [.int 0], x_h0, 0, 0)) rfl ?_
      refine x_R.ret (v := some (.int 0)) rfl ?_
      refine x_R.steps 0 (c' := (4, [(0, .ref 75), (1, .int (xs 1))], [.int 0], x_h0, 0, 0)) rfl ?_
      refine x_R.steps 1 (c' := (14, [(0, .ref 75), (1, .int (xs 1))], [], x_h0, 0, 0)) rfl ?_
      refine x_R.steps 1 (c' := (16, [(0, .ref 75), (1, .int (xs 1))], [.int (-2)], x_h0, 0, 0)) rfl ?_
      refine x_R.ret (v := some (.int (-2))) rfl ?_
      refine x_R.steps 0 (c' := (5, [(0, .ref 75), (1, .int (xs 1))], [.int (-2)], x_h0, 0, 0)) rfl ?_
      refine x_R.steps 2 (c' := (7, [(2, .int (-2)), (0, .ref 75), (1, .int (xs 1))], [.int (-2)], x_h0, 0, 0)) rfl ?_
      refine x_R.steps 1 (c' := (10, [(2, .int (-2)), (0, .ref 75), (1, .int (xs 1))], [], x_h0, 0, 0)) rfl ?_
      refine x_R.steps 1 (c' := (11, [(2, .int (-2)), (0, .ref 75), (1, .int (xs 1))], [.int (-2)], x_h0, 0, 0)) rfl ?_
      refine x_R.ret (v := some (.int (-2))) rfl ?_
      refine x_R.steps 0 (c' := (1379, [(3, .int 0), (2, .ref 75), (1, .ref 0), (0, .ref x_scr)], [.int (-2), .int (-2)], x_h0, 98, 10728)) rfl ?_
      refine x_R.steps 1 (c' := (2370, [(3, .int 0), (2, .ref 75), (1, .ref 0), (0, .ref x_scr)], [], x_h0, 98, 10728)) rfl ?_
      refine x_R.steps 7 (c' := (24, [(3, .int 6), (2, .ref 75), (1, .ref 0), (0, .ref x_scr)], [.int 0, .int 6], x_h0, 98, 10728)) rfl ?_
      refine x_R.steps 1 (c' := (2376, [(3, .int 6), (2, .ref 75), (1, .ref 0), (0, .ref x_scr)], [], x_h0, 98, 10728)) rfl ?_
      refine x_R.steps 1 (c' := (2377, [(3, .int 6), (2, .ref 75), (1, .ref 0), (0, .ref x_scr)], [.int 1], x_h0, 98, 10728)) rfl ?_
      exact x_R.ret (v := some (.int 1)) rfl x_fin
    · have g2 := mt (x_lg_lt (C := 0) (by decide)).mpr h2
      exfalso; omega
  · have g1 := mt (x_i_lt (C := 0) (by decide)).mpr h1
    refine x_R.steps 2 (c' := (6, [(0, .int (xs 1))], [.int 4, .int (xs 1)], x_h0, 0, 0)) rfl ?_
    refine x_R.ite (p := (4 : Int32) ≤ (xs 1)) (c1 := (13, [(0, .int (xs 1))], [], x_h0, 0, 0)) (c2 := (9, [(0, .int (xs 1))], [], x_h0, 0, 0)) rfl (fun h3 => ?_) (fun h3 => ?_)
    · have g3 := (x_i_ge (C := 4) (by decide)).mp h3
      refine x_R.steps 1 (c' := (14, [(0, .int (xs 1))], [.int 0], x_h0, 0, 0)) rfl ?_
      refine x_R.ret (v := some (.int 0)) rfl ?_
      refine x_R.steps 0 (c' := (4, [(0, .ref 0), (1, .int (xs 1))], [.int 0], x_h0, 0, 0)) rfl ?_
      refine x_R.steps 1 (c' := (17, [(0, .ref 0), (1, .int (xs 1))], [], x_h0, 0, 0)) rfl ?_
      refine x_R.steps 1 (c' := (19, [(0, .ref 0), (1, .int (xs 1))], [.int (-2)], x_h0, 0, 0)) rfl ?_
      refine x_R.ret (v := some (.int (-2))) rfl ?_
      refine x_R.steps 0 (c' := (5, [(0, .ref 0), (1, .int (xs 1))], [.int (-2)], x_h0, 0, 0)) rfl ?_
      refine x_R.steps 2 (c' := (7, [(2, .int (-2)), (0, .ref 0), (1, .int (xs 1))], [.int (-2)], x_h0, 0, 0)) rfl ?_
      refine x_R.steps 1 (c' := (10, [(2, .int (-2)), (0, .ref 0), (1, .int (xs 1))], [], x_h0, 0, 0)) rfl ?_
      refine x_R.steps 1 (c' := (11, [(2, .int (-2)), (0, .ref 0), (1, .int (xs 1))], [.int (-2)], x_h0, 0, 0)) rfl ?_
      refine x_R.ret (v := some (.int (-2))) rfl ?_
      refine x_R.steps 0 (c' := (1370, [(3, .int 0), (2, .ref 75), (1, .ref 0), (0, .ref x_scr)], [.int (-2)], x_h0, 98, 10728)) rfl ?_
      refine x_R.steps 5 (c' := (1375, [(3, .int 0), (2, .ref 75), (1, .ref 0), (0, .ref x_scr)], [.int 1, .ref x_scr, .ref 75, .int (-2)], x_h0, 98, 10728)) rfl ?_
      refine x_R.steps 1 (c' := (1376, [(3, .int 0), (2, .ref 75), (1, .ref 0), (0, .ref x_scr)], [.int (xs 1), .ref 75, .int (-2)], x_h0, 98, 10728)) rfl ?_
      refine x_R.call (a := 306) (vs := [.ref 75, .int (xs 1)]) (rest := [.int (-2)]) (M' := M_cX12_fits) rfl rfl rfl ?_
      refine x_R.steps 2 (c' := (2, [(0, .ref 75), (1, .int (xs 1))], [.int (xs 1), .ref 75], x_h0, 0, 0)) rfl ?_
      refine x_R.call (a := 299) (vs := [.ref 75, .int (xs 1)]) (rest := []) (M' := M_cX12_asksHeard) rfl rfl rfl ?_
      refine x_R.steps 1 (c' := (1, [(0, .ref 75), (1, .int (xs 1))], [.int (xs 1)], x_h0, 0, 0)) rfl ?_
      refine x_R.call (a := 351) (vs := [.int (xs 1)]) (rest := []) (M' := M_cX12_isSlot) rfl rfl rfl ?_
      refine x_R.steps 4 (c' := (6, [(0, .int (xs 1))], [.long 3, .long 0, .long ((xs 1)).toInt64], x_h0, 0, 0)) rfl ?_
      refine x_R.call (a := 196) (vs := [.long ((xs 1)).toInt64, .long 0, .long 3]) (rest := []) (M' := M_cX12_in) rfl rfl rfl ?_
      refine x_R.steps 3 (c' := (3, [(0, .long ((xs 1)).toInt64), (2, .long 0), (4, .long 3)], [.int (lg_cmp ((xs 1)).toInt64 0)], x_h0, 0, 0)) rfl ?_
      refine x_R.ite (p := (lg_cmp ((xs 1)).toInt64 0) < (0 : Int32)) (c1 := (17, [(0, .long ((xs 1)).toInt64), (2, .long 0), (4, .long 3)], [], x_h0, 0, 0)) (c2 := (6, [(0, .long ((xs 1)).toInt64), (2, .long 0), (4, .long 3)], [], x_h0, 0, 0)) rfl (fun h4 => ?_) (fun h4 => ?_)
      · have g4 := (x_lg_lt (C := 0) (by decide)).mp h4
        exfalso; omega
      · have g4 := mt (x_lg_lt (C := 0) (by decide)).mpr h4
        refine x_R.steps 3 (c' := (10, [(0, .long ((xs 1)).toInt64), (2, .long 0), (4, .long 3)], [.int (lg_cmp ((xs 1)).toInt64 3)], x_h0, 0, 0)) rfl ?_
        refine x_R.ite (p := (0 : Int32) < (lg_cmp ((xs 1)).toInt64 3)) (c1 := (17, [(0, .long ((xs 1)).toInt64), (2, .long 0), (4, .long 3)], [], x_h0, 0, 0)) (c2 := (13, [(0, .long ((xs 1)).toInt64), (2, .long 0), (4, .long 3)], [], x_h0, 0, 0)) rfl (fun h5 => ?_) (fun h5 => ?_)
        · have g5 := (x_lg_gt (C := 3) (by decide)).mp h5
          refine x_R.steps 1 (c' := (18, [(0, .long ((xs 1)).toInt64), (2, .long 0), (4, .long 3)], [.int 0], x_h0, 0, 0)) rfl ?_
          refine x_R.ret (v := some (.int 0)) rfl ?_
          refine x_R.steps 0 (c' := (9, [(0, .int (xs 1))], [.int 0], x_h0, 0, 0)) rfl ?_
          refine x_R.ret (v := some (.int 0)) rfl ?_
          refine x_R.steps 0 (c' := (4, [(0, .ref 75), (1, .int (xs 1))], [.int 0], x_h0, 0, 0)) rfl ?_
          refine x_R.steps 1 (c' := (14, [(0, .ref 75), (1, .int (xs 1))], [], x_h0, 0, 0)) rfl ?_
          refine x_R.steps 1 (c' := (16, [(0, .ref 75), (1, .int (xs 1))], [.int (-2)], x_h0, 0, 0)) rfl ?_
          refine x_R.ret (v := some (.int (-2))) rfl ?_
          refine x_R.steps 0 (c' := (5, [(0, .ref 75), (1, .int (xs 1))], [.int (-2)], x_h0, 0, 0)) rfl ?_
          refine x_R.steps 2 (c' := (7, [(2, .int (-2)), (0, .ref 75), (1, .int (xs 1))], [.int (-2)], x_h0, 0, 0)) rfl ?_
          refine x_R.steps 1 (c' := (10, [(2, .int (-2)), (0, .ref 75), (1, .int (xs 1))], [], x_h0, 0, 0)) rfl ?_
          refine x_R.steps 1 (c' := (11, [(2, .int (-2)), (0, .ref 75), (1, .int (xs 1))], [.int (-2)], x_h0, 0, 0)) rfl ?_
          refine x_R.ret (v := some (.int (-2))) rfl ?_
          refine x_R.steps 0 (c' := (1379, [(3, .int 0), (2, .ref 75), (1, .ref 0), (0, .ref x_scr)], [.int (-2), .int (-2)], x_h0, 98, 10728)) rfl ?_
          refine x_R.steps 1 (c' := (2370, [(3, .int 0), (2, .ref 75), (1, .ref 0), (0, .ref x_scr)], [], x_h0, 98, 10728)) rfl ?_
          refine x_R.steps 7 (c' := (24, [(3, .int 6), (2, .ref 75), (1, .ref 0), (0, .ref x_scr)], [.int 0, .int 6], x_h0, 98, 10728)) rfl ?_
          refine x_R.steps 1 (c' := (2376, [(3, .int 6), (2, .ref 75), (1, .ref 0), (0, .ref x_scr)], [], x_h0, 98, 10728)) rfl ?_
          refine x_R.steps 1 (c' := (2377, [(3, .int 6), (2, .ref 75), (1, .ref 0), (0, .ref x_scr)], [.int 1], x_h0, 98, 10728)) rfl ?_
          exact x_R.ret (v := some (.int 1)) rfl x_fin
        · have g5 := mt (x_lg_gt (C := 3) (by decide)).mpr h5
          exfalso; omega
    · have g3 := mt (x_i_ge (C := 4) (by decide)).mpr h3
      refine x_R.steps 2 (c' := (14, [(0, .int (xs 1))], [.int 1], x_h0, 0, 0)) rfl ?_
      refine x_R.ret (v := some (.int 1)) rfl ?_
      refine x_R.steps 0 (c' := (4, [(0, .ref 0), (1, .int (xs 1))], [.int 1], x_h0, 0, 0)) rfl ?_
      refine x_R.steps 1 (c' := (7, [(0, .ref 0), (1, .int (xs 1))], [], x_h0, 0, 0)) rfl ?_
      refine x_R.steps 2 (c' := (11, [(0, .ref 0), (1, .int (xs 1))], [.ref 1], x_h0, 0, 0)) rfl ?_
      refine x_R.call (a := 11) (vs := [.ref 1]) (rest := []) (M' := M_cX2_isTold) rfl rfl rfl ?_
      refine x_R.steps 2 (c' := (4, [(0, .ref 1)], [.int 0], x_h0, 0, 0)) rfl ?_
      refine x_R.steps 1 (c' := (11, [(0, .ref 1)], [], x_h0, 0, 0)) rfl ?_
      refine x_R.steps 1 (c' := (12, [(0, .ref 1)], [.int 0], x_h0, 0, 0)) rfl ?_
      refine x_R.ret (v := some (.int 0)) rfl ?_
      refine x_R.steps 0 (c' := (14, [(0, .ref 0), (1, .int (xs 1))], [.int 0], x_h0, 0, 0)) rfl ?_
      refine x_R.steps 1 (c' := (17, [(0, .ref 0), (1, .int (xs 1))], [], x_h0, 0, 0)) rfl ?_
      refine x_R.steps 1 (c' := (19, [(0, .ref 0), (1, .int (xs 1))], [.int (-2)], x_h0, 0, 0)) rfl ?_
      refine x_R.ret (v := some (.int (-2))) rfl ?_
      refine x_R.steps 0 (c' := (5, [(0, .ref 0), (1, .int (xs 1))], [.int (-2)], x_h0, 0, 0)) rfl ?_
      refine x_R.steps 2 (c' := (7, [(2, .int (-2)), (0, .ref 0), (1, .int (xs 1))], [.int (-2)], x_h0, 0, 0)) rfl ?_
      refine x_R.steps 1 (c' := (10, [(2, .int (-2)), (0, .ref 0), (1, .int (xs 1))], [], x_h0, 0, 0)) rfl ?_
      refine x_R.steps 1 (c' := (11, [(2, .int (-2)), (0, .ref 0), (1, .int (xs 1))], [.int (-2)], x_h0, 0, 0)) rfl ?_
      refine x_R.ret (v := some (.int (-2))) rfl ?_
      refine x_R.steps 0 (c' := (1370, [(3, .int 0), (2, .ref 75), (1, .ref 0), (0, .ref x_scr)], [.int (-2)], x_h0, 98, 10728)) rfl ?_
      refine x_R.steps 5 (c' := (1375, [(3, .int 0), (2, .ref 75), (1, .ref 0), (0, .ref x_scr)], [.int 1, .ref x_scr, .ref 75, .int (-2)], x_h0, 98, 10728)) rfl ?_
      refine x_R.steps 1 (c' := (1376, [(3, .int 0), (2, .ref 75), (1, .ref 0), (0, .ref x_scr)], [.int (xs 1), .ref 75, .int (-2)], x_h0, 98, 10728)) rfl ?_
      refine x_R.call (a := 306) (vs := [.ref 75, .int (xs 1)]) (rest := [.int (-2)]) (M' := M_cX12_fits) rfl rfl rfl ?_
      refine x_R.steps 2 (c' := (2, [(0, .ref 75), (1, .int (xs 1))], [.int (xs 1), .ref 75], x_h0, 0, 0)) rfl ?_
      refine x_R.call (a := 299) (vs := [.ref 75, .int (xs 1)]) (rest := []) (M' := M_cX12_asksHeard) rfl rfl rfl ?_
      refine x_R.steps 1 (c' := (1, [(0, .ref 75), (1, .int (xs 1))], [.int (xs 1)], x_h0, 0, 0)) rfl ?_
      refine x_R.call (a := 351) (vs := [.int (xs 1)]) (rest := []) (M' := M_cX12_isSlot) rfl rfl rfl ?_
      refine x_R.steps 4 (c' := (6, [(0, .int (xs 1))], [.long 3, .long 0, .long ((xs 1)).toInt64], x_h0, 0, 0)) rfl ?_
      refine x_R.call (a := 196) (vs := [.long ((xs 1)).toInt64, .long 0, .long 3]) (rest := []) (M' := M_cX12_in) rfl rfl rfl ?_
      refine x_R.steps 3 (c' := (3, [(0, .long ((xs 1)).toInt64), (2, .long 0), (4, .long 3)], [.int (lg_cmp ((xs 1)).toInt64 0)], x_h0, 0, 0)) rfl ?_
      refine x_R.ite (p := (lg_cmp ((xs 1)).toInt64 0) < (0 : Int32)) (c1 := (17, [(0, .long ((xs 1)).toInt64), (2, .long 0), (4, .long 3)], [], x_h0, 0, 0)) (c2 := (6, [(0, .long ((xs 1)).toInt64), (2, .long 0), (4, .long 3)], [], x_h0, 0, 0)) rfl (fun h6 => ?_) (fun h6 => ?_)
      · have g6 := (x_lg_lt (C := 0) (by decide)).mp h6
        exfalso; omega
      · have g6 := mt (x_lg_lt (C := 0) (by decide)).mpr h6
        refine x_R.steps 3 (c' := (10, [(0, .long ((xs 1)).toInt64), (2, .long 0), (4, .long 3)], [.int (lg_cmp ((xs 1)).toInt64 3)], x_h0, 0, 0)) rfl ?_
        refine x_R.ite (p := (0 : Int32) < (lg_cmp ((xs 1)).toInt64 3)) (c1 := (17, [(0, .long ((xs 1)).toInt64), (2, .long 0), (4, .long 3)], [], x_h0, 0, 0)) (c2 := (13, [(0, .long ((xs 1)).toInt64), (2, .long 0), (4, .long 3)], [], x_h0, 0, 0)) rfl (fun h7 => ?_) (fun h7 => ?_)
        · have g7 := (x_lg_gt (C := 3) (by decide)).mp h7
          exfalso; omega
        · have g7 := mt (x_lg_gt (C := 3) (by decide)).mpr h7
          refine x_R.steps 2 (c' := (18, [(0, .long ((xs 1)).toInt64), (2, .long 0), (4, .long 3)], [.int 1], x_h0, 0, 0)) rfl ?_
          refine x_R.ret (v := some (.int 1)) rfl ?_
          refine x_R.steps 0 (c' := (9, [(0, .int (xs 1))], [.int 1], x_h0, 0, 0)) rfl ?_
          refine x_R.ret (v := some (.int 1)) rfl ?_
          refine x_R.steps 0 (c' := (4, [(0, .ref 75), (1, .int (xs 1))], [.int 1], x_h0, 0, 0)) rfl ?_
          refine x_R.steps 1 (c' := (7, [(0, .ref 75), (1, .int (xs 1))], [], x_h0, 0, 0)) rfl ?_
          refine x_R.steps 1 (c' := (8, [(0, .ref 75), (1, .int (xs 1))], [.ref 75], x_h0, 0, 0)) rfl ?_
          refine x_R.call (a := 199) (vs := [.ref 75]) (rest := []) (M' := M_cX12_isBoard) rfl rfl rfl ?_
          refine x_R.steps 3 (c' := (5, [(0, .ref 75)], [.int 0, .ref 76], x_h0, 0, 0)) rfl ?_
          refine x_R.steps 1 (c' := (6, [(0, .ref 75)], [.int 0], x_h0, 0, 0)) rfl ?_
          refine x_R.steps 1 (c' := (13, [(0, .ref 75)], [], x_h0, 0, 0)) rfl ?_
          refine x_R.steps 1 (c' := (14, [(0, .ref 75)], [.int 0], x_h0, 0, 0)) rfl ?_
          refine x_R.ret (v := some (.int 0)) rfl ?_
          refine x_R.steps 0 (c' := (11, [(0, .ref 75), (1, .int (xs 1))], [.int 0], x_h0, 0, 0)) rfl ?_
          refine x_R.steps 1 (c' := (14, [(0, .ref 75), (1, .int (xs 1))], [], x_h0, 0, 0)) rfl ?_
          refine x_R.steps 1 (c' := (16, [(0, .ref 75), (1, .int (xs 1))], [.int (-2)], x_h0, 0, 0)) rfl ?_
          refine x_R.ret (v := some (.int (-2))) rfl ?_
          refine x_R.steps 0 (c' := (5, [(0, .ref 75), (1, .int (xs 1))], [.int (-2)], x_h0, 0, 0)) rfl ?_
          refine x_R.steps 2 (c' := (7, [(2, .int (-2)), (0, .ref 75), (1, .int (xs 1))], [.int (-2)], x_h0, 0, 0)) rfl ?_
          refine x_R.steps 1 (c' := (10, [(2, .int (-2)), (0, .ref 75), (1, .int (xs 1))], [], x_h0, 0, 0)) rfl ?_
          refine x_R.steps 1 (c' := (11, [(2, .int (-2)), (0, .ref 75), (1, .int (xs 1))], [.int (-2)], x_h0, 0, 0)) rfl ?_
          refine x_R.ret (v := some (.int (-2))) rfl ?_
          refine x_R.steps 0 (c' := (1379, [(3, .int 0), (2, .ref 75), (1, .ref 0), (0, .ref x_scr)], [.int (-2), .int (-2)], x_h0, 98, 10728)) rfl ?_
          refine x_R.steps 1 (c' := (2370, [(3, .int 0), (2, .ref 75), (1, .ref 0), (0, .ref x_scr)], [], x_h0, 98, 10728)) rfl ?_
          refine x_R.steps 7 (c' := (24, [(3, .int 6), (2, .ref 75), (1, .ref 0), (0, .ref x_scr)], [.int 0, .int 6], x_h0, 98, 10728)) rfl ?_
          refine x_R.steps 1 (c' := (2376, [(3, .int 6), (2, .ref 75), (1, .ref 0), (0, .ref x_scr)], [], x_h0, 98, 10728)) rfl ?_
          refine x_R.steps 1 (c' := (2377, [(3, .int 6), (2, .ref 75), (1, .ref 0), (0, .ref x_scr)], [.int 1], x_h0, 98, 10728)) rfl ?_
          exact x_R.ret (v := some (.int 1)) rfl x_fin
set_option maxRecDepth 100000 in
set_option maxHeartbeats 4000000 in
theorem x_c38_0 (xs : Nat → Int32)  : x_R x_mt (some (6, xs)) 13 M_law (1384, [(3, .int 0), (2, .ref 75), (1, .ref 0), (0, .ref x_scr)], [], x_h0, 98, 10728) x_P := by
  refine x_R.steps 5 (c' := (1389, [(3, .int 0), (2, .ref 75), (1, .ref 0), (0, .ref x_scr)], [.int 1, .ref x_scr, .ref 0], x_h0, 98, 10728)) rfl ?_
  refine x_R.steps 1 (c' := (1390, [(3, .int 0), (2, .ref 75), (1, .ref 0), (0, .ref x_scr)], [.int (xs 1), .ref 0], x_h0, 98, 10728)) rfl ?_
  refine x_R.steps 4 (c' := (1394, [(3, .int 0), (2, .ref 75), (1, .ref 0), (0, .ref x_scr)], [.int 2, .ref x_scr, .int (xs 1), .ref 0], x_h0, 98, 10728)) rfl ?_
  refine x_R.steps 1 (c' := (1395, [(3, .int 0), (2, .ref 75), (1, .ref 0), (0, .ref x_scr)], [.int (xs 2), .int (xs 1), .ref 0], x_h0, 98, 10728)) rfl ?_
  refine x_R.call (a := 152) (vs := [.ref 0, .int (xs 1), .int (xs 2)]) (rest := []) (M' := M_cX11_place) rfl rfl rfl ?_
  refine x_R.steps 2 (c' := (2, [(0, .ref 0), (1, .int (xs 1)), (2, .int (xs 2))], [.int (xs 1), .ref 0], x_h0, 0, 0)) rfl ?_
  refine x_R.call (a := 193) (vs := [.ref 0, .int (xs 1)]) (rest := []) (M' := M_cX11_whyUnheard) rfl rfl rfl ?_
  refine x_R.steps 1 (c' := (1, [(0, .ref 0), (1, .int (xs 1))], [.int (xs 1)], x_h0, 0, 0)) rfl ?_
  refine x_R.call (a := 182) (vs := [.int (xs 1)]) (rest := []) (M' := M_cX11_isSlot) rfl rfl rfl ?_
  refine x_R.steps 1 (c' := (1, [(0, .int (xs 1))], [.int (xs 1)], x_h0, 0, 0)) rfl ?_
  refine x_R.ite (p := (xs 1) < (0 : Int32)) (c1 := (13, [(0, .int (xs 1))], [], x_h0, 0, 0)) (c2 := (4, [(0, .int (xs 1))], [], x_h0, 0, 0)) rfl (fun h1 => ?_) (fun h1 => ?_)
  · have g1 := (x_i_lt (C := 0) (by decide)).mp h1
    refine x_R.steps 1 (c' := (14, [(0, .int (xs 1))], [.int 0], x_h0, 0, 0)) rfl ?_
    refine x_R.ret (v := some (.int 0)) rfl ?_
    refine x_R.steps 0 (c' := (4, [(0, .ref 0), (1, .int (xs 1))], [.int 0], x_h0, 0, 0)) rfl ?_
    refine x_R.steps 1 (c' := (17, [(0, .ref 0), (1, .int (xs 1))], [], x_h0, 0, 0)) rfl ?_
    refine x_R.steps 1 (c' := (19, [(0, .ref 0), (1, .int (xs 1))], [.int (-2)], x_h0, 0, 0)) rfl ?_
    refine x_R.ret (v := some (.int (-2))) rfl ?_
    refine x_R.steps 0 (c' := (5, [(0, .ref 0), (1, .int (xs 1)), (2, .int (xs 2))], [.int (-2)], x_h0, 0, 0)) rfl ?_
    refine x_R.steps 2 (c' := (7, [(3, .int (-2)), (0, .ref 0), (1, .int (xs 1)), (2, .int (xs 2))], [.int (-2)], x_h0, 0, 0)) rfl ?_
    refine x_R.steps 1 (c' := (10, [(3, .int (-2)), (0, .ref 0), (1, .int (xs 1)), (2, .int (xs 2))], [], x_h0, 0, 0)) rfl ?_
    refine x_R.steps 1 (c' := (11, [(3, .int (-2)), (0, .ref 0), (1, .int (xs 1)), (2, .int (xs 2))], [.int (-2)], x_h0, 0, 0)) rfl ?_
    refine x_R.ret (v := some (.int (-2))) rfl ?_
    refine x_R.steps 0 (c' := (1398, [(3, .int 0), (2, .ref 75), (1, .ref 0), (0, .ref x_scr)], [.int (-2)], x_h0, 98, 10728)) rfl ?_
    refine x_R.steps 5 (c' := (1403, [(3, .int 0), (2, .ref 75), (1, .ref 0), (0, .ref x_scr)], [.int 1, .ref x_scr, .ref 75, .int (-2)], x_h0, 98, 10728)) rfl ?_
    refine x_R.steps 1 (c' := (1404, [(3, .int 0), (2, .ref 75), (1, .ref 0), (0, .ref x_scr)], [.int (xs 1), .ref 75, .int (-2)], x_h0, 98, 10728)) rfl ?_
    refine x_R.steps 4 (c' := (1408, [(3, .int 0), (2, .ref 75), (1, .ref 0), (0, .ref x_scr)], [.int 2, .ref x_scr, .int (xs 1), .ref 75, .int (-2)], x_h0, 98, 10728)) rfl ?_
    refine x_R.steps 1 (c' := (1409, [(3, .int 0), (2, .ref 75), (1, .ref 0), (0, .ref x_scr)], [.int (xs 2), .int (xs 1), .ref 75, .int (-2)], x_h0, 98, 10728)) rfl ?_
    refine x_R.call (a := 307) (vs := [.ref 75, .int (xs 1), .int (xs 2)]) (rest := [.int (-2)]) (M' := M_cX12_place) rfl rfl rfl ?_
    refine x_R.steps 2 (c' := (2, [(0, .ref 75), (1, .int (xs 1)), (2, .int (xs 2))], [.int (xs 1), .ref 75], x_h0, 0, 0)) rfl ?_
    refine x_R.call (a := 299) (vs := [.ref 75, .int (xs 1)]) (rest := []) (M' := M_cX12_asksHeard) rfl rfl rfl ?_
    refine x_R.steps 1 (c' := (1, [(0, .ref 75), (1, .int (xs 1))], [.int (xs 1)], x_h0, 0, 0)) rfl ?_
    refine x_R.call (a := 351) (vs := [.int (xs 1)]) (rest := []) (M' := M_cX12_isSlot) rfl rfl rfl ?_
    refine x_R.steps 4 (c' := (6, [(0, .int (xs 1))], [.long 3, .long 0, .long ((xs 1)).toInt64], x_h0, 0, 0)) rfl ?_
    refine x_R.call (a := 196) (vs := [.long ((xs 1)).toInt64, .long 0, .long 3]) (rest := []) (M' := M_cX12_in) rfl rfl rfl ?_
    refine x_R.steps 3 (c' := (3, [(0, .long ((xs 1)).toInt64), (2, .long 0), (4, .long 3)], [.int (lg_cmp ((xs 1)).toInt64 0)], x_h0, 0, 0)) rfl ?_
    refine x_R.ite (p := (lg_cmp ((xs 1)).toInt64 0) < (0 : Int32)) (c1 := (17, [(0, .long ((xs 1)).toInt64), (2, .long 0), (4, .long 3)], [], x_h0, 0, 0)) (c2 := (6, [(0, .long ((xs 1)).toInt64), (2, .long 0), (4, .long 3)], [], x_h0, 0, 0)) rfl (fun h2 => ?_) (fun h2 => ?_)
    · have g2 := (x_lg_lt (C := 0) (by decide)).mp h2
      refine x_R.steps 1 (c' := (18, [(0, .long ((xs 1)).toInt64), (2, .long 0), (4, .long 3)], [.int 0], x_h0, 0, 0)) rfl ?_
      refine x_R.ret (v := some (.int 0)) rfl ?_
      refine x_R.steps 0 (c' := (9, [(0, .int (xs 1))], [.int 0], x_h0, 0, 0)) rfl ?_
      refine x_R.ret (v := some (.int 0)) rfl ?_
      refine x_R.steps 0 (c' := (4, [(0, .ref 75), (1, .int (xs 1))], [.int 0], x_h0, 0, 0)) rfl ?_
      refine x_R.steps 1 (c' := (14, [(0, .ref 75), (1, .int (xs 1))], [], x_h0, 0, 0)) rfl ?_
      refine x_R.steps 1 (c' := (16, [(0, .ref 75), (1, .int (xs 1))], [.int (-2)], x_h0, 0, 0)) rfl ?_
      refine x_R.ret (v := some (.int (-2))) rfl ?_
      refine x_R.steps 0 (c' := (5, [(0, .ref 75), (1, .int (xs 1)), (2, .int (xs 2))], [.int (-2)], x_h0, 0, 0)) rfl ?_
      refine x_R.steps 2 (c' := (7, [(3, .int (-2)), (0, .ref 75), (1, .int (xs 1)), (2, .int (xs 2))], [.int (-2)], x_h0, 0, 0)) rfl ?_
      refine x_R.steps 1 (c' := (10, [(3, .int (-2)), (0, .ref 75), (1, .int (xs 1)), (2, .int (xs 2))], [], x_h0, 0, 0)) rfl ?_
      refine x_R.steps 1 (c' := (11, [(3, .int (-2)), (0, .ref 75), (1, .int (xs 1)), (2, .int (xs 2))], [.int (-2)], x_h0, 0, 0)) rfl ?_
      refine x_R.ret (v := some (.int (-2))) rfl ?_
      refine x_R.steps 0 (c' := (1412, [(3, .int 0), (2, .ref 75), (1, .ref 0), (0, .ref x_scr)], [.int (-2), .int (-2)], x_h0, 98, 10728)) rfl ?_
      refine x_R.steps 1 (c' := (2370, [(3, .int 0), (2, .ref 75), (1, .ref 0), (0, .ref x_scr)], [], x_h0, 98, 10728)) rfl ?_
      refine x_R.steps 7 (c' := (24, [(3, .int 6), (2, .ref 75), (1, .ref 0), (0, .ref x_scr)], [.int 0, .int 6], x_h0, 98, 10728)) rfl ?_
      refine x_R.steps 1 (c' := (2376, [(3, .int 6), (2, .ref 75), (1, .ref 0), (0, .ref x_scr)], [], x_h0, 98, 10728)) rfl ?_
      refine x_R.steps 1 (c' := (2377, [(3, .int 6), (2, .ref 75), (1, .ref 0), (0, .ref x_scr)], [.int 1], x_h0, 98, 10728)) rfl ?_
      exact x_R.ret (v := some (.int 1)) rfl x_fin
    · have g2 := mt (x_lg_lt (C := 0) (by decide)).mpr h2
      exfalso; omega
  · have g1 := mt (x_i_lt (C := 0) (by decide)).mpr h1
    refine x_R.steps 2 (c' := (6, [(0, .int (xs 1))], [.int 4, .int (xs 1)], x_h0, 0, 0)) rfl ?_
    refine x_R.ite (p := (4 : Int32) ≤ (xs 1)) (c1 := (13, [(0, .int (xs 1))], [], x_h0, 0, 0)) (c2 := (9, [(0, .int (xs 1))], [], x_h0, 0, 0)) rfl (fun h3 => ?_) (fun h3 => ?_)
    · have g3 := (x_i_ge (C := 4) (by decide)).mp h3
      refine x_R.steps 1 (c' := (14, [(0, .int (xs 1))], [.int 0], x_h0, 0, 0)) rfl ?_
      refine x_R.ret (v := some (.int 0)) rfl ?_
      refine x_R.steps 0 (c' := (4, [(0, .ref 0), (1, .int (xs 1))], [.int 0], x_h0, 0, 0)) rfl ?_
      refine x_R.steps 1 (c' := (17, [(0, .ref 0), (1, .int (xs 1))], [], x_h0, 0, 0)) rfl ?_
      refine x_R.steps 1 (c' := (19, [(0, .ref 0), (1, .int (xs 1))], [.int (-2)], x_h0, 0, 0)) rfl ?_
      refine x_R.ret (v := some (.int (-2))) rfl ?_
      refine x_R.steps 0 (c' := (5, [(0, .ref 0), (1, .int (xs 1)), (2, .int (xs 2))], [.int (-2)], x_h0, 0, 0)) rfl ?_
      refine x_R.steps 2 (c' := (7, [(3, .int (-2)), (0, .ref 0), (1, .int (xs 1)), (2, .int (xs 2))], [.int (-2)], x_h0, 0, 0)) rfl ?_
      refine x_R.steps 1 (c' := (10, [(3, .int (-2)), (0, .ref 0), (1, .int (xs 1)), (2, .int (xs 2))], [], x_h0, 0, 0)) rfl ?_
      refine x_R.steps 1 (c' := (11, [(3, .int (-2)), (0, .ref 0), (1, .int (xs 1)), (2, .int (xs 2))], [.int (-2)], x_h0, 0, 0)) rfl ?_
      refine x_R.ret (v := some (.int (-2))) rfl ?_
      refine x_R.steps 0 (c' := (1398, [(3, .int 0), (2, .ref 75), (1, .ref 0), (0, .ref x_scr)], [.int (-2)], x_h0, 98, 10728)) rfl ?_
      refine x_R.steps 5 (c' := (1403, [(3, .int 0), (2, .ref 75), (1, .ref 0), (0, .ref x_scr)], [.int 1, .ref x_scr, .ref 75, .int (-2)], x_h0, 98, 10728)) rfl ?_
      refine x_R.steps 1 (c' := (1404, [(3, .int 0), (2, .ref 75), (1, .ref 0), (0, .ref x_scr)], [.int (xs 1), .ref 75, .int (-2)], x_h0, 98, 10728)) rfl ?_
      refine x_R.steps 4 (c' := (1408, [(3, .int 0), (2, .ref 75), (1, .ref 0), (0, .ref x_scr)], [.int 2, .ref x_scr, .int (xs 1), .ref 75, .int (-2)], x_h0, 98, 10728)) rfl ?_
      refine x_R.steps 1 (c' := (1409, [(3, .int 0), (2, .ref 75), (1, .ref 0), (0, .ref x_scr)], [.int (xs 2), .int (xs 1), .ref 75, .int (-2)], x_h0, 98, 10728)) rfl ?_
      refine x_R.call (a := 307) (vs := [.ref 75, .int (xs 1), .int (xs 2)]) (rest := [.int (-2)]) (M' := M_cX12_place) rfl rfl rfl ?_
      refine x_R.steps 2 (c' := (2, [(0, .ref 75), (1, .int (xs 1)), (2, .int (xs 2))], [.int (xs 1), .ref 75], x_h0, 0, 0)) rfl ?_
      refine x_R.call (a := 299) (vs := [.ref 75, .int (xs 1)]) (rest := []) (M' := M_cX12_asksHeard) rfl rfl rfl ?_
      refine x_R.steps 1 (c' := (1, [(0, .ref 75), (1, .int (xs 1))], [.int (xs 1)], x_h0, 0, 0)) rfl ?_
      refine x_R.call (a := 351) (vs := [.int (xs 1)]) (rest := []) (M' := M_cX12_isSlot) rfl rfl rfl ?_
      refine x_R.steps 4 (c' := (6, [(0, .int (xs 1))], [.long 3, .long 0, .long ((xs 1)).toInt64], x_h0, 0, 0)) rfl ?_
      refine x_R.call (a := 196) (vs := [.long ((xs 1)).toInt64, .long 0, .long 3]) (rest := []) (M' := M_cX12_in) rfl rfl rfl ?_
      refine x_R.steps 3 (c' := (3, [(0, .long ((xs 1)).toInt64), (2, .long 0), (4, .long 3)], [.int (lg_cmp ((xs 1)).toInt64 0)], x_h0, 0, 0)) rfl ?_
      refine x_R.ite (p := (lg_cmp ((xs 1)).toInt64 0) < (0 : Int32)) (c1 := (17, [(0, .long ((xs 1)).toInt64), (2, .long 0), (4, .long 3)], [], x_h0, 0, 0)) (c2 := (6, [(0, .long ((xs 1)).toInt64), (2, .long 0), (4, .long 3)], [], x_h0, 0, 0)) rfl (fun h4 => ?_) (fun h4 => ?_)
      · have g4 := (x_lg_lt (C := 0) (by decide)).mp h4
        exfalso; omega
      · have g4 := mt (x_lg_lt (C := 0) (by decide)).mpr h4
        refine x_R.steps 3 (c' := (10, [(0, .long ((xs 1)).toInt64), (2, .long 0), (4, .long 3)], [.int (lg_cmp ((xs 1)).toInt64 3)], x_h0, 0, 0)) rfl ?_
        refine x_R.ite (p := (0 : Int32) < (lg_cmp ((xs 1)).toInt64 3)) (c1 := (17, [(0, .long ((xs 1)).toInt64), (2, .long 0), (4, .long 3)], [], x_h0, 0, 0)) (c2 := (13, [(0, .long ((xs 1)).toInt64), (2, .long 0), (4, .long 3)], [], x_h0, 0, 0)) rfl (fun h5 => ?_) (fun h5 => ?_)
        · have g5 := (x_lg_gt (C := 3) (by decide)).mp h5
          refine x_R.steps 1 (c' := (18, [(0, .long ((xs 1)).toInt64), (2, .long 0), (4, .long 3)], [.int 0], x_h0, 0, 0)) rfl ?_
          refine x_R.ret (v := some (.int 0)) rfl ?_
          refine x_R.steps 0 (c' := (9, [(0, .int (xs 1))], [.int 0], x_h0, 0, 0)) rfl ?_
          refine x_R.ret (v := some (.int 0)) rfl ?_
          refine x_R.steps 0 (c' := (4, [(0, .ref 75), (1, .int (xs 1))], [.int 0], x_h0, 0, 0)) rfl ?_
          refine x_R.steps 1 (c' := (14, [(0, .ref 75), (1, .int (xs 1))], [], x_h0, 0, 0)) rfl ?_
          refine x_R.steps 1 (c' := (16, [(0, .ref 75), (1, .int (xs 1))], [.int (-2)], x_h0, 0, 0)) rfl ?_
          refine x_R.ret (v := some (.int (-2))) rfl ?_
          refine x_R.steps 0 (c' := (5, [(0, .ref 75), (1, .int (xs 1)), (2, .int (xs 2))], [.int (-2)], x_h0, 0, 0)) rfl ?_
          refine x_R.steps 2 (c' := (7, [(3, .int (-2)), (0, .ref 75), (1, .int (xs 1)), (2, .int (xs 2))], [.int (-2)], x_h0, 0, 0)) rfl ?_
          refine x_R.steps 1 (c' := (10, [(3, .int (-2)), (0, .ref 75), (1, .int (xs 1)), (2, .int (xs 2))], [], x_h0, 0, 0)) rfl ?_
          refine x_R.steps 1 (c' := (11, [(3, .int (-2)), (0, .ref 75), (1, .int (xs 1)), (2, .int (xs 2))], [.int (-2)], x_h0, 0, 0)) rfl ?_
          refine x_R.ret (v := some (.int (-2))) rfl ?_
          refine x_R.steps 0 (c' := (1412, [(3, .int 0), (2, .ref 75), (1, .ref 0), (0, .ref x_scr)], [.int (-2), .int (-2)], x_h0, 98, 10728)) rfl ?_
          refine x_R.steps 1 (c' := (2370, [(3, .int 0), (2, .ref 75), (1, .ref 0), (0, .ref x_scr)], [], x_h0, 98, 10728)) rfl ?_
          refine x_R.steps 7 (c' := (24, [(3, .int 6), (2, .ref 75), (1, .ref 0), (0, .ref x_scr)], [.int 0, .int 6], x_h0, 98, 10728)) rfl ?_
          refine x_R.steps 1 (c' := (2376, [(3, .int 6), (2, .ref 75), (1, .ref 0), (0, .ref x_scr)], [], x_h0, 98, 10728)) rfl ?_
          refine x_R.steps 1 (c' := (2377, [(3, .int 6), (2, .ref 75), (1, .ref 0), (0, .ref x_scr)], [.int 1], x_h0, 98, 10728)) rfl ?_
          exact x_R.ret (v := some (.int 1)) rfl x_fin
        · have g5 := mt (x_lg_gt (C := 3) (by decide)).mpr h5
          exfalso; omega
    · have g3 := mt (x_i_ge (C := 4) (by decide)).mpr h3
      refine x_R.steps 2 (c' := (14, [(0, .int (xs 1))], [.int 1], x_h0, 0, 0)) rfl ?_
      refine x_R.ret (v := some (.int 1)) rfl ?_
      refine x_R.steps 0 (c' := (4, [(0, .ref 0), (1, .int (xs 1))], [.int 1], x_h0, 0, 0)) rfl ?_
      refine x_R.steps 1 (c' := (7, [(0, .ref 0), (1, .int (xs 1))], [], x_h0, 0, 0)) rfl ?_
      refine x_R.steps 2 (c' := (11, [(0, .ref 0), (1, .int (xs 1))], [.ref 1], x_h0, 0, 0)) rfl ?_
      refine x_R.call (a := 11) (vs := [.ref 1]) (rest := []) (M' := M_cX2_isTold) rfl rfl rfl ?_
      refine x_R.steps 2 (c' := (4, [(0, .ref 1)], [.int 0], x_h0, 0, 0)) rfl ?_
      refine x_R.steps 1 (c' := (11, [(0, .ref 1)], [], x_h0, 0, 0)) rfl ?_
      refine x_R.steps 1 (c' := (12, [(0, .ref 1)], [.int 0], x_h0, 0, 0)) rfl ?_
      refine x_R.ret (v := some (.int 0)) rfl ?_
      refine x_R.steps 0 (c' := (14, [(0, .ref 0), (1, .int (xs 1))], [.int 0], x_h0, 0, 0)) rfl ?_
      refine x_R.steps 1 (c' := (17, [(0, .ref 0), (1, .int (xs 1))], [], x_h0, 0, 0)) rfl ?_
      refine x_R.steps 1 (c' := (19, [(0, .ref 0), (1, .int (xs 1))], [.int (-2)], x_h0, 0, 0)) rfl ?_
      refine x_R.ret (v := some (.int (-2))) rfl ?_
      refine x_R.steps 0 (c' := (5, [(0, .ref 0), (1, .int (xs 1)), (2, .int (xs 2))], [.int (-2)], x_h0, 0, 0)) rfl ?_
      refine x_R.steps 2 (c' := (7, [(3, .int (-2)), (0, .ref 0), (1, .int (xs 1)), (2, .int (xs 2))], [.int (-2)], x_h0, 0, 0)) rfl ?_
      refine x_R.steps 1 (c' := (10, [(3, .int (-2)), (0, .ref 0), (1, .int (xs 1)), (2, .int (xs 2))], [], x_h0, 0, 0)) rfl ?_
      refine x_R.steps 1 (c' := (11, [(3, .int (-2)), (0, .ref 0), (1, .int (xs 1)), (2, .int (xs 2))], [.int (-2)], x_h0, 0, 0)) rfl ?_
      refine x_R.ret (v := some (.int (-2))) rfl ?_
      refine x_R.steps 0 (c' := (1398, [(3, .int 0), (2, .ref 75), (1, .ref 0), (0, .ref x_scr)], [.int (-2)], x_h0, 98, 10728)) rfl ?_
      refine x_R.steps 5 (c' := (1403, [(3, .int 0), (2, .ref 75), (1, .ref 0), (0, .ref x_scr)], [.int 1, .ref x_scr, .ref 75, .int (-2)], x_h0, 98, 10728)) rfl ?_
      refine x_R.steps 1 (c' := (1404, [(3, .int 0), (2, .ref 75), (1, .ref 0), (0, .ref x_scr)], [.int (xs 1), .ref 75, .int (-2)], x_h0, 98, 10728)) rfl ?_
      refine x_R.steps 4 (c' := (1408, [(3, .int 0), (2, .ref 75), (1, .ref 0), (0, .ref x_scr)], [.int 2, .ref x_scr, .int (xs 1), .ref 75, .int (-2)], x_h0, 98, 10728)) rfl ?_
      refine x_R.steps 1 (c' := (1409, [(3, .int 0), (2, .ref 75), (1, .ref 0), (0, .ref x_scr)], [.int (xs 2), .int (xs 1), .ref 75, .int (-2)], x_h0, 98, 10728)) rfl ?_
      refine x_R.call (a := 307) (vs := [.ref 75, .int (xs 1), .int (xs 2)]) (rest := [.int (-2)]) (M' := M_cX12_place) rfl rfl rfl ?_
      refine x_R.steps 2 (c' := (2, [(0, .ref 75), (1, .int (xs 1)), (2, .int (xs 2))], [.int (xs 1), .ref 75], x_h0, 0, 0)) rfl ?_
      refine x_R.call (a := 299) (vs := [.ref 75, .int (xs 1)]) (rest := []) (M' := M_cX12_asksHeard) rfl rfl rfl ?_
      refine x_R.steps 1 (c' := (1, [(0, .ref 75), (1, .int (xs 1))], [.int (xs 1)], x_h0, 0, 0)) rfl ?_
      refine x_R.call (a := 351) (vs := [.int (xs 1)]) (rest := []) (M' := M_cX12_isSlot) rfl rfl rfl ?_
      refine x_R.steps 4 (c' := (6, [(0, .int (xs 1))], [.long 3, .long 0, .long ((xs 1)).toInt64], x_h0, 0, 0)) rfl ?_
      refine x_R.call (a := 196) (vs := [.long ((xs 1)).toInt64, .long 0, .long 3]) (rest := []) (M' := M_cX12_in) rfl rfl rfl ?_
      refine x_R.steps 3 (c' := (3, [(0, .long ((xs 1)).toInt64), (2, .long 0), (4, .long 3)], [.int (lg_cmp ((xs 1)).toInt64 0)], x_h0, 0, 0)) rfl ?_
      refine x_R.ite (p := (lg_cmp ((xs 1)).toInt64 0) < (0 : Int32)) (c1 := (17, [(0, .long ((xs 1)).toInt64), (2, .long 0), (4, .long 3)], [], x_h0, 0, 0)) (c2 := (6, [(0, .long ((xs 1)).toInt64), (2, .long 0), (4, .long 3)], [], x_h0, 0, 0)) rfl (fun h6 => ?_) (fun h6 => ?_)
      · have g6 := (x_lg_lt (C := 0) (by decide)).mp h6
        exfalso; omega
      · have g6 := mt (x_lg_lt (C := 0) (by decide)).mpr h6
        refine x_R.steps 3 (c' := (10, [(0, .long ((xs 1)).toInt64), (2, .long 0), (4, .long 3)], [.int (lg_cmp ((xs 1)).toInt64 3)], x_h0, 0, 0)) rfl ?_
        refine x_R.ite (p := (0 : Int32) < (lg_cmp ((xs 1)).toInt64 3)) (c1 := (17, [(0, .long ((xs 1)).toInt64), (2, .long 0), (4, .long 3)], [], x_h0, 0, 0)) (c2 := (13, [(0, .long ((xs 1)).toInt64), (2, .long 0), (4, .long 3)], [], x_h0, 0, 0)) rfl (fun h7 => ?_) (fun h7 => ?_)
        · have g7 := (x_lg_gt (C := 3) (by decide)).mp h7
          exfalso; omega
        · have g7 := mt (x_lg_gt (C := 3) (by decide)).mpr h7
          refine x_R.steps 2 (c' := (18, [(0, .long ((xs 1)).toInt64), (2, .long 0), (4, .long 3)], [.int 1], x_h0, 0, 0)) rfl ?_
          refine x_R.ret (v := some (.int 1)) rfl ?_
          refine x_R.steps 0 (c' := (9, [(0, .int (xs 1))], [.int 1], x_h0, 0, 0)) rfl ?_
          refine x_R.ret (v := some (.int 1)) rfl ?_
          refine x_R.steps 0 (c' := (4, [(0, .ref 75), (1, .int (xs 1))], [.int 1], x_h0, 0, 0)) rfl ?_
          refine x_R.steps 1 (c' := (7, [(0, .ref 75), (1, .int (xs 1))], [], x_h0, 0, 0)) rfl ?_
          refine x_R.steps 1 (c' := (8, [(0, .ref 75), (1, .int (xs 1))], [.ref 75], x_h0, 0, 0)) rfl ?_
          refine x_R.call (a := 199) (vs := [.ref 75]) (rest := []) (M' := M_cX12_isBoard) rfl rfl rfl ?_
          refine x_R.steps 3 (c' := (5, [(0, .ref 75)], [.int 0, .ref 76], x_h0, 0, 0)) rfl ?_
          refine x_R.steps 1 (c' := (6, [(0, .ref 75)], [.int 0], x_h0, 0, 0)) rfl ?_
          refine x_R.steps 1 (c' := (13, [(0, .ref 75)], [], x_h0, 0, 0)) rfl ?_
          refine x_R.steps 1 (c' := (14, [(0, .ref 75)], [.int 0], x_h0, 0, 0)) rfl ?_
          refine x_R.ret (v := some (.int 0)) rfl ?_
          refine x_R.steps 0 (c' := (11, [(0, .ref 75), (1, .int (xs 1))], [.int 0], x_h0, 0, 0)) rfl ?_
          refine x_R.steps 1 (c' := (14, [(0, .ref 75), (1, .int (xs 1))], [], x_h0, 0, 0)) rfl ?_
          refine x_R.steps 1 (c' := (16, [(0, .ref 75), (1, .int (xs 1))], [.int (-2)], x_h0, 0, 0)) rfl ?_
          refine x_R.ret (v := some (.int (-2))) rfl ?_
          refine x_R.steps 0 (c' := (5, [(0, .ref 75), (1, .int (xs 1)), (2, .int (xs 2))], [.int (-2)], x_h0, 0, 0)) rfl ?_
          refine x_R.steps 2 (c' := (7, [(3, .int (-2)), (0, .ref 75), (1, .int (xs 1)), (2, .int (xs 2))], [.int (-2)], x_h0, 0, 0)) rfl ?_
          refine x_R.steps 1 (c' := (10, [(3, .int (-2)), (0, .ref 75), (1, .int (xs 1)), (2, .int (xs 2))], [], x_h0, 0, 0)) rfl ?_
          refine x_R.steps 1 (c' := (11, [(3, .int (-2)), (0, .ref 75), (1, .int (xs 1)), (2, .int (xs 2))], [.int (-2)], x_h0, 0, 0)) rfl ?_
          refine x_R.ret (v := some (.int (-2))) rfl ?_
          refine x_R.steps 0 (c' := (1412, [(3, .int 0), (2, .ref 75), (1, .ref 0), (0, .ref x_scr)], [.int (-2), .int (-2)], x_h0, 98, 10728)) rfl ?_
          refine x_R.steps 1 (c' := (2370, [(3, .int 0), (2, .ref 75), (1, .ref 0), (0, .ref x_scr)], [], x_h0, 98, 10728)) rfl ?_
          refine x_R.steps 7 (c' := (24, [(3, .int 6), (2, .ref 75), (1, .ref 0), (0, .ref x_scr)], [.int 0, .int 6], x_h0, 98, 10728)) rfl ?_
          refine x_R.steps 1 (c' := (2376, [(3, .int 6), (2, .ref 75), (1, .ref 0), (0, .ref x_scr)], [], x_h0, 98, 10728)) rfl ?_
          refine x_R.steps 1 (c' := (2377, [(3, .int 6), (2, .ref 75), (1, .ref 0), (0, .ref x_scr)], [.int 1], x_h0, 98, 10728)) rfl ?_
          exact x_R.ret (v := some (.int 1)) rfl x_fin
