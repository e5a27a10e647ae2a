set_option maxRecDepth 100000 in
set_option maxHeartbeats 4000000 in
theorem x_c17_0 (xs : Nat → Int32)  : x_R x_mt (some (6, xs)) 13 M_law (809, [(3, .int 0), (2, .ref 75), (1, .ref 0), (0, .ref x_scr)], [], x_h0, 98, 10728) x_P := by
  refine x_R.steps 5 (c' := (814, [(3, .int 0), (2, .ref 75), (1, .ref 0), (0, .ref x_scr)], [.int 1, .ref x_scr, .ref 0], x_h0, 98, 10728)) rfl ?_
  refine x_R.steps 1 (c' := (815, [(3, .int 0), (2, .ref 75), (1, .ref 0), (0, .ref x_scr)], [.int (xs 1), .ref 0], x_h0, 98, 10728)) rfl ?_
  refine x_R.steps 4 (c' := (819, [(3, .int 0), (2, .ref 75), (1, .ref 0), (0, .ref x_scr)], [.int 2, .ref x_scr, .int (xs 1), .ref 0], x_h0, 98, 10728)) rfl ?_
  refine x_R.steps 1 (c' := (820, [(3, .int 0), (2, .ref 75), (1, .ref 0), (0, .ref x_scr)], [.int (xs 2), .int (xs 1), .ref 0], x_h0, 98, 10728)) rfl ?_
  refine x_R.call (a := 130) (vs := [.ref 0, .int (xs 1), .int (xs 2)]) (rest := []) (M' := M_cX11_where) rfl rfl rfl ?_
  refine x_R.steps 3 (c' := (5, [(0, .ref 0), (1, .int (xs 1)), (2, .int (xs 2))], [.int (xs 2), .ref 1], x_h0, 0, 0)) rfl ?_
  refine x_R.call (a := 14) (vs := [.ref 1, .int (xs 2)]) (rest := []) (M' := M_cX2_isTick) rfl rfl rfl ?_
  refine x_R.steps 1 (c' := (1, [(0, .ref 1), (1, .int (xs 2))], [.int (xs 2)], x_h0, 0, 0)) rfl ?_
  refine x_R.ite (p := (xs 2) < (0 : Int32)) (c1 := (16, [(0, .ref 1), (1, .int (xs 2))], [], x_h0, 0, 0)) (c2 := (4, [(0, .ref 1), (1, .int (xs 2))], [], x_h0, 0, 0)) rfl (fun h1 => ?_) (fun h1 => ?_)
  · have g1 := (x_i_lt (C := 0) (by decide)).mp h1
    refine x_R.steps 1 (c' := (17, [(0, .ref 1), (1, .int (xs 2))], [.int 0], x_h0, 0, 0)) rfl ?_
    refine x_R.ret (v := some (.int 0)) rfl ?_
    refine x_R.steps 0 (c' := (8, [(0, .ref 0), (1, .int (xs 1)), (2, .int (xs 2))], [.int 0], x_h0, 0, 0)) rfl ?_
    refine x_R.steps 1 (c' := (19, [(0, .ref 0), (1, .int (xs 1)), (2, .int (xs 2))], [], x_h0, 0, 0)) rfl ?_
    refine x_R.steps 1 (c' := (21, [(0, .ref 0), (1, .int (xs 1)), (2, .int (xs 2))], [.int (-2)], x_h0, 0, 0)) rfl ?_
    refine x_R.ret (v := some (.int (-2))) rfl ?_
    refine x_R.steps 0 (c' := (823, [(3, .int 0), (2, .ref 75), (1, .ref 0), (0, .ref x_scr)], [.int (-2)], x_h0, 98, 10728)) rfl ?_
    refine x_R.steps 5 (c' := (828, [(3, .int 0), (2, .ref 75), (1, .ref 0), (0, .ref x_scr)], [.int 1, .ref x_scr, .ref 75, .int (-2)], x_h0, 98, 10728)) rfl ?_
    refine x_R.steps 1 (c' := (829, [(3, .int 0), (2, .ref 75), (1, .ref 0), (0, .ref x_scr)], [.int (xs 1), .ref 75, .int (-2)], x_h0, 98, 10728)) rfl ?_
    refine x_R.steps 4 (c' := (833, [(3, .int 0), (2, .ref 75), (1, .ref 0), (0, .ref x_scr)], [.int 2, .ref x_scr, .int (xs 1), .ref 75, .int (-2)], x_h0, 98, 10728)) rfl ?_
    refine x_R.steps 1 (c' := (834, [(3, .int 0), (2, .ref 75), (1, .ref 0), (0, .ref x_scr)], [.int (xs 2), .int (xs 1), .ref 75, .int (-2)], x_h0, 98, 10728)) rfl ?_
    refine x_R.call (a := 263) (vs := [.ref 75, .int (xs 1), .int (xs 2)]) (rest := [.int (-2)]) (M' := M_cX12_where) rfl rfl rfl ?_
    refine x_R.steps 2 (c' := (2, [(0, .ref 75), (1, .int (xs 1)), (2, .int (xs 2))], [.int (xs 1), .ref 75], x_h0, 0, 0)) rfl ?_
    refine x_R.call (a := 205) (vs := [.ref 75, .int (xs 1)]) (rest := []) (M' := M_cX12_isPlayer) rfl rfl rfl ?_
    refine x_R.steps 6 (c' := (9, [(0, .ref 75), (1, .int (xs 1))], [.int 6, .ref 76, .long 0, .long ((xs 1)).toInt64], x_h0, 0, 0)) rfl ?_
    refine x_R.steps 1 (c' := (10, [(0, .ref 75), (1, .int (xs 1))], [.int 0, .long 0, .long ((xs 1)).toInt64], x_h0, 0, 0)) rfl ?_
    refine x_R.steps 3 (c' := (13, [(0, .ref 75), (1, .int (xs 1))], [.long (-1), .long 0, .long ((xs 1)).toInt64], x_h0, 0, 0)) rfl ?_
    refine x_R.call (a := 196) (vs := [.long ((xs 1)).toInt64, .long 0, .long (-1)]) (rest := []) (M' := M_cX12_in) rfl rfl rfl ?_
    refine x_R.steps 3 (c' := (3, [(0, .long ((xs 1)).toInt64), (2, .long 0), (4, .long (-1))], [.int (lg_cmp ((xs 1)).toInt64 0)], x_h0, 0, 0)) rfl ?_
    refine x_R.ite (p := (lg_cmp ((xs 1)).toInt64 0) < (0 : Int32)) (c1 := (17, [(0, .long ((xs 1)).toInt64), (2, .long 0), (4, .long (-1))], [], x_h0, 0, 0)) (c2 := (6, [(0, .long ((xs 1)).toInt64), (2, .long 0), (4, .long (-1))], [], x_h0, 0, 0)) rfl (fun h2 => ?_) (fun h2 => ?_)
    · have g2 := (x_lg_lt (C := 0) (by decide)).mp h2
      refine x_R.steps 1 (c' := (18, [(0, .long ((xs 1)).toInt64), (2, .long 0), (4, .long (-1))], [.int 0], x_h0, 0, 0)) rfl ?_
      refine x_R.ret (v := some (.int 0)) rfl ?_
      refine x_R.steps 0 (c' := (16, [(0, .ref 75), (1, .int (xs 1))], [.int 0], x_h0, 0, 0)) rfl ?_
      refine x_R.ret (v := some (.int 0)) rfl ?_
      refine x_R.steps 0 (c' := (5, [(0, .ref 75), (1, .int (xs 1)), (2, .int (xs 2))], [.int 0], x_h0, 0, 0)) rfl ?_
      refine x_R.steps 1 (c' := (17, [(0, .ref 75), (1, .int (xs 1)), (2, .int (xs 2))], [], x_h0, 0, 0)) rfl ?_
      refine x_R.steps 1 (c' := (19, [(0, .ref 75), (1, .int (xs 1)), (2, .int (xs 2))], [.int (-2)], x_h0, 0, 0)) rfl ?_
      refine x_R.ret (v := some (.int (-2))) rfl ?_
      refine x_R.steps 0 (c' := (837, [(3, .int 0), (2, .ref 75), (1, .ref 0), (0, .ref x_scr)], [.int (-2), .int (-2)], x_h0, 98, 10728)) rfl ?_
      refine x_R.steps 1 (c' := (2370, [(3, .int 0), (2, .ref 75), (1, .ref 0), (0, .ref x_scr)], [], x_h0, 98, 10728)) rfl ?_
      refine x_R.steps 7 (c' := (24, [(3, .int 6), (2, .ref 75), (1, .ref 0), (0, .ref x_scr)], [.int 0, .int 6], x_h0, 98, 10728)) rfl ?_
      refine x_R.steps 1 (c' := (2376, [(3, .int 6), (2, .ref 75), (1, .ref 0), (0, .ref x_scr)], [], x_h0, 98, 10728)) rfl ?_
      refine x_R.steps 1 (c' := (2377, [(3, .int 6), (2, .ref 75), (1, .ref 0), (0, .ref x_scr)], [.int 1], x_h0, 98, 10728)) rfl ?_
      exact x_R.ret (v := some (.int 1)) rfl x_fin
    · have g2 := mt (x_lg_lt (C := 0) (by decide)).mpr h2
      refine x_R.steps 3 (c' := (10, [(0, .long ((xs 1)).toInt64), (2, .long 0), (4, .long (-1))], [.int (lg_cmp ((xs 1)).toInt64 (-1))], x_h0, 0, 0)) rfl ?_
      refine x_R.ite (p := (0 : Int32) < (lg_cmp ((xs 1)).toInt64 (-1))) (c1 := (17, [(0, .long ((xs 1)).toInt64), (2, .long 0), (4, .long (-1))], [], x_h0, 0, 0)) (c2 := (13, [(0, .long ((xs 1)).toInt64), (2, .long 0), (4, .long (-1))], [], x_h0, 0, 0)) rfl (fun h3 => ?_) (fun h3 => ?_)
      · have g3 := (x_lg_gt (C := -1) (by decide)).mp h3
        refine x_R.steps 1 (c' := (18, [(0, .long ((xs 1)).toInt64), (2, .long 0), (4, .long (-1))], [.int 0], x_h0, 0, 0)) rfl ?_
        refine x_R.ret (v := some (.int 0)) rfl ?_
        refine x_R.steps 0 (c' := (16, [(0, .ref 75), (1, .int (xs 1))], [.int 0], x_h0, 0, 0)) rfl ?_
        refine x_R.ret (v := some (.int 0)) rfl ?_
        refine x_R.steps 0 (c' := (5, [(0, .ref 75), (1, .int (xs 1)), (2, .int (xs 2))], [.int 0], x_h0, 0, 0)) rfl ?_
        refine x_R.steps 1 (c' := (17, [(0, .ref 75), (1, .int (xs 1)), (2, .int (xs 2))], [], x_h0, 0, 0)) rfl ?_
        refine x_R.steps 1 (c' := (19, [(0, .ref 75), (1, .int (xs 1)), (2, .int (xs 2))], [.int (-2)], x_h0, 0, 0)) rfl ?_
        refine x_R.ret (v := some (.int (-2))) rfl ?_
        refine x_R.steps 0 (c' := (837, [(3, .int 0), (2, .ref 75), (1, .ref 0), (0, .ref x_scr)], [.int (-2), .int (-2)], x_h0, 98, 10728)) rfl ?_
        refine x_R.steps 1 (c' := (2370, [(3, .int 0), (2, .ref 75), (1, .ref 0), (0, .ref x_scr)], [], x_h0, 98, 10728)) rfl ?_
        refine x_R.steps 7 (c' := (24, [(3, .int 6), (2, .ref 75), (1, .ref 0), (0, .ref x_scr)], [.int 0, .int 6], x_h0, 98, 10728)) rfl ?_
        refine x_R.steps 1 (c' := (2376, [(3, .int 6), (2, .ref 75), (1, .ref 0), (0, .ref x_scr)], [], x_h0, 98, 10728)) rfl ?_
        refine x_R.steps 1 (c' := (2377, [(3, .int 6), (2, .ref 75), (1, .ref 0), (0, .ref x_scr)], [.int 1], x_h0, 98, 10728)) rfl ?_
        exact x_R.ret (v := some (.int 1)) rfl x_fin
      · have g3 := mt (x_lg_gt (C := -1) (by decide)).mpr h3
        exfalso; omega
  · have g1 := mt (x_i_lt (C := 0) (by decide)).mpr h1
    refine x_R.steps 3 (c' := (9, [(0, .ref 1), (1, .int (xs 2))], [.int 0, .int (xs 2)], x_h0, 0, 0)) rfl ?_
    refine x_R.ite (p := (0 : Int32) ≤ (xs 2)) (c1 := (16, [(0, .ref 1), (1, .int (xs 2))], [], x_h0, 0, 0)) (c2 := (12, [(0, .ref 1), (1, .int (xs 2))], [], x_h0, 0, 0)) rfl (fun h4 => ?_) (fun h4 => ?_)
    · have g4 := (x_i_ge (C := 0) (by decide)).mp h4
      refine x_R.steps 1 (c' := (17, [(0, .ref 1), (1, .int (xs 2))], [.int 0], x_h0, 0, 0)) rfl ?_
      refine x_R.ret (v := some (.int 0)) rfl ?_
      refine x_R.steps 0 (c' := (8, [(0, .ref 0), (1, .int (xs 1)), (2, .int (xs 2))], [.int 0], x_h0, 0, 0)) rfl ?_
      refine x_R.steps 1 (c' := (19, [(0, .ref 0), (1, .int (xs 1)), (2, .int (xs 2))], [], x_h0, 0, 0)) rfl ?_
      refine x_R.steps 1 (c' := (21, [(0, .ref 0), (1, .int (xs 1)), (2, .int (xs 2))], [.int (-2)], x_h0, 0, 0)) rfl ?_
      refine x_R.ret (v := some (.int (-2))) rfl ?_
      refine x_R.steps 0 (c' := (823, [(3, .int 0), (2, .ref 75), (1, .ref 0), (0, .ref x_scr)], [.int (-2)], x_h0, 98, 10728)) rfl ?_
      refine x_R.steps 5 (c' := (828, [(3, .int 0), (2, .ref 75), (1, .ref 0), (0, .ref x_scr)], [.int 1, .ref x_scr, .ref 75, .int (-2)], x_h0, 98, 10728)) rfl ?_
      refine x_R.steps 1 (c' := (829, [(3, .int 0), (2, .ref 75), (1, .ref 0), (0, .ref x_scr)], [.int (xs 1), .ref 75, .int (-2)], x_h0, 98, 10728)) rfl ?_
      refine x_R.steps 4 (c' := (833, [(3, .int 0), (2, .ref 75), (1, .ref 0), (0, .ref x_scr)], [.int 2, .ref x_scr, .int (xs 1), .ref 75, .int (-2)], x_h0, 98, 10728)) rfl ?_
      refine x_R.steps 1 (c' := (834, [(3, .int 0), (2, .ref 75), (1, .ref 0), (0, .ref x_scr)], [.int (xs 2), .int (xs 1), .ref 75, .int (-2)], x_h0, 98, 10728)) rfl ?_
      refine x_R.call (a := 263) (vs := [.ref 75, .int (xs 1), .int (xs 2)]) (rest := [.int (-2)]) (M' := M_cX12_where) rfl rfl rfl ?_
      refine x_R.steps 2 (c' := (2, [(0, .ref 75), (1, .int (xs 1)), (2, .int (xs 2))], [.int (xs 1), .ref 75], x_h0, 0, 0)) rfl ?_
      refine x_R.call (a := 205) (vs := [.ref 75, .int (xs 1)]) (rest := []) (M' := M_cX12_isPlayer) rfl rfl rfl ?_
      refine x_R.steps 6 (c' := (9, [(0, .ref 75), (1, .int (xs 1))], [.int 6, .ref 76, .long 0, .long ((xs 1)).toInt64], x_h0, 0, 0)) rfl ?_
      refine x_R.steps 1 (c' := (10, [(0, .ref 75), (1, .int (xs 1))], [.int 0, .long 0, .long ((xs 1)).toInt64], x_h0, 0, 0)) rfl ?_
      refine x_R.steps 3 (c' := (13, [(0, .ref 75), (1, .int (xs 1))], [.long (-1), .long 0, .long ((xs 1)).toInt64], x_h0, 0, 0)) rfl ?_
      refine x_R.call (a := 196) (vs := [.long ((xs 1)).toInt64, .long 0, .long (-1)]) (rest := []) (M' := M_cX12_in) rfl rfl rfl ?_
      refine x_R.steps 3 (c' := (3, [(0, .long ((xs 1)).toInt64), (2, .long 0), (4, .long (-1))], [.int (lg_cmp ((xs 1)).toInt64 0)], x_h0, 0, 0)) rfl ?_
      refine x_R.ite (p := (lg_cmp ((xs 1)).toInt64 0) < (0 : Int32)) (c1 := (17, [(0, .long ((xs 1)).toInt64), (2, .long 0), (4, .long (-1))], [], x_h0, 0, 0)) (c2 := (6, [(0, .long ((xs 1)).toInt64), (2, .long 0), (4, .long (-1))], [], x_h0, 0, 0)) rfl (fun h5 => ?_) (fun h5 => ?_)
      · have g5 := (x_lg_lt (C := 0) (by decide)).mp h5
        refine x_R.steps 1 (c' := (18, [(0, .long ((xs 1)).toInt64), (2, .long 0), (4, .long (-1))], [.int 0], x_h0, 0, 0)) rfl ?_
        refine x_R.ret (v := some (.int 0)) rfl ?_
        refine x_R.steps 0 (c' := (16, [(0, .ref 75), (1, .int (xs 1))], [.int 0], x_h0, 0, 0)) rfl ?_
        refine x_R.ret (v := some (.int 0)) rfl ?_
        refine x_R.steps 0 (c' := (5, [(0, .ref 75), (1, .int (xs 1)), (2, .int (xs 2))], [.int 0], x_h0, 0, 0)) rfl ?_
        refine x_R.steps 1 (c' := (17, [(0, .ref 75), (1, .int (xs 1)), (2, .int (xs 2))], [], x_h0, 0, 0)) rfl ?_
        refine x_R.steps 1 (c' := (19, [(0, .ref 75), (1, .int (xs 1)), (2, .int (xs 2))], [.int (-2)], x_h0, 0, 0)) rfl ?_
        refine x_R.ret (v := some (.int (-2))) rfl ?_
        refine x_R.steps 0 (c' := (837, [(3, .int 0), (2, .ref 75), (1, .ref 0), (0, .ref x_scr)], [.int (-2), .int (-2)], x_h0, 98, 10728)) rfl ?_
        refine x_R.steps 1 (c' := (2370, [(3, .int 0), (2, .ref 75), (1, .ref 0), (0, .ref x_scr)], [], x_h0, 98, 10728)) rfl ?_
        refine x_R.steps 7 (c' := (24, [(3, .int 6), (2, .ref 75), (1, .ref 0), (0, .ref x_scr)], [.int 0, .int 6], x_h0, 98, 10728)) rfl ?_
        refine x_R.steps 1 (c' := (2376, [(3, .int 6), (2, .ref 75), (1, .ref 0), (0, .ref x_scr)], [], x_h0, 98, 10728)) rfl ?_
        refine x_R.steps 1 (c' := (2377, [(3, .int 6), (2, .ref 75), (1, .ref 0), (0, .ref x_scr)], [.int 1], x_h0, 98, 10728)) rfl ?_
        exact x_R.ret (v := some (.int 1)) rfl x_fin
      · have g5 := mt (x_lg_lt (C := 0) (by decide)).mpr h5
        refine x_R.steps 3 (c' := (10, [(0, .long ((xs 1)).toInt64), (2, .long 0), (4, .long (-1))], [.int (lg_cmp ((xs 1)).toInt64 (-1))], x_h0, 0, 0)) rfl ?_
        refine x_R.ite (p := (0 : Int32) < (lg_cmp ((xs 1)).toInt64 (-1))) (c1 := (17, [(0, .long ((xs 1)).toInt64), (2, .long 0), (4, .long (-1))], [], x_h0, 0, 0)) (c2 := (13, [(0, .long ((xs 1)).toInt64), (2, .long 0), (4, .long (-1))], [], x_h0, 0, 0)) rfl (fun h6 => ?_) (fun h6 => ?_)
        · have g6 := (x_lg_gt (C := -1) (by decide)).mp h6
          refine x_R.steps 1 (c' := (18, [(0, .long ((xs 1)).toInt64), (2, .long 0), (4, .long (-1))], [.int 0], x_h0, 0, 0)) rfl ?_
          refine x_R.ret (v := some (.int 0)) rfl ?_
          refine x_R.steps 0 (c' := (16, [(0, .ref 75), (1, .int (xs 1))], [.int 0], x_h0, 0, 0)) rfl ?_
          refine x_R.ret (v := some (.int 0)) rfl ?_
          refine x_R.steps 0 (c' := (5, [(0, .ref 75), (1, .int (xs 1)), (2, .int (xs 2))], [.int 0], x_h0, 0, 0)) rfl ?_
          refine x_R.steps 1 (c' := (17, [(0, .ref 75), (1, .int (xs 1)), (2, .int (xs 2))], [], x_h0, 0, 0)) rfl ?_
          refine x_R.steps 1 (c' := (19, [(0, .ref 75), (1, .int (xs 1)), (2, .int (xs 2))], [.int (-2)], x_h0, 0, 0)) rfl ?_
          refine x_R.ret (v := some (.int (-2))) rfl ?_
          refine x_R.steps 0 (c' := (837, [(3, .int 0), (2, .ref 75), (1, .ref 0), (0, .ref x_scr)], [.int (-2), .int (-2)], x_h0, 98, 10728)) rfl ?_
          refine x_R.steps 1 (c' := (2370, [(3, .int 0), (2, .ref 75), (1, .ref 0), (0, .ref x_scr)], [], x_h0, 98, 10728)) rfl ?_
          refine x_R.steps 7 (c' := (24, [(3, .int 6), (2, .ref 75), (1, .ref 0), (0, .ref x_scr)], [.int 0, .int 6], x_h0, 98, 10728)) rfl ?_
          refine x_R.steps 1 (c' := (2376, [(3, .int 6), (2, .ref 75), (1, .ref 0), (0, .ref x_scr)], [], x_h0, 98, 10728)) rfl ?_
          refine x_R.steps 1 (c' := (2377, [(3, .int 6), (2, .ref 75), (1, .ref 0), (0, .ref x_scr)], [.int 1], x_h0, 98, 10728)) rfl ?_
          exact x_R.ret (v := some (.int 1)) rfl x_fin
        · have g6 := mt (x_lg_gt (C := -1) (by decide)).mpr h6
          exfalso; omega
    · have g4 := mt (x_i_ge (C := 0) (by decide)).mpr h4
      exfalso; omega
set_option maxRecDepth 100000 in
set_option maxHeartbeats 4000000 in
theorem x_c18_0 (xs : Nat → Int32)  : x_R x_mt (some (6, xs)) 13 M_law (842, [(3, .int 0), (2, .ref 75), (1, .ref 0), (0, .ref x_scr)], [], x_h0, 98, 10728) x_P := by
  refine x_R.steps 5 (c' := (847, [(3, .int 0), (2, .ref 75), (1, .ref 0), (0, .ref x_scr)], [.int 1, .ref x_scr, .ref 0], x_h0, 98, 10728)) rfl ?_
  refine x_R.steps 1 (c' := (848, [(3, .int 0), (2, .ref 75), (1, .ref 0), (0, .ref x_scr)], [.int (xs 1), .ref 0], x_h0, 98, 10728)) rfl ?_
  refine x_R.call (a := 131) (vs := [.ref 0, .int (xs 1)]) (rest := []) (M' := M_cX11_missed) rfl rfl rfl ?_
  refine x_R.steps 2 (c' := (2, [(0, .ref 0), (1, .int (xs 1))], [.int (xs 1), .ref 0], x_h0, 0, 0)) rfl ?_
  refine x_R.call (a := 187) (vs := [.ref 0, .int (xs 1)]) (rest := []) (M' := M_cX11_runOf) rfl rfl rfl ?_
  refine x_R.steps 2 (c' := (2, [(0, .ref 0), (1, .int (xs 1))], [.int (xs 1), .ref 0], x_h0, 0, 0)) rfl ?_
  refine x_R.call (a := 186) (vs := [.ref 0, .int (xs 1)]) (rest := []) (M' := M_cX11_makeReady) rfl rfl rfl ?_
  refine x_R.steps 3 (c' := (5, [(0, .ref 0), (1, .int (xs 1))], [.int (xs 1), .ref 1], x_h0, 0, 0)) rfl ?_
  refine x_R.call (a := 15) (vs := [.ref 1, .int (xs 1)]) (rest := []) (M' := M_cX2_isPlayer) rfl rfl rfl ?_
  refine x_R.steps 1 (c' := (1, [(0, .ref 1), (1, .int (xs 1))], [.int (xs 1)], x_h0, 0, 0)) rfl ?_
  refine x_R.ite (p := (xs 1) < (0 : Int32)) (c1 := (16, [(0, .ref 1), (1, .int (xs 1))], [], x_h0, 0, 0)) (c2 := (4, [(0, .ref 1), (1, .int (xs 1))], [], x_h0, 0, 0)) rfl (fun h1 => ?_) (fun h1 => ?_)
  · have g1 := (x_i_lt (C := 0) (by decide)).mp h1
    refine x_R.steps 1 (c' := (17, [(0, .ref 1), (1, .int (xs 1))], [.int 0], x_h0, 0, 0)) rfl ?_
    refine x_R.ret (v := some (.int 0)) rfl ?_
    refine x_R.steps 0 (c' := (8, [(0, .ref 0), (1, .int (xs 1))], [.int 0], x_h0, 0, 0)) rfl ?_
    refine x_R.steps 1 (c' := (11, [(0, .ref 0), (1, .int (xs 1))], [], x_h0, 0, 0)) rfl ?_
    refine x_R.steps 1 (c' := (12, [(0, .ref 0), (1, .int (xs 1))], [.int 0], x_h0, 0, 0)) rfl ?_
    refine x_R.ret (v := some (.int 0)) rfl ?_
    refine x_R.steps 0 (c' := (5, [(0, .ref 0), (1, .int (xs 1))], [.int 0], x_h0, 0, 0)) rfl ?_
    refine x_R.steps 1 (c' := (8, [(0, .ref 0), (1, .int (xs 1))], [], x_h0, 0, 0)) rfl ?_
    refine x_R.steps 1 (c' := (9, [(0, .ref 0), (1, .int (xs 1))], [.int 0], x_h0, 0, 0)) rfl ?_
    refine x_R.ret (v := some (.int 0)) rfl ?_
    refine x_R.steps 0 (c' := (5, [(0, .ref 0), (1, .int (xs 1))], [.int 0], x_h0, 0, 0)) rfl ?_
    refine x_R.steps 1 (c' := (22, [(0, .ref 0), (1, .int (xs 1))], [], x_h0, 0, 0)) rfl ?_
    refine x_R.steps 1 (c' := (24, [(0, .ref 0), (1, .int (xs 1))], [.int (-2)], x_h0, 0, 0)) rfl ?_
    refine x_R.ret (v := some (.int (-2))) rfl ?_
    refine x_R.steps 0 (c' := (851, [(3, .int 0), (2, .ref 75), (1, .ref 0), (0, .ref x_scr)], [.int (-2)], x_h0, 98, 10728)) rfl ?_
    refine x_R.steps 5 (c' := (856, [(3, .int 0), (2, .ref 75), (1, .ref 0), (0, .ref x_scr)], [.int 1, .ref x_scr, .ref 75, .int (-2)], x_h0, 98, 10728)) rfl ?_
    refine x_R.steps 1 (c' := (857, [(3, .int 0), (2, .ref 75), (1, .ref 0), (0, .ref x_scr)], [.int (xs 1), .ref 75, .int (-2)], x_h0, 98, 10728)) rfl ?_
    refine x_R.call (a := 264) (vs := [.ref 75, .int (xs 1)]) (rest := [.int (-2)]) (M' := M_cX12_missed) rfl rfl rfl ?_
    refine x_R.steps 2 (c' := (2, [(0, .ref 75), (1, .int (xs 1))], [.int (xs 1), .ref 75], x_h0, 0, 0)) rfl ?_
    refine x_R.call (a := 205) (vs := [.ref 75, .int (xs 1)]) (rest := []) (M' := M_cX12_isPlayer) rfl rfl rfl ?_
    refine x_R.steps 6 (c' := (9, [(0, .ref 75), (1, .int (xs 1))], [.int 6, .ref 76, .long 0, .long ((xs 1)).toInt64], x_h0, 0, 0)) rfl ?_
    refine x_R.steps 1 (c' := (10, [(0, .ref 75), (1, .int (xs 1))], [.int 0, .long 0, .long ((xs 1)).toInt64], x_h0, 0, 0)) rfl ?_
    refine x_R.steps 3 (c' := (13, [(0, .ref 75), (1, .int (xs 1))], [.long (-1), .long 0, .long ((xs 1)).toInt64], x_h0, 0, 0)) rfl ?_
    refine x_R.call (a := 196) (vs := [.long ((xs 1)).toInt64, .long 0, .long (-1)]) (rest := []) (M' := M_cX12_in) rfl rfl rfl ?_
    refine x_R.steps 3 (c' := (3, [(0, .long ((xs 1)).toInt64), (2, .long 0), (4, .long (-1))], [.int (lg_cmp ((xs 1)).toInt64 0)], x_h0, 0, 0)) rfl ?_
    refine x_R.ite (p := (lg_cmp ((xs 1)).toInt64 0) < (0 : Int32)) (c1 := (17, [(0, .long ((xs 1)).toInt64), (2, .long 0), (4, .long (-1))], [], x_h0, 0, 0)) (c2 := (6, [(0, .long ((xs 1)).toInt64), (2, .long 0), (4, .long (-1))], [], x_h0, 0, 0)) rfl (fun h2 => ?_) (fun h2 => ?_)
    · have g2 := (x_lg_lt (C := 0) (by decide)).mp h2
      refine x_R.steps 1 (c' := (18, [(0, .long ((xs 1)).toInt64), (2, .long 0), (4, .long (-1))], [.int 0], x_h0, 0, 0)) rfl ?_
      refine x_R.ret (v := some (.int 0)) rfl ?_
      refine x_R.steps 0 (c' := (16, [(0, .ref 75), (1, .int (xs 1))], [.int 0], x_h0, 0, 0)) rfl ?_
      refine x_R.ret (v := some (.int 0)) rfl ?_
      refine x_R.steps 0 (c' := (5, [(0, .ref 75), (1, .int (xs 1))], [.int 0], x_h0, 0, 0)) rfl ?_
      refine x_R.steps 1 (c' := (8, [(0, .ref 75), (1, .int (xs 1))], [], x_h0, 0, 0)) rfl ?_
      refine x_R.steps 1 (c' := (10, [(0, .ref 75), (1, .int (xs 1))], [.int (-2)], x_h0, 0, 0)) rfl ?_
      refine x_R.ret (v := some (.int (-2))) rfl ?_
      refine x_R.steps 0 (c' := (860, [(3, .int 0), (2, .ref 75), (1, .ref 0), (0, .ref x_scr)], [.int (-2), .int (-2)], x_h0, 98, 10728)) rfl ?_
      refine x_R.steps 1 (c' := (2370, [(3, .int 0), (2, .ref 75), (1, .ref 0), (0, .ref x_scr)], [], x_h0, 98, 10728)) rfl ?_
      refine x_R.steps 7 (c' := (24, [(3, .int 6), (2, .ref 75), (1, .ref 0), (0, .ref x_scr)], [.int 0, .int 6], x_h0, 98, 10728)) rfl ?_
      refine x_R.steps 1 (c' := (2376, [(3, .int 6), (2, .ref 75), (1, .ref 0), (0, .ref x_scr)], [], x_h0, 98, 10728)) rfl ?_
      refine x_R.steps 1 (c' := (2377, [(3, .int 6), (2, .ref 75), (1, .ref 0), (0, .ref x_scr)], [.int 1], x_h0, 98, 10728)) rfl ?_
      exact x_R.ret (v := some (.int 1)) rfl x_fin
    · have g2 := mt (x_lg_lt (C := 0) (by decide)).mpr h2
      exfalso; omega
  · have g1 := mt (x_i_lt (C := 0) (by decide)).mpr h1
    refine x_R.steps 3 (c' := (9, [(0, .ref 1), (1, .int (xs 1))], [.int 0, .int (xs 1)], x_h0, 0, 0)) rfl ?_
    refine x_R.ite (p := (0 : Int32) ≤ (xs 1)) (c1 := (16, [(0, .ref 1), (1, .int (xs 1))], [], x_h0, 0, 0)) (c2 := (12, [(0, .ref 1), (1, .int (xs 1))], [], x_h0, 0, 0)) rfl (fun h3 => ?_) (fun h3 => ?_)
    · have g3 := (x_i_ge (C := 0) (by decide)).mp h3
      refine x_R.steps 1 (c' := (17, [(0, .ref 1), (1, .int (xs 1))], [.int 0], x_h0, 0, 0)) rfl ?_
      refine x_R.ret (v := some (.int 0)) rfl ?_
      refine x_R.steps 0 (c' := (8, [(0, .ref 0), (1, .int (xs 1))], [.int 0], x_h0, 0, 0)) rfl ?_
      refine x_R.steps 1 (c' := (11, [(0, .ref 0), (1, .int (xs 1))], [], x_h0, 0, 0)) rfl ?_
      refine x_R.steps 1 (c' := (12, [(0, .ref 0), (1, .int (xs 1))], [.int 0], x_h0, 0, 0)) rfl ?_
      refine x_R.ret (v := some (.int 0)) rfl ?_
      refine x_R.steps 0 (c' := (5, [(0, .ref 0), (1, .int (xs 1))], [.int 0], x_h0, 0, 0)) rfl ?_
      refine x_R.steps 1 (c' := (8, [(0, .ref 0), (1, .int (xs 1))], [], x_h0, 0, 0)) rfl ?_
      refine x_R.steps 1 (c' := (9, [(0, .ref 0), (1, .int (xs 1))], [.int 0], x_h0, 0, 0)) rfl ?_
      refine x_R.ret (v := some (.int 0)) rfl ?_
      refine x_R.steps 0 (c' := (5, [(0, .ref 0), (1, .int (xs 1))], [.int 0], x_h0, 0, 0)) rfl ?_
      refine x_R.steps 1 (c' := (22, [(0, .ref 0), (1, .int (xs 1))], [], x_h0, 0, 0)) rfl ?_
      refine x_R.steps 1 (c' := (24, [(0, .ref 0), (1, .int (xs 1))], [.int (-2)], x_h0, 0, 0)) rfl ?_
      refine x_R.ret (v := some (.int (-2))) rfl ?_
      refine x_R.steps 0 (c' := (851, [(3, .int 0), (2, .ref 75), (1, .ref 0), (0, .ref x_scr)], [.int (-2)], x_h0, 98, 10728)) rfl ?_
      refine x_R.steps 5 (c' := (856, [(3, .int 0), (2, .ref 75), (1, .ref 0), (0, .ref x_scr)], [.int 1, .ref x_scr, .ref 75, .int (-2)], x_h0, 98, 10728)) rfl ?_
      refine x_R.steps 1 (c' := (857, [(3, .int 0), (2, .ref 75), (1, .ref 0), (0, .ref x_scr)], [.int (xs 1), .ref 75, .int (-2)], x_h0, 98, 10728)) rfl ?_
      refine x_R.call (a := 264) (vs := [.ref 75, .int (xs 1)]) (rest := [.int (-2)]) (M' := M_cX12_missed) rfl rfl rfl ?_
      refine x_R.steps 2 (c' := (2, [(0, .ref 75), (1, .int (xs 1))], [.int (xs 1), .ref 75], x_h0, 0, 0)) rfl ?_
      refine x_R.call (a := 205) (vs := [.ref 75, .int (xs 1)]) (rest := []) (M' := M_cX12_isPlayer) rfl rfl rfl ?_
      refine x_R.steps 6 (c' := (9, [(0, .ref 75), (1, .int (xs 1))], [.int 6, .ref 76, .long 0, .long ((xs 1)).toInt64], x_h0, 0, 0)) rfl ?_
      refine x_R.steps 1 (c' := (10, [(0, .ref 75), (1, .int (xs 1))], [.int 0, .long 0, .long ((xs 1)).toInt64], x_h0, 0, 0)) rfl ?_
      refine x_R.steps 3 (c' := (13, [(0, .ref 75), (1, .int (xs 1))], [.long (-1), .long 0, .long ((xs 1)).toInt64], x_h0, 0, 0)) rfl ?_
      refine x_R.call (a := 196) (vs := [.long ((xs 1)).toInt64, .long 0, .long (-1)]) (rest := []) (M' := M_cX12_in) rfl rfl rfl ?_
      refine x_R.steps 3 (c' := (3, [(0, .long ((xs 1)).toInt64), (2, .long 0), (4, .long (-1))], [.int (lg_cmp ((xs 1)).toInt64 0)], x_h0, 0, 0)) rfl ?_
      refine x_R.ite (p := (lg_cmp ((xs 1)).toInt64 0) < (0 : Int32)) (c1 := (17, [(0, .long ((xs 1)).toInt64), (2, .long 0), (4, .long (-1))], [], x_h0, 0, 0)) (c2 := (6, [(0, .long ((xs 1)).toInt64), (2, .long 0), (4, .long (-1))], [], x_h0, 0, 0)) rfl (fun h4 => ?_) (fun h4 => ?_)
      · have g4 := (x_lg_lt (C := 0) (by decide)).mp h4
        exfalso; omega
      · have g4 := mt (x_lg_lt (C := 0) (by decide)).mpr h4
        refine x_R.steps 3 (c' := (10, [(0, .long ((xs 1)).toInt64), (2, .long 0), (4, .long (-1))], [.int (lg_cmp ((xs 1)).toInt64 (-1))], x_h0, 0, 0)) rfl ?_
        refine x_R.ite (p := (0 : Int32) < (lg_cmp ((xs 1)).toInt64 (-1))) (c1 := (17, [(0, .long ((xs 1)).toInt64), (2, .long 0), (4, .long (-1))], [], x_h0, 0, 0)) (c2 := (13, [(0, .long ((xs 1)).toInt64), (2, .long 0), (4, .long (-1))], [], x_h0, 0, 0)) rfl (fun h5 => ?_) (fun h5 => ?_)
        · have g5 := (x_lg_gt (C := -1) (by decide)).mp h5
          refine x_R.steps 1 (c' := (18, [(0, .long ((xs 1)).toInt64), (2, .long 0), (4, .long (-1))], [.int 0], x_h0, 0, 0)) rfl ?_
          refine x_R.ret (v := some (.int 0)) rfl ?_
          refine x_R.steps 0 (c' := (16, [(0, .ref 75), (1, .int (xs 1))], [.int 0], x_h0, 0, 0)) rfl ?_
          refine x_R.ret (v := some (.int 0)) rfl ?_
          refine x_R.steps 0 (c' := (5, [(0, .ref 75), (1, .int (xs 1))], [.int 0], x_h0, 0, 0)) rfl ?_
          refine x_R.steps 1 (c' := (8, [(0, .ref 75), (1, .int (xs 1))], [], x_h0, 0, 0)) rfl ?_
          refine x_R.steps 1 (c' := (10, [(0, .ref 75), (1, .int (xs 1))], [.int (-2)], x_h0, 0, 0)) rfl ?_
          refine x_R.ret (v := some (.int (-2))) rfl ?_
          refine x_R.steps 0 (c' := (860, [(3, .int 0), (2, .ref 75), (1, .ref 0), (0, .ref x_scr)], [.int (-2), .int (-2)], x_h0, 98, 10728)) rfl ?_
          refine x_R.steps 1 (c' := (2370, [(3, .int 0), (2, .ref 75), (1, .ref 0), (0, .ref x_scr)], [], x_h0, 98, 10728)) rfl ?_
          refine x_R.steps 7 (c' := (24, [(3, .int 6), (2, .ref 75), (1, .ref 0), (0, .ref x_scr)], [.int 0, .int 6], x_h0, 98, 10728)) rfl ?_
          refine x_R.steps 1 (c' := (2376, [(3, .int 6), (2, .ref 75), (1, .ref 0), (0, .ref x_scr)], [], x_h0, 98, 10728)) rfl ?_
          refine x_R.steps 1 (c' := (2377, [(3, .int 6), (2, .ref 75), (1, .ref 0), (0, .ref x_scr)], [.int 1], x_h0, 98, 10728)) rfl ?_
          exact x_R.ret (v := some (.int 1)) rfl x_fin
        · have g5 := mt (x_lg_gt (C := -1) (by decide)).mpr h5
          exfalso; omega
    · have g3 := mt (x_i_ge (C := 0) (by decide)).mpr h3
      exfalso; omega
set_option maxRecDepth 100000 in
set_option maxHeartbeats 4000000 in
theorem x_c19_0 (xs : Nat → Int32)  : x_R x_mt (some (6, xs)) 13 M_law (865, [(3, .int 0), (2, .ref 75), (1, .ref 0), (0, .ref x_scr)], [], x_h0, 98, 10728) x_P := by
  refine x_R.steps 5 (c' := (870, [(3, .int 0), (2, .ref 75), (1, .ref 0), (0, .ref x_scr)], [.int 1, .ref x_scr, .ref 0], x_h0, 98, 10728)) rfl ?_
  refine x_R.steps 1 (c' := (871, [(3, .int 0), (2, .ref 75), (1, .ref 0), (0, .ref x_scr)], [.int (xs 1), .ref 0], x_h0, 98, 10728)) rfl ?_
  refine x_R.call (a := 132) (vs := [.ref 0, .int (xs 1)]) (rest := []) (M' := M_cX11_walked) rfl rfl rfl ?_
  refine x_R.steps 2 (c' := (2, [(0, .ref 0), (1, .int (xs 1))], [.int (xs 1), .ref 0], x_h0, 0, 0)) rfl ?_
  refine x_R.call (a := 187) (vs := [.ref 0, .int (xs 1)]) (rest := []) (M' := M_cX11_runOf) rfl rfl rfl ?_
  refine x_R.steps 2 (c' := (2, [(0, .ref 0), (1, .int (xs 1))], [.int (xs 1), .ref 0], x_h0, 0, 0)) rfl ?_
  refine x_R.call (a := 186) (vs := [.ref 0, .int (xs 1)]) (rest := []) (M' := M_cX11_makeReady) rfl rfl rfl ?_
  refine x_R.steps 3 (c' := (5, [(0, .ref 0), (1, .int (xs 1))], [.int (xs 1), .ref 1], x_h0, 0, 0)) rfl ?_
  refine x_R.call (a := 15) (vs := [.ref 1, .int (xs 1)]) (rest := []) (M' := M_cX2_isPlayer) rfl rfl rfl ?_
  refine x_R.steps 1 (c' := (1, [(0, .ref 1), (1, .int (xs 1))], [.int (xs 1)], x_h0, 0, 0)) rfl ?_
  refine x_R.ite (p := (xs 1) < (0 : Int32)) (c1 := (16, [(0, .ref 1), (1, .int (xs 1))], [], x_h0, 0, 0)) (c2 := (4, [(0, .ref 1), (1, .int (xs 1))], [], x_h0, 0, 0)) rfl (fun h1 => ?_) (fun h1 => ?_)
  · have g1 := (x_i_lt (C := 0) (by decide)).mp h1
    refine x_R.steps 1 (c' := (17, [(0, .ref 1), (1, .int (xs 1))], [.int 0], x_h0, 0, 0)) rfl ?_
    refine x_R.ret (v := some (.int 0)) rfl ?_
    refine x_R.steps 0 (c' := (8, [(0, .ref 0), (1, .int (xs 1))], [.int 0], x_h0, 0, 0)) rfl ?_
    refine x_R.steps 1 (c' := (11, [(0, .ref 0), (1, .int (xs 1))], [], x_h0, 0, 0)) rfl ?_
    refine x_R.steps 1 (c' := (12, [(0, .ref 0), (1, .int (xs 1))], [.int 0], x_h0, 0, 0)) rfl ?_
    refine x_R.ret (v := some (.int 0)) rfl ?_
    refine x_R.steps 0 (c' := (5, [(0, .ref 0), (1, .int (xs 1))], [.int 0], x_h0, 0, 0)) rfl ?_
    refine x_R.steps 1 (c' := (8, [(0, .ref 0), (1, .int (xs 1))], [], x_h0, 0, 0)) rfl ?_
    refine x_R.steps 1 (c' := (9, [(0, .ref 0), (1, .int (xs 1))], [.int 0], x_h0, 0, 0)) rfl ?_
    refine x_R.ret (v := some (.int 0)) rfl ?_
    refine x_R.steps 0 (c' := (5, [(0, .ref 0), (1, .int (xs 1))], [.int 0], x_h0, 0, 0)) rfl ?_
    refine x_R.steps 1 (c' := (18, [(0, .ref 0), (1, .int (xs 1))], [], x_h0, 0, 0)) rfl ?_
    refine x_R.steps 1 (c' := (20, [(0, .ref 0), (1, .int (xs 1))], [.int (-2)], x_h0, 0, 0)) rfl ?_
    refine x_R.ret (v := some (.int (-2))) rfl ?_
    refine x_R.steps 0 (c' := (874, [(3, .int 0), (2, .ref 75), (1, .ref 0), (0, .ref x_scr)], [.int (-2)], x_h0, 98, 10728)) rfl ?_
    refine x_R.steps 5 (c' := (879, [(3, .int 0), (2, .ref 75), (1, .ref 0), (0, .ref x_scr)], [.int 1, .ref x_scr, .ref 75, .int (-2)], x_h0, 98, 10728)) rfl ?_
    refine x_R.steps 1 (c' := (880, [(3, .int 0), (2, .ref 75), (1, .ref 0), (0, .ref x_scr)], [.int (xs 1), .ref 75, .int (-2)], x_h0, 98, 10728)) rfl ?_
    refine x_R.call (a := 265) (vs := [.ref 75, .int (xs 1)]) (rest := [.int (-2)]) (M' := M_cX12_walked) rfl rfl rfl ?_
    refine x_R.steps 2 (c' := (2, [(0, .ref 75), (1, .int (xs 1))], [.int (xs 1), .ref 75], x_h0, 0, 0)) rfl ?_
    refine x_R.call (a := 205) (vs := [.ref 75, .int (xs 1)]) (rest := []) (M' := M_cX12_isPlayer) rfl rfl rfl ?_
    refine x_R.steps 6 (c' := (9, [(0, .ref 75), (1, .int (xs 1))], [.int 6, .ref 76, .long 0, .long ((xs 1)).toInt64], x_h0, 0, 0)) rfl ?_
    refine x_R.steps 1 (c' := (10, [(0, .ref 75), (1, .int (xs 1))], [.int 0, .long 0, .long ((xs 1)).toInt64], x_h0, 0, 0)) rfl ?_
    refine x_R.steps 3 (c' := (13, [(0, .ref 75), (1, .int (xs 1))], [.long (-1), .long 0, .long ((xs 1)).toInt64], x_h0, 0, 0)) rfl ?_
    refine x_R.call (a := 196) (vs := [.long ((xs 1)).toInt64, .long 0, .long (-1)]) (rest := []) (M' := M_cX12_in) rfl rfl rfl ?_
    refine x_R.steps 3 (c' := (3, [(0, .long ((xs 1)).toInt64), (2, .long 0), (4, .long (-1))], [.int (lg_cmp ((xs 1)).toInt64 0)], x_h0, 0, 0)) rfl ?_
    refine x_R.ite (p := (lg_cmp ((xs 1)).toInt64 0) < (0 : Int32)) (c1 := (17, [(0, .long ((xs 1)).toInt64), (2, .long 0), (4, .long (-1))], [], x_h0, 0, 0)) (c2 := (6, [(0, .long ((xs 1)).toInt64), (2, .long 0), (4, .long (-1))], [], x_h0, 0, 0)) rfl (fun h2 => ?_) (fun h2 => ?_)
    · have g2 := (x_lg_lt (C := 0) (by decide)).mp h2
      refine x_R.steps 1 (c' := (18, [(0, .long ((xs 1)).toInt64), (2, .long 0), (4, .long (-1))], [.int 0], x_h0, 0, 0)) rfl ?_
      refine x_R.ret (v := some (.int 0)) rfl ?_
      refine x_R.steps 0 (c' := (16, [(0, .ref 75), (1, .int (xs 1))], [.int 0], x_h0, 0, 0)) rfl ?_
      refine x_R.ret (v := some (.int 0)) rfl ?_
      refine x_R.steps 0 (c' := (5, [(0, .ref 75), (1, .int (xs 1))], [.int 0], x_h0, 0, 0)) rfl ?_
      refine x_R.steps 1 (c' := (8, [(0, .ref 75), (1, .int (xs 1))], [], x_h0, 0, 0)) rfl ?_
      refine x_R.steps 1 (c' := (10, [(0, .ref 75), (1, .int (xs 1))], [.int (-2)], x_h0, 0, 0)) rfl ?_
      refine x_R.ret (v := some (.int (-2))) rfl ?_
      refine x_R.steps 0 (c' := (883, [(3, .int 0), (2, .ref 75), (1, .ref 0), (0, .ref x_scr)], [.int (-2), .int (-2)], x_h0, 98, 10728)) rfl ?_
      refine x_R.steps 1 (c' := (2370, [(3, .int 0), (2, .ref 75), (1, .ref 0), (0, .ref x_scr)], [], x_h0, 98, 10728)) rfl ?_
      refine x_R.steps 7 (c' := (24, [(3, .int 6), (2, .ref 75), (1, .ref 0), (0, .ref x_scr)], [.int 0, .int 6], x_h0, 98, 10728)) rfl ?_
      refine x_R.steps 1 (c' := (2376, [(3, .int 6), (2, .ref 75), (1, .ref 0), (0, .ref x_scr)], [], x_h0, 98, 10728)) rfl ?_
      refine x_R.steps 1 (c' := (2377, [(3, .int 6), (2, .ref 75), (1, .ref 0), (0, .ref x_scr)], [.int 1], x_h0, 98, 10728)) rfl ?_
      exact x_R.ret (v := some (.int 1)) rfl x_fin
    · have g2 := mt (x_lg_lt (C := 0) (by decide)).mpr h2
      exfalso; omega
  · have g1 := mt (x_i_lt (C := 0) (by decide)).mpr h1
    refine x_R.steps 3 (c' := (9, [(0, .ref 1), (1, .int (xs 1))], [.int 0, .int (xs 1)], x_h0, 0, 0)) rfl ?_
    refine x_R.ite (p := (0 : Int32) ≤ (xs 1)) (c1 := (16, [(0, .ref 1), (1, .int (xs 1))], [], x_h0, 0, 0)) (c2 := (12, [(0, .ref 1), (1, .int (xs 1))], [], x_h0, 0, 0)) rfl (fun h3 => ?_) (fun h3 => ?_)
    · have g3 := (x_i_ge (C := 0) (by decide)).mp h3
      refine x_R.steps 1 (c' := (17, [(0, .ref 1), (1, .int (xs 1))], [.int 0], x_h0, 0, 0)) rfl ?_
      refine x_R.ret (v := some (.int 0)) rfl ?_
      refine x_R.steps 0 (c' := (8, [(0, .ref 0), (1, .int (xs 1))], [.int 0], x_h0, 0, 0)) rfl ?_
      refine x_R.steps 1 (c' := (11, [(0, .ref 0), (1, .int (xs 1))], [], x_h0, 0, 0)) rfl ?_
      refine x_R.steps 1 (c' := (12, [(0, .ref 0), (1, .int (xs 1))], [.int 0], x_h0, 0, 0)) rfl ?_
      refine x_R.ret (v := some (.int 0)) rfl ?_
      refine x_R.steps 0 (c' := (5, [(0, .ref 0), (1, .int (xs 1))], [.int 0], x_h0, 0, 0)) rfl ?_
      refine x_R.steps 1 (c' := (8, [(0, .ref 0), (1, .int (xs 1))], [], x_h0, 0, 0)) rfl ?_
      refine x_R.steps 1 (c' := (9, [(0, .ref 0), (1, .int (xs 1))], [.int 0], x_h0, 0, 0)) rfl ?_
      refine x_R.ret (v := some (.int 0)) rfl ?_
      refine x_R.steps 0 (c' := (5, [(0, .ref 0), (1, .int (xs 1))], [.int 0], x_h0, 0, 0)) rfl ?_
      refine x_R.steps 1 (c' := (18, [(0, .ref 0), (1, .int (xs 1))], [], x_h0, 0, 0)) rfl ?_
      refine x_R.steps 1 (c' := (20, [(0, .ref 0), (1, .int (xs 1))], [.int (-2)], x_h0, 0, 0)) rfl ?_
      refine x_R.ret (v := some (.int (-2))) rfl ?_
      refine x_R.steps 0 (c' := (874, [(3, .int 0), (2, .ref 75), (1, .ref 0), (0, .ref x_scr)], [.int (-2)], x_h0, 98, 10728)) rfl ?_
      refine x_R.steps 5 (c' := (879, [(3, .int 0), (2, .ref 75), (1, .ref 0), (0, .ref x_scr)], [.int 1, .ref x_scr, .ref 75, .int (-2)], x_h0, 98, 10728)) rfl ?_
      refine x_R.steps 1 (c' := (880, [(3, .int 0), (2, .ref 75), (1, .ref 0), (0, .ref x_scr)], [.int (xs 1), .ref 75, .int (-2)], x_h0, 98, 10728)) rfl ?_
      refine x_R.call (a := 265) (vs := [.ref 75, .int (xs 1)]) (rest := [.int (-2)]) (M' := M_cX12_walked) rfl rfl rfl ?_
      refine x_R.steps 2 (c' := (2, [(0, .ref 75), (1, .int (xs 1))], [.int (xs 1), .ref 75], x_h0, 0, 0)) rfl ?_
      refine x_R.call (a := 205) (vs := [.ref 75, .int (xs 1)]) (rest := []) (M' := M_cX12_isPlayer) rfl rfl rfl ?_
      refine x_R.steps 6 (c' := (9, [(0, .ref 75), (1, .int (xs 1))], [.int 6, .ref 76, .long 0, .long ((xs 1)).toInt64], x_h0, 0, 0)) rfl ?_
      refine x_R.steps 1 (c' := (10, [(0, .ref 75), (1, .int (xs 1))], [.int 0, .long 0, .long ((xs 1)).toInt64], x_h0, 0, 0)) rfl ?_
      refine x_R.steps 3 (c' := (13, [(0, .ref 75), (1, .int (xs 1))], [.long (-1), .long 0, .long ((xs 1)).toInt64], x_h0, 0, 0)) rfl ?_
      refine x_R.call (a := 196) (vs := [.long ((xs 1)).toInt64, .long 0, .long (-1)]) (rest := []) (M' := M_cX12_in) rfl rfl rfl ?_
      refine x_R.steps 3 (c' := (3, [(0, .long ((xs 1)).toInt64), (2, .long 0), (4, .long (-1))], [.int (lg_cmp ((xs 1)).toInt64 0)], x_h0, 0, 0)) rfl ?_
      refine x_R.ite (p := (lg_cmp ((xs 1)).toInt64 0) < (0 : Int32)) (c1 := (17, [(0, .long ((xs 1)).toInt64), (2, .long 0), (4, .long (-1))], [], x_h0, 0, 0)) (c2 := (6, [(0, .long ((xs 1)).toInt64), (2, .long 0), (4, .long (-1))], [], x_h0, 0, 0)) rfl (fun h4 => ?_) (fun h4 => ?_)
      · have g4 := (x_lg_lt (C := 0) (by decide)).mp h4
        exfalso; omega
      · have g4 := mt (x_lg_lt (C := 0) (by decide)).mpr h4
        refine x_R.steps 3 (c' := (10, [(0, .long ((xs 1)).toInt64), (2, .long 0), (4, .long (-1))], [.int (lg_cmp ((xs 1)).toInt64 (-1))], x_h0, 0, 0)) rfl ?_
        refine x_R.ite (p := (0 : Int32) < (lg_cmp ((xs 1)).toInt64 (-1))) (c1 := (17, [(0, .long ((xs 1)).toInt64), (2, .long 0), (4, .long (-1))], [], x_h0, 0, 0)) (c2 := (13, [(0, .long ((xs 1)).toInt64), (2, .long 0), (4, .long (-1))], [], x_h0, 0, 0)) rfl (fun h5 => ?_) (fun h5 => ?_)
        · have g5 := (x_lg_gt (C := -1) (by decide)).mp h5
          refine x_R.steps 1 (c' := (18, [(0, .long ((xs 1)).toInt64), (2, .long 0), (4, .long (-1))], [.int 0], x_h0, 0, 0)) rfl ?_
          refine x_R.ret (v := some (.int 0)) rfl ?_
          refine x_R.steps 0 (c' := (16, [(0, .ref 75), (1, .int (xs 1))], [.int 0], x_h0, 0, 0)) rfl ?_
          refine x_R.ret (v := some (.int 0)) rfl ?_
          refine x_R.steps 0 (c' := (5, [(0, .ref 75), (1, .int (xs 1))], [.int 0], x_h0, 0, 0)) rfl ?_
          refine x_R.steps 1 (c' := (8, [(0, .ref 75), (1, .int (xs 1))], [], x_h0, 0, 0)) rfl ?_
          refine x_R.steps 1 (c' := (10, [(0, .ref 75), (1, .int (xs 1))], [.int (-2)], x_h0, 0, 0)) rfl ?_
          refine x_R.ret (v := some (.int (-2))) rfl ?_
          refine x_R.steps 0 (c' := (883, [(3, .int 0), (2, .ref 75), (1, .ref 0), (0, .ref x_scr)], [.int (-2), .int (-2)], x_h0, 98, 10728)) rfl ?_
          refine x_R.steps 1 (c' := (2370, [(3, .int 0), (2, .ref 75), (1, .ref 0), (0, .ref x_scr)], [], x_h0, 98, 10728)) rfl ?_
          refine x_R.steps 7 (c' := (24, [(3, .int 6), (2, .ref 75), (1, .ref 0), (0, .ref x_scr)], [.int 0, .int 6], x_h0, 98, 10728)) rfl ?_
          refine x_R.steps 1 (c' := (2376, [(3, .int 6), (2, .ref 75), (1, .ref 0), (0, .ref x_scr)], [], x_h0, 98, 10728)) rfl ?_
          refine x_R.steps 1 (c' := (2377, [(3, .int 6), (2, .ref 75), (1, .ref 0), (0, .ref x_scr)], [.int 1], x_h0, 98, 10728)) rfl ?_
          exact x_R.ret (v := some (.int 1)) rfl x_fin
        · have g5 := mt (x_lg_gt (C := -1) (by decide)).mpr h5
          exfalso; omega
    · have g3 := mt (x_i_ge (C := 0) (by decide)).mpr h3
      exfalso; omega
set_option maxRecDepth 100000 in
set_option maxHeartbeats 4000000 in
theorem x_c20_0 (xs : Nat → Int32)  : x_R x_mt (some (6, xs)) 13 M_law (888, [(3, .int 0), (2, .ref 75), (1, .ref 0), (0, .ref x_scr)], [], x_h0, 98, 10728) x_P := by
  refine x_R.steps 5 (c' := (893, [(3, .int 0), (2, .ref 75), (1, .ref 0), (0, .ref x_scr)], [.int 1, .ref x_scr, .ref 0], x_h0, 98, 10728)) rfl ?_
  refine x_R.steps 1 (c' := (894, [(3, .int 0), (2, .ref 75), (1, .ref 0), (0, .ref x_scr)], [.int (xs 1), .ref 0], x_h0, 98, 10728)) rfl ?_
  refine x_R.call (a := 133) (vs := [.ref 0, .int (xs 1)]) (rest := []) (M' := M_cX11_best) rfl rfl rfl ?_
  refine x_R.steps 3 (c' := (4, [(0, .ref 0), (1, .int (xs 1))], [.int 60, .int (xs 1), .ref 0], x_h0, 0, 0)) rfl ?_
  refine x_R.call (a := 134) (vs := [.ref 0, .int (xs 1), .int 60]) (rest := []) (M' := M_cX11_ahead) rfl rfl rfl ?_
  refine x_R.steps 1 (c' := (1, [(0, .ref 0), (1, .int (xs 1)), (2, .int 60)], [.int 60], x_h0, 0, 0)) rfl ?_
  refine x_R.steps 1 (c' := (4, [(0, .ref 0), (1, .int (xs 1)), (2, .int 60)], [], x_h0, 0, 0)) rfl ?_
  refine x_R.steps 2 (c' := (7, [(0, .ref 0), (1, .int (xs 1)), (2, .int 60)], [.int 60, .int 60], x_h0, 0, 0)) rfl ?_
  refine x_R.steps 1 (c' := (10, [(0, .ref 0), (1, .int (xs 1)), (2, .int 60)], [], x_h0, 0, 0)) rfl ?_
  refine x_R.steps 2 (c' := (12, [(0, .ref 0), (1, .int (xs 1)), (2, .int 60)], [.int (xs 1), .ref 0], x_h0, 0, 0)) rfl ?_
  refine x_R.call (a := 186) (vs := [.ref 0, .int (xs 1)]) (rest := []) (M' := M_cX11_makeReady) rfl rfl rfl ?_
  refine x_R.steps 3 (c' := (5, [(0, .ref 0), (1, .int (xs 1))], [.int (xs 1), .ref 1], x_h0, 0, 0)) rfl ?_
  refine x_R.call (a := 15) (vs := [.ref 1, .int (xs 1)]) (rest := []) (M' := M_cX2_isPlayer) rfl rfl rfl ?_
  refine x_R.steps 1 (c' := (1, [(0, .ref 1), (1, .int (xs 1))], [.int (xs 1)], x_h0, 0, 0)) rfl ?_
  refine x_R.ite (p := (xs 1) < (0 : Int32)) (c1 := (16, [(0, .ref 1), (1, .int (xs 1))], [], x_h0, 0, 0)) (c2 := (4, [(0, .ref 1), (1, .int (xs 1))], [], x_h0, 0, 0)) rfl (fun h1 => ?_) (fun h1 => ?_)
  · have g1 := (x_i_lt (C := 0) (by decide)).mp h1
    refine x_R.steps 1 (c' := (17, [(0, .ref 1), (1, .int (xs 1))], [.int 0], x_h0, 0, 0)) rfl ?_
    refine x_R.ret (v := some (.int 0)) rfl ?_
    refine x_R.steps 0 (c' := (8, [(0, .ref 0), (1, .int (xs 1))], [.int 0], x_h0, 0, 0)) rfl ?_
    refine x_R.steps 1 (c' := (11, [(0, .ref 0), (1, .int (xs 1))], [], x_h0, 0, 0)) rfl ?_
    refine x_R.steps 1 (c' := (12, [(0, .ref 0), (1, .int (xs 1))], [.int 0], x_h0, 0, 0)) rfl ?_
    refine x_R.ret (v := some (.int 0)) rfl ?_
    refine x_R.steps 0 (c' := (15, [(0, .ref 0), (1, .int (xs 1)), (2, .int 60)], [.int 0], x_h0, 0, 0)) rfl ?_
    refine x_R.steps 1 (c' := (18, [(0, .ref 0), (1, .int (xs 1)), (2, .int 60)], [], x_h0, 0, 0)) rfl ?_
    refine x_R.steps 1 (c' := (20, [(0, .ref 0), (1, .int (xs 1)), (2, .int 60)], [.int (-2)], x_h0, 0, 0)) rfl ?_
    refine x_R.ret (v := some (.int (-2))) rfl ?_
    refine x_R.steps 0 (c' := (7, [(0, .ref 0), (1, .int (xs 1))], [.int (-2)], x_h0, 0, 0)) rfl ?_
    refine x_R.ret (v := some (.int (-2))) rfl ?_
    refine x_R.steps 0 (c' := (897, [(3, .int 0), (2, .ref 75), (1, .ref 0), (0, .ref x_scr)], [.int (-2)], x_h0, 98, 10728)) rfl ?_
    refine x_R.steps 5 (c' := (902, [(3, .int 0), (2, .ref 75), (1, .ref 0), (0, .ref x_scr)], [.int 1, .ref x_scr, .ref 75, .int (-2)], x_h0, 98, 10728)) rfl ?_
    refine x_R.steps 1 (c' := (903, [(3, .int 0), (2, .ref 75), (1, .ref 0), (0, .ref x_scr)], [.int (xs 1), .ref 75, .int (-2)], x_h0, 98, 10728)) rfl ?_
    refine x_R.call (a := 271) (vs := [.ref 75, .int (xs 1)]) (rest := [.int (-2)]) (M' := M_cX12_best) rfl rfl rfl ?_
    refine x_R.steps 2 (c' := (2, [(0, .ref 75), (1, .int (xs 1))], [.int (xs 1), .ref 75], x_h0, 0, 0)) rfl ?_
    refine x_R.call (a := 205) (vs := [.ref 75, .int (xs 1)]) (rest := []) (M' := M_cX12_isPlayer) rfl rfl rfl ?_
    refine x_R.steps 6 (c' := (9, [(0, .ref 75), (1, .int (xs 1))], [.int 6, .ref 76, .long 0, .long ((xs 1)).toInt64], x_h0, 0, 0)) rfl ?_
    refine x_R.steps 1 (c' := (10, [(0, .ref 75), (1, .int (xs 1))], [.int 0, .long 0, .long ((xs 1)).toInt64], x_h0, 0, 0)) rfl ?_
    refine x_R.steps 3 (c' := (13, [(0, .ref 75), (1, .int (xs 1))], [.long (-1), .long 0, .long ((xs 1)).toInt64], x_h0, 0, 0)) rfl ?_
    refine x_R.call (a := 196) (vs := [.long ((xs 1)).toInt64, .long 0, .long (-1)]) (rest := []) (M' := M_cX12_in) rfl rfl rfl ?_
    refine x_R.steps 3 (c' := (3, [(0, .long ((xs 1)).toInt64), (2, .long 0), (4, .long (-1))], [.int (lg_cmp ((xs 1)).toInt64 0)], x_h0, 0, 0)) rfl ?_
    refine x_R.ite (p := (lg_cmp ((xs 1)).toInt64 0) < (0 : Int32)) (c1 := (17, [(0, .long ((xs 1)).toInt64), (2, .long 0), (4, .long (-1))], [], x_h0, 0, 0)) (c2 := (6, [(0, .long ((xs 1)).toInt64), (2, .long 0), (4, .long (-1))], [], x_h0, 0, 0)) rfl (fun h2 => ?_) (fun h2 => ?_)
    · have g2 := (x_lg_lt (C := 0) (by decide)).mp h2
      refine x_R.steps 1 (c' := (18, [(0, .long ((xs 1)).toInt64), (2, .long 0), (4, .long (-1))], [.int 0], x_h0, 0, 0)) rfl ?_
      refine x_R.ret (v := some (.int 0)) rfl ?_
      refine x_R.steps 0 (c' := (16, [(0, .ref 75), (1, .int (xs 1))], [.int 0], x_h0, 0, 0)) rfl ?_
      refine x_R.ret (v := some (.int 0)) rfl ?_
      refine x_R.steps 0 (c' := (5, [(0, .ref 75), (1, .int (xs 1))], [.int 0], x_h0, 0, 0)) rfl ?_
      refine x_R.steps 1 (c' := (18, [(0, .ref 75), (1, .int (xs 1))], [], x_h0, 0, 0)) rfl ?_
      refine x_R.steps 1 (c' := (20, [(0, .ref 75), (1, .int (xs 1))], [.int (-2)], x_h0, 0, 0)) rfl ?_
      refine x_R.ret (v := some (.int (-2))) rfl ?_
      refine x_R.steps 0 (c' := (906, [(3, .int 0), (2, .ref 75), (1, .ref 0), (0, .ref x_scr)], [.int (-2), .int (-2)], x_h0, 98, 10728)) rfl ?_
      refine x_R.steps 1 (c' := (2370, [(3, .int 0), (2, .ref 75), (1, .ref 0), (0, .ref x_scr)], [], x_h0, 98, 10728)) rfl ?_
      refine x_R.steps 7 (c' := (24, [(3, .int 6), (2, .ref 75), (1, .ref 0), (0, .ref x_scr)], [.int 0, .int 6], x_h0, 98, 10728)) rfl ?_
      refine x_R.steps 1 (c' := (2376, [(3, .int 6), (2, .ref 75), (1, .ref 0), (0, .ref x_scr)], [], x_h0, 98, 10728)) rfl ?_
      refine x_R.steps 1 (c' := (2377, [(3, .int 6), (2, .ref 75), (1, .ref 0), (0, .ref x_scr)], [.int 1], x_h0, 98, 10728)) rfl ?_
      exact x_R.ret (v := some (.int 1)) rfl x_fin
    · have g2 := mt (x_lg_lt (C := 0) (by decide)).mpr h2
      exfalso; omega
  · have g1 := mt (x_i_lt (C := 0) (by decide)).mpr h1
    refine x_R.steps 3 (c' := (9, [(0, .ref 1), (1, .int (xs 1))], [.int 0, .int (xs 1)], x_h0, 0, 0)) rfl ?_
    refine x_R.ite (p := (0 : Int32) ≤ (xs 1)) (c1 := (16, [(0, .ref 1), (1, .int (xs 1))], [], x_h0, 0, 0)) (c2 := (12, [(0, .ref 1), (1, .int (xs 1))], [], x_h0, 0, 0)) rfl (fun h3 => ?_) (fun h3 => ?_)
    · have g3 := (x_i_ge (C := 0) (by decide)).mp h3
      refine x_R.steps 1 (c' := (17, [(0, .ref 1), (1, .int (xs 1))], [.int 0], x_h0, 0, 0)) rfl ?_
      refine x_R.ret (v := some (.int 0)) rfl ?_
      refine x_R.steps 0 (c' := (8, [(0, .ref 0), (1, .int (xs 1))], [.int 0], x_h0, 0, 0)) rfl ?_
      refine x_R.steps 1 (c' := (11, [(0, .ref 0), (1, .int (xs 1))], [], x_h0, 0, 0)) rfl ?_
      refine x_R.steps 1 (c' := (12, [(0, .ref 0), (1, .int (xs 1))], [.int 0], x_h0, 0, 0)) rfl ?_
      refine x_R.ret (v := some (.int 0)) rfl ?_
      refine x_R.steps 0 (c' := (15, [(0, .ref 0), (1, .int (xs 1)), (2, .int 60)], [.int 0], x_h0, 0, 0)) rfl ?_
      refine x_R.steps 1 (c' := (18, [(0, .ref 0), (1, .int (xs 1)), (2, .int 60)], [], x_h0, 0, 0)) rfl ?_
      refine x_R.steps 1 (c' := (20, [(0, .ref 0), (1, .int (xs 1)), (2, .int 60)], [.int (-2)], x_h0, 0, 0)) rfl ?_
      refine x_R.ret (v := some (.int (-2))) rfl ?_
      refine x_R.steps 0 (c' := (7, [(0, .ref 0), (1, .int (xs 1))], [.int (-2)], x_h0, 0, 0)) rfl ?_
      refine x_R.ret (v := some (.int (-2))) rfl ?_
      refine x_R.steps 0 (c' := (897, [(3, .int 0), (2, .ref 75), (1, .ref 0), (0, .ref x_scr)], [.int (-2)], x_h0, 98, 10728)) rfl ?_
      refine x_R.steps 5 (c' := (902, [(3, .int 0), (2, .ref 75), (1, .ref 0), (0, .ref x_scr)], [.int 1, .ref x_scr, .ref 75, .int (-2)], x_h0, 98, 10728)) rfl ?_
      refine x_R.steps 1 (c' := (903, [(3, .int 0), (2, .ref 75), (1, .ref 0), (0, .ref x_scr)], [.int (xs 1), .ref 75, .int (-2)], x_h0, 98, 10728)) rfl ?_
      refine x_R.call (a := 271) (vs := [.ref 75, .int (xs 1)]) (rest := [.int (-2)]) (M' := M_cX12_best) rfl rfl rfl ?_
      refine x_R.steps 2 (c' := (2, [(0, .ref 75), (1, .int (xs 1))], [.int (xs 1), .ref 75], x_h0, 0, 0)) rfl ?_
      refine x_R.call (a := 205) (vs := [.ref 75, .int (xs 1)]) (rest := []) (M' := M_cX12_isPlayer) rfl rfl rfl ?_
      refine x_R.steps 6 (c' := (9, [(0, .ref 75), (1, .int (xs 1))], [.int 6, .ref 76, .long 0, .long ((xs 1)).toInt64], x_h0, 0, 0)) rfl ?_
      refine x_R.steps 1 (c' := (10, [(0, .ref 75), (1, .int (xs 1))], [.int 0, .long 0, .long ((xs 1)).toInt64], x_h0, 0, 0)) rfl ?_
      refine x_R.steps 3 (c' := (13, [(0, .ref 75), (1, .int (xs 1))], [.long (-1), .long 0, .long ((xs 1)).toInt64], x_h0, 0, 0)) rfl ?_
      refine x_R.call (a := 196) (vs := [.long ((xs 1)).toInt64, .long 0, .long (-1)]) (rest := []) (M' := M_cX12_in) rfl rfl rfl ?_
      refine x_R.steps 3 (c' := (3, [(0, .long ((xs 1)).toInt64), (2, .long 0), (4, .long (-1))], [.int (lg_cmp ((xs 1)).toInt64 0)], x_h0, 0, 0)) rfl ?_
      refine x_R.ite (p := (lg_cmp ((xs 1)).toInt64 0) < (0 : Int32)) (c1 := (17, [(0, .long ((xs 1)).toInt64), (2, .long 0), (4, .long (-1))], [], x_h0, 0, 0)) (c2 := (6, [(0, .long ((xs 1)).toInt64), (2, .long 0), (4, .long (-1))], [], x_h0, 0, 0)) rfl (fun h4 => ?_) (fun h4 => ?_)
      · have g4 := (x_lg_lt (C := 0) (by decide)).mp h4
        exfalso; omega
      · have g4 := mt (x_lg_lt (C := 0) (by decide)).mpr h4
        refine x_R.steps 3 (c' := (10, [(0, .long ((xs 1)).toInt64), (2, .long 0), (4, .long (-1))], [.int (lg_cmp ((xs 1)).toInt64 (-1))], x_h0, 0, 0)) rfl ?_
        refine x_R.ite (p := (0 : Int32) < (lg_cmp ((xs 1)).toInt64 (-1))) (c1 := (17, [(0, .long ((xs 1)).toInt64), (2, .long 0), (4, .long (-1))], [], x_h0, 0, 0)) (c2 := (13, [(0, .long ((xs 1)).toInt64), (2, .long 0), (4, .long (-1))], [], x_h0, 0, 0)) rfl (fun h5 => ?_) (fun h5 => ?_)
        · have g5 := (x_lg_gt (C := -1) (by decide)).mp h5
          refine x_R.steps 1 (c' := (18, [(0, .long ((xs 1)).toInt64), (2, .long 0), (4, .long (-1))], [.int 0], x_h0, 0, 0)) rfl ?_
          refine x_R.ret (v := some (.int 0)) rfl ?_
          refine x_R.steps 0 (c' := (16, [(0, .ref 75), (1, .int (xs 1))], [.int 0], x_h0, 0, 0)) rfl ?_
          refine x_R.ret (v := some (.int 0)) rfl ?_
          refine x_R.steps 0 (c' := (5, [(0, .ref 75), (1, .int (xs 1))], [.int 0], x_h0, 0, 0)) rfl ?_
          refine x_R.steps 1 (c' := (18, [(0, .ref 75), (1, .int (xs 1))], [], x_h0, 0, 0)) rfl ?_
          refine x_R.steps 1 (c' := (20, [(0, .ref 75), (1, .int (xs 1))], [.int (-2)], x_h0, 0, 0)) rfl ?_
          refine x_R.ret (v := some (.int (-2))) rfl ?_
          refine x_R.steps 0 (c' := (906, [(3, .int 0), (2, .ref 75), (1, .ref 0), (0, .ref x_scr)], [.int (-2), .int (-2)], x_h0, 98, 10728)) rfl ?_
          refine x_R.steps 1 (c' := (2370, [(3, .int 0), (2, .ref 75), (1, .ref 0), (0, .ref x_scr)], [], x_h0, 98, 10728)) rfl ?_
          refine x_R.steps 7 (c' := (24, [(3, .int 6), (2, .ref 75), (1, .ref 0), (0, .ref x_scr)], [.int 0, .int 6], x_h0, 98, 10728)) rfl ?_
          refine x_R.steps 1 (c' := (2376, [(3, .int 6), (2, .ref 75), (1, .ref 0), (0, .ref x_scr)], [], x_h0, 98, 10728)) rfl ?_
          refine x_R.steps 1 (c' := (2377, [(3, .int 6), (2, .ref 75), (1, .ref 0), (0, .ref x_scr)], [.int 1], x_h0, 98, 10728)) rfl ?_
          exact x_R.ret (v := some (.int 1)) rfl x_fin
        · have g5 := mt (x_lg_gt (C := -1) (by decide)).mpr h5
          exfalso; omega
    · have g3 := mt (x_i_ge (C := 0) (by decide)).mpr h3
      exfalso; omega
set_option maxRecDepth 100000 in
set_option maxHeartbeats 4000000 in
theorem x_c21_0 (xs : Nat → Int32)  : x_R x_mt (some (6, xs)) 13 M_law (911, [(3, .int 0), (2, .ref 75), (1, .ref 0), (0, .ref x_scr)], [], x_h0, 98, 10728) x_P := by
  refine x_R.steps 5 (c' := (916, [(3, .int 0), (2, .ref 75), (1, .ref 0), (0, .ref x_scr)], [.int 1, .ref x_scr, .ref 0], x_h0, 98, 10728)) rfl ?_
  refine x_R.steps 1 (c' := (917, [(3, .int 0), (2, .ref 75), (1, .ref 0), (0, .ref x_scr)], [.int (xs 1), .ref 0], x_h0, 98, 10728)) rfl ?_
  refine x_R.steps 4 (c' := (921, [(3, .int 0), (2, .ref 75), (1, .ref 0), (0, .ref x_scr)], [.int 2, .ref x_scr, .int (xs 1), .ref 0], x_h0, 98, 10728)) rfl ?_
  refine x_R.steps 1 (c' := (922, [(3, .int 0), (2, .ref 75), (1, .ref 0), (0, .ref x_scr)], [.int (xs 2), .int (xs 1), .ref 0], x_h0, 98, 10728)) rfl ?_
  refine x_R.call (a := 134) (vs := [.ref 0, .int (xs 1), .int (xs 2)]) (rest := []) (M' := M_cX11_ahead) rfl rfl rfl ?_
  refine x_R.steps 1 (c' := (1, [(0, .ref 0), (1, .int (xs 1)), (2, .int (xs 2))], [.int (xs 2)], x_h0, 0, 0)) rfl ?_
  refine x_R.ite (p := (xs 2) < (0 : Int32)) (c1 := (18, [(0, .ref 0), (1, .int (xs 1)), (2, .int (xs 2))], [], x_h0, 0, 0)) (c2 := (4, [(0, .ref 0), (1, .int (xs 1)), (2, .int (xs 2))], [], x_h0, 0, 0)) rfl (fun h1 => ?_) (fun h1 => ?_)
  · have g1 := (x_i_lt (C := 0) (by decide)).mp h1
    refine x_R.steps 1 (c' := (20, [(0, .ref 0), (1, .int (xs 1)), (2, .int (xs 2))], [.int (-2)], x_h0, 0, 0)) rfl ?_
    refine x_R.ret (v := some (.int (-2))) rfl ?_
    refine x_R.steps 0 (c' := (925, [(3, .int 0), (2, .ref 75), (1, .ref 0), (0, .ref x_scr)], [.int (-2)], x_h0, 98, 10728)) rfl ?_
    refine x_R.steps 5 (c' := (930, [(3, .int 0), (2, .ref 75), (1, .ref 0), (0, .ref x_scr)], [.int 1, .ref x_scr, .ref 75, .int (-2)], x_h0, 98, 10728)) rfl ?_
    refine x_R.steps 1 (c' := (931, [(3, .int 0), (2, .ref 75), (1, .ref 0), (0, .ref x_scr)], [.int (xs 1), .ref 75, .int (-2)], x_h0, 98, 10728)) rfl ?_
    refine x_R.steps 4 (c' := (935, [(3, .int 0), (2, .ref 75), (1, .ref 0), (0, .ref x_scr)], [.int 2, .ref x_scr, .int (xs 1), .ref 75, .int (-2)], x_h0, 98, 10728)) rfl ?_
    refine x_R.steps 1 (c' := (936, [(3, .int 0), (2, .ref 75), (1, .ref 0), (0, .ref x_scr)], [.int (xs 2), .int (xs 1), .ref 75, .int (-2)], x_h0, 98, 10728)) rfl ?_
    refine x_R.call (a := 272) (vs := [.ref 75, .int (xs 1), .int (xs 2)]) (rest := [.int (-2)]) (M' := M_cX12_ahead) rfl rfl rfl ?_
    refine x_R.steps 2 (c' := (2, [(0, .ref 75), (1, .int (xs 1)), (2, .int (xs 2))], [.int (xs 1), .ref 75], x_h0, 0, 0)) rfl ?_
    refine x_R.call (a := 205) (vs := [.ref 75, .int (xs 1)]) (rest := []) (M' := M_cX12_isPlayer) rfl rfl rfl ?_
    refine x_R.steps 6 (c' := (9, [(0, .ref 75), (1, .int (xs 1))], [.int 6, .ref 76, .long 0, .long ((xs 1)).toInt64], x_h0, 0, 0)) rfl ?_
    refine x_R.steps 1 (c' := (10, [(0, .ref 75), (1, .int (xs 1))], [.int 0, .long 0, .long ((xs 1)).toInt64], x_h0, 0, 0)) rfl ?_
    refine x_R.steps 3 (c' := (13, [(0, .ref 75), (1, .int (xs 1))], [.long (-1), .long 0, .long ((xs 1)).toInt64], x_h0, 0, 0)) rfl ?_
    refine x_R.call (a := 196) (vs := [.long ((xs 1)).toInt64, .long 0, .long (-1)]) (rest := []) (M' := M_cX12_in) rfl rfl rfl ?_
    refine x_R.steps 3 (c' := (3, [(0, .long ((xs 1)).toInt64), (2, .long 0), (4, .long (-1))], [.int (lg_cmp ((xs 1)).toInt64 0)], x_h0, 0, 0)) rfl ?_
    refine x_R.ite (p := (lg_cmp ((xs 1)).toInt64 0) < (0 : Int32)) (c1 := (17, [(0, .long ((xs 1)).toInt64), (2, .long 0), (4, .long (-1))], [], x_h0, 0, 0)) (c2 := (6, [(0, .long ((xs 1)).toInt64), (2, .long 0), (4, .long (-1))], [], x_h0, 0, 0)) rfl (fun h2 => ?_) (fun h2 => ?_)
    · have g2 := (x_lg_lt (C := 0) (by decide)).mp h2
      refine x_R.steps 1 (c' := (18, [(0, .long ((xs 1)).toInt64), (2, .long 0), (4, .long (-1))], [.int 0], x_h0, 0, 0)) rfl ?_
      refine x_R.ret (v := some (.int 0)) rfl ?_
      refine x_R.steps 0 (c' := (16, [(0, .ref 75), (1, .int (xs 1))], [.int 0], x_h0, 0, 0)) rfl ?_
      refine x_R.ret (v := some (.int 0)) rfl ?_
      refine x_R.steps 0 (c' := (5, [(0, .ref 75), (1, .int (xs 1)), (2, .int (xs 2))], [.int 0], x_h0, 0, 0)) rfl ?_
      refine x_R.steps 1 (c' := (29, [(0, .ref 75), (1, .int (xs 1)), (2, .int (xs 2))], [], x_h0, 0, 0)) rfl ?_
      refine x_R.steps 1 (c' := (31, [(0, .ref 75), (1, .int (xs 1)), (2, .int (xs 2))], [.int (-2)], x_h0, 0, 0)) rfl ?_
      refine x_R.ret (v := some (.int (-2))) rfl ?_
      refine x_R.steps 0 (c' := (939, [(3, .int 0), (2, .ref 75), (1, .ref 0), (0, .ref x_scr)], [.int (-2), .int (-2)], x_h0, 98, 10728)) rfl ?_
      refine x_R.steps 1 (c' := (2370, [(3, .int 0), (2, .ref 75), (1, .ref 0), (0, .ref x_scr)], [], x_h0, 98, 10728)) rfl ?_
      refine x_R.steps 7 (c' := (24, [(3, .int 6), (2, .ref 75), (1, .ref 0), (0, .ref x_scr)], [.int 0, .int 6], x_h0, 98, 10728)) rfl ?_
      refine x_R.steps 1 (c' := (2376, [(3, .int 6), (2, .ref 75), (1, .ref 0), (0, .ref x_scr)], [], x_h0, 98, 10728)) rfl ?_
      refine x_R.steps 1 (c' := (2377, [(3, .int 6), (2, .ref 75), (1, .ref 0), (0, .ref x_scr)], [.int 1], x_h0, 98, 10728)) rfl ?_
      exact x_R.ret (v := some (.int 1)) rfl x_fin
    · have g2 := mt (x_lg_lt (C := 0) (by decide)).mpr h2
      refine x_R.steps 3 (c' := (10, [(0, .long ((xs 1)).toInt64), (2, .long 0), (4, .long (-1))], [.int (lg_cmp ((xs 1)).toInt64 (-1))], x_h0, 0, 0)) rfl ?_
      refine x_R.ite (p := (0 : Int32) < (lg_cmp ((xs 1)).toInt64 (-1))) (c1 := (17, [(0, .long ((xs 1)).toInt64), (2, .long 0), (4, .long (-1))], [], x_h0, 0, 0)) (c2 := (13, [(0, .long ((xs 1)).toInt64), (2, .long 0), (4, .long (-1))], [], x_h0, 0, 0)) rfl (fun h3 => ?_) (fun h3 => ?_)
      · have g3 := (x_lg_gt (C := -1) (by decide)).mp h3
        refine x_R.steps 1 (c' := (18, [(0, .long ((xs 1)).toInt64), (2, .long 0), (4, .long (-1))], [.int 0], x_h0, 0, 0)) rfl ?_
        refine x_R.ret (v := some (.int 0)) rfl ?_
        refine x_R.steps 0 (c' := (16, [(0, .ref 75), (1, .int (xs 1))], [.int 0], x_h0, 0, 0)) rfl ?_
        refine x_R.ret (v := some (.int 0)) rfl ?_
        refine x_R.steps 0 (c' := (5, [(0, .ref 75), (1, .int (xs 1)), (2, .int (xs 2))], [.int 0], x_h0, 0, 0)) rfl ?_
        refine x_R.steps 1 (c' := (29, [(0, .ref 75), (1, .int (xs 1)), (2, .int (xs 2))], [], x_h0, 0, 0)) rfl ?_
        refine x_R.steps 1 (c' := (31, [(0, .ref 75), (1, .int (xs 1)), (2, .int (xs 2))], [.int (-2)], x_h0, 0, 0)) rfl ?_
        refine x_R.ret (v := some (.int (-2))) rfl ?_
        refine x_R.steps 0 (c' := (939, [(3, .int 0), (2, .ref 75), (1, .ref 0), (0, .ref x_scr)], [.int (-2), .int (-2)], x_h0, 98, 10728)) rfl ?_
        refine x_R.steps 1 (c' := (2370, [(3, .int 0), (2, .ref 75), (1, .ref 0), (0, .ref x_scr)], [], x_h0, 98, 10728)) rfl ?_
        refine x_R.steps 7 (c' := (24, [(3, .int 6), (2, .ref 75), (1, .ref 0), (0, .ref x_scr)], [.int 0, .int 6], x_h0, 98, 10728)) rfl ?_
        refine x_R.steps 1 (c' := (2376, [(3, .int 6), (2, .ref 75), (1, .ref 0), (0, .ref x_scr)], [], x_h0, 98, 10728)) rfl ?_
        refine x_R.steps 1 (c' := (2377, [(3, .int 6), (2, .ref 75), (1, .ref 0), (0, .ref x_scr)], [.int 1], x_h0, 98, 10728)) rfl ?_
        exact x_R.ret (v := some (.int 1)) rfl x_fin
      · have g3 := mt (x_lg_gt (C := -1) (by decide)).mpr h3
        exfalso; omega
  · have g1 := mt (x_i_lt (C := 0) (by decide)).mpr h1
    refine x_R.steps 2 (c' := (7, [(0, .ref 0), (1, .int (xs 1)), (2, .int (xs 2))], [.int 60, .int (xs 2)], x_h0, 0, 0)) rfl ?_
    refine x_R.ite (p := (60 : Int32) < (xs 2)) (c1 := (18, [(0, .ref 0), (1, .int (xs 1)), (2, .int (xs 2))], [], x_h0, 0, 0)) (c2 := (10, [(0, .ref 0), (1, .int (xs 1)), (2, .int (xs 2))], [], x_h0, 0, 0)) rfl (fun h4 => ?_) (fun h4 => ?_)
    · have g4 := (x_i_gt (C := 60) (by decide)).mp h4
      refine x_R.steps 1 (c' := (20, [(0, .ref 0), (1, .int (xs 1)), (2, .int (xs 2))], [.int (-2)], x_h0, 0, 0)) rfl ?_
      refine x_R.ret (v := some (.int (-2))) rfl ?_
      refine x_R.steps 0 (c' := (925, [(3, .int 0), (2, .ref 75), (1, .ref 0), (0, .ref x_scr)], [.int (-2)], x_h0, 98, 10728)) rfl ?_
      refine x_R.steps 5 (c' := (930, [(3, .int 0), (2, .ref 75), (1, .ref 0), (0, .ref x_scr)], [.int 1, .ref x_scr, .ref 75, .int (-2)], x_h0, 98, 10728)) rfl ?_
      refine x_R.steps 1 (c' := (931, [(3, .int 0), (2, .ref 75), (1, .ref 0), (0, .ref x_scr)], [.int (xs 1), .ref 75, .int (-2)], x_h0, 98, 10728)) rfl ?_
      refine x_R.steps 4 (c' := (935, [(3, .int 0), (2, .ref 75), (1, .ref 0), (0, .ref x_scr)], [.int 2, .ref x_scr, .int (xs 1), .ref 75, .int (-2)], x_h0, 98, 10728)) rfl ?_
      refine x_R.steps 1 (c' := (936, [(3, .int 0), (2, .ref 75), (1, .ref 0), (0, .ref x_scr)], [.int (xs 2), .int (xs 1), .ref 75, .int (-2)], x_h0, 98, 10728)) rfl ?_
      refine x_R.call (a := 272) (vs := [.ref 75, .int (xs 1), .int (xs 2)]) (rest := [.int (-2)]) (M' := M_cX12_ahead) rfl rfl rfl ?_
      refine x_R.steps 2 (c' := (2, [(0, .ref 75), (1, .int (xs 1)), (2, .int (xs 2))], [.int (xs 1), .ref 75], x_h0, 0, 0)) rfl ?_
      refine x_R.call (a := 205) (vs := [.ref 75, .int (xs 1)]) (rest := []) (M' := M_cX12_isPlayer) rfl rfl rfl ?_
      refine x_R.steps 6 (c' := (9, [(0, .ref 75), (1, .int (xs 1))], [.int 6, .ref 76, .long 0, .long ((xs 1)).toInt64], x_h0, 0, 0)) rfl ?_
      refine x_R.steps 1 (c' := (10, [(0, .ref 75), (1, .int (xs 1))], [.int 0, .long 0, .long ((xs 1)).toInt64], x_h0, 0, 0)) rfl ?_
      refine x_R.steps 3 (c' := (13, [(0, .ref 75), (1, .int (xs 1))], [.long (-1), .long 0, .long ((xs 1)).toInt64], x_h0, 0, 0)) rfl ?_
      refine x_R.call (a := 196) (vs := [.long ((xs 1)).toInt64, .long 0, .long (-1)]) (rest := []) (M' := M_cX12_in) rfl rfl rfl ?_
      refine x_R.steps 3 (c' := (3, [(0, .long ((xs 1)).toInt64), (2, .long 0), (4, .long (-1))], [.int (lg_cmp ((xs 1)).toInt64 0)], x_h0, 0, 0)) rfl ?_
      refine x_R.ite (p := (lg_cmp ((xs 1)).toInt64 0) < (0 : Int32)) (c1 := (17, [(0, .long ((xs 1)).toInt64), (2, .long 0), (4, .long (-1))], [], x_h0, 0, 0)) (c2 := (6, [(0, .long ((xs 1)).toInt64), (2, .long 0), (4, .long (-1))], [], x_h0, 0, 0)) rfl (fun h5 => ?_) (fun h5 => ?_)
      · have g5 := (x_lg_lt (C := 0) (by decide)).mp h5
        refine x_R.steps 1 (c' := (18, [(0, .long ((xs 1)).toInt64), (2, .long 0), (4, .long (-1))], [.int 0], x_h0, 0, 0)) rfl ?_
        refine x_R.ret (v := some (.int 0)) rfl ?_
        refine x_R.steps 0 (c' := (16, [(0, .ref 75), (1, .int (xs 1))], [.int 0], x_h0, 0, 0)) rfl ?_
        refine x_R.ret (v := some (.int 0)) rfl ?_
        refine x_R.steps 0 (c' := (5, [(0, .ref 75), (1, .int (xs 1)), (2, .int (xs 2))], [.int 0], x_h0, 0, 0)) rfl ?_
        refine x_R.steps 1 (c' := (29, [(0, .ref 75), (1, .int (xs 1)), (2, .int (xs 2))], [], x_h0, 0, 0)) rfl ?_
        refine x_R.steps 1 (c' := (31, [(0, .ref 75), (1, .int (xs 1)), (2, .int (xs 2))], [.int (-2)], x_h0, 0, 0)) rfl ?_
        refine x_R.ret (v := some (.int (-2))) rfl ?_
        refine x_R.steps 0 (c' := (939, [(3, .int 0), (2, .ref 75), (1, .ref 0), (0, .ref x_scr)], [.int (-2), .int (-2)], x_h0, 98, 10728)) rfl ?_
        refine x_R.steps 1 (c' := (2370, [(3, .int 0), (2, .ref 75), (1, .ref 0), (0, .ref x_scr)], [], x_h0, 98, 10728)) rfl ?_
        refine x_R.steps 7 (c' := (24, [(3, .int 6), (2, .ref 75), (1, .ref 0), (0, .ref x_scr)], [.int 0, .int 6], x_h0, 98, 10728)) rfl ?_
        refine x_R.steps 1 (c' := (2376, [(3, .int 6), (2, .ref 75), (1, .ref 0), (0, .ref x_scr)], [], x_h0, 98, 10728)) rfl ?_
        refine x_R.steps 1 (c' := (2377, [(3, .int 6), (2, .ref 75), (1, .ref 0), (0, .ref x_scr)], [.int 1], x_h0, 98, 10728)) rfl ?_
        exact x_R.ret (v := some (.int 1)) rfl x_fin
      · have g5 := mt (x_lg_lt (C := 0) (by decide)).mpr h5
        refine x_R.steps 3 (c' := (10, [(0, .long ((xs 1)).toInt64), (2, .long 0), (4, .long (-1))], [.int (lg_cmp ((xs 1)).toInt64 (-1))], x_h0, 0, 0)) rfl ?_
        refine x_R.ite (p := (0 : Int32) < (lg_cmp ((xs 1)).toInt64 (-1))) (c1 := (17, [(0, .long ((xs 1)).toInt64), (2, .long 0), (4, .long (-1))], [], x_h0, 0, 0)) (c2 := (13, [(0, .long ((xs 1)).toInt64), (2, .long 0), (4, .long (-1))], [], x_h0, 0, 0)) rfl (fun h6 => ?_) (fun h6 => ?_)
        · have g6 := (x_lg_gt (C := -1) (by decide)).mp h6
          refine x_R.steps 1 (c' := (18, [(0, .long ((xs 1)).toInt64), (2, .long 0), (4, .long (-1))], [.int 0], x_h0, 0, 0)) rfl ?_
          refine x_R.ret (v := some (.int 0)) rfl ?_
          refine x_R.steps 0 (c' := (16, [(0, .ref 75), (1, .int (xs 1))], [.int 0], x_h0, 0, 0)) rfl ?_
          refine x_R.ret (v := some (.int 0)) rfl ?_
          refine x_R.steps 0 (c' := (5, [(0, .ref 75), (1, .int (xs 1)), (2, .int (xs 2))], [.int 0], x_h0, 0, 0)) rfl ?_
          refine x_R.steps 1 (c' := (29, [(0, .ref 75), (1, .int (xs 1)), (2, .int (xs 2))], [], x_h0, 0, 0)) rfl ?_
          refine x_R.steps 1 (c' := (31, [(0, .ref 75), (1, .int (xs 1)), (2, .int (xs 2))], [.int (-2)], x_h0, 0, 0)) rfl ?_
          refine x_R.ret (v := some (.int (-2))) rfl ?_
          refine x_R.steps 0 (c' := (939, [(3, .int 0), (2, .ref 75), (1, .ref 0), (0, .ref x_scr)], [.int (-2), .int (-2)], x_h0, 98, 10728)) rfl ?_
          refine x_R.steps 1 (c' := (2370, [(3, .int 0), (2, .ref 75), (1, .ref 0), (0, .ref x_scr)], [], x_h0, 98, 10728)) rfl ?_
          refine x_R.steps 7 (c' := (24, [(3, .int 6), (2, .ref 75), (1, .ref 0), (0, .ref x_scr)], [.int 0, .int 6], x_h0, 98, 10728)) rfl ?_
          refine x_R.steps 1 (c' := (2376, [(3, .int 6), (2, .ref 75), (1, .ref 0), (0, .ref x_scr)], [], x_h0, 98, 10728)) rfl ?_
          refine x_R.steps 1 (c' := (2377, [(3, .int 6), (2, .ref 75), (1, .ref 0), (0, .ref x_scr)], [.int 1], x_h0, 98, 10728)) rfl ?_
          exact x_R.ret (v := some (.int 1)) rfl x_fin
        · have g6 := mt (x_lg_gt (C := -1) (by decide)).mpr h6
          exfalso; omega
    · have g4 := mt (x_i_gt (C := 60) (by decide)).mpr h4
      refine x_R.steps 2 (c' := (12, [(0, .ref 0), (1, .int (xs 1)), (2, .int (xs 2))], [.int (xs 1), .ref 0], x_h0, 0, 0)) rfl ?_
      refine x_R.call (a := 186) (vs := [.ref 0, .int (xs 1)]) (rest := []) (M' := M_cX11_makeReady) rfl rfl rfl ?_
      refine x_R.steps 3 (c' := (5, [(0, .ref 0), (1, .int (xs 1))], [.int (xs 1), .ref 1], x_h0, 0, 0)) rfl ?_
      refine x_R.call (a := 15) (vs := [.ref 1, .int (xs 1)]) (rest := []) (M' := M_cX2_isPlayer) rfl rfl rfl ?_
      refine x_R.steps 1 (c' := (1, [(0, .ref 1), (1, .int (xs 1))], [.int (xs 1)], x_h0, 0, 0)) rfl ?_
      refine x_R.ite (p := (xs 1) < (0 : Int32)) (c1 := (16, [(0, .ref 1), (1, .int (xs 1))], [], x_h0, 0, 0)) (c2 := (4, [(0, .ref 1), (1, .int (xs 1))], [], x_h0, 0, 0)) rfl (fun h7 => ?_) (fun h7 => ?_)
      · have g7 := (x_i_lt (C := 0) (by decide)).mp h7
        refine x_R.steps 1 (c' := (17, [(0, .ref 1), (1, .int (xs 1))], [.int 0], x_h0, 0, 0)) rfl ?_
        refine x_R.ret (v := some (.int 0)) rfl ?_
        refine x_R.steps 0 (c' := (8, [(0, .ref 0), (1, .int (xs 1))], [.int 0], x_h0, 0, 0)) rfl ?_
        refine x_R.steps 1 (c' := (11, [(0, .ref 0), (1, .int (xs 1))], [], x_h0, 0, 0)) rfl ?_
        refine x_R.steps 1 (c' := (12, [(0, .ref 0), (1, .int (xs 1))], [.int 0], x_h0, 0, 0)) rfl ?_
        refine x_R.ret (v := some (.int 0)) rfl ?_
        refine x_R.steps 0 (c' := (15, [(0, .ref 0), (1, .int (xs 1)), (2, .int (xs 2))], [.int 0], x_h0, 0, 0)) rfl ?_
        refine x_R.steps 1 (c' := (18, [(0, .ref 0), (1, .int (xs 1)), (2, .int (xs 2))], [], x_h0, 0, 0)) rfl ?_
        refine x_R.steps 1 (c' := (20, [(0, .ref 0), (1, .int (xs 1)), (2, .int (xs 2))], [.int (-2)], x_h0, 0, 0)) rfl ?_
        refine x_R.ret (v := some (.int (-2))) rfl ?_
        refine x_R.steps 0 (c' := (925, [(3, .int 0), (2, .ref 75), (1, .ref 0), (0, .ref x_scr)], [.int (-2)], x_h0, 98, 10728)) rfl ?_
        refine x_R.steps 5 (c' := (930, [(3, .int 0), (2, .ref 75), (1, .ref 0), (0, .ref x_scr)], [.int 1, .ref x_scr, .ref 75, .int (-2)], x_h0, 98, 10728)) rfl ?_
        refine x_R.steps 1 (c' := (931, [(3, .int 0), (2, .ref 75), (1, .ref 0), (0, .ref x_scr)], [.int (xs 1), .ref 75, .int (-2)], x_h0, 98, 10728)) rfl ?_
        refine x_R.steps 4 (c' := (935, [(3, .int 0), (2, .ref 75), (1, .ref 0), (0, .ref x_scr)], [.int 2, .ref x_scr, .int (xs 1), .ref 75, .int (-2)], x_h0, 98, 10728)) rfl ?_
        refine x_R.steps 1 (c' := (936, [(3, .int 0), (2, .ref 75), (1, .ref 0), (0, .ref x_scr)], [.int (xs 2), .int (xs 1), .ref 75, .int (-2)], x_h0, 98, 10728)) rfl ?_
        refine x_R.call (a := 272) (vs := [.ref 75, .int (xs 1), .int (xs 2)]) (rest := [.int (-2)]) (M' := M_cX12_ahead) rfl rfl rfl ?_
        refine x_R.steps 2 (c' := (2, [(0, .ref 75), (1, .int (xs 1)), (2, .int (xs 2))], [.int (xs 1), .ref 75], x_h0, 0, 0)) rfl ?_
        refine x_R.call (a := 205) (vs := [.ref 75, .int (xs 1)]) (rest := []) (M' := M_cX12_isPlayer) rfl rfl rfl ?_
        refine x_R.steps 6 (c' := (9, [(0, .ref 75), (1, .int (xs 1))], [.int 6, .ref 76, .long 0, .long ((xs 1)).toInt64], x_h0, 0, 0)) rfl ?_
        refine x_R.steps 1 (c' := (10, [(0, .ref 75), (1, .int (xs 1))], [.int 0, .long 0, .long ((xs 1)).toInt64], x_h0, 0, 0)) rfl ?_
        refine x_R.steps 3 (c' := (13, [(0, .ref 75), (1, .int (xs 1))], [.long (-1), .long 0, .long ((xs 1)).toInt64], x_h0, 0, 0)) rfl ?_
        refine x_R.call (a := 196) (vs := [.long ((xs 1)).toInt64, .long 0, .long (-1)]) (rest := []) (M' := M_cX12_in) rfl rfl rfl ?_
        refine x_R.steps 3 (c' := (3, [(0, .long ((xs 1)).toInt64), (2, .long 0), (4, .long (-1))], [.int (lg_cmp ((xs 1)).toInt64 0)], x_h0, 0, 0)) rfl ?_
        refine x_R.ite (p := (lg_cmp ((xs 1)).toInt64 0) < (0 : Int32)) (c1 := (17, [(0, .long ((xs 1)).toInt64), (2, .long 0), (4, .long (-1))], [], x_h0, 0, 0)) (c2 := (6, [(0, .long ((xs 1)).toInt64), (2, .long 0), (4, .long (-1))], [], x_h0, 0, 0)) rfl (fun h8 => ?_) (fun h8 => ?_)
        · have g8 := (x_lg_lt (C := 0) (by decide)).mp h8
          refine x_R.steps 1 (c' := (18, [(0, .long ((xs 1)).toInt64), (2, .long 0), (4, .long (-1))], [.int 0], x_h0, 0, 0)) rfl ?_
          refine x_R.ret (v := some (.int 0)) rfl ?_
          refine x_R.steps 0 (c' := (16, [(0, .ref 75), (1, .int (xs 1))], [.int 0], x_h0, 0, 0)) rfl ?_
          refine x_R.ret (v := some (.int 0)) rfl ?_
          refine x_R.steps 0 (c' := (5, [(0, .ref 75), (1, .int (xs 1)), (2, .int (xs 2))], [.int 0], x_h0, 0, 0)) rfl ?_
          refine x_R.steps 1 (c' := (29, [(0, .ref 75), (1, .int (xs 1)), (2, .int (xs 2))], [], x_h0, 0, 0)) rfl ?_
          refine x_R.steps 1 (c' := (31, [(0, .ref 75), (1, .int (xs 1)), (2, .int (xs 2))], [.int (-2)], x_h0, 0, 0)) rfl ?_
          refine x_R.ret (v := some (.int (-2))) rfl ?_
          refine x_R.steps 0 (c' := (939, [(3, .int 0), (2, .ref 75), (1, .ref 0), (0, .ref x_scr)], [.int (-2), .int (-2)], x_h0, 98, 10728)) rfl ?_
          refine x_R.steps 1 (c' := (2370, [(3, .int 0), (2, .ref 75), (1, .ref 0), (0, .ref x_scr)], [], x_h0, 98, 10728)) rfl ?_
          refine x_R.steps 7 (c' := (24, [(3, .int 6), (2, .ref 75), (1, .ref 0), (0, .ref x_scr)], [.int 0, .int 6], x_h0, 98, 10728)) rfl ?_
          refine x_R.steps 1 (c' := (2376, [(3, .int 6), (2, .ref 75), (1, .ref 0), (0, .ref x_scr)], [], x_h0, 98, 10728)) rfl ?_
          refine x_R.steps 1 (c' := (2377, [(3, .int 6), (2, .ref 75), (1, .ref 0), (0, .ref x_scr)], [.int 1], x_h0, 98, 10728)) rfl ?_
          exact x_R.ret (v := some (.int 1)) rfl x_fin
        · have g8 := mt (x_lg_lt (C := 0) (by decide)).mpr h8
          exfalso; omega
      · have g7 := mt (x_i_lt (C := 0) (by decide)).mpr h7
        refine x_R.steps 3 (c' := (9, [(0, .ref 1), (1, .int (xs 1))], [.int 0, .int (xs 1)], x_h0, 0, 0)) rfl ?_
        refine x_R.ite (p := (0 : Int32) ≤ (xs 1)) (c1 := (16, [(0, .ref 1), (1, .int (xs 1))], [], x_h0, 0, 0)) (c2 := (12, [(0, .ref 1), (1, .int (xs 1))], [], x_h0, 0, 0)) rfl (fun h9 => ?_) (fun h9 => ?_)
        · have g9 := (x_i_ge (C := 0) (by decide)).mp h9
          refine x_R.steps 1 (c' := (17, [(0, .ref 1), (1, .int (xs 1))], [.int 0], x_h0, 0, 0)) rfl ?_
          refine x_R.ret (v := some (.int 0)) rfl ?_
          refine x_R.steps 0 (c' := (8, [(0, .ref 0), (1, .int (xs 1))], [.int 0], x_h0, 0, 0)) rfl ?_
          refine x_R.steps 1 (c' := (11, [(0, .ref 0), (1, .int (xs 1))], [], x_h0, 0, 0)) rfl ?_
          refine x_R.steps 1 (c' := (12, [(0, .ref 0), (1, .int (xs 1))], [.int 0], x_h0, 0, 0)) rfl ?_
          refine x_R.ret (v := some (.int 0)) rfl ?_
          refine x_R.steps 0 (c' := (15, [(0, .ref 0), (1, .int (xs 1)), (2, .int (xs 2))], [.int 0], x_h0, 0, 0)) rfl ?_
          refine x_R.steps 1 (c' := (18, [(0, .ref 0), (1, .int (xs 1)), (2, .int (xs 2))], [], x_h0, 0, 0)) rfl ?_
          refine x_R.steps 1 (c' := (20, [(0, .ref 0), (1, .int (xs 1)), (2, .int (xs 2))], [.int (-2)], x_h0, 0, 0)) rfl ?_
          refine x_R.ret (v := some (.int (-2))) rfl ?_
          refine x_R.steps 0 (c' := (925, [(3, .int 0), (2, .ref 75), (1, .ref 0), (0, .ref x_scr)], [.int (-2)], x_h0, 98, 10728)) rfl ?_
          refine x_R.steps 5 (c' := (930, [(3, .int 0), (2, .ref 75), (1, .ref 0), (0, .ref x_scr)], [.int 1, .ref x_scr, .ref 75, .int (-2)], x_h0, 98, 10728)) rfl ?_
          refine x_R.steps 1 (c' := (931, [(3, .int 0), (2, .ref 75), (1, .ref 0), (0, .ref x_scr)], [.int (xs 1), .ref 75, .int (-2)], x_h0, 98, 10728)) rfl ?_
          refine x_R.steps 4 (c' := (935, [(3, .int 0), (2, .ref 75), (1, .ref 0), (0, .ref x_scr)], [.int 2, .ref x_scr, .int (xs 1), .ref 75, .int (-2)], x_h0, 98, 10728)) rfl ?_
          refine x_R.steps 1 (c' := (936, [(3, .int 0), (2, .ref 75), (1, .ref 0), (0, .ref x_scr)], [.int (xs 2), .int (xs 1), .ref 75, .int (-2)], x_h0, 98, 10728)) rfl ?_
          refine x_R.call (a := 272) (vs := [.ref 75, .int (xs 1), .int (xs 2)]) (rest := [.int (-2)]) (M' := M_cX12_ahead) rfl rfl rfl ?_
          refine x_R.steps 2 (c' := (2, [(0, .ref 75), (1, .int (xs 1)), (2, .int (xs 2))], [.int (xs 1), .ref 75], x_h0, 0, 0)) rfl ?_
          refine x_R.call (a := 205) (vs := [.ref 75, .int (xs 1)]) (rest := []) (M' := M_cX12_isPlayer) rfl rfl rfl ?_
          refine x_R.steps 6 (c' := (9, [(0, .ref 75), (1, .int (xs 1))], [.int 6, .ref 76, .long 0, .long ((xs 1)).toInt64], x_h0, 0, 0)) rfl ?_
          refine x_R.steps 1 (c' := (10, [(0, .ref 75), (1, .int (xs 1))], [.int 0, .long 0, .long ((xs 1)).toInt64], x_h0, 0, 0)) rfl ?_
          refine x_R.steps 3 (c' := (13, [(0, .ref 75), (1, .int (xs 1))], [.long (-1), .long 0, .long ((xs 1)).toInt64], x_h0, 0, 0)) rfl ?_
          refine x_R.call (a := 196) (vs := [.long ((xs 1)).toInt64, .long 0, .long (-1)]) (rest := []) (M' := M_cX12_in) rfl rfl rfl ?_
          refine x_R.steps 3 (c' := (3, [(0, .long ((xs 1)).toInt64), (2, .long 0), (4, .long (-1))], [.int (lg_cmp ((xs 1)).toInt64 0)], x_h0, 0, 0)) rfl ?_
          refine x_R.ite (p := (lg_cmp ((xs 1)).toInt64 0) < (0 : Int32)) (c1 := (17, [(0, .long ((xs 1)).toInt64), (2, .long 0), (4, .long (-1))], [], x_h0, 0, 0)) (c2 := (6, [(0, .long ((xs 1)).toInt64), (2, .long 0), (4, .long (-1))], [], x_h0, 0, 0)) rfl (fun h10 => ?_) (fun h10 => ?_)
          · have g10 := (x_lg_lt (C := 0) (by decide)).mp h10
            exfalso; omega
          · have g10 := mt (x_lg_lt (C := 0) (by decide)).mpr h10
            refine x_R.steps 3 (c' := (10, [(0, .long ((xs 1)).toInt64), (2, .long 0), (4, .long (-1))], [.int (lg_cmp ((xs 1)).toInt64 (-1))], x_h0, 0, 0)) rfl ?_
            refine x_R.ite (p := (0 : Int32) < (lg_cmp ((xs 1)).toInt64 (-1))) (c1 := (17, [(0, .long ((xs 1)).toInt64), (2, .long 0), (4, .long (-1))], [], x_h0, 0, 0)) (c2 := (13, [(0, .long ((xs 1)).toInt64), (2, .long 0), (4, .long (-1))], [], x_h0, 0, 0)) rfl (fun h11 => ?_) (fun h11 => ?_)
            · have g11 := (x_lg_gt (C := -1) (by decide)).mp h11
              refine x_R.steps 1 (c' := (18, [(0, .long ((xs 1)).toInt64), (2, .long 0), (4, .long (-1))], [.int 0], x_h0, 0, 0)) rfl ?_
              refine x_R.ret (v := some (.int 0)) rfl ?_
              refine x_R.steps 0 (c' := (16, [(0, .ref 75), (1, .int (xs 1))], [.int 0], x_h0, 0, 0)) rfl ?_
              refine x_R.ret (v := some (.int 0)) rfl ?_
              refine x_R.steps 0 (c' := (5, [(0, .ref 75), (1, .int (xs 1)), (2, .int (xs 2))], [.int 0], x_h0, 0, 0)) rfl ?_
              refine x_R.steps 1 (c' := (29, [(0, .ref 75), (1, .int (xs 1)), (2, .int (xs 2))], [], x_h0, 0, 0)) rfl ?_
              refine x_R.steps 1 (c' := (31, [(0, .ref 75), (1, .int (xs 1)), (2, .int (xs 2))], [.int (-2)], x_h0, 0, 0)) rfl ?_
              refine x_R.ret (v := some (.int (-2))) rfl ?_
              refine x_R.steps 0 (c' := (939, [(3, .int 0), (2, .ref 75), (1, .ref 0), (0, .ref x_scr)], [.int (-2), .int (-2)], x_h0, 98, 10728)) rfl ?_
              refine x_R.steps 1 (c' := (2370, [(3, .int 0), (2, .ref 75), (1, .ref 0), (0, .ref x_scr)], [], x_h0, 98, 10728)) rfl ?_
              refine x_R.steps 7 (c' := (24, [(3, .int 6), (2, .ref 75), (1, .ref 0), (0, .ref x_scr)], [.int 0, .int 6], x_h0, 98, 10728)) rfl ?_
              refine x_R.steps 1 (c' := (2376, [(3, .int 6), (2, .ref 75), (1, .ref 0), (0, .ref x_scr)], [], x_h0, 98, 10728)) rfl ?_
              refine x_R.steps 1 (c' := (2377, [(3, .int 6), (2, .ref 75), (1, .ref 0), (0, .ref x_scr)], [.int 1], x_h0, 98, 10728)) rfl ?_
              exact x_R.ret (v := some (.int 1)) rfl x_fin
            · have g11 := mt (x_lg_gt (C := -1) (by decide)).mpr h11
              exfalso; omega
        · have g9 := mt (x_i_ge (C := 0) (by decide)).mpr h9
          exfalso; omega
set_option maxRecDepth 100000 in
set_option maxHeartbeats 4000000 in
theorem x_c22_0 (xs : Nat → Int32)  : x_R x_mt (some (6, xs)) 13 M_law (944, [(3, .int 0), (2, .ref 75), (1, .ref 0), (0, .ref x_scr)], [], x_h0, 98, 10728) x_P := by
  refine x_R.steps 5 (c' := (949, [(3, .int 0), (2, .ref 75), (1, .ref 0), (0, .ref x_scr)], [.int 1, .ref x_scr, .ref 0], x_h0, 98, 10728)) rfl ?_
  refine x_R.steps 1 (c' := (950, [(3, .int 0), (2, .ref 75), (1, .ref 0), (0, .ref x_scr)], [.int (xs 1), .ref 0], x_h0, 98, 10728)) rfl ?_
  refine x_R.steps 4 (c' := (954, [(3, .int 0), (2, .ref 75), (1, .ref 0), (0, .ref x_scr)], [.int 2, .ref x_scr, .int (xs 1), .ref 0], x_h0, 98, 10728)) rfl ?_
  refine x_R.steps 1 (c' := (955, [(3, .int 0), (2, .ref 75), (1, .ref 0), (0, .ref x_scr)], [.int (xs 2), .int (xs 1), .ref 0], x_h0, 98, 10728)) rfl ?_
  refine x_R.call (a := 135) (vs := [.ref 0, .int (xs 1), .int (xs 2)]) (rest := []) (M' := M_cX11_learns) rfl rfl rfl ?_
  refine x_R.steps 1 (c' := (1, [(0, .ref 0), (1, .int (xs 1)), (2, .int (xs 2))], [.int (xs 2)], x_h0, 0, 0)) rfl ?_
  refine x_R.ite (p := (xs 2) < (0 : Int32)) (c1 := (18, [(0, .ref 0), (1, .int (xs 1)), (2, .int (xs 2))], [], x_h0, 0, 0)) (c2 := (4, [(0, .ref 0), (1, .int (xs 1)), (2, .int (xs 2))], [], x_h0, 0, 0)) rfl (fun h1 => ?_) (fun h1 => ?_)
  · have g1 := (x_i_lt (C := 0) (by decide)).mp h1
    refine x_R.steps 1 (c' := (20, [(0, .ref 0), (1, .int (xs 1)), (2, .int (xs 2))], [.int (-2)], x_h0, 0, 0)) rfl ?_
    refine x_R.ret (v := some (.int (-2))) rfl ?_
    refine x_R.steps 0 (c' := (958, [(3, .int 0), (2, .ref 75), (1, .ref 0), (0, .ref x_scr)], [.int (-2)], x_h0, 98, 10728)) rfl ?_
    refine x_R.steps 5 (c' := (963, [(3, .int 0), (2, .ref 75), (1, .ref 0), (0, .ref x_scr)], [.int 1, .ref x_scr, .ref 75, .int (-2)], x_h0, 98, 10728)) rfl ?_
    refine x_R.steps 1 (c' := (964, [(3, .int 0), (2, .ref 75), (1, .ref 0), (0, .ref x_scr)], [.int (xs 1), .ref 75, .int (-2)], x_h0, 98, 10728)) rfl ?_
    refine x_R.steps 4 (c' := (968, [(3, .int 0), (2, .ref 75), (1, .ref 0), (0, .ref x_scr)], [.int 2, .ref x_scr, .int (xs 1), .ref 75, .int (-2)], x_h0, 98, 10728)) rfl ?_
    refine x_R.steps 1 (c' := (969, [(3, .int 0), (2, .ref 75), (1, .ref 0), (0, .ref x_scr)], [.int (xs 2), .int (xs 1), .ref 75, .int (-2)], x_h0, 98, 10728)) rfl ?_
    refine x_R.call (a := 274) (vs := [.ref 75, .int (xs 1), .int (xs 2)]) (rest := [.int (-2)]) (M' := M_cX12_learns) rfl rfl rfl ?_
    refine x_R.steps 2 (c' := (2, [(0, .ref 75), (1, .int (xs 1)), (2, .int (xs 2))], [.int (xs 1), .ref 75], x_h0, 0, 0)) rfl ?_
    refine x_R.call (a := 205) (vs := [.ref 75, .int (xs 1)]) (rest := []) (M' := M_cX12_isPlayer) rfl rfl rfl ?_
    refine x_R.steps 6 (c' := (9, [(0, .ref 75), (1, .int (xs 1))], [.int 6, .ref 76, .long 0, .long ((xs 1)).toInt64], x_h0, 0, 0)) rfl ?_
    refine x_R.steps 1 (c' := (10, [(0, .ref 75), (1, .int (xs 1))], [.int 0, .long 0, .long ((xs 1)).toInt64], x_h0, 0, 0)) rfl ?_
    refine x_R.steps 3 (c' := (13, [(0, .ref 75), (1, .int (xs 1))], [.long (-1), .long 0, .long ((xs 1)).toInt64], x_h0, 0, 0)) rfl ?_
    refine x_R.call (a := 196) (vs := [.long ((xs 1)).toInt64, .long 0, .long (-1)]) (rest := []) (M' := M_cX12_in) rfl rfl rfl ?_
    refine x_R.steps 3 (c' := (3, [(0, .long ((xs 1)).toInt64), (2, .long 0), (4, .long (-1))], [.int (lg_cmp ((xs 1)).toInt64 0)], x_h0, 0, 0)) rfl ?_
    refine x_R.ite (p := (lg_cmp ((xs 1)).toInt64 0) < (0 : Int32)) (c1 := (17, [(0, .long ((xs 1)).toInt64), (2, .long 0), (4, .long (-1))], [], x_h0, 0, 0)) (c2 := (6, [(0, .long ((xs 1)).toInt64), (2, .long 0), (4, .long (-1))], [], x_h0, 0, 0)) rfl (fun h2 => ?_) (fun h2 => ?_)
    · have g2 := (x_lg_lt (C := 0) (by decide)).mp h2
      refine x_R.steps 1 (c' := (18, [(0, .long ((xs 1)).toInt64), (2, .long 0), (4, .long (-1))], [.int 0], x_h0, 0, 0)) rfl ?_
      refine x_R.ret (v := some (.int 0)) rfl ?_
      refine x_R.steps 0 (c' := (16, [(0, .ref 75), (1, .int (xs 1))], [.int 0], x_h0, 0, 0)) rfl ?_
      refine x_R.ret (v := some (.int 0)) rfl ?_
      refine x_R.steps 0 (c' := (5, [(0, .ref 75), (1, .int (xs 1)), (2, .int (xs 2))], [.int 0], x_h0, 0, 0)) rfl ?_
      refine x_R.steps 1 (c' := (20, [(0, .ref 75), (1, .int (xs 1)), (2, .int (xs 2))], [], x_h0, 0, 0)) rfl ?_
      refine x_R.steps 1 (c' := (22, [(0, .ref 75), (1, .int (xs 1)), (2, .int (xs 2))], [.int (-2)], x_h0, 0, 0)) rfl ?_
      refine x_R.ret (v := some (.int (-2))) rfl ?_
      refine x_R.steps 0 (c' := (972, [(3, .int 0), (2, .ref 75), (1, .ref 0), (0, .ref x_scr)], [.int (-2), .int (-2)], x_h0, 98, 10728)) rfl ?_
      refine x_R.steps 1 (c' := (2370, [(3, .int 0), (2, .ref 75), (1, .ref 0), (0, .ref x_scr)], [], x_h0, 98, 10728)) rfl ?_
      refine x_R.steps 7 (c' := (24, [(3, .int 6), (2, .ref 75), (1, .ref 0), (0, .ref x_scr)], [.int 0, .int 6], x_h0, 98, 10728)) rfl ?_
      refine x_R.steps 1 (c' := (2376, [(3, .int 6), (2, .ref 75), (1, .ref 0), (0, .ref x_scr)], [], x_h0, 98, 10728)) rfl ?_
      refine x_R.steps 1 (c' := (2377, [(3, .int 6), (2, .ref 75), (1, .ref 0), (0, .ref x_scr)], [.int 1], x_h0, 98, 10728)) rfl ?_
      exact x_R.ret (v := some (.int 1)) rfl x_fin
    · have g2 := mt (x_lg_lt (C := 0) (by decide)).mpr h2
      refine x_R.steps 3 (c' := (10, [(0, .long ((xs 1)).toInt64), (2, .long 0), (4, .long (-1))], [.int (lg_cmp ((xs 1)).toInt64 (-1))], x_h0, 0, 0)) rfl ?_
      refine x_R.ite (p := (0 : Int32) < (lg_cmp ((xs 1)).toInt64 (-1))) (c1 := (17, [(0, .long ((xs 1)).toInt64), (2, .long 0), (4, .long (-1))], [], x_h0, 0, 0)) (c2 := (13, [(0, .long ((xs 1)).toInt64), (2, .long 0), (4, .long (-1))], [], x_h0, 0, 0)) rfl (fun h3 => ?_) (fun h3 => ?_)
      · have g3 := (x_lg_gt (C := -1) (by decide)).mp h3
        refine x_R.steps 1 (c' := (18, [(0, .long ((xs 1)).toInt64), (2, .long 0), (4, .long (-1))], [.int 0], x_h0, 0, 0)) rfl ?_
        refine x_R.ret (v := some (.int 0)) rfl ?_
        refine x_R.steps 0 (c' := (16, [(0, .ref 75), (1, .int (xs 1))], [.int 0], x_h0, 0, 0)) rfl ?_
        refine x_R.ret (v := some (.int 0)) rfl ?_
        refine x_R.steps 0 (c' := (5, [(0, .ref 75), (1, .int (xs 1)), (2, .int (xs 2))], [.int 0], x_h0, 0, 0)) rfl ?_
        refine x_R.steps 1 (c' := (20, [(0, .ref 75), (1, .int (xs 1)), (2, .int (xs 2))], [], x_h0, 0, 0)) rfl ?_
        refine x_R.steps 1 (c' := (22, [(0, .ref 75), (1, .int (xs 1)), (2, .int (xs 2))], [.int (-2)], x_h0, 0, 0)) rfl ?_
        refine x_R.ret (v := some (.int (-2))) rfl ?_
        refine x_R.steps 0 (c' := (972, [(3, .int 0), (2, .ref 75), (1, .ref 0), (0, .ref x_scr)], [.int (-2), .int (-2)], x_h0, 98, 10728)) rfl ?_
        refine x_R.steps 1 (c' := (2370, [(3, .int 0), (2, .ref 75), (1, .ref 0), (0, .ref x_scr)], [], x_h0, 98, 10728)) rfl ?_
        refine x_R.steps 7 (c' := (24, [(3, .int 6), (2, .ref 75), (1, .ref 0), (0, .ref x_scr)], [.int 0, .int 6], x_h0, 98, 10728)) rfl ?_
        refine x_R.steps 1 (c' := (2376, [(3, .int 6), (2, .ref 75), (1, .ref 0), (0, .ref x_scr)], [], x_h0, 98, 10728)) rfl ?_
        refine x_R.steps 1 (c' := (2377, [(3, .int 6), (2, .ref 75), (1, .ref 0), (0, .ref x_scr)], [.int 1], x_h0, 98, 10728)) rfl ?_
        exact x_R.ret (v := some (.int 1)) rfl x_fin
      · have g3 := mt (x_lg_gt (C := -1) (by decide)).mpr h3
        exfalso; omega
  · have g1 := mt (x_i_lt (C := 0) (by decide)).mpr h1
    refine x_R.steps 2 (c' := (7, [(0, .ref 0), (1, .int (xs 1)), (2, .int (xs 2))], [.int 9, .int (xs 2)], x_h0, 0, 0)) rfl ?_
    refine x_R.ite (p := (9 : Int32) < (xs 2)) (c1 := (18, [(0, .ref 0), (1, .int (xs 1)), (2, .int (xs 2))], [], x_h0, 0, 0)) (c2 := (10, [(0, .ref 0), (1, .int (xs 1)), (2, .int (xs 2))], [], x_h0, 0, 0)) rfl (fun h4 => ?_) (fun h4 => ?_)
    · have g4 := (x_i_gt (C := 9) (by decide)).mp h4
      refine x_R.steps 1 (c' := (20, [(0, .ref 0), (1, .int (xs 1)), (2, .int (xs 2))], [.int (-2)], x_h0, 0, 0)) rfl ?_
      refine x_R.ret (v := some (.int (-2))) rfl ?_
      refine x_R.steps 0 (c' := (958, [(3, .int 0), (2, .ref 75), (1, .ref 0), (0, .ref x_scr)], [.int (-2)], x_h0, 98, 10728)) rfl ?_
      refine x_R.steps 5 (c' := (963, [(3, .int 0), (2, .ref 75), (1, .ref 0), (0, .ref x_scr)], [.int 1, .ref x_scr, .ref 75, .int (-2)], x_h0, 98, 10728)) rfl ?_
      refine x_R.steps 1 (c' := (964, [(3, .int 0), (2, .ref 75), (1, .ref 0), (0, .ref x_scr)], [.int (xs 1), .ref 75, .int (-2)], x_h0, 98, 10728)) rfl ?_
      refine x_R.steps 4 (c' := (968, [(3, .int 0), (2, .ref 75), (1, .ref 0), (0, .ref x_scr)], [.int 2, .ref x_scr, .int (xs 1), .ref 75, .int (-2)], x_h0, 98, 10728)) rfl ?_
      refine x_R.steps 1 (c' := (969, [(3, .int 0), (2, .ref 75), (1, .ref 0), (0, .ref x_scr)], [.int (xs 2), .int (xs 1), .ref 75, .int (-2)], x_h0, 98, 10728)) rfl ?_
      refine x_R.call (a := 274) (vs := [.ref 75, .int (xs 1), .int (xs 2)]) (rest := [.int (-2)]) (M' := M_cX12_learns) rfl rfl rfl ?_
      refine x_R.steps 2 (c' := (2, [(0, .ref 75), (1, .int (xs 1)), (2, .int (xs 2))], [.int (xs 1), .ref 75], x_h0, 0, 0)) rfl ?_
      refine x_R.call (a := 205) (vs := [.ref 75, .int (xs 1)]) (rest := []) (M' := M_cX12_isPlayer) rfl rfl rfl ?_
      refine x_R.steps 6 (c' := (9, [(0, .ref 75), (1, .int (xs 1))], [.int 6, .ref 76, .long 0, .long ((xs 1)).toInt64], x_h0, 0, 0)) rfl ?_
      refine x_R.steps 1 (c' := (10, [(0, .ref 75), (1, .int (xs 1))], [.int 0, .long 0, .long ((xs 1)).toInt64], x_h0, 0, 0)) rfl ?_
      refine x_R.steps 3 (c' := (13, [(0, .ref 75), (1, .int (xs 1))], [.long (-1), .long 0, .long ((xs 1)).toInt64], x_h0, 0, 0)) rfl ?_
      refine x_R.call (a := 196) (vs := [.long ((xs 1)).toInt64, .long 0, .long (-1)]) (rest := []) (M' := M_cX12_in) rfl rfl rfl ?_
      refine x_R.steps 3 (c' := (3, [(0, .long ((xs 1)).toInt64), (2, .long 0), (4, .long (-1))], [.int (lg_cmp ((xs 1)).toInt64 0)], x_h0, 0, 0)) rfl ?_
      refine x_R.ite (p := (lg_cmp ((xs 1)).toInt64 0) < (0 : Int32)) (c1 := (17, [(0, .long ((xs 1)).toInt64), (2, .long 0), (4, .long (-1))], [], x_h0, 0, 0)) (c2 := (6, [(0, .long ((xs 1)).toInt64), (2, .long 0), (4, .long (-1))], [], x_h0, 0, 0)) rfl (fun h5 => ?_) (fun h5 => ?_)
      · have g5 := (x_lg_lt (C := 0) (by decide)).mp h5
        refine x_R.steps 1 (c' := (18, [(0, .long ((xs 1)).toInt64), (2, .long 0), (4, .long (-1))], [.int 0], x_h0, 0, 0)) rfl ?_
        refine x_R.ret (v := some (.int 0)) rfl ?_
        refine x_R.steps 0 (c' := (16, [(0, .ref 75), (1, .int (xs 1))], [.int 0], x_h0, 0, 0)) rfl ?_
        refine x_R.ret (v := some (.int 0)) rfl ?_
        refine x_R.steps 0 (c' := (5, [(0, .ref 75), (1, .int (xs 1)), (2, .int (xs 2))], [.int 0], x_h0, 0, 0)) rfl ?_
        refine x_R.steps 1 (c' := (20, [(0, .ref 75), (1, .int (xs 1)), (2, .int (xs 2))], [], x_h0, 0, 0)) rfl ?_
        refine x_R.steps 1 (c' := (22, [(0, .ref 75), (1, .int (xs 1)), (2, .int (xs 2))], [.int (-2)], x_h0, 0, 0)) rfl ?_
        refine x_R.ret (v := some (.int (-2))) rfl ?_
        refine x_R.steps 0 (c' := (972, [(3, .int 0), (2, .ref 75), (1, .ref 0), (0, .ref x_scr)], [.int (-2), .int (-2)], x_h0, 98, 10728)) rfl ?_
        refine x_R.steps 1 (c' := (2370, [(3, .int 0), (2, .ref 75), (1, .ref 0), (0, .ref x_scr)], [], x_h0, 98, 10728)) rfl ?_
        refine x_R.steps 7 (c' := (24, [(3, .int 6), (2, .ref 75), (1, .ref 0), (0, .ref x_scr)], [.int 0, .int 6], x_h0, 98, 10728)) rfl ?_
        refine x_R.steps 1 (c' := (2376, [(3, .int 6), (2, .ref 75), (1, .ref 0), (0, .ref x_scr)], [], x_h0, 98, 10728)) rfl ?_
        refine x_R.steps 1 (c' := (2377, [(3, .int 6), (2, .ref 75), (1, .ref 0), (0, .ref x_scr)], [.int 1], x_h0, 98, 10728)) rfl ?_
        exact x_R.ret (v := some (.int 1)) rfl x_fin
      · have g5 := mt (x_lg_lt (C := 0) (by decide)).mpr h5
        refine x_R.steps 3 (c' := (10, [(0, .long ((xs 1)).toInt64), (2, .long 0), (4, .long (-1))], [.int (lg_cmp ((xs 1)).toInt64 (-1))], x_h0, 0, 0)) rfl ?_
        refine x_R.ite (p := (0 : Int32) < (lg_cmp ((xs 1)).toInt64 (-1))) (c1 := (17, [(0, .long ((xs 1)).toInt64), (2, .long 0), (4, .long (-1))], [], x_h0, 0, 0)) (c2 := (13, [(0, .long ((xs 1)).toInt64), (2, .long 0), (4, .long (-1))], [], x_h0, 0, 0)) rfl (fun h6 => ?_) (fun h6 => ?_)
        · have g6 := (x_lg_gt (C := -1) (by decide)).mp h6
          refine x_R.steps 1 (c' := (18, [(0, .long ((xs 1)).toInt64), (2, .long 0), (4, .long (-1))], [.int 0], x_h0, 0, 0)) rfl ?_
          refine x_R.ret (v := some (.int 0)) rfl ?_
          refine x_R.steps 0 (c' := (16, [(0, .ref 75), (1, .int (xs 1))], [.int 0], x_h0, 0, 0)) rfl ?_
          refine x_R.ret (v := some (.int 0)) rfl ?_
          refine x_R.steps 0 (c' := (5, [(0, .ref 75), (1, .int (xs 1)), (2, .int (xs 2))], [.int 0], x_h0, 0, 0)) rfl ?_
          refine x_R.steps 1 (c' := (20, [(0, .ref 75), (1, .int (xs 1)), (2, .int (xs 2))], [], x_h0, 0, 0)) rfl ?_
          refine x_R.steps 1 (c' := (22, [(0, .ref 75), (1, .int (xs 1)), (2, .int (xs 2))], [.int (-2)], x_h0, 0, 0)) rfl ?_
          refine x_R.ret (v := some (.int (-2))) rfl ?_
          refine x_R.steps 0 (c' := (972, [(3, .int 0), (2, .ref 75), (1, .ref 0), (0, .ref x_scr)], [.int (-2), .int (-2)], x_h0, 98, 10728)) rfl ?_
          refine x_R.steps 1 (c' := (2370, [(3, .int 0), (2, .ref 75), (1, .ref 0), (0, .ref x_scr)], [], x_h0, 98, 10728)) rfl ?_
          refine x_R.steps 7 (c' := (24, [(3, .int 6), (2, .ref 75), (1, .ref 0), (0, .ref x_scr)], [.int 0, .int 6], x_h0, 98, 10728)) rfl ?_
          refine x_R.steps 1 (c' := (2376, [(3, .int 6), (2, .ref 75), (1, .ref 0), (0, .ref x_scr)], [], x_h0, 98, 10728)) rfl ?_
          refine x_R.steps 1 (c' := (2377, [(3, .int 6), (2, .ref 75), (1, .ref 0), (0, .ref x_scr)], [.int 1], x_h0, 98, 10728)) rfl ?_
          exact x_R.ret (v := some (.int 1)) rfl x_fin
        · have g6 := mt (x_lg_gt (C := -1) (by decide)).mpr h6
          exfalso; omega
    · have g4 := mt (x_i_gt (C := 9) (by decide)).mpr h4
      refine x_R.steps 2 (c' := (12, [(0, .ref 0), (1, .int (xs 1)), (2, .int (xs 2))], [.int (xs 1), .ref 0], x_h0, 0, 0)) rfl ?_
      refine x_R.call (a := 186) (vs := [.ref 0, .int (xs 1)]) (rest := []) (M' := M_cX11_makeReady) rfl rfl rfl ?_
      refine x_R.steps 3 (c' := (5, [(0, .ref 0), (1, .int (xs 1))], [.int (xs 1), .ref 1], x_h0, 0, 0)) rfl ?_
      refine x_R.call (a := 15) (vs := [.ref 1, .int (xs 1)]) (rest := []) (M' := M_cX2_isPlayer) rfl rfl rfl ?_
      refine x_R.steps 1 (c' := (1, [(0, .ref 1), (1, .int (xs 1))], [.int (xs 1)], x_h0, 0, 0)) rfl ?_
      refine x_R.ite (p := (xs 1) < (0 : Int32)) (c1 := (16, [(0, .ref 1), (1, .int (xs 1))], [], x_h0, 0, 0)) (c2 := (4, [(0, .ref 1), (1, .int (xs 1))], [], x_h0, 0, 0)) rfl (fun h7 => ?_) (fun h7 => ?_)
      · have g7 := (x_i_lt (C := 0) (by decide)).mp h7
        refine x_R.steps 1 (c' := (17, [(0, .ref 1), (1, .int (xs 1))], [.int 0], x_h0, 0, 0)) rfl ?_
        refine x_R.ret (v := some (.int 0)) rfl ?_
        refine x_R.steps 0 (c' := (8, [(0, .ref 0), (1, .int (xs 1))], [.int 0], x_h0, 0, 0)) rfl ?_
        refine x_R.steps 1 (c' := (11, [(0, .ref 0), (1, .int (xs 1))], [], x_h0, 0, 0)) rfl ?_
        refine x_R.steps 1 (c' := (12, [(0, .ref 0), (1, .int (xs 1))], [.int 0], x_h0, 0, 0)) rfl ?_
        refine x_R.ret (v := some (.int 0)) rfl ?_
        refine x_R.steps 0 (c' := (15, [(0, .ref 0), (1, .int (xs 1)), (2, .int (xs 2))], [.int 0], x_h0, 0, 0)) rfl ?_
        refine x_R.steps 1 (c' := (18, [(0, .ref 0), (1, .int (xs 1)), (2, .int (xs 2))], [], x_h0, 0, 0)) rfl ?_
        refine x_R.steps 1 (c' := (20, [(0, .ref 0), (1, .int (xs 1)), (2, .int (xs 2))], [.int (-2)], x_h0, 0, 0)) rfl ?_
        refine x_R.ret (v := some (.int (-2))) rfl ?_
        refine x_R.steps 0 (c' := (958, [(3, .int 0), (2, .ref 75), (1, .ref 0), (0, .ref x_scr)], [.int (-2)], x_h0, 98, 10728)) rfl ?_
        refine x_R.steps 5 (c' := (963, [(3, .int 0), (2, .ref 75), (1, .ref 0), (0, .ref x_scr)], [.int 1, .ref x_scr, .ref 75, .int (-2)], x_h0, 98, 10728)) rfl ?_
        refine x_R.steps 1 (c' := (964, [(3, .int 0), (2, .ref 75), (1, .ref 0), (0, .ref x_scr)], [.int (xs 1), .ref 75, .int (-2)], x_h0, 98, 10728)) rfl ?_
        refine x_R.steps 4 (c' := (968, [(3, .int 0), (2, .ref 75), (1, .ref 0), (0, .ref x_scr)], [.int 2, .ref x_scr, .int (xs 1), .ref 75, .int (-2)], x_h0, 98, 10728)) rfl ?_
        refine x_R.steps 1 (c' := (969, [(3, .int 0), (2, .ref 75), (1, .ref 0), (0, .ref x_scr)], [.int (xs 2), .int (xs 1), .ref 75, .int (-2)], x_h0, 98, 10728)) rfl ?_
        refine x_R.call (a := 274) (vs := [.ref 75, .int (xs 1), .int (xs 2)]) (rest := [.int (-2)]) (M' := M_cX12_learns) rfl rfl rfl ?_
        refine x_R.steps 2 (c' := (2, [(0, .ref 75), (1, .int (xs 1)), (2, .int (xs 2))], [.int (xs 1), .ref 75], x_h0, 0, 0)) rfl ?_
        refine x_R.call (a := 205) (vs := [.ref 75, .int (xs 1)]) (rest := []) (M' := M_cX12_isPlayer) rfl rfl rfl ?_
        refine x_R.steps 6 (c' := (9, [(0, .ref 75), (1, .int (xs 1))], [.int 6, .ref 76, .long 0, .long ((xs 1)).toInt64], x_h0, 0, 0)) rfl ?_
        refine x_R.steps 1 (c' := (10, [(0, .ref 75), (1, .int (xs 1))], [.int 0, .long 0, .long ((xs 1)).toInt64], x_h0, 0, 0)) rfl ?_
        refine x_R.steps 3 (c' := (13, [(0, .ref 75), (1, .int (xs 1))], [.long (-1), .long 0, .long ((xs 1)).toInt64], x_h0, 0, 0)) rfl ?_
        refine x_R.call (a := 196) (vs := [.long ((xs 1)).toInt64, .long 0, .long (-1)]) (rest := []) (M' := M_cX12_in) rfl rfl rfl ?_
        refine x_R.steps 3 (c' := (3, [(0, .long ((xs 1)).toInt64), (2, .long 0), (4, .long (-1))], [.int (lg_cmp ((xs 1)).toInt64 0)], x_h0, 0, 0)) rfl ?_
        refine x_R.ite (p := (lg_cmp ((xs 1)).toInt64 0) < (0 : Int32)) (c1 := (17, [(0, .long ((xs 1)).toInt64), (2, .long 0), (4, .long (-1))], [], x_h0, 0, 0)) (c2 := (6, [(0, .long ((xs 1)).toInt64), (2, .long 0), (4, .long (-1))], [], x_h0, 0, 0)) rfl (fun h8 => ?_) (fun h8 => ?_)
        · have g8 := (x_lg_lt (C := 0) (by decide)).mp h8
          refine x_R.steps 1 (c' := (18, [(0, .long ((xs 1)).toInt64), (2, .long 0), (4, .long (-1))], [.int 0], x_h0, 0, 0)) rfl ?_
          refine x_R.ret (v := some (.int 0)) rfl ?_
          refine x_R.steps 0 (c' := (16, [(0, .ref 75), (1, .int (xs 1))], [.int 0], x_h0, 0, 0)) rfl ?_
          refine x_R.ret (v := some (.int 0)) rfl ?_
          refine x_R.steps 0 (c' := (5, [(0, .ref 75), (1, .int (xs 1)), (2, .int (xs 2))], [.int 0], x_h0, 0, 0)) rfl ?_
          refine x_R.steps 1 (c' := (20, [(0, .ref 75), (1, .int (xs 1)), (2, .int (xs 2))], [], x_h0, 0, 0)) rfl ?_
          refine x_R.steps 1 (c' := (22, [(0, .ref 75), (1, .int (xs 1)), (2, .int (xs 2))], [.int (-2)], x_h0, 0, 0)) rfl ?_
          refine x_R.ret (v := some (.int (-2))) rfl ?_
          refine x_R.steps 0 (c' := (972, [(3, .int 0), (2, .ref 75), (1, .ref 0), (0, .ref x_scr)], [.int (-2), .int (-2)], x_h0, 98, 10728)) rfl ?_
          refine x_R.steps 1 (c' := (2370, [(3, .int 0), (2, .ref 75), (1, .ref 0), (0, .ref x_scr)], [], x_h0, 98, 10728)) rfl ?_
          refine x_R.steps 7 (c' := (24, [(3, .int 6), (2, .ref 75), (1, .ref 0), (0, .ref x_scr)], [.int 0, .int 6], x_h0, 98, 10728)) rfl ?_
          refine x_R.steps 1 (c' := (2376, [(3, .int 6), (2, .ref 75), (1, .ref 0), (0, .ref x_scr)], [], x_h0, 98, 10728)) rfl ?_
          refine x_R.steps 1 (c' := (2377, [(3, .int 6), (2, .ref 75), (1, .ref 0), (0, .ref x_scr)], [.int 1], x_h0, 98, 10728)) rfl ?_
          exact x_R.ret (v := some (.int 1)) rfl x_fin
        · have g8 := mt (x_lg_lt (C := 0) (by decide)).mpr h8
          exfalso; omega
      · have g7 := mt (x_i_lt (C := 0) (by decide)).mpr h7
        refine x_R.steps 3 (c' := (9, [(0, .ref 1), (1, .int (xs 1))], [.int 0, .int (xs 1)], x_h0, 0, 0)) rfl ?_
        refine x_R.ite (p := (0 : Int32) ≤ (xs 1)) (c1 := (16, [(0, .ref 1), (1, .int (xs 1))], [], x_h0, 0, 0)) (c2 := (12, [(0, .ref 1), (1, .int (xs 1))], [], x_h0, 0, 0)) rfl (fun h9 => ?_) (fun h9 => ?_)
        · have g9 := (x_i_ge (C := 0) (by decide)).mp h9
          refine x_R.steps 1 (c' := (17, [(0, .ref 1), (1, .int (xs 1))], [.int 0], x_h0, 0, 0)) rfl ?_
          refine x_R.ret (v := some (.int 0)) rfl ?_
          refine x_R.steps 0 (c' := (8, [(0, .ref 0), (1, .int (xs 1))], [.int 0], x_h0, 0, 0)) rfl ?_
          refine x_R.steps 1 (c' := (11, [(0, .ref 0), (1, .int (xs 1))], [], x_h0, 0, 0)) rfl ?_
          refine x_R.steps 1 (c' := (12, [(0, .ref 0), (1, .int (xs 1))], [.int 0], x_h0, 0, 0)) rfl ?_
          refine x_R.ret (v := some (.int 0)) rfl ?_
          refine x_R.steps 0 (c' := (15, [(0, .ref 0), (1, .int (xs 1)), (2, .int (xs 2))], [.int 0], x_h0, 0, 0)) rfl ?_
          refine x_R.steps 1 (c' := (18, [(0, .ref 0), (1, .int (xs 1)), (2, .int (xs 2))], [], x_h0, 0, 0)) rfl ?_
          refine x_R.steps 1 (c' := (20, [(0, .ref 0), (1, .int (xs 1)), (2, .int (xs 2))], [.int (-2)], x_h0, 0, 0)) rfl ?_
          refine x_R.ret (v := some (.int (-2))) rfl ?_
          refine x_R.steps 0 (c' := (958, [(3, .int 0), (2, .ref 75), (1, .ref 0), (0, .ref x_scr)], [.int (-2)], x_h0, 98, 10728)) rfl ?_
          refine x_R.steps 5 (c' := (963, [(3, .int 0), (2, .ref 75), (1, .ref 0), (0, .ref x_scr)], [.int 1, .ref x_scr, .ref 75, .int (-2)], x_h0, 98, 10728)) rfl ?_
          refine x_R.steps 1 (c' := (964, [(3, .int 0), (2, .ref 75), (1, .ref 0), (0, .ref x_scr)], [.int (xs 1), .ref 75, .int (-2)], x_h0, 98, 10728)) rfl ?_
          refine x_R.steps 4 (c' := (968, [(3, .int 0), (2, .ref 75), (1, .ref 0), (0, .ref x_scr)], [.int 2, .ref x_scr, .int (xs 1), .ref 75, .int (-2)], x_h0, 98, 10728)) rfl ?_
          refine x_R.steps 1 (c' := (969, [(3, .int 0), (2, .ref 75), (1, .ref 0), (0, .ref x_scr)], [.int (xs 2), .int (xs 1), .ref 75, .int (-2)], x_h0, 98, 10728)) rfl ?_
          refine x_R.call (a := 274) (vs := [.ref 75, .int (xs 1), .int (xs 2)]) (rest := [.int (-2)]) (M' := M_cX12_learns) rfl rfl rfl ?_
          refine x_R.steps 2 (c' := (2, [(0, .ref 75), (1, .int (xs 1)), (2, .int (xs 2))], [.int (xs 1), .ref 75], x_h0, 0, 0)) rfl ?_
          refine x_R.call (a := 205) (vs := [.ref 75, .int (xs 1)]) (rest := []) (M' := M_cX12_isPlayer) rfl rfl rfl ?_
          refine x_R.steps 6 (c' := (9, [(0, .ref 75), (1, .int (xs 1))], [.int 6, .ref 76, .long 0, .long ((xs 1)).toInt64], x_h0, 0, 0)) rfl ?_
          refine x_R.steps 1 (c' := (10, [(0, .ref 75), (1, .int (xs 1))], [.int 0, .long 0, .long ((xs 1)).toInt64], x_h0, 0, 0)) rfl ?_
          refine x_R.steps 3 (c' := (13, [(0, .ref 75), (1, .int (xs 1))], [.long (-1), .long 0, .long ((xs 1)).toInt64], x_h0, 0, 0)) rfl ?_
          refine x_R.call (a := 196) (vs := [.long ((xs 1)).toInt64, .long 0, .long (-1)]) (rest := []) (M' := M_cX12_in) rfl rfl rfl ?_
          refine x_R.steps 3 (c' := (3, [(0, .long ((xs 1)).toInt64), (2, .long 0), (4, .long (-1))], [.int (lg_cmp ((xs 1)).toInt64 0)], x_h0, 0, 0)) rfl ?_
          refine x_R.ite (p := (lg_cmp ((xs 1)).toInt64 0) < (0 : Int32)) (c1 := (17, [(0, .long ((xs 1)).toInt64), (2, .long 0), (4, .long (-1))], [], x_h0, 0, 0)) (c2 := (6, [(0, .long ((xs 1)).toInt64), (2, .long 0), (4, .long (-1))], [], x_h0, 0, 0)) rfl (fun h10 => ?_) (fun h10 => ?_)
          · have g10 := (x_lg_lt (C := 0) (by decide)).mp h10
            exfalso; omega
          · have g10 := mt (x_lg_lt (C := 0) (by decide)).mpr h10
            refine x_R.steps 3 (c' := (10, [(0, .long ((xs 1)).toInt64), (2, .long 0), (4, .long (-1))], [.int (lg_cmp ((xs 1)).toInt64 (-1))], x_h0, 0, 0)) rfl ?_
            refine x_R.ite (p := (0 : Int32) < (lg_cmp ((xs 1)).toInt64 (-1))) (c1 := (17, [(0, .long ((xs 1)).toInt64), (2, .long 0), (4, .long (-1))], [], x_h0, 0, 0)) (c2 := (13, [(0, .long ((xs 1)).toInt64), (2, .long 0), (4, .long (-1))], [], x_h0, 0, 0)) rfl (fun h11 => ?_) (fun h11 => ?_)
            · have g11 := (x_lg_gt (C := -1) (by decide)).mp h11
              refine x_R.steps 1 (c' := (18, [(0, .long ((xs 1)).toInt64), (2, .long 0), (4, .long (-1))], [.int 0], x_h0, 0, 0)) rfl ?_
              refine x_R.ret (v := some (.int 0)) rfl ?_
              refine x_R.steps 0 (c' := (16, [(0, .ref 75), (1, .int (xs 1))], [.int 0], x_h0, 0, 0)) rfl ?_
              refine x_R.ret (v := some (.int 0)) rfl ?_
              refine x_R.steps 0 (c' := (5, [(0, .ref 75), (1, .int (xs 1)), (2, .int (xs 2))], [.int 0], x_h0, 0, 0)) rfl ?_
              refine x_R.steps 1 (c' := (20, [(0, .ref 75), (1, .int (xs 1)), (2, .int (xs 2))], [], x_h0, 0, 0)) rfl ?_
              refine x_R.steps 1 (c' := (22, [(0, .ref 75), (1, .int (xs 1)), (2, .int (xs 2))], [.int (-2)], x_h0, 0, 0)) rfl ?_
              refine x_R.ret (v := some (.int (-2))) rfl ?_
              refine x_R.steps 0 (c' := (972, [(3, .int 0), (2, .ref 75), (1, .ref 0), (0, .ref x_scr)], [.int (-2), .int (-2)], x_h0, 98, 10728)) rfl ?_
              refine x_R.steps 1 (c' := (2370, [(3, .int 0), (2, .ref 75), (1, .ref 0), (0, .ref x_scr)], [], x_h0, 98, 10728)) rfl ?_
              refine x_R.steps 7 (c' := (24, [(3, .int 6), (2, .ref 75), (1, .ref 0), (0, .ref x_scr)], [.int 0, .int 6], x_h0, 98, 10728)) rfl ?_
              refine x_R.steps 1 (c' := (2376, [(3, .int 6), (2, .ref 75), (1, .ref 0), (0, .ref x_scr)], [], x_h0, 98, 10728)) rfl ?_
              refine x_R.steps 1 (c' := (2377, [(3, .int 6), (2, .ref 75), (1, .ref 0), (0, .ref x_scr)], [.int 1], x_h0, 98, 10728)) rfl ?_
              exact x_R.ret (v := some (.int 1)) rfl x_fin
            · have g11 := mt (x_lg_gt (C := -1) (by decide)).mpr h11
              exfalso; omega
        · have g9 := mt (x_i_ge (C := 0) (by decide)).mpr h9
          exfalso; omega
set_option maxRecDepth 100000 in
set_option maxHeartbeats 4000000 in
theorem x_c23_0 (xs : Nat → Int32)  : x_R x_mt (some (6, xs)) 13 M_law (977, [(3, .int 0), (2, .ref 75), (1, .ref 0), (0, .ref x_scr)], [], x_h0, 98, 10728) x_P := by
  refine x_R.steps 5 (c' := (982, [(3, .int 0), (2, .ref 75), (1, .ref 0), (0, .ref x_scr)], [.int 1, .ref x_scr, .ref 0], x_h0, 98, 10728)) rfl ?_
  refine x_R.steps 1 (c' := (983, [(3, .int 0), (2, .ref 75), (1, .ref 0), (0, .ref x_scr)], [.int (xs 1), .ref 0], x_h0, 98, 10728)) rfl ?_
  refine x_R.call (a := 136) (vs := [.ref 0, .int (xs 1)]) (rest := []) (M' := M_cX11_enough) rfl rfl rfl ?_
  refine x_R.steps 2 (c' := (2, [(0, .ref 0), (1, .int (xs 1))], [.int (xs 1), .ref 0], x_h0, 0, 0)) rfl ?_
  refine x_R.call (a := 186) (vs := [.ref 0, .int (xs 1)]) (rest := []) (M' := M_cX11_makeReady) rfl rfl rfl ?_
  refine x_R.steps 3 (c' := (5, [(0, .ref 0), (1, .int (xs 1))], [.int (xs 1), .ref 1], x_h0, 0, 0)) rfl ?_
  refine x_R.call (a := 15) (vs := [.ref 1, .int (xs 1)]) (rest := []) (M' := M_cX2_isPlayer) rfl rfl rfl ?_
  refine x_R.steps 1 (c' := (1, [(0, .ref 1), (1, .int (xs 1))], [.int (xs 1)], x_h0, 0, 0)) rfl ?_
  refine x_R.ite (p := (xs 1) < (0 : Int32)) (c1 := (16, [(0, .ref 1), (1, .int (xs 1))], [], x_h0, 0, 0)) (c2 := (4, [(0, .ref 1), (1, .int (xs 1))], [], x_h0, 0, 0)) rfl (fun h1 => ?_) (fun h1 => ?_)
  · have g1 := (x_i_lt (C := 0) (by decide)).mp h1
    refine x_R.steps 1 (c' := (17, [(0, .ref 1), (1, .int (xs 1))], [.int 0], x_h0, 0, 0)) rfl ?_
    refine x_R.ret (v := some (.int 0)) rfl ?_
    refine x_R.steps 0 (c' := (8, [(0, .ref 0), (1, .int (xs 1))], [.int 0], x_h0, 0, 0)) rfl ?_
    refine x_R.steps 1 (c' := (11, [(0, .ref 0), (1, .int (xs 1))], [], x_h0, 0, 0)) rfl ?_
    refine x_R.steps 1 (c' := (12, [(0, .ref 0), (1, .int (xs 1))], [.int 0], x_h0, 0, 0)) rfl ?_
    refine x_R.ret (v := some (.int 0)) rfl ?_
    refine x_R.steps 0 (c' := (5, [(0, .ref 0), (1, .int (xs 1))], [.int 0], x_h0, 0, 0)) rfl ?_
    refine x_R.steps 1 (c' := (8, [(0, .ref 0), (1, .int (xs 1))], [], x_h0, 0, 0)) rfl ?_
    refine x_R.steps 1 (c' := (10, [(0, .ref 0), (1, .int (xs 1))], [.int (-2)], x_h0, 0, 0)) rfl ?_
    refine x_R.ret (v := some (.int (-2))) rfl ?_
    refine x_R.steps 0 (c' := (986, [(3, .int 0), (2, .ref 75), (1, .ref 0), (0, .ref x_scr)], [.int (-2)], x_h0, 98, 10728)) rfl ?_
    refine x_R.steps 5 (c' := (991, [(3, .int 0), (2, .ref 75), (1, .ref 0), (0, .ref x_scr)], [.int 1, .ref x_scr, .ref 75, .int (-2)], x_h0, 98, 10728)) rfl ?_
    refine x_R.steps 1 (c' := (992, [(3, .int 0), (2, .ref 75), (1, .ref 0), (0, .ref x_scr)], [.int (xs 1), .ref 75, .int (-2)], x_h0, 98, 10728)) rfl ?_
    refine x_R.call (a := 275) (vs := [.ref 75, .int (xs 1)]) (rest := [.int (-2)]) (M' := M_cX12_enough) rfl rfl rfl ?_
    refine x_R.steps 2 (c' := (2, [(0, .ref 75), (1, .int (xs 1))], [.int (xs 1), .ref 75], x_h0, 0, 0)) rfl ?_
    refine x_R.call (a := 205) (vs := [.ref 75, .int (xs 1)]) (rest := []) (M' := M_cX12_isPlayer) rfl rfl rfl ?_
    refine x_R.steps 6 (c' := (9, [(0, .ref 75), (1, .int (xs 1))], [.int 6, .ref 76, .long 0, .long ((xs 1)).toInt64], x_h0, 0, 0)) rfl ?_
    refine x_R.steps 1 (c' := (10, [(0, .ref 75), (1, .int (xs 1))], [.int 0, .long 0, .long ((xs 1)).toInt64], x_h0, 0, 0)) rfl ?_
    refine x_R.steps 3 (c' := (13, [(0, .ref 75), (1, .int (xs 1))], [.long (-1), .long 0, .long ((xs 1)).toInt64], x_h0, 0, 0)) rfl ?_
    refine x_R.call (a := 196) (vs := [.long ((xs 1)).toInt64, .long 0, .long (-1)]) (rest := []) (M' := M_cX12_in) rfl rfl rfl ?_
    refine x_R.steps 3 (c' := (3, [(0, .long ((xs 1)).toInt64), (2, .long 0), (4, .long (-1))], [.int (lg_cmp ((xs 1)).toInt64 0)], x_h0, 0, 0)) rfl ?_
    refine x_R.ite (p := (lg_cmp ((xs 1)).toInt64 0) < (0 : Int32)) (c1 := (17, [(0, .long ((xs 1)).toInt64), (2, .long 0), (4, .long (-1))], [], x_h0, 0, 0)) (c2 := (6, [(0, .long ((xs 1)).toInt64), (2, .long 0), (4, .long (-1))], [], x_h0, 0, 0)) rfl (fun h2 => ?_) (fun h2 => ?_)
    · have g2 := (x_lg_lt (C := 0) (by decide)).mp h2
      refine x_R.steps 1 (c' := (18, [(0, .long ((xs 1)).toInt64), (2, .long 0), (4, .long (-1))], [.int 0], x_h0, 0, 0)) rfl ?_
      refine x_R.ret (v := some (.int 0)) rfl ?_
      refine x_R.steps 0 (c' := (16, [(0, .ref 75), (1, .int (xs 1))], [.int 0], x_h0, 0, 0)) rfl ?_
      refine x_R.ret (v := some (.int 0)) rfl ?_
      refine x_R.steps 0 (c' := (5, [(0, .ref 75), (1, .int (xs 1))], [.int 0], x_h0, 0, 0)) rfl ?_
      refine x_R.steps 1 (c' := (8, [(0, .ref 75), (1, .int (xs 1))], [], x_h0, 0, 0)) rfl ?_
      refine x_R.steps 1 (c' := (10, [(0, .ref 75), (1, .int (xs 1))], [.int (-2)], x_h0, 0, 0)) rfl ?_
      refine x_R.ret (v := some (.int (-2))) rfl ?_
      refine x_R.steps 0 (c' := (995, [(3, .int 0), (2, .ref 75), (1, .ref 0), (0, .ref x_scr)], [.int (-2), .int (-2)], x_h0, 98, 10728)) rfl ?_
      refine x_R.steps 1 (c' := (2370, [(3, .int 0), (2, .ref 75), (1, .ref 0), (0, .ref x_scr)], [], x_h0, 98, 10728)) rfl ?_
      refine x_R.steps 7 (c' := (24, [(3, .int 6), (2, .ref 75), (1, .ref 0), (0, .ref x_scr)], [.int 0, .int 6], x_h0, 98, 10728)) rfl ?_
      refine x_R.steps 1 (c' := (2376, [(3, .int 6), (2, .ref 75), (1, .ref 0), (0, .ref x_scr)], [], x_h0, 98, 10728)) rfl ?_
      refine x_R.steps 1 (c' := (2377, [(3, .int 6), (2, .ref 75), (1, .ref 0), (0, .ref x_scr)], [.int 1], x_h0, 98, 10728)) rfl ?_
      exact x_R.ret (v := some (.int 1)) rfl x_fin
    · have g2 := mt (x_lg_lt (C := 0) (by decide)).mpr h2
      exfalso; omega
  · have g1 := mt (x_i_lt (C := 0) (by decide)).mpr h1
    refine x_R.steps 3 (c' := (9, [(0, .ref 1), (1, .int (xs 1))], [.int 0, .int (xs 1)], x_h0, 0, 0)) rfl ?_
    refine x_R.ite (p := (0 : Int32) ≤ (xs 1)) (c1 := (16, [(0, .ref 1), (1, .int (xs 1))], [], x_h0, 0, 0)) (c2 := (12, [(0, .ref 1), (1, .int (xs 1))], [], x_h0, 0, 0)) rfl (fun h3 => ?_) (fun h3 => ?_)
    · have g3 := (x_i_ge (C := 0) (by decide)).mp h3
      refine x_R.steps 1 (c' := (17, [(0, .ref 1), (1, .int (xs 1))], [.int 0], x_h0, 0, 0)) rfl ?_
      refine x_R.ret (v := some (.int 0)) rfl ?_
      refine x_R.steps 0 (c' := (8, [(0, .ref 0), (1, .int (xs 1))], [.int 0], x_h0, 0, 0)) rfl ?_
      refine x_R.steps 1 (c' := (11, [(0, .ref 0), (1, .int (xs 1))], [], x_h0, 0, 0)) rfl ?_
      refine x_R.steps 1 (c' := (12, [(0, .ref 0), (1, .int (xs 1))], [.int 0], x_h0, 0, 0)) rfl ?_
      refine x_R.ret (v := some (.int 0)) rfl ?_
      refine x_R.steps 0 (c' := (5, [(0, .ref 0), (1, .int (xs 1))], [.int 0], x_h0, 0, 0)) rfl ?_
      refine x_R.steps 1 (c' := (8, [(0, .ref 0), (1, .int (xs 1))], [], x_h0, 0, 0)) rfl ?_
      refine x_R.steps 1 (c' := (10, [(0, .ref 0), (1, .int (xs 1))], [.int (-2)], x_h0, 0, 0)) rfl ?_
      refine x_R.ret (v := some (.int (-2))) rfl ?_
      refine x_R.steps 0 (c' := (986, [(3, .int 0), (2, .ref 75), (1, .ref 0), (0, .ref x_scr)], [.int (-2)], x_h0, 98, 10728)) rfl ?_
      refine x_R.steps 5 (c' := (991, [(3, .int 0), (2, .ref 75), (1, .ref 0), (0, .ref x_scr)], [.int 1, .ref x_scr, .ref 75, .int (-2)], x_h0, 98, 10728)) rfl ?_
      refine x_R.steps 1 (c' := (992, [(3, .int 0), (2, .ref 75), (1, .ref 0), (0, .ref x_scr)], [.int (xs 1), .ref 75, .int (-2)], x_h0, 98, 10728)) rfl ?_
      refine x_R.call (a := 275) (vs := [.ref 75, .int (xs 1)]) (rest := [.int (-2)]) (M' := M_cX12_enough) rfl rfl rfl ?_
      refine x_R.steps 2 (c' := (2, [(0, .ref 75), (1, .int (xs 1))], [.int (xs 1), .ref 75], x_h0, 0, 0)) rfl ?_
      refine x_R.call (a := 205) (vs := [.ref 75, .int (xs 1)]) (rest := []) (M' := M_cX12_isPlayer) rfl rfl rfl ?_
      refine x_R.steps 6 (c' := (9, [(0, .ref 75), (1, .int (xs 1))], [.int 6, .ref 76, .long 0, .long ((xs 1)).toInt64], x_h0, 0, 0)) rfl ?_
      refine x_R.steps 1 (c' := (10, [(0, .ref 75), (1, .int (xs 1))], [.int 0, .long 0, .long ((xs 1)).toInt64], x_h0, 0, 0)) rfl ?_
      refine x_R.steps 3 (c' := (13, [(0, .ref 75), (1, .int (xs 1))], [.long (-1), .long 0, .long ((xs 1)).toInt64], x_h0, 0, 0)) rfl ?_
      refine x_R.call (a := 196) (vs := [.long ((xs 1)).toInt64, .long 0, .long (-1)]) (rest := []) (M' := M_cX12_in) rfl rfl rfl ?_
      refine x_R.steps 3 (c' := (3, [(0, .long ((xs 1)).toInt64), (2, .long 0), (4, .long (-1))], [.int (lg_cmp ((xs 1)).toInt64 0)], x_h0, 0, 0)) rfl ?_
      refine x_R.ite (p := (lg_cmp ((xs 1)).toInt64 0) < (0 : Int32)) (c1 := (17, [(0, .long ((xs 1)).toInt64), (2, .long 0), (4, .long (-1))], [], x_h0, 0, 0)) (c2 := (6, [(0, .long ((xs 1)).toInt64), (2, .long 0), (4, .long (-1))], [], x_h0, 0, 0)) rfl (fun h4 => ?_) (fun h4 => ?_)
      · have g4 := (x_lg_lt (C := 0) (by decide)).mp h4
        exfalso; omega
      · have g4 := mt (x_lg_lt (C := 0) (by decide)).mpr h4
        refine x_R.steps 3 (c' := (10, [(0, .long ((xs 1)).toInt64), (2, .long 0), (4, .long (-1))], [.int (lg_cmp ((xs 1)).toInt64 (-1))], x_h0, 0, 0)) rfl ?_
        refine x_R.ite (p := (0 : Int32) < (lg_cmp ((xs 1)).toInt64 (-1))) (c1 := (17, [(0, .long ((xs 1)).toInt64), (2, .long 0), (4, .long (-1))], [], x_h0, 0, 0)) (c2 := (13, [(0, .long ((xs 1)).toInt64), (2, .long 0), (4, .long (-1))], [], x_h0, 0, 0)) rfl (fun h5 => ?_) (fun h5 => ?_)
        · have g5 := (x_lg_gt (C := -1) (by decide)).mp h5
          refine x_R.steps 1 (c' := (18, [(0, .long ((xs 1)).toInt64), (2, .long 0), (4, .long (-1))], [.int 0], x_h0, 0, 0)) rfl ?_
          refine x_R.ret (v := some (.int 0)) rfl ?_
          refine x_R.steps 0 (c' := (16, [(0, .ref 75), (1, .int (xs 1))], [.int 0], x_h0, 0, 0)) rfl ?_
          refine x_R.ret (v := some (.int 0)) rfl ?_
          refine x_R.steps 0 (c' := (5, [(0, .ref 75), (1, .int (xs 1))], [.int 0], x_h0, 0, 0)) rfl ?_
          refine x_R.steps 1 (c' := (8, [(0, .ref 75), (1, .int (xs 1))], [], x_h0, 0, 0)) rfl ?_
          refine x_R.steps 1 (c' := (10, [(0, .ref 75), (1, .int (xs 1))], [.int (-2)], x_h0, 0, 0)) rfl ?_
          refine x_R.ret (v := some (.int (-2))) rfl ?_
          refine x_R.steps 0 (c' := (995, [(3, .int 0), (2, .ref 75), (1, .ref 0), (0, .ref x_scr)], [.int (-2), .int (-2)], x_h0, 98, 10728)) rfl ?_
          refine x_R.steps 1 (c' := (2370, [(3, .int 0), (2, .ref 75), (1, .ref 0), (0, .ref x_scr)], [], x_h0, 98, 10728)) rfl ?_
          refine x_R.steps 7 (c' := (24, [(3, .int 6), (2, .ref 75), (1, .ref 0), (0, .ref x_scr)], [.int 0, .int 6], x_h0, 98, 10728)) rfl ?_
          refine x_R.steps 1 (c' := (2376, [(3, .int 6), (2, .ref 75), (1, .ref 0), (0, .ref x_scr)], [], x_h0, 98, 10728)) rfl ?_
          refine x_R.steps 1 (c' := (2377, [(3, .int 6), (2, .ref 75), (1, .ref 0), (0, .ref x_scr)], [.int 1], x_h0, 98, 10728)) rfl ?_
          exact x_R.ret (v := some (.int 1)) rfl x_fin
        · have g5 := mt (x_lg_gt (C := -1) (by decide)).mpr h5
          exfalso; omega
    · have g3 := mt (x_i_ge (C := 0) (by decide)).mpr h3
      exfalso; omega
set_option maxRecDepth 100000 in
set_option maxHeartbeats 4000000 in
theorem x_c24_0 (xs : Nat → Int32)  : x_R x_mt (some (6, xs)) 13 M_law (1000, [(3, .int 0), (2, .ref 75), (1, .ref 0), (0, .ref x_scr)], [], x_h0, 98, 10728) x_P := by
  refine x_R.steps 5 (c' := (1005, [(3, .int 0), (2, .ref 75), (1, .ref 0), (0, .ref x_scr)], [.int 1, .ref x_scr, .ref 0], x_h0, 98, 10728)) rfl ?_
  refine x_R.steps 1 (c' := (1006, [(3, .int 0), (2, .ref 75), (1, .ref 0), (0, .ref x_scr)], [.int (xs 1), .ref 0], x_h0, 98, 10728)) rfl ?_
  refine x_R.steps 4 (c' := (1010, [(3, .int 0), (2, .ref 75), (1, .ref 0), (0, .ref x_scr)], [.int 2, .ref x_scr, .int (xs 1), .ref 0], x_h0, 98, 10728)) rfl ?_
  refine x_R.steps 1 (c' := (1011, [(3, .int 0), (2, .ref 75), (1, .ref 0), (0, .ref x_scr)], [.int (xs 2), .int (xs 1), .ref 0], x_h0, 98, 10728)) rfl ?_
  refine x_R.call (a := 137) (vs := [.ref 0, .int (xs 1), .int (xs 2)]) (rest := []) (M' := M_cX11_waits) rfl rfl rfl ?_
  refine x_R.steps 1 (c' := (1, [(0, .ref 0), (1, .int (xs 1)), (2, .int (xs 2))], [.int (xs 2)], x_h0, 0, 0)) rfl ?_
  refine x_R.ite (p := (xs 2) < (0 : Int32)) (c1 := (17, [(0, .ref 0), (1, .int (xs 1)), (2, .int (xs 2))], [], x_h0, 0, 0)) (c2 := (4, [(0, .ref 0), (1, .int (xs 1)), (2, .int (xs 2))], [], x_h0, 0, 0)) rfl (fun h1 => ?_) (fun h1 => ?_)
  · have g1 := (x_i_lt (C := 0) (by decide)).mp h1
    refine x_R.steps 1 (c' := (19, [(0, .ref 0), (1, .int (xs 1)), (2, .int (xs 2))], [.int (-2)], x_h0, 0, 0)) rfl ?_
    refine x_R.ret (v := some (.int (-2))) rfl ?_
    refine x_R.steps 0 (c' := (1014, [(3, .int 0), (2, .ref 75), (1, .ref 0), (0, .ref x_scr)], [.int (-2)], x_h0, 98, 10728)) rfl ?_
    refine x_R.steps 5 (c' := (1019, [(3, .int 0), (2, .ref 75), (1, .ref 0), (0, .ref x_scr)], [.int 1, .ref x_scr, .ref 75, .int (-2)], x_h0, 98, 10728)) rfl ?_
    refine x_R.steps 1 (c' := (1020, [(3, .int 0), (2, .ref 75), (1, .ref 0), (0, .ref x_scr)], [.int (xs 1), .ref 75, .int (-2)], x_h0, 98, 10728)) rfl ?_
    refine x_R.steps 4 (c' := (1024, [(3, .int 0), (2, .ref 75), (1, .ref 0), (0, .ref x_scr)], [.int 2, .ref x_scr, .int (xs 1), .ref 75, .int (-2)], x_h0, 98, 10728)) rfl ?_
    refine x_R.steps 1 (c' := (1025, [(3, .int 0), (2, .ref 75), (1, .ref 0), (0, .ref x_scr)], [.int (xs 2), .int (xs 1), .ref 75, .int (-2)], x_h0, 98, 10728)) rfl ?_
    refine x_R.call (a := 277) (vs := [.ref 75, .int (xs 1), .int (xs 2)]) (rest := [.int (-2)]) (M' := M_cX12_waits) rfl rfl rfl ?_
    refine x_R.steps 2 (c' := (2, [(0, .ref 75), (1, .int (xs 1)), (2, .int (xs 2))], [.int (xs 1), .ref 75], x_h0, 0, 0)) rfl ?_
    refine x_R.call (a := 205) (vs := [.ref 75, .int (xs 1)]) (rest := []) (M' := M_cX12_isPlayer) rfl rfl rfl ?_
    refine x_R.steps 6 (c' := (9, [(0, .ref 75), (1, .int (xs 1))], [.int 6, .ref 76, .long 0, .long ((xs 1)).toInt64], x_h0, 0, 0)) rfl ?_
    refine x_R.steps 1 (c' := (10, [(0, .ref 75), (1, .int (xs 1))], [.int 0, .long 0, .long ((xs 1)).toInt64], x_h0, 0, 0)) rfl ?_
    refine x_R.steps 3 (c' := (13, [(0, .ref 75), (1, .int (xs 1))], [.long (-1), .long 0, .long ((xs 1)).toInt64], x_h0, 0, 0)) rfl ?_
    refine x_R.call (a := 196) (vs := [.long ((xs 1)).toInt64, .long 0, .long (-1)]) (rest := []) (M' := M_cX12_in) rfl rfl rfl ?_
    refine x_R.steps 3 (c' := (3, [(0, .long ((xs 1)).toInt64), (2, .long 0), (4, .long (-1))], [.int (lg_cmp ((xs 1)).toInt64 0)], x_h0, 0, 0)) rfl ?_
    refine x_R.ite (p := (lg_cmp ((xs 1)).toInt64 0) < (0 : Int32)) (c1 := (17, [(0, .long ((xs 1)).toInt64), (2, .long 0), (4, .long (-1))], [], x_h0, 0, 0)) (c2 := (6, [(0, .long ((xs 1)).toInt64), (2, .long 0), (4, .long (-1))], [], x_h0, 0, 0)) rfl (fun h2 => ?_) (fun h2 => ?_)
    · have g2 := (x_lg_lt (C := 0) (by decide)).mp h2
      refine x_R.steps 1 (c' := (18, [(0, .long ((xs 1)).toInt64), (2, .long 0), (4, .long (-1))], [.int 0], x_h0, 0, 0)) rfl ?_
      refine x_R.ret (v := some (.int 0)) rfl ?_
      refine x_R.steps 0 (c' := (16, [(0, .ref 75), (1, .int (xs 1))], [.int 0], x_h0, 0, 0)) rfl ?_
      refine x_R.ret (v := some (.int 0)) rfl ?_
      refine x_R.steps 0 (c' := (5, [(0, .ref 75), (1, .int (xs 1)), (2, .int (xs 2))], [.int 0], x_h0, 0, 0)) rfl ?_
      refine x_R.steps 1 (c' := (18, [(0, .ref 75), (1, .int (xs 1)), (2, .int (xs 2))], [], x_h0, 0, 0)) rfl ?_
      refine x_R.steps 1 (c' := (20, [(0, .ref 75), (1, .int (xs 1)), (2, .int (xs 2))], [.int (-2)], x_h0, 0, 0)) rfl ?_
      refine x_R.ret (v := some (.int (-2))) rfl ?_
      refine x_R.steps 0 (c' := (1028, [(3, .int 0), (2, .ref 75), (1, .ref 0), (0, .ref x_scr)], [.int (-2), .int (-2)], x_h0, 98, 10728)) rfl ?_
      refine x_R.steps 1 (c' := (2370, [(3, .int 0), (2, .ref 75), (1, .ref 0), (0, .ref x_scr)], [], x_h0, 98, 10728)) rfl ?_
      refine x_R.steps 7 (c' := (24, [(3, .int 6), (2, .ref 75), (1, .ref 0), (0, .ref x_scr)], [.int 0, .int 6], x_h0, 98, 10728)) rfl ?_
      refine x_R.steps 1 (c' := (2376, [(3, .int 6), (2, .ref 75), (1, .ref 0), (0, .ref x_scr)], [], x_h0, 98, 10728)) rfl ?_
      refine x_R.steps 1 (c' := (2377, [(3, .int 6), (2, .ref 75), (1, .ref 0), (0, .ref x_scr)], [.int 1], x_h0, 98, 10728)) rfl ?_
      exact x_R.ret (v := some (.int 1)) rfl x_fin
    · have g2 := mt (x_lg_lt (C := 0) (by decide)).mpr h2
      refine x_R.steps 3 (c' := (10, [(0, .long ((xs 1)).toInt64), (2, .long 0), (4, .long (-1))], [.int (lg_cmp ((xs 1)).toInt64 (-1))], x_h0, 0, 0)) rfl ?_
      refine x_R.ite (p := (0 : Int32) < (lg_cmp ((xs 1)).toInt64 (-1))) (c1 := (17, [(0, .long ((xs 1)).toInt64), (2, .long 0), (4, .long (-1))], [], x_h0, 0, 0)) (c2 := (13, [(0, .long ((xs 1)).toInt64), (2, .long 0), (4, .long (-1))], [], x_h0, 0, 0)) rfl (fun h3 => ?_) (fun h3 => ?_)
      · have g3 := (x_lg_gt (C := -1) (by decide)).mp h3
        refine x_R.steps 1 (c' := (18, [(0, .long ((xs 1)).toInt64), (2, .long 0), (4, .long (-1))], [.int 0], x_h0, 0, 0)) rfl ?_
        refine x_R.ret (v := some (.int 0)) rfl ?_
        refine x_R.steps 0 (c' := (16, [(0, .ref 75), (1, .int (xs 1))], [.int 0], x_h0, 0, 0)) rfl ?_
        refine x_R.ret (v := some (.int 0)) rfl ?_
        refine x_R.steps 0 (c' := (5, [(0, .ref 75), (1, .int (xs 1)), (2, .int (xs 2))], [.int 0], x_h0, 0, 0)) rfl ?_
        refine x_R.steps 1 (c' := (18, [(0, .ref 75), (1, .int (xs 1)), (2, .int (xs 2))], [], x_h0, 0, 0)) rfl ?_
        refine x_R.steps 1 (c' := (20, [(0, .ref 75), (1, .int (xs 1)), (2, .int (xs 2))], [.int (-2)], x_h0, 0, 0)) rfl ?_
        refine x_R.ret (v := some (.int (-2))) rfl ?_
        refine x_R.steps 0 (c' := (1028, [(3, .int 0), (2, .ref 75), (1, .ref 0), (0, .ref x_scr)], [.int (-2), .int (-2)], x_h0, 98, 10728)) rfl ?_
        refine x_R.steps 1 (c' := (2370, [(3, .int 0), (2, .ref 75), (1, .ref 0), (0, .ref x_scr)], [], x_h0, 98, 10728)) rfl ?_
        refine x_R.steps 7 (c' := (24, [(3, .int 6), (2, .ref 75), (1, .ref 0), (0, .ref x_scr)], [.int 0, .int 6], x_h0, 98, 10728)) rfl ?_
        refine x_R.steps 1 (c' := (2376, [(3, .int 6), (2, .ref 75), (1, .ref 0), (0, .ref x_scr)], [], x_h0, 98, 10728)) rfl ?_
        refine x_R.steps 1 (c' := (2377, [(3, .int 6), (2, .ref 75), (1, .ref 0), (0, .ref x_scr)], [.int 1], x_h0, 98, 10728)) rfl ?_
        exact x_R.ret (v := some (.int 1)) rfl x_fin
      · have g3 := mt (x_lg_gt (C := -1) (by decide)).mpr h3
        exfalso; omega
  · have g1 := mt (x_i_lt (C := 0) (by decide)).mpr h1
    refine x_R.steps 2 (c' := (6, [(0, .ref 0), (1, .int (xs 1)), (2, .int (xs 2))], [.int 1, .int (xs 2)], x_h0, 0, 0)) rfl ?_
    refine x_R.ite (p := (1 : Int32) < (xs 2)) (c1 := (17, [(0, .ref 0), (1, .int (xs 1)), (2, .int (xs 2))], [], x_h0, 0, 0)) (c2 := (9, [(0, .ref 0), (1, .int (xs 1)), (2, .int (xs 2))], [], x_h0, 0, 0)) rfl (fun h4 => ?_) (fun h4 => ?_)
    · have g4 := (x_i_gt (C := 1) (by decide)).mp h4
      refine x_R.steps 1 (c' := (19, [(0, .ref 0), (1, .int (xs 1)), (2, .int (xs 2))], [.int (-2)], x_h0, 0, 0)) rfl ?_
      refine x_R.ret (v := some (.int (-2))) rfl ?_
      refine x_R.steps 0 (c' := (1014, [(3, .int 0), (2, .ref 75), (1, .ref 0), (0, .ref x_scr)], [.int (-2)], x_h0, 98, 10728)) rfl ?_
      refine x_R.steps 5 (c' := (1019, [(3, .int 0), (2, .ref 75), (1, .ref 0), (0, .ref x_scr)], [.int 1, .ref x_scr, .ref 75, .int (-2)], x_h0, 98, 10728)) rfl ?_
      refine x_R.steps 1 (c' := (1020, [(3, .int 0), (2, .ref 75), (1, .ref 0), (0, .ref x_scr)], [.int (xs 1), .ref 75, .int (-2)], x_h0, 98, 10728)) rfl ?_
      refine x_R.steps 4 (c' := (1024, [(3, .int 0), (2, .ref 75), (1, .ref 0), (0, .ref x_scr)], [.int 2, .ref x_scr, .int (xs 1), .ref 75, .int (-2)], x_h0, 98, 10728)) rfl ?_
      refine x_R.steps 1 (c' := (1025, [(3, .int 0), (2, .ref 75), (1, .ref 0), (0, .ref x_scr)], [.int (xs 2), .int (xs 1), .ref 75, .int (-2)], x_h0, 98, 10728)) rfl ?_
      refine x_R.call (a := 277) (vs := [.ref 75, .int (xs 1), .int (xs 2)]) (rest := [.int (-2)]) (M' := M_cX12_waits) rfl rfl rfl ?_
      refine x_R.steps 2 (c' := (2, [(0, .ref 75), (1, .int (xs 1)), (2, .int (xs 2))], [.int (xs 1), .ref 75], x_h0, 0, 0)) rfl ?_
      refine x_R.call (a := 205) (vs := [.ref 75, .int (xs 1)]) (rest := []) (M' := M_cX12_isPlayer) rfl rfl rfl ?_
      refine x_R.steps 6 (c' := (9, [(0, .ref 75), (1, .int (xs 1))], [.int 6, .ref 76, .long 0, .long ((xs 1)).toInt64], x_h0, 0, 0)) rfl ?_
      refine x_R.steps 1 (c' := (10, [(0, .ref 75), (1, .int (xs 1))], [.int 0, .long 0, .long ((xs 1)).toInt64], x_h0, 0, 0)) rfl ?_
      refine x_R.steps 3 (c' := (13, [(0, .ref 75), (1, .int (xs 1))], [.long (-1), .long 0, .long ((xs 1)).toInt64], x_h0, 0, 0)) rfl ?_
      refine x_R.call (a := 196) (vs := [.long ((xs 1)).toInt64, .long 0, .long (-1)]) (rest := []) (M' := M_cX12_in) rfl rfl rfl ?_
      refine x_R.steps 3 (c' := (3, [(0, .long ((xs 1)).toInt64), (2, .long 0), (4, .long (-1))], [.int (lg_cmp ((xs 1)).toInt64 0)], x_h0, 0, 0)) rfl ?_
      refine x_R.ite (p := (lg_cmp ((xs 1)).toInt64 0) < (0 : Int32)) (c1 := (17, [(0, .long ((xs 1)).toInt64), (2, .long 0), (4, .long (-1))], [], x_h0, 0, 0)) (c2 := (6, [(0, .long ((xs 1)).toInt64), (2, .long 0), (4, .long (-1))], [], x_h0, 0, 0)) rfl (fun h5 => ?_) (fun h5 => ?_)
      · have g5 := (x_lg_lt (C := 0) (by decide)).mp h5
        refine x_R.steps 1 (c' := (18, [(0, .long ((xs 1)).toInt64), (2, .long 0), (4, .long (-1))], [.int 0], x_h0, 0, 0)) rfl ?_
        refine x_R.ret (v := some (.int 0)) rfl ?_
        refine x_R.steps 0 (c' := (16, [(0, .ref 75), (1, .int (xs 1))], [.int 0], x_h0, 0, 0)) rfl ?_
        refine x_R.ret (v := some (.int 0)) rfl ?_
        refine x_R.steps 0 (c' := (5, [(0, .ref 75), (1, .int (xs 1)), (2, .int (xs 2))], [.int 0], x_h0, 0, 0)) rfl ?_
        refine x_R.steps 1 (c' := (18, [(0, .ref 75), (1, .int (xs 1)), (2, .int (xs 2))], [], x_h0, 0, 0)) rfl ?_
        refine x_R.steps 1 (c' := (20, [(0, .ref 75), (1, .int (xs 1)), (2, .int (xs 2))], [.int (-2)], x_h0, 0, 0)) rfl ?_
        refine x_R.ret (v := some (.int (-2))) rfl ?_
        refine x_R.steps 0 (c' := (1028, [(3, .int 0), (2, .ref 75), (1, .ref 0), (0, .ref x_scr)], [.int (-2), .int (-2)], x_h0, 98, 10728)) rfl ?_
        refine x_R.steps 1 (c' := (2370, [(3, .int 0), (2, .ref 75), (1, .ref 0), (0, .ref x_scr)], [], x_h0, 98, 10728)) rfl ?_
        refine x_R.steps 7 (c' := (24, [(3, .int 6), (2, .ref 75), (1, .ref 0), (0, .ref x_scr)], [.int 0, .int 6], x_h0, 98, 10728)) rfl ?_
        refine x_R.steps 1 (c' := (2376, [(3, .int 6), (2, .ref 75), (1, .ref 0), (0, .ref x_scr)], [], x_h0, 98, 10728)) rfl ?_
        refine x_R.steps 1 (c' := (2377, [(3, .int 6), (2, .ref 75), (1, .ref 0), (0, .ref x_scr)], [.int 1], x_h0, 98, 10728)) rfl ?_
        exact x_R.ret (v := some (.int 1)) rfl x_fin
      · have g5 := mt (x_lg_lt (C := 0) (by decide)).mpr h5
        refine x_R.steps 3 (c' := (10, [(0, .long ((xs 1)).toInt64), (2, .long 0), (4, .long (-1))], [.int (lg_cmp ((xs 1)).toInt64 (-1))], x_h0, 0, 0)) rfl ?_
        refine x_R.ite (p := (0 : Int32) < (lg_cmp ((xs 1)).toInt64 (-1))) (c1 := (17, [(0, .long ((xs 1)).toInt64), (2, .long 0), (4, .long (-1))], [], x_h0, 0, 0)) (c2 := (13, [(0, .long ((xs 1)).toInt64), (2, .long 0), (4, .long (-1))], [], x_h0, 0, 0)) rfl (fun h6 => ?_) (fun h6 => ?_)
        · have g6 := (x_lg_gt (C := -1) (by decide)).mp h6
          refine x_R.steps 1 (c' := (18, [(0, .long ((xs 1)).toInt64), (2, .long 0), (4, .long (-1))], [.int 0], x_h0, 0, 0)) rfl ?_
          refine x_R.ret (v := some (.int 0)) rfl ?_
          refine x_R.steps 0 (c' := (16, [(0, .ref 75), (1, .int (xs 1))], [.int 0], x_h0, 0, 0)) rfl ?_
          refine x_R.ret (v := some (.int 0)) rfl ?_
          refine x_R.steps 0 (c' := (5, [(0, .ref 75), (1, .int (xs 1)), (2, .int (xs 2))], [.int 0], x_h0, 0, 0)) rfl ?_
          refine x_R.steps 1 (c' := (18, [(0, .ref 75), (1, .int (xs 1)), (2, .int (xs 2))], [], x_h0, 0, 0)) rfl ?_
          refine x_R.steps 1 (c' := (20, [(0, .ref 75), (1, .int (xs 1)), (2, .int (xs 2))], [.int (-2)], x_h0, 0, 0)) rfl ?_
          refine x_R.ret (v := some (.int (-2))) rfl ?_
          refine x_R.steps 0 (c' := (1028, [(3, .int 0), (2, .ref 75), (1, .ref 0), (0, .ref x_scr)], [.int (-2), .int (-2)], x_h0, 98, 10728)) rfl ?_
          refine x_R.steps 1 (c' := (2370, [(3, .int 0), (2, .ref 75), (1, .ref 0), (0, .ref x_scr)], [], x_h0, 98, 10728)) rfl ?_
          refine x_R.steps 7 (c' := (24, [(3, .int 6), (2, .ref 75), (1, .ref 0), (0, .ref x_scr)], [.int 0, .int 6], x_h0, 98, 10728)) rfl ?_
          refine x_R.steps 1 (c' := (2376, [(3, .int 6), (2, .ref 75), (1, .ref 0), (0, .ref x_scr)], [], x_h0, 98, 10728)) rfl ?_
          refine x_R.steps 1 (c' := (2377, [(3, .int 6), (2, .ref 75), (1, .ref 0), (0, .ref x_scr)], [.int 1], x_h0, 98, 10728)) rfl ?_
          exact x_R.ret (v := some (.int 1)) rfl x_fin
        · have g6 := mt (x_lg_gt (C := -1) (by decide)).mpr h6
          exfalso; omega
    · have g4 := mt (x_i_gt (C := 1) (by decide)).mpr h4
      refine x_R.steps 2 (c' := (11, [(0, .ref 0), (1, .int (xs 1)), (2, .int (xs 2))], [.int (xs 1), .ref 0], x_h0, 0, 0)) rfl ?_
      refine x_R.call (a := 186) (vs := [.ref 0, .int (xs 1)]) (rest := []) (M' := M_cX11_makeReady) rfl rfl rfl ?_
      refine x_R.steps 3 (c' := (5, [(0, .ref 0), (1, .int (xs 1))], [.int (xs 1), .ref 1], x_h0, 0, 0)) rfl ?_
      refine x_R.call (a := 15) (vs := [.ref 1, .int (xs 1)]) (rest := []) (M' := M_cX2_isPlayer) rfl rfl rfl ?_
      refine x_R.steps 1 (c' := (1, [(0, .ref 1), (1, .int (xs 1))], [.int (xs 1)], x_h0, 0, 0)) rfl ?_
      refine x_R.ite (p := (xs 1) < (0 : Int32)) (c1 := (16, [(0, .ref 1), (1, .int (xs 1))], [], x_h0, 0, 0)) (c2 := (4, [(0, .ref 1), (1, .int (xs 1))], [], x_h0, 0, 0)) rfl (fun h7 => ?_) (fun h7 => ?_)
      · have g7 := (x_i_lt (C := 0) (by decide)).mp h7
        refine x_R.steps 1 (c' := (17, [(0, .ref 1), (1, .int (xs 1))], [.int 0], x_h0, 0, 0)) rfl ?_
        refine x_R.ret (v := some (.int 0)) rfl ?_
        refine x_R.steps 0 (c' := (8, [(0, .ref 0), (1, .int (xs 1))], [.int 0], x_h0, 0, 0)) rfl ?_
        refine x_R.steps 1 (c' := (11, [(0, .ref 0), (1, .int (xs 1))], [], x_h0, 0, 0)) rfl ?_
        refine x_R.steps 1 (c' := (12, [(0, .ref 0), (1, .int (xs 1))], [.int 0], x_h0, 0, 0)) rfl ?_
        refine x_R.ret (v := some (.int 0)) rfl ?_
        refine x_R.steps 0 (c' := (14, [(0, .ref 0), (1, .int (xs 1)), (2, .int (xs 2))], [.int 0], x_h0, 0, 0)) rfl ?_
        refine x_R.steps 1 (c' := (17, [(0, .ref 0), (1, .int (xs 1)), (2, .int (xs 2))], [], x_h0, 0, 0)) rfl ?_
        refine x_R.steps 1 (c' := (19, [(0, .ref 0), (1, .int (xs 1)), (2, .int (xs 2))], [.int (-2)], x_h0, 0, 0)) rfl ?_
        refine x_R.ret (v := some (.int (-2))) rfl ?_
        refine x_R.steps 0 (c' := (1014, [(3, .int 0), (2, .ref 75), (1, .ref 0), (0, .ref x_scr)], [.int (-2)], x_h0, 98, 10728)) rfl ?_
        refine x_R.steps 5 (c' := (1019, [(3, .int 0), (2, .ref 75), (1, .ref 0), (0, .ref x_scr)], [.int 1, .ref x_scr, .ref 75, .int (-2)], x_h0, 98, 10728)) rfl ?_
        refine x_R.steps 1 (c' := (1020, [(3, .int 0), (2, .ref 75), (1, .ref 0), (0, .ref x_scr)], [.int (xs 1), .ref 75, .int (-2)], x_h0, 98, 10728)) rfl ?_
        refine x_R.steps 4 (c' := (1024, [(3, .int 0), (2, .ref 75), (1, .ref 0), (0, .ref x_scr)], [.int 2, .ref x_scr, .int (xs 1), .ref 75, .int (-2)], x_h0, 98, 10728)) rfl ?_
        refine x_R.steps 1 (c' := (1025, [(3, .int 0), (2, .ref 75), (1, .ref 0), (0, .ref x_scr)], [.int (xs 2), .int (xs 1), .ref 75, .int (-2)], x_h0, 98, 10728)) rfl ?_
        refine x_R.call (a := 277) (vs := [.ref 75, .int (xs 1), .int (xs 2)]) (rest := [.int (-2)]) (M' := M_cX12_waits) rfl rfl rfl ?_
        refine x_R.steps 2 (c' := (2, [(0, .ref 75), (1, .int (xs 1)), (2, .int (xs 2))], [.int (xs 1), .ref 75], x_h0, 0, 0)) rfl ?_
        refine x_R.call (a := 205) (vs := [.ref 75, .int (xs 1)]) (rest := []) (M' := M_cX12_isPlayer) rfl rfl rfl ?_
        refine x_R.steps 6 (c' := (9, [(0, .ref 75), (1, .int (xs 1))], [.int 6, .ref 76, .long 0, .long ((xs 1)).toInt64], x_h0, 0, 0)) rfl ?_
        refine x_R.steps 1 (c' := (10, [(0, .ref 75), (1, .int (xs 1))], [.int 0, .long 0, .long ((xs 1)).toInt64], x_h0, 0, 0)) rfl ?_
        refine x_R.steps 3 (c' := (13, [(0, .ref 75), (1, .int (xs 1))], [.long (-1), .long 0, .long ((xs 1)).toInt64], x_h0, 0, 0)) rfl ?_
        refine x_R.call (a := 196) (vs := [.long ((xs 1)).toInt64, .long 0, .long (-1)]) (rest := []) (M' := M_cX12_in) rfl rfl rfl ?_
        refine x_R.steps 3 (c' := (3, [(0, .long ((xs 1)).toInt64), (2, .long 0), (4, .long (-1))], [.int (lg_cmp ((xs 1)).toInt64 0)], x_h0, 0, 0)) rfl ?_
        refine x_R.ite (p := (lg_cmp ((xs 1)).toInt64 0) < (0 : Int32)) (c1 := (17, [(0, .long ((xs 1)).toInt64), (2, .long 0), (4, .long (-1))], [], x_h0, 0, 0)) (c2 := (6, [(0, .long ((xs 1)).toInt64), (2, .long 0), (4, .long (-1))], [], x_h0, 0, 0)) rfl (fun h8 => ?_) (fun h8 => ?_)
        · have g8 := (x_lg_lt (C := 0) (by decide)).mp h8
          refine x_R.steps 1 (c' := (18, [(0, .long ((xs 1)).toInt64), (2, .long 0), (4, .long (-1))], [.int 0], x_h0, 0, 0)) rfl ?_
          refine x_R.ret (v := some (.int 0)) rfl ?_
          refine x_R.steps 0 (c' := (16, [(0, .ref 75), (1, .int (xs 1))], [.int 0], x_h0, 0, 0)) rfl ?_
          refine x_R.ret (v := some (.int 0)) rfl ?_
          refine x_R.steps 0 (c' := (5, [(0, .ref 75), (1, .int (xs 1)), (2, .int (xs 2))], [.int 0], x_h0, 0, 0)) rfl ?_
          refine x_R.steps 1 (c' := (18, [(0, .ref 75), (1, .int (xs 1)), (2, .int (xs 2))], [], x_h0, 0, 0)) rfl ?_
          refine x_R.steps 1 (c' := (20, [(0, .ref 75), (1, .int (xs 1)), (2, .int (xs 2))], [.int (-2)], x_h0, 0, 0)) rfl ?_
          refine x_R.ret (v := some (.int (-2))) rfl ?_
          refine x_R.steps 0 (c' := (1028, [(3, .int 0), (2, .ref 75), (1, .ref 0), (0, .ref x_scr)], [.int (-2), .int (-2)], x_h0, 98, 10728)) rfl ?_
          refine x_R.steps 1 (c' := (2370, [(3, .int 0), (2, .ref 75), (1, .ref 0), (0, .ref x_scr)], [], x_h0, 98, 10728)) rfl ?_
          refine x_R.steps 7 (c' := (24, [(3, .int 6), (2, .ref 75), (1, .ref 0), (0, .ref x_scr)], [.int 0, .int 6], x_h0, 98, 10728)) rfl ?_
          refine x_R.steps 1 (c' := (2376, [(3, .int 6), (2, .ref 75), (1, .ref 0), (0, .ref x_scr)], [], x_h0, 98, 10728)) rfl ?_
          refine x_R.steps 1 (c' := (2377, [(3, .int 6), (2, .ref 75), (1, .ref 0), (0, .ref x_scr)], [.int 1], x_h0, 98, 10728)) rfl ?_
          exact x_R.ret (v := some (.int 1)) rfl x_fin
        · have g8 := mt (x_lg_lt (C := 0) (by decide)).mpr h8
          exfalso; omega
      · have g7 := mt (x_i_lt (C := 0) (by decide)).mpr h7
        refine x_R.steps 3 (c' := (9, [(0, .ref 1), (1, .int (xs 1))], [.int 0, .int (xs 1)], x_h0, 0, 0)) rfl ?_
        refine x_R.ite (p := (0 : Int32) ≤ (xs 1)) (c1 := (16, [(0, .ref 1), (1, .int (xs 1))], [], x_h0, 0, 0)) (c2 := (12, [(0, .ref 1), (1, .int (xs 1))], [], x_h0, 0, 0)) rfl (fun h9 => ?_) (fun h9 => ?_)
        · have g9 := (x_i_ge (C := 0) (by decide)).mp h9
          refine x_R.steps 1 (c' := (17, [(0, .ref 1), (1, .int (xs 1))], [.int 0], x_h0, 0, 0)) rfl ?_
          refine x_R.ret (v := some (.int 0)) rfl ?_
          refine x_R.steps 0 (c' := (8, [(0, .ref 0), (1, .int (xs 1))], [.int 0], x_h0, 0, 0)) rfl ?_
          refine x_R.steps 1 (c' := (11, [(0, .ref 0), (1, .int (xs 1))], [], x_h0, 0, 0)) rfl ?_
          refine x_R.steps 1 (c' := (12, [(0, .ref 0), (1, .int (xs 1))], [.int 0], x_h0, 0, 0)) rfl ?_
          refine x_R.ret (v := some (.int 0)) rfl ?_
          refine x_R.steps 0 (c' := (14, [(0, .ref 0), (1, .int (xs 1)), (2, .int (xs 2))], [.int 0], x_h0, 0, 0)) rfl ?_
          refine x_R.steps 1 (c' := (17, [(0, .ref 0), (1, .int (xs 1)), (2, .int (xs 2))], [], x_h0, 0, 0)) rfl ?_
          refine x_R.steps 1 (c' := (19, [(0, .ref 0), (1, .int (xs 1)), (2, .int (xs 2))], [.int (-2)], x_h0, 0, 0)) rfl ?_
          refine x_R.ret (v := some (.int (-2))) rfl ?_
          refine x_R.steps 0 (c' := (1014, [(3, .int 0), (2, .ref 75), (1, .ref 0), (0, .ref x_scr)], [.int (-2)], x_h0, 98, 10728)) rfl ?_
          refine x_R.steps 5 (c' := (1019, [(3, .int 0), (2, .ref 75), (1, .ref 0), (0, .ref x_scr)], [.int 1, .ref x_scr, .ref 75, .int (-2)], x_h0, 98, 10728)) rfl ?_
          refine x_R.steps 1 (c' := (1020, [(3, .int 0), (2, .ref 75), (1, .ref 0), (0, .ref x_scr)], [.int (xs 1), .ref 75, .int (-2)], x_h0, 98, 10728)) rfl ?_
          refine x_R.steps 4 (c' := (1024, [(3, .int 0), (2, .ref 75), (1, .ref 0), (0, .ref x_scr)], [.int 2, .ref x_scr, .int (xs 1), .ref 75, .int (-2)], x_h0, 98, 10728)) rfl ?_
          refine x_R.steps 1 (c' := (1025, [(3, .int 0), (2, .ref 75), (1, .ref 0), (0, .ref x_scr)], [.int (xs 2), .int (xs 1), .ref 75, .int (-2)], x_h0, 98, 10728)) rfl ?_
          refine x_R.call (a := 277) (vs := [.ref 75, .int (xs 1), .int (xs 2)]) (rest := [.int (-2)]) (M' := M_cX12_waits) rfl rfl rfl ?_
          refine x_R.steps 2 (c' := (2, [(0, .ref 75), (1, .int (xs 1)), (2, .int (xs 2))], [.int (xs 1), .ref 75], x_h0, 0, 0)) rfl ?_
          refine x_R.call (a := 205) (vs := [.ref 75, .int (xs 1)]) (rest := []) (M' := M_cX12_isPlayer) rfl rfl rfl ?_
          refine x_R.steps 6 (c' := (9, [(0, .ref 75), (1, .int (xs 1))], [.int 6, .ref 76, .long 0, .long ((xs 1)).toInt64], x_h0, 0, 0)) rfl ?_
          refine x_R.steps 1 (c' := (10, [(0, .ref 75), (1, .int (xs 1))], [.int 0, .long 0, .long ((xs 1)).toInt64], x_h0, 0, 0)) rfl ?_
          refine x_R.steps 3 (c' := (13, [(0, .ref 75), (1, .int (xs 1))], [.long (-1), .long 0, .long ((xs 1)).toInt64], x_h0, 0, 0)) rfl ?_
          refine x_R.call (a := 196) (vs := [.long ((xs 1)).toInt64, .long 0, .long (-1)]) (rest := []) (M' := M_cX12_in) rfl rfl rfl ?_
          refine x_R.steps 3 (c' := (3, [(0, .long ((xs 1)).toInt64), (2, .long 0), (4, .long (-1))], [.int (lg_cmp ((xs 1)).toInt64 0)], x_h0, 0, 0)) rfl ?_
          refine x_R.ite (p := (lg_cmp ((xs 1)).toInt64 0) < (0 : Int32)) (c1 := (17, [(0, .long ((xs 1)).toInt64), (2, .long 0), (4, .long (-1))], [], x_h0, 0, 0)) (c2 := (6, [(0, .long ((xs 1)).toInt64), (2, .long 0), (4, .long (-1))], [], x_h0, 0, 0)) rfl (fun h10 => ?_) (fun h10 => ?_)
          · have g10 := (x_lg_lt (C := 0) (by decide)).mp h10
            exfalso; omega
          · have g10 := mt (x_lg_lt (C := 0) (by decide)).mpr h10
            refine x_R.steps 3 (c' := (10, [(0, .long ((xs 1)).toInt64), (2, .long 0), (4, .long (-1))], [.int (lg_cmp ((xs 1)).toInt64 (-1))], x_h0, 0, 0)) rfl ?_
            refine x_R.ite (p := (0 : Int32) < (lg_cmp ((xs 1)).toInt64 (-1))) (c1 := (17, [(0, .long ((xs 1)).toInt64), (2, .long 0), (4, .long (-1))], [], x_h0, 0, 0)) (c2 := (13, [(0, .long ((xs 1)).toInt64), (2, .long 0), (4, .long (-1))], [], x_h0, 0, 0)) rfl (fun h11 => ?_) (fun h11 => ?_)
            · have g11 := (x_lg_gt (C := -1) (by decide)).mp h11
              refine x_R.steps 1 (c' := (18, [(0, .long ((xs 1)).toInt64), (2, .long 0), (4, .long (-1))], [.int 0], x_h0, 0, 0)) rfl ?_
              refine x_R.ret (v := some (.int 0)) rfl ?_
              refine x_R.steps 0 (c' := (16, [(0, .ref 75), (1, .int (xs 1))], [.int 0], x_h0, 0, 0)) rfl ?_
              refine x_R.ret (v := some (.int 0)) rfl ?_
              refine x_R.steps 0 (c' := (5, [(0, .ref 75), (1, .int (xs 1)), (2, .int (xs 2))], [.int 0], x_h0, 0, 0)) rfl ?_
              refine x_R.steps 1 (c' := (18, [(0, .ref 75), (1, .int (xs 1)), (2, .int (xs 2))], [], x_h0, 0, 0)) rfl ?_
              refine x_R.steps 1 (c' := (20, [(0, .ref 75), (1, .int (xs 1)), (2, .int (xs 2))], [.int (-2)], x_h0, 0, 0)) rfl ?_
              refine x_R.ret (v := some (.int (-2))) rfl ?_
              refine x_R.steps 0 (c' := (1028, [(3, .int 0), (2, .ref 75), (1, .ref 0), (0, .ref x_scr)], [.int (-2), .int (-2)], x_h0, 98, 10728)) rfl ?_
              refine x_R.steps 1 (c' := (2370, [(3, .int 0), (2, .ref 75), (1, .ref 0), (0, .ref x_scr)], [], x_h0, 98, 10728)) rfl ?_
              refine x_R.steps 7 (c' := (24, [(3, .int 6), (2, .ref 75), (1, .ref 0), (0, .ref x_scr)], [.int 0, .int 6], x_h0, 98, 10728)) rfl ?_
              refine x_R.steps 1 (c' := (2376, [(3, .int 6), (2, .ref 75), (1, .ref 0), (0, .ref x_scr)], [], x_h0, 98, 10728)) rfl ?_
              refine x_R.steps 1 (c' := (2377, [(3, .int 6), (2, .ref 75), (1, .ref 0), (0, .ref x_scr)], [.int 1], x_h0, 98, 10728)) rfl ?_
              exact x_R.ret (v := some (.int 1)) rfl x_fin
            · have g11 := mt (x_lg_gt (C := -1) (by decide)).mpr h11
              exfalso; omega
        · have g9 := mt (x_i_ge (C := 0) (by decide)).mpr h9
          exfalso; omega
set_option maxRecDepth 100000 in
set_option maxHeartbeats 4000000 in
theorem x_c25_0 (xs : Nat → Int32)  : x_R x_mt (some (6, xs)) 13 M_law (1033, [(3, .int 0), (2, .ref 75), (1, .ref 0), (0, .ref x_scr)], [], x_h0, 98, 10728) x_P := by
  refine x_R.steps 5 (c' := (1038, [(3, .int 0), (2, .ref 75), (1, .ref 0), (0, .ref x_scr)], [.int 1, .ref x_scr, .ref 0], x_h0, 98, 10728)) rfl ?_
  refine x_R.steps 1 (c' := (1039, [(3, .int 0), (2, .ref 75), (1, .ref 0), (0, .ref x_scr)], [.int (xs 1), .ref 0], x_h0, 98, 10728)) rfl ?_
  refine x_R.steps 4 (c' := (1043, [(3, .int 0), (2, .ref 75), (1, .ref 0), (0, .ref x_scr)], [.int 2, .ref x_scr, .int (xs 1), .ref 0], x_h0, 98, 10728)) rfl ?_
  refine x_R.steps 1 (c' := (1044, [(3, .int 0), (2, .ref 75), (1, .ref 0), (0, .ref x_scr)], [.int (xs 2), .int (xs 1), .ref 0], x_h0, 98, 10728)) rfl ?_
  refine x_R.call (a := 140) (vs := [.ref 0, .int (xs 1), .int (xs 2)]) (rest := []) (M' := M_cX11_mean) rfl rfl rfl ?_
  refine x_R.steps 3 (c' := (5, [(0, .ref 0), (1, .int (xs 1)), (2, .int (xs 2))], [.int (xs 1), .ref 1], x_h0, 0, 0)) rfl ?_
  refine x_R.call (a := 13) (vs := [.ref 1, .int (xs 1)]) (rest := []) (M' := M_cX2_isHole) rfl rfl rfl ?_
  refine x_R.steps 1 (c' := (1, [(0, .ref 1), (1, .int (xs 1))], [.int (xs 1)], x_h0, 0, 0)) rfl ?_
  refine x_R.ite (p := (xs 1) < (0 : Int32)) (c1 := (16, [(0, .ref 1), (1, .int (xs 1))], [], x_h0, 0, 0)) (c2 := (4, [(0, .ref 1), (1, .int (xs 1))], [], x_h0, 0, 0)) rfl (fun h1 => ?_) (fun h1 => ?_)
  · have g1 := (x_i_lt (C := 0) (by decide)).mp h1
    refine x_R.steps 1 (c' := (17, [(0, .ref 1), (1, .int (xs 1))], [.int 0], x_h0, 0, 0)) rfl ?_
    refine x_R.ret (v := some (.int 0)) rfl ?_
    refine x_R.steps 0 (c' := (8, [(0, .ref 0), (1, .int (xs 1)), (2, .int (xs 2))], [.int 0], x_h0, 0, 0)) rfl ?_
    refine x_R.steps 1 (c' := (20, [(0, .ref 0), (1, .int (xs 1)), (2, .int (xs 2))], [], x_h0, 0, 0)) rfl ?_
    refine x_R.steps 1 (c' := (22, [(0, .ref 0), (1, .int (xs 1)), (2, .int (xs 2))], [.int (-2)], x_h0, 0, 0)) rfl ?_
    refine x_R.ret (v := some (.int (-2))) rfl ?_
    refine x_R.steps 0 (c' := (1047, [(3, .int 0), (2, .ref 75), (1, .ref 0), (0, .ref x_scr)], [.int (-2)], x_h0, 98, 10728)) rfl ?_
    refine x_R.steps 5 (c' := (1052, [(3, .int 0), (2, .ref 75), (1, .ref 0), (0, .ref x_scr)], [.int 1, .ref x_scr, .ref 75, .int (-2)], x_h0, 98, 10728)) rfl ?_
    refine x_R.steps 1 (c' := (1053, [(3, .int 0), (2, .ref 75), (1, .ref 0), (0, .ref x_scr)], [.int (xs 1), .ref 75, .int (-2)], x_h0, 98, 10728)) rfl ?_
    refine x_R.steps 4 (c' := (1057, [(3, .int 0), (2, .ref 75), (1, .ref 0), (0, .ref x_scr)], [.int 2, .ref x_scr, .int (xs 1), .ref 75, .int (-2)], x_h0, 98, 10728)) rfl ?_
    refine x_R.steps 1 (c' := (1058, [(3, .int 0), (2, .ref 75), (1, .ref 0), (0, .ref x_scr)], [.int (xs 2), .int (xs 1), .ref 75, .int (-2)], x_h0, 98, 10728)) rfl ?_
    refine x_R.call (a := 281) (vs := [.ref 75, .int (xs 1), .int (xs 2)]) (rest := [.int (-2)]) (M' := M_cX12_mean) rfl rfl rfl ?_
    refine x_R.steps 3 (c' := (3, [(0, .ref 75), (1, .int (xs 1)), (2, .int (xs 2))], [.long ((xs 1)).toInt64, .ref 75], x_h0, 0, 0)) rfl ?_
    refine x_R.call (a := 201) (vs := [.ref 75, .long ((xs 1)).toInt64]) (rest := []) (M' := M_cX12_isHole) rfl rfl rfl ?_
    refine x_R.steps 3 (c' := (3, [(0, .ref 75), (1, .long ((xs 1)).toInt64)], [.ref 75, .long 0, .long ((xs 1)).toInt64], x_h0, 0, 0)) rfl ?_
    refine x_R.call (a := 200) (vs := [.ref 75]) (rest := [.long 0, .long ((xs 1)).toInt64]) (M' := M_cX12_holes) rfl rfl rfl ?_
    refine x_R.steps 3 (c' := (5, [(0, .ref 75)], [.int 0, .ref 76], x_h0, 0, 0)) rfl ?_
    refine x_R.steps 1 (c' := (6, [(0, .ref 75)], [.int 0], x_h0, 0, 0)) rfl ?_
    refine x_R.steps 3 (c' := (11, [(0, .ref 75)], [.int 1, .ref 76, .int 0], x_h0, 0, 0)) rfl ?_
    refine x_R.steps 1 (c' := (12, [(0, .ref 75)], [.int 0, .int 0], x_h0, 0, 0)) rfl ?_
    refine x_R.steps 1 (c' := (13, [(0, .ref 75)], [.int 0], x_h0, 0, 0)) rfl ?_
    refine x_R.ret (v := some (.int 0)) rfl ?_
    refine x_R.steps 0 (c' := (6, [(0, .ref 75), (1, .long ((xs 1)).toInt64)], [.int 0, .long 0, .long ((xs 1)).toInt64], x_h0, 0, 0)) rfl ?_
    refine x_R.steps 3 (c' := (9, [(0, .ref 75), (1, .long ((xs 1)).toInt64)], [.long (-1), .long 0, .long ((xs 1)).toInt64], x_h0, 0, 0)) rfl ?_
    refine x_R.call (a := 196) (vs := [.long ((xs 1)).toInt64, .long 0, .long (-1)]) (rest := []) (M' := M_cX12_in) rfl rfl rfl ?_
    refine x_R.steps 3 (c' := (3, [(0, .long ((xs 1)).toInt64), (2, .long 0), (4, .long (-1))], [.int (lg_cmp ((xs 1)).toInt64 0)], x_h0, 0, 0)) rfl ?_
    refine x_R.ite (p := (lg_cmp ((xs 1)).toInt64 0) < (0 : Int32)) (c1 := (17, [(0, .long ((xs 1)).toInt64), (2, .long 0), (4, .long (-1))], [], x_h0, 0, 0)) (c2 := (6, [(0, .long ((xs 1)).toInt64), (2, .long 0), (4, .long (-1))], [], x_h0, 0, 0)) rfl (fun h2 => ?_) (fun h2 => ?_)
    · have g2 := (x_lg_lt (C := 0) (by decide)).mp h2
      refine x_R.steps 1 (c' := (18, [(0, .long ((xs 1)).toInt64), (2, .long 0), (4, .long (-1))], [.int 0], x_h0, 0, 0)) rfl ?_
      refine x_R.ret (v := some (.int 0)) rfl ?_
      refine x_R.steps 0 (c' := (12, [(0, .ref 75), (1, .long ((xs 1)).toInt64)], [.int 0], x_h0, 0, 0)) rfl ?_
      refine x_R.ret (v := some (.int 0)) rfl ?_
      refine x_R.steps 0 (c' := (6, [(0, .ref 75), (1, .int (xs 1)), (2, .int (xs 2))], [.int 0], x_h0, 0, 0)) rfl ?_
      refine x_R.steps 1 (c' := (19, [(0, .ref 75), (1, .int (xs 1)), (2, .int (xs 2))], [], x_h0, 0, 0)) rfl ?_
      refine x_R.steps 1 (c' := (21, [(0, .ref 75), (1, .int (xs 1)), (2, .int (xs 2))], [.int (-2)], x_h0, 0, 0)) rfl ?_
      refine x_R.ret (v := some (.int (-2))) rfl ?_
      refine x_R.steps 0 (c' := (1061, [(3, .int 0), (2, .ref 75), (1, .ref 0), (0, .ref x_scr)], [.int (-2), .int (-2)], x_h0, 98, 10728)) rfl ?_
      refine x_R.steps 1 (c' := (2370, [(3, .int 0), (2, .ref 75), (1, .ref 0), (0, .ref x_scr)], [], x_h0, 98, 10728)) rfl ?_
      refine x_R.steps 7 (c' := (24, [(3, .int 6), (2, .ref 75), (1, .ref 0), (0, .ref x_scr)], [.int 0, .int 6], x_h0, 98, 10728)) rfl ?_
      refine x_R.steps 1 (c' := (2376, [(3, .int 6), (2, .ref 75), (1, .ref 0), (0, .ref x_scr)], [], x_h0, 98, 10728)) rfl ?_
      refine x_R.steps 1 (c' := (2377, [(3, .int 6), (2, .ref 75), (1, .ref 0), (0, .ref x_scr)], [.int 1], x_h0, 98, 10728)) rfl ?_
      exact x_R.ret (v := some (.int 1)) rfl x_fin
    · have g2 := mt (x_lg_lt (C := 0) (by decide)).mpr h2
      exfalso; omega
  · have g1 := mt (x_i_lt (C := 0) (by decide)).mpr h1
    refine x_R.steps 2 (c' := (6, [(0, .ref 1), (1, .int (xs 1))], [.ref 1, .int (xs 1)], x_h0, 0, 0)) rfl ?_
    refine x_R.call (a := 12) (vs := [.ref 1]) (rest := [.int (xs 1)]) (M' := M_cX2_holes) rfl rfl rfl ?_
    refine x_R.steps 5 (c' := (9, [(0, .ref 1)], [.int 0], x_h0, 0, 0)) rfl ?_
    refine x_R.ret (v := some (.int 0)) rfl ?_
    refine x_R.steps 0 (c' := (9, [(0, .ref 1), (1, .int (xs 1))], [.int 0, .int (xs 1)], x_h0, 0, 0)) rfl ?_
    refine x_R.ite (p := (0 : Int32) ≤ (xs 1)) (c1 := (16, [(0, .ref 1), (1, .int (xs 1))], [], x_h0, 0, 0)) (c2 := (12, [(0, .ref 1), (1, .int (xs 1))], [], x_h0, 0, 0)) rfl (fun h3 => ?_) (fun h3 => ?_)
    · have g3 := (x_i_ge (C := 0) (by decide)).mp h3
      refine x_R.steps 1 (c' := (17, [(0, .ref 1), (1, .int (xs 1))], [.int 0], x_h0, 0, 0)) rfl ?_
      refine x_R.ret (v := some (.int 0)) rfl ?_
      refine x_R.steps 0 (c' := (8, [(0, .ref 0), (1, .int (xs 1)), (2, .int (xs 2))], [.int 0], x_h0, 0, 0)) rfl ?_
      refine x_R.steps 1 (c' := (20, [(0, .ref 0), (1, .int (xs 1)), (2, .int (xs 2))], [], x_h0, 0, 0)) rfl ?_
      refine x_R.steps 1 (c' := (22, [(0, .ref 0), (1, .int (xs 1)), (2, .int (xs 2))], [.int (-2)], x_h0, 0, 0)) rfl ?_
      refine x_R.ret (v := some (.int (-2))) rfl ?_
      refine x_R.steps 0 (c' := (1047, [(3, .int 0), (2, .ref 75), (1, .ref 0), (0, .ref x_scr)], [.int (-2)], x_h0, 98, 10728)) rfl ?_
      refine x_R.steps 5 (c' := (1052, [(3, .int 0), (2, .ref 75), (1, .ref 0), (0, .ref x_scr)], [.int 1, .ref x_scr, .ref 75, .int (-2)], x_h0, 98, 10728)) rfl ?_
      refine x_R.steps 1 (c' := (1053, [(3, .int 0), (2, .ref 75), (1, .ref 0), (0, .ref x_scr)], [.int (xs 1), .ref 75, .int (-2)], x_h0, 98, 10728)) rfl ?_
      refine x_R.steps 4 (c' := (1057, [(3, .int 0), (2, .ref 75), (1, .ref 0), (0, .ref x_scr)], [.int 2, .ref x_scr, .int (xs 1), .ref 75, .int (-2)], x_h0, 98, 10728)) rfl ?_
      refine x_R.steps 1 (c' := (1058, [(3, .int 0), (2, .ref 75), (1, .ref 0), (0, .ref x_scr)], [.int (xs 2), .int (xs 1), .ref 75, .int (-2)], x_h0, 98, 10728)) rfl ?_
      refine x_R.call (a := 281) (vs := [.ref 75, .int (xs 1), .int (xs 2)]) (rest := [.int (-2)]) (M' := M_cX12_mean) rfl rfl rfl ?_
      refine x_R.steps 3 (c' := (3, [(0, .ref 75), (1, .int (xs 1)), (2, .int (xs 2))], [.long ((xs 1)).toInt64, .ref 75], x_h0, 0, 0)) rfl ?_
      refine x_R.call (a := 201) (vs := [.ref 75, .long ((xs 1)).toInt64]) (rest := []) (M' := M_cX12_isHole) rfl rfl rfl ?_
      refine x_R.steps 3 (c' := (3, [(0, .ref 75), (1, .long ((xs 1)).toInt64)], [.ref 75, .long 0, .long ((xs 1)).toInt64], x_h0, 0, 0)) rfl ?_
      refine x_R.call (a := 200) (vs := [.ref 75]) (rest := [.long 0, .long ((xs 1)).toInt64]) (M' := M_cX12_holes) rfl rfl rfl ?_
      refine x_R.steps 3 (c' := (5, [(0, .ref 75)], [.int 0, .ref 76], x_h0, 0, 0)) rfl ?_
      refine x_R.steps 1 (c' := (6, [(0, .ref 75)], [.int 0], x_h0, 0, 0)) rfl ?_
      refine x_R.steps 3 (c' := (11, [(0, .ref 75)], [.int 1, .ref 76, .int 0], x_h0, 0, 0)) rfl ?_
      refine x_R.steps 1 (c' := (12, [(0, .ref 75)], [.int 0, .int 0], x_h0, 0, 0)) rfl ?_
      refine x_R.steps 1 (c' := (13, [(0, .ref 75)], [.int 0], x_h0, 0, 0)) rfl ?_
      refine x_R.ret (v := some (.int 0)) rfl ?_
      refine x_R.steps 0 (c' := (6, [(0, .ref 75), (1, .long ((xs 1)).toInt64)], [.int 0, .long 0, .long ((xs 1)).toInt64], x_h0, 0, 0)) rfl ?_
      refine x_R.steps 3 (c' := (9, [(0, .ref 75), (1, .long ((xs 1)).toInt64)], [.long (-1), .long 0, .long ((xs 1)).toInt64], x_h0, 0, 0)) rfl ?_
      refine x_R.call (a := 196) (vs := [.long ((xs 1)).toInt64, .long 0, .long (-1)]) (rest := []) (M' := M_cX12_in) rfl rfl rfl ?_
      refine x_R.steps 3 (c' := (3, [(0, .long ((xs 1)).toInt64), (2, .long 0), (4, .long (-1))], [.int (lg_cmp ((xs 1)).toInt64 0)], x_h0, 0, 0)) rfl ?_
      refine x_R.ite (p := (lg_cmp ((xs 1)).toInt64 0) < (0 : Int32)) (c1 := (17, [(0, .long ((xs 1)).toInt64), (2, .long 0), (4, .long (-1))], [], x_h0, 0, 0)) (c2 := (6, [(0, .long ((xs 1)).toInt64), (2, .long 0), (4, .long (-1))], [], x_h0, 0, 0)) rfl (fun h4 => ?_) (fun h4 => ?_)
      · have g4 := (x_lg_lt (C := 0) (by decide)).mp h4
        exfalso; omega
      · have g4 := mt (x_lg_lt (C := 0) (by decide)).mpr h4
        refine x_R.steps 3 (c' := (10, [(0, .long ((xs 1)).toInt64), (2, .long 0), (4, .long (-1))], [.int (lg_cmp ((xs 1)).toInt64 (-1))], x_h0, 0, 0)) rfl ?_
        refine x_R.ite (p := (0 : Int32) < (lg_cmp ((xs 1)).toInt64 (-1))) (c1 := (17, [(0, .long ((xs 1)).toInt64), (2, .long 0), (4, .long (-1))], [], x_h0, 0, 0)) (c2 := (13, [(0, .long ((xs 1)).toInt64), (2, .long 0), (4, .long (-1))], [], x_h0, 0, 0)) rfl (fun h5 => ?_) (fun h5 => ?_)
        · have g5 := (x_lg_gt (C := -1) (by decide)).mp h5
          refine x_R.steps 1 (c' := (18, [(0, .long ((xs 1)).toInt64), (2, .long 0), (4, .long (-1))], [.int 0], x_h0, 0, 0)) rfl ?_
          refine x_R.ret (v := some (.int 0)) rfl ?_
          refine x_R.steps 0 (c' := (12, [(0, .ref 75), (1, .long ((xs 1)).toInt64)], [.int 0], x_h0, 0, 0)) rfl ?_
          refine x_R.ret (v := some (.int 0)) rfl ?_
          refine x_R.steps 0 (c' := (6, [(0, .ref 75), (1, .int (xs 1)), (2, .int (xs 2))], [.int 0], x_h0, 0, 0)) rfl ?_
          refine x_R.steps 1 (c' := (19, [(0, .ref 75), (1, .int (xs 1)), (2, .int (xs 2))], [], x_h0, 0, 0)) rfl ?_
          refine x_R.steps 1 (c' := (21, [(0, .ref 75), (1, .int (xs 1)), (2, .int (xs 2))], [.int (-2)], x_h0, 0, 0)) rfl ?_
          refine x_R.ret (v := some (.int (-2))) rfl ?_
          refine x_R.steps 0 (c' := (1061, [(3, .int 0), (2, .ref 75), (1, .ref 0), (0, .ref x_scr)], [.int (-2), .int (-2)], x_h0, 98, 10728)) rfl ?_
          refine x_R.steps 1 (c' := (2370, [(3, .int 0), (2, .ref 75), (1, .ref 0), (0, .ref x_scr)], [], x_h0, 98, 10728)) rfl ?_
          refine x_R.steps 7 (c' := (24, [(3, .int 6), (2, .ref 75), (1, .ref 0), (0, .ref x_scr)], [.int 0, .int 6], x_h0, 98, 10728)) rfl ?_
          refine x_R.steps 1 (c' := (2376, [(3, .int 6), (2, .ref 75), (1, .ref 0), (0, .ref x_scr)], [], x_h0, 98, 10728)) rfl ?_
          refine x_R.steps 1 (c' := (2377, [(3, .int 6), (2, .ref 75), (1, .ref 0), (0, .ref x_scr)], [.int 1], x_h0, 98, 10728)) rfl ?_
          exact x_R.ret (v := some (.int 1)) rfl x_fin
        · have g5 := mt (x_lg_gt (C := -1) (by decide)).mpr h5
          exfalso; omega
    · have g3 := mt (x_i_ge (C := 0) (by decide)).mpr h3
      exfalso; omega
