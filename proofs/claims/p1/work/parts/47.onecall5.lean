set_option maxRecDepth 100000 in
set_option maxHeartbeats 4000000 in
theorem x_c63_0 (xs : Nat → Int32)  : x_R x_mt (some (6, xs)) 13 M_law (2069, [(3, .int 0), (2, .ref 75), (1, .ref 0), (0, .ref x_scr)], [], x_h0, 98, 10728) x_P := by
  refine x_R.steps 5 (c' := (2074, [(3, .int 0), (2, .ref 75), (1, .ref 0), (0, .ref x_scr)], [.int 1, .ref x_scr, .ref 0], x_h0, 98, 10728)) rfl ?_
  refine x_R.steps 1 (c' := (2075, [(3, .int 0), (2, .ref 75), (1, .ref 0), (0, .ref x_scr)], [.int (xs 1), .ref 0], x_h0, 98, 10728)) rfl ?_
  refine x_R.steps 4 (c' := (2079, [(3, .int 0), (2, .ref 75), (1, .ref 0), (0, .ref x_scr)], [.int 2, .ref x_scr, .int (xs 1), .ref 0], x_h0, 98, 10728)) rfl ?_
  refine x_R.steps 1 (c' := (2080, [(3, .int 0), (2, .ref 75), (1, .ref 0), (0, .ref x_scr)], [.int (xs 2), .int (xs 1), .ref 0], x_h0, 98, 10728)) rfl ?_
  refine x_R.steps 4 (c' := (2084, [(3, .int 0), (2, .ref 75), (1, .ref 0), (0, .ref x_scr)], [.int 3, .ref x_scr, .int (xs 2), .int (xs 1), .ref 0], x_h0, 98, 10728)) rfl ?_
  refine x_R.steps 1 (c' := (2085, [(3, .int 0), (2, .ref 75), (1, .ref 0), (0, .ref x_scr)], [.int (xs 3), .int (xs 2), .int (xs 1), .ref 0], x_h0, 98, 10728)) rfl ?_
  refine x_R.steps 4 (c' := (2089, [(3, .int 0), (2, .ref 75), (1, .ref 0), (0, .ref x_scr)], [.int 4, .ref x_scr, .int (xs 3), .int (xs 2), .int (xs 1), .ref 0], x_h0, 98, 10728)) rfl ?_
  refine x_R.steps 1 (c' := (2090, [(3, .int 0), (2, .ref 75), (1, .ref 0), (0, .ref x_scr)], [.int (xs 4), .int (xs 3), .int (xs 2), .int (xs 1), .ref 0], x_h0, 98, 10728)) rfl ?_
  refine x_R.call (a := 176) (vs := [.ref 0, .int (xs 1), .int (xs 2), .int (xs 3), .int (xs 4)]) (rest := []) (M' := M_cX11_years) rfl rfl rfl ?_
  refine x_R.steps 1 (c' := (1, [(0, .ref 0), (1, .int (xs 1)), (2, .int (xs 2)), (3, .int (xs 3)), (4, .int (xs 4))], [.int (xs 1)], x_h0, 0, 0)) rfl ?_
  refine x_R.call (a := 184) (vs := [.int (xs 1)]) (rest := []) (M' := M_cX11_isSeed) rfl rfl rfl ?_
  refine x_R.steps 1 (c' := (1, [(0, .int (xs 1))], [.int (xs 1)], x_h0, 0, 0)) rfl ?_
  refine x_R.ite (p := (xs 1) < (0 : Int32)) (c1 := (15, [(0, .int (xs 1))], [], x_h0, 0, 0)) (c2 := (4, [(0, .int (xs 1))], [], x_h0, 0, 0)) rfl (fun h1 => ?_) (fun h1 => ?_)
  · have g1 := (x_i_lt (C := 0) (by decide)).mp h1
    refine x_R.steps 1 (c' := (16, [(0, .int (xs 1))], [.int 0], x_h0, 0, 0)) rfl ?_
    refine x_R.ret (v := some (.int 0)) rfl ?_
    refine x_R.steps 0 (c' := (4, [(0, .ref 0), (1, .int (xs 1)), (2, .int (xs 2)), (3, .int (xs 3)), (4, .int (xs 4))], [.int 0], x_h0, 0, 0)) rfl ?_
    refine x_R.steps 1 (c' := (37, [(0, .ref 0), (1, .int (xs 1)), (2, .int (xs 2)), (3, .int (xs 3)), (4, .int (xs 4))], [], x_h0, 0, 0)) rfl ?_
    refine x_R.steps 1 (c' := (39, [(0, .ref 0), (1, .int (xs 1)), (2, .int (xs 2)), (3, .int (xs 3)), (4, .int (xs 4))], [.int (-2)], x_h0, 0, 0)) rfl ?_
    refine x_R.ret (v := some (.int (-2))) rfl ?_
    refine x_R.steps 0 (c' := (2093, [(3, .int 0), (2, .ref 75), (1, .ref 0), (0, .ref x_scr)], [.int (-2)], x_h0, 98, 10728)) rfl ?_
    refine x_R.steps 5 (c' := (2098, [(3, .int 0), (2, .ref 75), (1, .ref 0), (0, .ref x_scr)], [.int 1, .ref x_scr, .ref 75, .int (-2)], x_h0, 98, 10728)) rfl ?_
    refine x_R.steps 1 (c' := (2099, [(3, .int 0), (2, .ref 75), (1, .ref 0), (0, .ref x_scr)], [.int (xs 1), .ref 75, .int (-2)], x_h0, 98, 10728)) rfl ?_
    refine x_R.steps 4 (c' := (2103, [(3, .int 0), (2, .ref 75), (1, .ref 0), (0, .ref x_scr)], [.int 2, .ref x_scr, .int (xs 1), .ref 75, .int (-2)], x_h0, 98, 10728)) rfl ?_
    refine x_R.steps 1 (c' := (2104, [(3, .int 0), (2, .ref 75), (1, .ref 0), (0, .ref x_scr)], [.int (xs 2), .int (xs 1), .ref 75, .int (-2)], x_h0, 98, 10728)) rfl ?_
    refine x_R.steps 4 (c' := (2108, [(3, .int 0), (2, .ref 75), (1, .ref 0), (0, .ref x_scr)], [.int 3, .ref x_scr, .int (xs 2), .int (xs 1), .ref 75, .int (-2)], x_h0, 98, 10728)) rfl ?_
    refine x_R.steps 1 (c' := (2109, [(3, .int 0), (2, .ref 75), (1, .ref 0), (0, .ref x_scr)], [.int (xs 3), .int (xs 2), .int (xs 1), .ref 75, .int (-2)], x_h0, 98, 10728)) rfl ?_
    refine x_R.steps 4 (c' := (2113, [(3, .int 0), (2, .ref 75), (1, .ref 0), (0, .ref x_scr)], [.int 4, .ref x_scr, .int (xs 3), .int (xs 2), .int (xs 1), .ref 75, .int (-2)], x_h0, 98, 10728)) rfl ?_
    refine x_R.steps 1 (c' := (2114, [(3, .int 0), (2, .ref 75), (1, .ref 0), (0, .ref x_scr)], [.int (xs 4), .int (xs 3), .int (xs 2), .int (xs 1), .ref 75, .int (-2)], x_h0, 98, 10728)) rfl ?_
    refine x_R.call (a := 349) (vs := [.ref 75, .int (xs 1), .int (xs 2), .int (xs 3), .int (xs 4)]) (rest := [.int (-2)]) (M' := M_cX12_years) rfl rfl rfl ?_
    refine x_R.steps 1 (c' := (1, [(0, .ref 75), (1, .int (xs 1)), (2, .int (xs 2)), (3, .int (xs 3)), (4, .int (xs 4))], [.int (xs 1)], x_h0, 0, 0)) rfl ?_
    refine x_R.call (a := 345) (vs := [.int (xs 1)]) (rest := []) (M' := M_cX12_isSeed) rfl rfl rfl ?_
    refine x_R.steps 4 (c' := (6, [(0, .int (xs 1))], [.long 2000000000, .long 0, .long ((xs 1)).toInt64], x_h0, 0, 0)) rfl ?_
    refine x_R.call (a := 196) (vs := [.long ((xs 1)).toInt64, .long 0, .long 2000000000]) (rest := []) (M' := M_cX12_in) rfl rfl rfl ?_
    refine x_R.steps 3 (c' := (3, [(0, .long ((xs 1)).toInt64), (2, .long 0), (4, .long 2000000000)], [.int (lg_cmp ((xs 1)).toInt64 0)], x_h0, 0, 0)) rfl ?_
    refine x_R.ite (p := (lg_cmp ((xs 1)).toInt64 0) < (0 : Int32)) (c1 := (17, [(0, .long ((xs 1)).toInt64), (2, .long 0), (4, .long 2000000000)], [], x_h0, 0, 0)) (c2 := (6, [(0, .long ((xs 1)).toInt64), (2, .long 0), (4, .long 2000000000)], [], x_h0, 0, 0)) rfl (fun h2 => ?_) (fun h2 => ?_)
    · have g2 := (x_lg_lt (C := 0) (by decide)).mp h2
      refine x_R.steps 1 (c' := (18, [(0, .long ((xs 1)).toInt64), (2, .long 0), (4, .long 2000000000)], [.int 0], x_h0, 0, 0)) rfl ?_
      refine x_R.ret (v := some (.int 0)) rfl ?_
      refine x_R.steps 0 (c' := (9, [(0, .int (xs 1))], [.int 0], x_h0, 0, 0)) rfl ?_
      refine x_R.ret (v := some (.int 0)) rfl ?_
      refine x_R.steps 0 (c' := (4, [(0, .ref 75), (1, .int (xs 1)), (2, .int (xs 2)), (3, .int (xs 3)), (4, .int (xs 4))], [.int 0], x_h0, 0, 0)) rfl ?_
      refine x_R.steps 1 (c' := (35, [(0, .ref 75), (1, .int (xs 1)), (2, .int (xs 2)), (3, .int (xs 3)), (4, .int (xs 4))], [], x_h0, 0, 0)) rfl ?_
      refine x_R.steps 1 (c' := (37, [(0, .ref 75), (1, .int (xs 1)), (2, .int (xs 2)), (3, .int (xs 3)), (4, .int (xs 4))], [.int (-2)], x_h0, 0, 0)) rfl ?_
      refine x_R.ret (v := some (.int (-2))) rfl ?_
      refine x_R.steps 0 (c' := (2117, [(3, .int 0), (2, .ref 75), (1, .ref 0), (0, .ref x_scr)], [.int (-2), .int (-2)], x_h0, 98, 10728)) rfl ?_
      refine x_R.steps 1 (c' := (2370, [(3, .int 0), (2, .ref 75), (1, .ref 0), (0, .ref x_scr)], [], x_h0, 98, 10728)) rfl ?_
      refine x_R.steps 7 (c' := (24, [(3, .int 6), (2, .ref 75), (1, .ref 0), (0, .ref x_scr)], [.int 0, .int 6], x_h0, 98, 10728)) rfl ?_
      refine x_R.steps 1 (c' := (2376, [(3, .int 6), (2, .ref 75), (1, .ref 0), (0, .ref x_scr)], [], x_h0, 98, 10728)) rfl ?_
      refine x_R.steps 1 (c' := (2377, [(3, .int 6), (2, .ref 75), (1, .ref 0), (0, .ref x_scr)], [.int 1], x_h0, 98, 10728)) rfl ?_
      exact x_R.ret (v := some (.int 1)) rfl x_fin
    · have g2 := mt (x_lg_lt (C := 0) (by decide)).mpr h2
      exfalso; omega
  · have g1 := mt (x_i_lt (C := 0) (by decide)).mpr h1
    refine x_R.steps 2 (c' := (8, [(0, .int (xs 1))], [.int 2000000000, .int (xs 1)], x_h0, 0, 0)) rfl ?_
    refine x_R.ite (p := (2000000000 : Int32) < (xs 1)) (c1 := (15, [(0, .int (xs 1))], [], x_h0, 0, 0)) (c2 := (11, [(0, .int (xs 1))], [], x_h0, 0, 0)) rfl (fun h3 => ?_) (fun h3 => ?_)
    · have g3 := (x_i_gt (C := 2000000000) (by decide)).mp h3
      refine x_R.steps 1 (c' := (16, [(0, .int (xs 1))], [.int 0], x_h0, 0, 0)) rfl ?_
      refine x_R.ret (v := some (.int 0)) rfl ?_
      refine x_R.steps 0 (c' := (4, [(0, .ref 0), (1, .int (xs 1)), (2, .int (xs 2)), (3, .int (xs 3)), (4, .int (xs 4))], [.int 0], x_h0, 0, 0)) rfl ?_
      refine x_R.steps 1 (c' := (37, [(0, .ref 0), (1, .int (xs 1)), (2, .int (xs 2)), (3, .int (xs 3)), (4, .int (xs 4))], [], x_h0, 0, 0)) rfl ?_
      refine x_R.steps 1 (c' := (39, [(0, .ref 0), (1, .int (xs 1)), (2, .int (xs 2)), (3, .int (xs 3)), (4, .int (xs 4))], [.int (-2)], x_h0, 0, 0)) rfl ?_
      refine x_R.ret (v := some (.int (-2))) rfl ?_
      refine x_R.steps 0 (c' := (2093, [(3, .int 0), (2, .ref 75), (1, .ref 0), (0, .ref x_scr)], [.int (-2)], x_h0, 98, 10728)) rfl ?_
      refine x_R.steps 5 (c' := (2098, [(3, .int 0), (2, .ref 75), (1, .ref 0), (0, .ref x_scr)], [.int 1, .ref x_scr, .ref 75, .int (-2)], x_h0, 98, 10728)) rfl ?_
      refine x_R.steps 1 (c' := (2099, [(3, .int 0), (2, .ref 75), (1, .ref 0), (0, .ref x_scr)], [.int (xs 1), .ref 75, .int (-2)], x_h0, 98, 10728)) rfl ?_
      refine x_R.steps 4 (c' := (2103, [(3, .int 0), (2, .ref 75), (1, .ref 0), (0, .ref x_scr)], [.int 2, .ref x_scr, .int (xs 1), .ref 75, .int (-2)], x_h0, 98, 10728)) rfl ?_
      refine x_R.steps 1 (c' := (2104, [(3, .int 0), (2, .ref 75), (1, .ref 0), (0, .ref x_scr)], [.int (xs 2), .int (xs 1), .ref 75, .int (-2)], x_h0, 98, 10728)) rfl ?_
      refine x_R.steps 4 (c' := (2108, [(3, .int 0), (2, .ref 75), (1, .ref 0), (0, .ref x_scr)], [.int 3, .ref x_scr, .int (xs 2), .int (xs 1), .ref 75, .int (-2)], x_h0, 98, 10728)) rfl ?_
      refine x_R.steps 1 (c' := (2109, [(3, .int 0), (2, .ref 75), (1, .ref 0), (0, .ref x_scr)], [.int (xs 3), .int (xs 2), .int (xs 1), .ref 75, .int (-2)], x_h0, 98, 10728)) rfl ?_
      refine x_R.steps 4 (c' := (2113, [(3, .int 0), (2, .ref 75), (1, .ref 0), (0, .ref x_scr)], [.int 4, .ref x_scr, .int (xs 3), .int (xs 2), .int (xs 1), .ref 75, .int (-2)], x_h0, 98, 10728)) rfl ?_
      refine x_R.steps 1 (c' := (2114, [(3, .int 0), (2, .ref 75), (1, .ref 0), (0, .ref x_scr)], [.int (xs 4), .int (xs 3), .int (xs 2), .int (xs 1), .ref 75, .int (-2)], x_h0, 98, 10728)) rfl ?_
      refine x_R.call (a := 349) (vs := [.ref 75, .int (xs 1), .int (xs 2), .int (xs 3), .int (xs 4)]) (rest := [.int (-2)]) (M' := M_cX12_years) rfl rfl rfl ?_
      refine x_R.steps 1 (c' := (1, [(0, .ref 75), (1, .int (xs 1)), (2, .int (xs 2)), (3, .int (xs 3)), (4, .int (xs 4))], [.int (xs 1)], x_h0, 0, 0)) rfl ?_
      refine x_R.call (a := 345) (vs := [.int (xs 1)]) (rest := []) (M' := M_cX12_isSeed) rfl rfl rfl ?_
      refine x_R.steps 4 (c' := (6, [(0, .int (xs 1))], [.long 2000000000, .long 0, .long ((xs 1)).toInt64], x_h0, 0, 0)) rfl ?_
      refine x_R.call (a := 196) (vs := [.long ((xs 1)).toInt64, .long 0, .long 2000000000]) (rest := []) (M' := M_cX12_in) rfl rfl rfl ?_
      refine x_R.steps 3 (c' := (3, [(0, .long ((xs 1)).toInt64), (2, .long 0), (4, .long 2000000000)], [.int (lg_cmp ((xs 1)).toInt64 0)], x_h0, 0, 0)) rfl ?_
      refine x_R.ite (p := (lg_cmp ((xs 1)).toInt64 0) < (0 : Int32)) (c1 := (17, [(0, .long ((xs 1)).toInt64), (2, .long 0), (4, .long 2000000000)], [], x_h0, 0, 0)) (c2 := (6, [(0, .long ((xs 1)).toInt64), (2, .long 0), (4, .long 2000000000)], [], x_h0, 0, 0)) rfl (fun h4 => ?_) (fun h4 => ?_)
      · have g4 := (x_lg_lt (C := 0) (by decide)).mp h4
        exfalso; omega
      · have g4 := mt (x_lg_lt (C := 0) (by decide)).mpr h4
        refine x_R.steps 3 (c' := (10, [(0, .long ((xs 1)).toInt64), (2, .long 0), (4, .long 2000000000)], [.int (lg_cmp ((xs 1)).toInt64 2000000000)], x_h0, 0, 0)) rfl ?_
        refine x_R.ite (p := (0 : Int32) < (lg_cmp ((xs 1)).toInt64 2000000000)) (c1 := (17, [(0, .long ((xs 1)).toInt64), (2, .long 0), (4, .long 2000000000)], [], x_h0, 0, 0)) (c2 := (13, [(0, .long ((xs 1)).toInt64), (2, .long 0), (4, .long 2000000000)], [], x_h0, 0, 0)) rfl (fun h5 => ?_) (fun h5 => ?_)
        · have g5 := (x_lg_gt (C := 2000000000) (by decide)).mp h5
          refine x_R.steps 1 (c' := (18, [(0, .long ((xs 1)).toInt64), (2, .long 0), (4, .long 2000000000)], [.int 0], x_h0, 0, 0)) rfl ?_
          refine x_R.ret (v := some (.int 0)) rfl ?_
          refine x_R.steps 0 (c' := (9, [(0, .int (xs 1))], [.int 0], x_h0, 0, 0)) rfl ?_
          refine x_R.ret (v := some (.int 0)) rfl ?_
          refine x_R.steps 0 (c' := (4, [(0, .ref 75), (1, .int (xs 1)), (2, .int (xs 2)), (3, .int (xs 3)), (4, .int (xs 4))], [.int 0], x_h0, 0, 0)) rfl ?_
          refine x_R.steps 1 (c' := (35, [(0, .ref 75), (1, .int (xs 1)), (2, .int (xs 2)), (3, .int (xs 3)), (4, .int (xs 4))], [], x_h0, 0, 0)) rfl ?_
          refine x_R.steps 1 (c' := (37, [(0, .ref 75), (1, .int (xs 1)), (2, .int (xs 2)), (3, .int (xs 3)), (4, .int (xs 4))], [.int (-2)], x_h0, 0, 0)) rfl ?_
          refine x_R.ret (v := some (.int (-2))) rfl ?_
          refine x_R.steps 0 (c' := (2117, [(3, .int 0), (2, .ref 75), (1, .ref 0), (0, .ref x_scr)], [.int (-2), .int (-2)], x_h0, 98, 10728)) rfl ?_
          refine x_R.steps 1 (c' := (2370, [(3, .int 0), (2, .ref 75), (1, .ref 0), (0, .ref x_scr)], [], x_h0, 98, 10728)) rfl ?_
          refine x_R.steps 7 (c' := (24, [(3, .int 6), (2, .ref 75), (1, .ref 0), (0, .ref x_scr)], [.int 0, .int 6], x_h0, 98, 10728)) rfl ?_
          refine x_R.steps 1 (c' := (2376, [(3, .int 6), (2, .ref 75), (1, .ref 0), (0, .ref x_scr)], [], x_h0, 98, 10728)) rfl ?_
          refine x_R.steps 1 (c' := (2377, [(3, .int 6), (2, .ref 75), (1, .ref 0), (0, .ref x_scr)], [.int 1], x_h0, 98, 10728)) rfl ?_
          exact x_R.ret (v := some (.int 1)) rfl x_fin
        · have g5 := mt (x_lg_gt (C := 2000000000) (by decide)).mpr h5
          exfalso; omega
    · have g3 := mt (x_i_gt (C := 2000000000) (by decide)).mpr h3
      refine x_R.steps 2 (c' := (16, [(0, .int (xs 1))], [.int 1], x_h0, 0, 0)) rfl ?_
      refine x_R.ret (v := some (.int 1)) rfl ?_
      refine x_R.steps 0 (c' := (4, [(0, .ref 0), (1, .int (xs 1)), (2, .int (xs 2)), (3, .int (xs 3)), (4, .int (xs 4))], [.int 1], x_h0, 0, 0)) rfl ?_
      refine x_R.steps 1 (c' := (7, [(0, .ref 0), (1, .int (xs 1)), (2, .int (xs 2)), (3, .int (xs 3)), (4, .int (xs 4))], [], x_h0, 0, 0)) rfl ?_
      refine x_R.steps 2 (c' := (9, [(0, .ref 0), (1, .int (xs 1)), (2, .int (xs 2)), (3, .int (xs 3)), (4, .int (xs 4))], [.int 1, .int (xs 2)], x_h0, 0, 0)) rfl ?_
      refine x_R.ite (p := (xs 2) < (1 : Int32)) (c1 := (37, [(0, .ref 0), (1, .int (xs 1)), (2, .int (xs 2)), (3, .int (xs 3)), (4, .int (xs 4))], [], x_h0, 0, 0)) (c2 := (12, [(0, .ref 0), (1, .int (xs 1)), (2, .int (xs 2)), (3, .int (xs 3)), (4, .int (xs 4))], [], x_h0, 0, 0)) rfl (fun h6 => ?_) (fun h6 => ?_)
      · have g6 := (x_i_lt (C := 1) (by decide)).mp h6
        refine x_R.steps 1 (c' := (39, [(0, .ref 0), (1, .int (xs 1)), (2, .int (xs 2)), (3, .int (xs 3)), (4, .int (xs 4))], [.int (-2)], x_h0, 0, 0)) rfl ?_
        refine x_R.ret (v := some (.int (-2))) rfl ?_
        refine x_R.steps 0 (c' := (2093, [(3, .int 0), (2, .ref 75), (1, .ref 0), (0, .ref x_scr)], [.int (-2)], x_h0, 98, 10728)) rfl ?_
        refine x_R.steps 5 (c' := (2098, [(3, .int 0), (2, .ref 75), (1, .ref 0), (0, .ref x_scr)], [.int 1, .ref x_scr, .ref 75, .int (-2)], x_h0, 98, 10728)) rfl ?_
        refine x_R.steps 1 (c' := (2099, [(3, .int 0), (2, .ref 75), (1, .ref 0), (0, .ref x_scr)], [.int (xs 1), .ref 75, .int (-2)], x_h0, 98, 10728)) rfl ?_
        refine x_R.steps 4 (c' := (2103, [(3, .int 0), (2, .ref 75), (1, .ref 0), (0, .ref x_scr)], [.int 2, .ref x_scr, .int (xs 1), .ref 75, .int (-2)], x_h0, 98, 10728)) rfl ?_
        refine x_R.steps 1 (c' := (2104, [(3, .int 0), (2, .ref 75), (1, .ref 0), (0, .ref x_scr)], [.int (xs 2), .int (xs 1), .ref 75, .int (-2)], x_h0, 98, 10728)) rfl ?_
        refine x_R.steps 4 (c' := (2108, [(3, .int 0), (2, .ref 75), (1, .ref 0), (0, .ref x_scr)], [.int 3, .ref x_scr, .int (xs 2), .int (xs 1), .ref 75, .int (-2)], x_h0, 98, 10728)) rfl ?_
        refine x_R.steps 1 (c' := (2109, [(3, .int 0), (2, .ref 75), (1, .ref 0), (0, .ref x_scr)], [.int (xs 3), .int (xs 2), .int (xs 1), .ref 75, .int (-2)], x_h0, 98, 10728)) rfl ?_
        refine x_R.steps 4 (c' := (2113, [(3, .int 0), (2, .ref 75), (1, .ref 0), (0, .ref x_scr)], [.int 4, .ref x_scr, .int (xs 3), .int (xs 2), .int (xs 1), .ref 75, .int (-2)], x_h0, 98, 10728)) rfl ?_
        refine x_R.steps 1 (c' := (2114, [(3, .int 0), (2, .ref 75), (1, .ref 0), (0, .ref x_scr)], [.int (xs 4), .int (xs 3), .int (xs 2), .int (xs 1), .ref 75, .int (-2)], x_h0, 98, 10728)) rfl ?_
        refine x_R.call (a := 349) (vs := [.ref 75, .int (xs 1), .int (xs 2), .int (xs 3), .int (xs 4)]) (rest := [.int (-2)]) (M' := M_cX12_years) rfl rfl rfl ?_
        refine x_R.steps 1 (c' := (1, [(0, .ref 75), (1, .int (xs 1)), (2, .int (xs 2)), (3, .int (xs 3)), (4, .int (xs 4))], [.int (xs 1)], x_h0, 0, 0)) rfl ?_
        refine x_R.call (a := 345) (vs := [.int (xs 1)]) (rest := []) (M' := M_cX12_isSeed) rfl rfl rfl ?_
        refine x_R.steps 4 (c' := (6, [(0, .int (xs 1))], [.long 2000000000, .long 0, .long ((xs 1)).toInt64], x_h0, 0, 0)) rfl ?_
        refine x_R.call (a := 196) (vs := [.long ((xs 1)).toInt64, .long 0, .long 2000000000]) (rest := []) (M' := M_cX12_in) rfl rfl rfl ?_
        refine x_R.steps 3 (c' := (3, [(0, .long ((xs 1)).toInt64), (2, .long 0), (4, .long 2000000000)], [.int (lg_cmp ((xs 1)).toInt64 0)], x_h0, 0, 0)) rfl ?_
        refine x_R.ite (p := (lg_cmp ((xs 1)).toInt64 0) < (0 : Int32)) (c1 := (17, [(0, .long ((xs 1)).toInt64), (2, .long 0), (4, .long 2000000000)], [], x_h0, 0, 0)) (c2 := (6, [(0, .long ((xs 1)).toInt64), (2, .long 0), (4, .long 2000000000)], [], x_h0, 0, 0)) rfl (fun h7 => ?_) (fun h7 => ?_)
        · have g7 := (x_lg_lt (C := 0) (by decide)).mp h7
          exfalso; omega
        · have g7 := mt (x_lg_lt (C := 0) (by decide)).mpr h7
          refine x_R.steps 3 (c' := (10, [(0, .long ((xs 1)).toInt64), (2, .long 0), (4, .long 2000000000)], [.int (lg_cmp ((xs 1)).toInt64 2000000000)], x_h0, 0, 0)) rfl ?_
          refine x_R.ite (p := (0 : Int32) < (lg_cmp ((xs 1)).toInt64 2000000000)) (c1 := (17, [(0, .long ((xs 1)).toInt64), (2, .long 0), (4, .long 2000000000)], [], x_h0, 0, 0)) (c2 := (13, [(0, .long ((xs 1)).toInt64), (2, .long 0), (4, .long 2000000000)], [], x_h0, 0, 0)) rfl (fun h8 => ?_) (fun h8 => ?_)
          · have g8 := (x_lg_gt (C := 2000000000) (by decide)).mp h8
            exfalso; omega
          · have g8 := mt (x_lg_gt (C := 2000000000) (by decide)).mpr h8
            refine x_R.steps 2 (c' := (18, [(0, .long ((xs 1)).toInt64), (2, .long 0), (4, .long 2000000000)], [.int 1], x_h0, 0, 0)) rfl ?_
            refine x_R.ret (v := some (.int 1)) rfl ?_
            refine x_R.steps 0 (c' := (9, [(0, .int (xs 1))], [.int 1], x_h0, 0, 0)) rfl ?_
            refine x_R.ret (v := some (.int 1)) rfl ?_
            refine x_R.steps 0 (c' := (4, [(0, .ref 75), (1, .int (xs 1)), (2, .int (xs 2)), (3, .int (xs 3)), (4, .int (xs 4))], [.int 1], x_h0, 0, 0)) rfl ?_
            refine x_R.steps 1 (c' := (7, [(0, .ref 75), (1, .int (xs 1)), (2, .int (xs 2)), (3, .int (xs 3)), (4, .int (xs 4))], [], x_h0, 0, 0)) rfl ?_
            refine x_R.steps 4 (c' := (13, [(0, .ref 75), (1, .int (xs 1)), (2, .int (xs 2)), (3, .int (xs 3)), (4, .int (xs 4))], [.long 20, .long 1, .long ((xs 2)).toInt64], x_h0, 0, 0)) rfl ?_
            refine x_R.call (a := 196) (vs := [.long ((xs 2)).toInt64, .long 1, .long 20]) (rest := []) (M' := M_cX12_in) rfl rfl rfl ?_
            refine x_R.steps 3 (c' := (3, [(0, .long ((xs 2)).toInt64), (2, .long 1), (4, .long 20)], [.int (lg_cmp ((xs 2)).toInt64 1)], x_h0, 0, 0)) rfl ?_
            refine x_R.ite (p := (lg_cmp ((xs 2)).toInt64 1) < (0 : Int32)) (c1 := (17, [(0, .long ((xs 2)).toInt64), (2, .long 1), (4, .long 20)], [], x_h0, 0, 0)) (c2 := (6, [(0, .long ((xs 2)).toInt64), (2, .long 1), (4, .long 20)], [], x_h0, 0, 0)) rfl (fun h9 => ?_) (fun h9 => ?_)
            · have g9 := (x_lg_lt (C := 1) (by decide)).mp h9
              refine x_R.steps 1 (c' := (18, [(0, .long ((xs 2)).toInt64), (2, .long 1), (4, .long 20)], [.int 0], x_h0, 0, 0)) rfl ?_
              refine x_R.ret (v := some (.int 0)) rfl ?_
              refine x_R.steps 0 (c' := (16, [(0, .ref 75), (1, .int (xs 1)), (2, .int (xs 2)), (3, .int (xs 3)), (4, .int (xs 4))], [.int 0], x_h0, 0, 0)) rfl ?_
              refine x_R.steps 1 (c' := (35, [(0, .ref 75), (1, .int (xs 1)), (2, .int (xs 2)), (3, .int (xs 3)), (4, .int (xs 4))], [], x_h0, 0, 0)) rfl ?_
              refine x_R.steps 1 (c' := (37, [(0, .ref 75), (1, .int (xs 1)), (2, .int (xs 2)), (3, .int (xs 3)), (4, .int (xs 4))], [.int (-2)], x_h0, 0, 0)) rfl ?_
              refine x_R.ret (v := some (.int (-2))) rfl ?_
              refine x_R.steps 0 (c' := (2117, [(3, .int 0), (2, .ref 75), (1, .ref 0), (0, .ref x_scr)], [.int (-2), .int (-2)], x_h0, 98, 10728)) rfl ?_
              refine x_R.steps 1 (c' := (2370, [(3, .int 0), (2, .ref 75), (1, .ref 0), (0, .ref x_scr)], [], x_h0, 98, 10728)) rfl ?_
              refine x_R.steps 7 (c' := (24, [(3, .int 6), (2, .ref 75), (1, .ref 0), (0, .ref x_scr)], [.int 0, .int 6], x_h0, 98, 10728)) rfl ?_
              refine x_R.steps 1 (c' := (2376, [(3, .int 6), (2, .ref 75), (1, .ref 0), (0, .ref x_scr)], [], x_h0, 98, 10728)) rfl ?_
              refine x_R.steps 1 (c' := (2377, [(3, .int 6), (2, .ref 75), (1, .ref 0), (0, .ref x_scr)], [.int 1], x_h0, 98, 10728)) rfl ?_
              exact x_R.ret (v := some (.int 1)) rfl x_fin
            · have g9 := mt (x_lg_lt (C := 1) (by decide)).mpr h9
              exfalso; omega
      · have g6 := mt (x_i_lt (C := 1) (by decide)).mpr h6
        refine x_R.steps 2 (c' := (15, [(0, .ref 0), (1, .int (xs 1)), (2, .int (xs 2)), (3, .int (xs 3)), (4, .int (xs 4))], [.int 20, .int (xs 2)], x_h0, 0, 0)) rfl ?_
        refine x_R.ite (p := (20 : Int32) < (xs 2)) (c1 := (37, [(0, .ref 0), (1, .int (xs 1)), (2, .int (xs 2)), (3, .int (xs 3)), (4, .int (xs 4))], [], x_h0, 0, 0)) (c2 := (18, [(0, .ref 0), (1, .int (xs 1)), (2, .int (xs 2)), (3, .int (xs 3)), (4, .int (xs 4))], [], x_h0, 0, 0)) rfl (fun h10 => ?_) (fun h10 => ?_)
        · have g10 := (x_i_gt (C := 20) (by decide)).mp h10
          refine x_R.steps 1 (c' := (39, [(0, .ref 0), (1, .int (xs 1)), (2, .int (xs 2)), (3, .int (xs 3)), (4, .int (xs 4))], [.int (-2)], x_h0, 0, 0)) rfl ?_
          refine x_R.ret (v := some (.int (-2))) rfl ?_
          refine x_R.steps 0 (c' := (2093, [(3, .int 0), (2, .ref 75), (1, .ref 0), (0, .ref x_scr)], [.int (-2)], x_h0, 98, 10728)) rfl ?_
          refine x_R.steps 5 (c' := (2098, [(3, .int 0), (2, .ref 75), (1, .ref 0), (0, .ref x_scr)], [.int 1, .ref x_scr, .ref 75, .int (-2)], x_h0, 98, 10728)) rfl ?_
          refine x_R.steps 1 (c' := (2099, [(3, .int 0), (2, .ref 75), (1, .ref 0), (0, .ref x_scr)], [.int (xs 1), .ref 75, .int (-2)], x_h0, 98, 10728)) rfl ?_
          refine x_R.steps 4 (c' := (2103, [(3, .int 0), (2, .ref 75), (1, .ref 0), (0, .ref x_scr)], [.int 2, .ref x_scr, .int (xs 1), .ref 75, .int (-2)], x_h0, 98, 10728)) rfl ?_
          refine x_R.steps 1 (c' := (2104, [(3, .int 0), (2, .ref 75), (1, .ref 0), (0, .ref x_scr)], [.int (xs 2), .int (xs 1), .ref 75, .int (-2)], x_h0, 98, 10728)) rfl ?_
          refine x_R.steps 4 (c' := (2108, [(3, .int 0), (2, .ref 75), (1, .ref 0), (0, .ref x_scr)], [.int 3, .ref x_scr, .int (xs 2), .int (xs 1), .ref 75, .int (-2)], x_h0, 98, 10728)) rfl ?_
          refine x_R.steps 1 (c' := (2109, [(3, .int 0), (2, .ref 75), (1, .ref 0), (0, .ref x_scr)], [.int (xs 3), .int (xs 2), .int (xs 1), .ref 75, .int (-2)], x_h0, 98, 10728)) rfl ?_
          refine x_R.steps 4 (c' := (2113, [(3, .int 0), (2, .ref 75), (1, .ref 0), (0, .ref x_scr)], [.int 4, .ref x_scr, .int (xs 3), .int (xs 2), .int (xs 1), .ref 75, .int (-2)], x_h0, 98, 10728)) rfl ?_
          refine x_R.steps 1 (c' := (2114, [(3, .int 0), (2, .ref 75), (1, .ref 0), (0, .ref x_scr)], [.int (xs 4), .int (xs 3), .int (xs 2), .int (xs 1), .ref 75, .int (-2)], x_h0, 98, 10728)) rfl ?_
          refine x_R.call (a := 349) (vs := [.ref 75, .int (xs 1), .int (xs 2), .int (xs 3), .int (xs 4)]) (rest := [.int (-2)]) (M' := M_cX12_years) rfl rfl rfl ?_
          refine x_R.steps 1 (c' := (1, [(0, .ref 75), (1, .int (xs 1)), (2, .int (xs 2)), (3, .int (xs 3)), (4, .int (xs 4))], [.int (xs 1)], x_h0, 0, 0)) rfl ?_
          refine x_R.call (a := 345) (vs := [.int (xs 1)]) (rest := []) (M' := M_cX12_isSeed) rfl rfl rfl ?_
          refine x_R.steps 4 (c' := (6, [(0, .int (xs 1))], [.long 2000000000, .long 0, .long ((xs 1)).toInt64], x_h0, 0, 0)) rfl ?_
          refine x_R.call (a := 196) (vs := [.long ((xs 1)).toInt64, .long 0, .long 2000000000]) (rest := []) (M' := M_cX12_in) rfl rfl rfl ?_
          refine x_R.steps 3 (c' := (3, [(0, .long ((xs 1)).toInt64), (2, .long 0), (4, .long 2000000000)], [.int (lg_cmp ((xs 1)).toInt64 0)], x_h0, 0, 0)) rfl ?_
          refine x_R.ite (p := (lg_cmp ((xs 1)).toInt64 0) < (0 : Int32)) (c1 := (17, [(0, .long ((xs 1)).toInt64), (2, .long 0), (4, .long 2000000000)], [], x_h0, 0, 0)) (c2 := (6, [(0, .long ((xs 1)).toInt64), (2, .long 0), (4, .long 2000000000)], [], x_h0, 0, 0)) rfl (fun h11 => ?_) (fun h11 => ?_)
          · have g11 := (x_lg_lt (C := 0) (by decide)).mp h11
            exfalso; omega
          · have g11 := mt (x_lg_lt (C := 0) (by decide)).mpr h11
            refine x_R.steps 3 (c' := (10, [(0, .long ((xs 1)).toInt64), (2, .long 0), (4, .long 2000000000)], [.int (lg_cmp ((xs 1)).toInt64 2000000000)], x_h0, 0, 0)) rfl ?_
            refine x_R.ite (p := (0 : Int32) < (lg_cmp ((xs 1)).toInt64 2000000000)) (c1 := (17, [(0, .long ((xs 1)).toInt64), (2, .long 0), (4, .long 2000000000)], [], x_h0, 0, 0)) (c2 := (13, [(0, .long ((xs 1)).toInt64), (2, .long 0), (4, .long 2000000000)], [], x_h0, 0, 0)) rfl (fun h12 => ?_) (fun h12 => ?_)
            · have g12 := (x_lg_gt (C := 2000000000) (by decide)).mp h12
              exfalso; omega
            · have g12 := mt (x_lg_gt (C := 2000000000) (by decide)).mpr h12
              refine x_R.steps 2 (c' := (18, [(0, .long ((xs 1)).toInt64), (2, .long 0), (4, .long 2000000000)], [.int 1], x_h0, 0, 0)) rfl ?_
              refine x_R.ret (v := some (.int 1)) rfl ?_
              refine x_R.steps 0 (c' := (9, [(0, .int (xs 1))], [.int 1], x_h0, 0, 0)) rfl ?_
              refine x_R.ret (v := some (.int 1)) rfl ?_
              refine x_R.steps 0 (c' := (4, [(0, .ref 75), (1, .int (xs 1)), (2, .int (xs 2)), (3, .int (xs 3)), (4, .int (xs 4))], [.int 1], x_h0, 0, 0)) rfl ?_
              refine x_R.steps 1 (c' := (7, [(0, .ref 75), (1, .int (xs 1)), (2, .int (xs 2)), (3, .int (xs 3)), (4, .int (xs 4))], [], x_h0, 0, 0)) rfl ?_
              refine x_R.steps 4 (c' := (13, [(0, .ref 75), (1, .int (xs 1)), (2, .int (xs 2)), (3, .int (xs 3)), (4, .int (xs 4))], [.long 20, .long 1, .long ((xs 2)).toInt64], x_h0, 0, 0)) rfl ?_
              refine x_R.call (a := 196) (vs := [.long ((xs 2)).toInt64, .long 1, .long 20]) (rest := []) (M' := M_cX12_in) rfl rfl rfl ?_
              refine x_R.steps 3 (c' := (3, [(0, .long ((xs 2)).toInt64), (2, .long 1), (4, .long 20)], [.int (lg_cmp ((xs 2)).toInt64 1)], x_h0, 0, 0)) rfl ?_
              refine x_R.ite (p := (lg_cmp ((xs 2)).toInt64 1) < (0 : Int32)) (c1 := (17, [(0, .long ((xs 2)).toInt64), (2, .long 1), (4, .long 20)], [], x_h0, 0, 0)) (c2 := (6, [(0, .long ((xs 2)).toInt64), (2, .long 1), (4, .long 20)], [], x_h0, 0, 0)) rfl (fun h13 => ?_) (fun h13 => ?_)
              · have g13 := (x_lg_lt (C := 1) (by decide)).mp h13
                exfalso; omega
              · have g13 := mt (x_lg_lt (C := 1) (by decide)).mpr h13
                refine x_R.steps 3 (c' := (10, [(0, .long ((xs 2)).toInt64), (2, .long 1), (4, .long 20)], [.int (lg_cmp ((xs 2)).toInt64 20)], x_h0, 0, 0)) rfl ?_
                refine x_R.ite (p := (0 : Int32) < (lg_cmp ((xs 2)).toInt64 20)) (c1 := (17, [(0, .long ((xs 2)).toInt64), (2, .long 1), (4, .long 20)], [], x_h0, 0, 0)) (c2 := (13, [(0, .long ((xs 2)).toInt64), (2, .long 1), (4, .long 20)], [], x_h0, 0, 0)) rfl (fun h14 => ?_) (fun h14 => ?_)
                · have g14 := (x_lg_gt (C := 20) (by decide)).mp h14
                  refine x_R.steps 1 (c' := (18, [(0, .long ((xs 2)).toInt64), (2, .long 1), (4, .long 20)], [.int 0], x_h0, 0, 0)) rfl ?_
                  refine x_R.ret (v := some (.int 0)) rfl ?_
                  refine x_R.steps 0 (c' := (16, [(0, .ref 75), (1, .int (xs 1)), (2, .int (xs 2)), (3, .int (xs 3)), (4, .int (xs 4))], [.int 0], x_h0, 0, 0)) rfl ?_
                  refine x_R.steps 1 (c' := (35, [(0, .ref 75), (1, .int (xs 1)), (2, .int (xs 2)), (3, .int (xs 3)), (4, .int (xs 4))], [], x_h0, 0, 0)) rfl ?_
                  refine x_R.steps 1 (c' := (37, [(0, .ref 75), (1, .int (xs 1)), (2, .int (xs 2)), (3, .int (xs 3)), (4, .int (xs 4))], [.int (-2)], x_h0, 0, 0)) rfl ?_
                  refine x_R.ret (v := some (.int (-2))) rfl ?_
                  refine x_R.steps 0 (c' := (2117, [(3, .int 0), (2, .ref 75), (1, .ref 0), (0, .ref x_scr)], [.int (-2), .int (-2)], x_h0, 98, 10728)) rfl ?_
                  refine x_R.steps 1 (c' := (2370, [(3, .int 0), (2, .ref 75), (1, .ref 0), (0, .ref x_scr)], [], x_h0, 98, 10728)) rfl ?_
                  refine x_R.steps 7 (c' := (24, [(3, .int 6), (2, .ref 75), (1, .ref 0), (0, .ref x_scr)], [.int 0, .int 6], x_h0, 98, 10728)) rfl ?_
                  refine x_R.steps 1 (c' := (2376, [(3, .int 6), (2, .ref 75), (1, .ref 0), (0, .ref x_scr)], [], x_h0, 98, 10728)) rfl ?_
                  refine x_R.steps 1 (c' := (2377, [(3, .int 6), (2, .ref 75), (1, .ref 0), (0, .ref x_scr)], [.int 1], x_h0, 98, 10728)) rfl ?_
                  exact x_R.ret (v := some (.int 1)) rfl x_fin
                · have g14 := mt (x_lg_gt (C := 20) (by decide)).mpr h14
                  exfalso; omega
        · have g10 := mt (x_i_gt (C := 20) (by decide)).mpr h10
          refine x_R.steps 1 (c' := (19, [(0, .ref 0), (1, .int (xs 1)), (2, .int (xs 2)), (3, .int (xs 3)), (4, .int (xs 4))], [.int (xs 3)], x_h0, 0, 0)) rfl ?_
          refine x_R.call (a := 183) (vs := [.int (xs 3)]) (rest := []) (M' := M_cX11_isLaw) rfl rfl rfl ?_
          refine x_R.steps 1 (c' := (1, [(0, .int (xs 3))], [.int (xs 3)], x_h0, 0, 0)) rfl ?_
          refine x_R.ite (p := (xs 3) < (0 : Int32)) (c1 := (13, [(0, .int (xs 3))], [], x_h0, 0, 0)) (c2 := (4, [(0, .int (xs 3))], [], x_h0, 0, 0)) rfl (fun h15 => ?_) (fun h15 => ?_)
          · have g15 := (x_i_lt (C := 0) (by decide)).mp h15
            refine x_R.steps 1 (c' := (14, [(0, .int (xs 3))], [.int 0], x_h0, 0, 0)) rfl ?_
            refine x_R.ret (v := some (.int 0)) rfl ?_
            refine x_R.steps 0 (c' := (22, [(0, .ref 0), (1, .int (xs 1)), (2, .int (xs 2)), (3, .int (xs 3)), (4, .int (xs 4))], [.int 0], x_h0, 0, 0)) rfl ?_
            refine x_R.steps 1 (c' := (37, [(0, .ref 0), (1, .int (xs 1)), (2, .int (xs 2)), (3, .int (xs 3)), (4, .int (xs 4))], [], x_h0, 0, 0)) rfl ?_
            refine x_R.steps 1 (c' := (39, [(0, .ref 0), (1, .int (xs 1)), (2, .int (xs 2)), (3, .int (xs 3)), (4, .int (xs 4))], [.int (-2)], x_h0, 0, 0)) rfl ?_
            refine x_R.ret (v := some (.int (-2))) rfl ?_
            refine x_R.steps 0 (c' := (2093, [(3, .int 0), (2, .ref 75), (1, .ref 0), (0, .ref x_scr)], [.int (-2)], x_h0, 98, 10728)) rfl ?_
            refine x_R.steps 5 (c' := (2098, [(3, .int 0), (2, .ref 75), (1, .ref 0), (0, .ref x_scr)], [.int 1, .ref x_scr, .ref 75, .int (-2)], x_h0, 98, 10728)) rfl ?_
            refine x_R.steps 1 (c' := (2099, [(3, .int 0), (2, .ref 75), (1, .ref 0), (0, .ref x_scr)], [.int (xs 1), .ref 75, .int (-2)], x_h0, 98, 10728)) rfl ?_
            refine x_R.steps 4 (c' := (2103, [(3, .int 0), (2, .ref 75), (1, .ref 0), (0, .ref x_scr)], [.int 2, .ref x_scr, .int (xs 1), .ref 75, .int (-2)], x_h0, 98, 10728)) rfl ?_
            refine x_R.steps 1 (c' := (2104, [(3, .int 0), (2, .ref 75), (1, .ref 0), (0, .ref x_scr)], [.int (xs 2), .int (xs 1), .ref 75, .int (-2)], x_h0, 98, 10728)) rfl ?_
            refine x_R.steps 4 (c' := (2108, [(3, .int 0), (2, .ref 75), (1, .ref 0), (0, .ref x_scr)], [.int 3, .ref x_scr, .int (xs 2), .int (xs 1), .ref 75, .int (-2)], x_h0, 98, 10728)) rfl ?_
            refine x_R.steps 1 (c' := (2109, [(3, .int 0), (2, .ref 75), (1, .ref 0), (0, .ref x_scr)], [.int (xs 3), .int (xs 2), .int (xs 1), .ref 75, .int (-2)], x_h0, 98, 10728)) rfl ?_
            refine x_R.steps 4 (c' := (2113, [(3, .int 0), (2, .ref 75), (1, .ref 0), (0, .ref x_scr)], [.int 4, .ref x_scr, .int (xs 3), .int (xs 2), .int (xs 1), .ref 75, .int (-2)], x_h0, 98, 10728)) rfl ?_
            refine x_R.steps 1 (c' := (2114, [(3, .int 0), (2, .ref 75), (1, .ref 0), (0, .ref x_scr)], [.int (xs 4), .int (xs 3), .int (xs 2), .int (xs 1), .ref 75, .int (-2)], x_h0, 98, 10728)) rfl ?_
            refine x_R.call (a := 349) (vs := [.ref 75, .int (xs 1), .int (xs 2), .int (xs 3), .int (xs 4)]) (rest := [.int (-2)]) (M' := M_cX12_years) rfl rfl rfl ?_
            refine x_R.steps 1 (c' := (1, [(0, .ref 75), (1, .int (xs 1)), (2, .int (xs 2)), (3, .int (xs 3)), (4, .int (xs 4))], [.int (xs 1)], x_h0, 0, 0)) rfl ?_
            refine x_R.call (a := 345) (vs := [.int (xs 1)]) (rest := []) (M' := M_cX12_isSeed) rfl rfl rfl ?_
            refine x_R.steps 4 (c' := (6, [(0, .int (xs 1))], [.long 2000000000, .long 0, .long ((xs 1)).toInt64], x_h0, 0, 0)) rfl ?_
            refine x_R.call (a := 196) (vs := [.long ((xs 1)).toInt64, .long 0, .long 2000000000]) (rest := []) (M' := M_cX12_in) rfl rfl rfl ?_
            refine x_R.steps 3 (c' := (3, [(0, .long ((xs 1)).toInt64), (2, .long 0), (4, .long 2000000000)], [.int (lg_cmp ((xs 1)).toInt64 0)], x_h0, 0, 0)) rfl ?_
            refine x_R.ite (p := (lg_cmp ((xs 1)).toInt64 0) < (0 : Int32)) (c1 := (17, [(0, .long ((xs 1)).toInt64), (2, .long 0), (4, .long 2000000000)], [], x_h0, 0, 0)) (c2 := (6, [(0, .long ((xs 1)).toInt64), (2, .long 0), (4, .long 2000000000)], [], x_h0, 0, 0)) rfl (fun h16 => ?_) (fun h16 => ?_)
            · have g16 := (x_lg_lt (C := 0) (by decide)).mp h16
              exfalso; omega
            · have g16 := mt (x_lg_lt (C := 0) (by decide)).mpr h16
              refine x_R.steps 3 (c' := (10, [(0, .long ((xs 1)).toInt64), (2, .long 0), (4, .long 2000000000)], [.int (lg_cmp ((xs 1)).toInt64 2000000000)], x_h0, 0, 0)) rfl ?_
              refine x_R.ite (p := (0 : Int32) < (lg_cmp ((xs 1)).toInt64 2000000000)) (c1 := (17, [(0, .long ((xs 1)).toInt64), (2, .long 0), (4, .long 2000000000)], [], x_h0, 0, 0)) (c2 := (13, [(0, .long ((xs 1)).toInt64), (2, .long 0), (4, .long 2000000000)], [], x_h0, 0, 0)) rfl (fun h17 => ?_) (fun h17 => ?_)
              · have g17 := (x_lg_gt (C := 2000000000) (by decide)).mp h17
                exfalso; omega
              · have g17 := mt (x_lg_gt (C := 2000000000) (by decide)).mpr h17
                refine x_R.steps 2 (c' := (18, [(0, .long ((xs 1)).toInt64), (2, .long 0), (4, .long 2000000000)], [.int 1], x_h0, 0, 0)) rfl ?_
                refine x_R.ret (v := some (.int 1)) rfl ?_
                refine x_R.steps 0 (c' := (9, [(0, .int (xs 1))], [.int 1], x_h0, 0, 0)) rfl ?_
                refine x_R.ret (v := some (.int 1)) rfl ?_
                refine x_R.steps 0 (c' := (4, [(0, .ref 75), (1, .int (xs 1)), (2, .int (xs 2)), (3, .int (xs 3)), (4, .int (xs 4))], [.int 1], x_h0, 0, 0)) rfl ?_
                refine x_R.steps 1 (c' := (7, [(0, .ref 75), (1, .int (xs 1)), (2, .int (xs 2)), (3, .int (xs 3)), (4, .int (xs 4))], [], x_h0, 0, 0)) rfl ?_
                refine x_R.steps 4 (c' := (13, [(0, .ref 75), (1, .int (xs 1)), (2, .int (xs 2)), (3, .int (xs 3)), (4, .int (xs 4))], [.long 20, .long 1, .long ((xs 2)).toInt64], x_h0, 0, 0)) rfl ?_
                refine x_R.call (a := 196) (vs := [.long ((xs 2)).toInt64, .long 1, .long 20]) (rest := []) (M' := M_cX12_in) rfl rfl rfl ?_
                refine x_R.steps 3 (c' := (3, [(0, .long ((xs 2)).toInt64), (2, .long 1), (4, .long 20)], [.int (lg_cmp ((xs 2)).toInt64 1)], x_h0, 0, 0)) rfl ?_
                refine x_R.ite (p := (lg_cmp ((xs 2)).toInt64 1) < (0 : Int32)) (c1 := (17, [(0, .long ((xs 2)).toInt64), (2, .long 1), (4, .long 20)], [], x_h0, 0, 0)) (c2 := (6, [(0, .long ((xs 2)).toInt64), (2, .long 1), (4, .long 20)], [], x_h0, 0, 0)) rfl (fun h18 => ?_) (fun h18 => ?_)
                · have g18 := (x_lg_lt (C := 1) (by decide)).mp h18
                  exfalso; omega
                · have g18 := mt (x_lg_lt (C := 1) (by decide)).mpr h18
                  refine x_R.steps 3 (c' := (10, [(0, .long ((xs 2)).toInt64), (2, .long 1), (4, .long 20)], [.int (lg_cmp ((xs 2)).toInt64 20)], x_h0, 0, 0)) rfl ?_
                  refine x_R.ite (p := (0 : Int32) < (lg_cmp ((xs 2)).toInt64 20)) (c1 := (17, [(0, .long ((xs 2)).toInt64), (2, .long 1), (4, .long 20)], [], x_h0, 0, 0)) (c2 := (13, [(0, .long ((xs 2)).toInt64), (2, .long 1), (4, .long 20)], [], x_h0, 0, 0)) rfl (fun h19 => ?_) (fun h19 => ?_)
                  · have g19 := (x_lg_gt (C := 20) (by decide)).mp h19
                    exfalso; omega
                  · have g19 := mt (x_lg_gt (C := 20) (by decide)).mpr h19
                    refine x_R.steps 2 (c' := (18, [(0, .long ((xs 2)).toInt64), (2, .long 1), (4, .long 20)], [.int 1], x_h0, 0, 0)) rfl ?_
                    refine x_R.ret (v := some (.int 1)) rfl ?_
                    refine x_R.steps 0 (c' := (16, [(0, .ref 75), (1, .int (xs 1)), (2, .int (xs 2)), (3, .int (xs 3)), (4, .int (xs 4))], [.int 1], x_h0, 0, 0)) rfl ?_
                    refine x_R.steps 1 (c' := (19, [(0, .ref 75), (1, .int (xs 1)), (2, .int (xs 2)), (3, .int (xs 3)), (4, .int (xs 4))], [], x_h0, 0, 0)) rfl ?_
                    refine x_R.steps 1 (c' := (20, [(0, .ref 75), (1, .int (xs 1)), (2, .int (xs 2)), (3, .int (xs 3)), (4, .int (xs 4))], [.int (xs 3)], x_h0, 0, 0)) rfl ?_
                    refine x_R.call (a := 289) (vs := [.int (xs 3)]) (rest := []) (M' := M_cX12_isLaw) rfl rfl rfl ?_
                    refine x_R.steps 4 (c' := (6, [(0, .int (xs 3))], [.long 3, .long 0, .long ((xs 3)).toInt64], x_h0, 0, 0)) rfl ?_
                    refine x_R.call (a := 196) (vs := [.long ((xs 3)).toInt64, .long 0, .long 3]) (rest := []) (M' := M_cX12_in) rfl rfl rfl ?_
                    refine x_R.steps 3 (c' := (3, [(0, .long ((xs 3)).toInt64), (2, .long 0), (4, .long 3)], [.int (lg_cmp ((xs 3)).toInt64 0)], x_h0, 0, 0)) rfl ?_
                    refine x_R.ite (p := (lg_cmp ((xs 3)).toInt64 0) < (0 : Int32)) (c1 := (17, [(0, .long ((xs 3)).toInt64), (2, .long 0), (4, .long 3)], [], x_h0, 0, 0)) (c2 := (6, [(0, .long ((xs 3)).toInt64), (2, .long 0), (4, .long 3)], [], x_h0, 0, 0)) rfl (fun h20 => ?_) (fun h20 => ?_)
                    · have g20 := (x_lg_lt (C := 0) (by decide)).mp h20
                      refine x_R.steps 1 (c' := (18, [(0, .long ((xs 3)).toInt64), (2, .long 0), (4, .long 3)], [.int 0], x_h0, 0, 0)) rfl ?_
                      refine x_R.ret (v := some (.int 0)) rfl ?_
                      refine x_R.steps 0 (c' := (9, [(0, .int (xs 3))], [.int 0], x_h0, 0, 0)) rfl ?_
                      refine x_R.ret (v := some (.int 0)) rfl ?_
                      refine x_R.steps 0 (c' := (23, [(0, .ref 75), (1, .int (xs 1)), (2, .int (xs 2)), (3, .int (xs 3)), (4, .int (xs 4))], [.int 0], x_h0, 0, 0)) rfl ?_
                      refine x_R.steps 1 (c' := (35, [(0, .ref 75), (1, .int (xs 1)), (2, .int (xs 2)), (3, .int (xs 3)), (4, .int (xs 4))], [], x_h0, 0, 0)) rfl ?_
                      refine x_R.steps 1 (c' := (37, [(0, .ref 75), (1, .int (xs 1)), (2, .int (xs 2)), (3, .int (xs 3)), (4, .int (xs 4))], [.int (-2)], x_h0, 0, 0)) rfl ?_
                      refine x_R.ret (v := some (.int (-2))) rfl ?_
                      refine x_R.steps 0 (c' := (2117, [(3, .int 0), (2, .ref 75), (1, .ref 0), (0, .ref x_scr)], [.int (-2), .int (-2)], x_h0, 98, 10728)) rfl ?_
                      refine x_R.steps 1 (c' := (2370, [(3, .int 0), (2, .ref 75), (1, .ref 0), (0, .ref x_scr)], [], x_h0, 98, 10728)) rfl ?_
                      refine x_R.steps 7 (c' := (24, [(3, .int 6), (2, .ref 75), (1, .ref 0), (0, .ref x_scr)], [.int 0, .int 6], x_h0, 98, 10728)) rfl ?_
                      refine x_R.steps 1 (c' := (2376, [(3, .int 6), (2, .ref 75), (1, .ref 0), (0, .ref x_scr)], [], x_h0, 98, 10728)) rfl ?_
                      refine x_R.steps 1 (c' := (2377, [(3, .int 6), (2, .ref 75), (1, .ref 0), (0, .ref x_scr)], [.int 1], x_h0, 98, 10728)) rfl ?_
                      exact x_R.ret (v := some (.int 1)) rfl x_fin
                    · have g20 := mt (x_lg_lt (C := 0) (by decide)).mpr h20
                      exfalso; omega
          · have g15 := mt (x_i_lt (C := 0) (by decide)).mpr h15
            refine x_R.steps 2 (c' := (6, [(0, .int (xs 3))], [.int 4, .int (xs 3)], x_h0, 0, 0)) rfl ?_
            refine x_R.ite (p := (4 : Int32) ≤ (xs 3)) (c1 := (13, [(0, .int (xs 3))], [], x_h0, 0, 0)) (c2 := (9, [(0, .int (xs 3))], [], x_h0, 0, 0)) rfl (fun h21 => ?_) (fun h21 => ?_)
            · have g21 := (x_i_ge (C := 4) (by decide)).mp h21
              refine x_R.steps 1 (c' := (14, [(0, .int (xs 3))], [.int 0], x_h0, 0, 0)) rfl ?_
              refine x_R.ret (v := some (.int 0)) rfl ?_
              refine x_R.steps 0 (c' := (22, [(0, .ref 0), (1, .int (xs 1)), (2, .int (xs 2)), (3, .int (xs 3)), (4, .int (xs 4))], [.int 0], x_h0, 0, 0)) rfl ?_
              refine x_R.steps 1 (c' := (37, [(0, .ref 0), (1, .int (xs 1)), (2, .int (xs 2)), (3, .int (xs 3)), (4, .int (xs 4))], [], x_h0, 0, 0)) rfl ?_
              refine x_R.steps 1 (c' := (39, [(0, .ref 0), (1, .int (xs 1)), (2, .int (xs 2)), (3, .int (xs 3)), (4, .int (xs 4))], [.int (-2)], x_h0, 0, 0)) rfl ?_
              refine x_R.ret (v := some (.int (-2))) rfl ?_
              refine x_R.steps 0 (c' := (2093, [(3, .int 0), (2, .ref 75), (1, .ref 0), (0, .ref x_scr)], [.int (-2)], x_h0, 98, 10728)) rfl ?_
              refine x_R.steps 5 (c' := (2098, [(3, .int 0), (2, .ref 75), (1, .ref 0), (0, .ref x_scr)], [.int 1, .ref x_scr, .ref 75, .int (-2)], x_h0, 98, 10728)) rfl ?_
              refine x_R.steps 1 (c' := (2099, [(3, .int 0), (2, .ref 75), (1, .ref 0), (0, .ref x_scr)], [.int (xs 1), .ref 75, .int (-2)], x_h0, 98, 10728)) rfl ?_
              refine x_R.steps 4 (c' := (2103, [(3, .int 0), (2, .ref 75), (1, .ref 0), (0, .ref x_scr)], [.int 2, .ref x_scr, .int (xs 1), .ref 75, .int (-2)], x_h0, 98, 10728)) rfl ?_
              refine x_R.steps 1 (c' := (2104, [(3, .int 0), (2, .ref 75), (1, .ref 0), (0, .ref x_scr)], [.int (xs 2), .int (xs 1), .ref 75, .int (-2)], x_h0, 98, 10728)) rfl ?_
              refine x_R.steps 4 (c' := (2108, [(3, .int 0), (2, .ref 75), (1, .ref 0), (0, .ref x_scr)], [.int 3, .ref x_scr, .int (xs 2), .int (xs 1), .ref 75, .int (-2)], x_h0, 98, 10728)) rfl ?_
              refine x_R.steps 1 (c' := (2109, [(3, .int 0), (2, .ref 75), (1, .ref 0), (0, .ref x_scr)], [.int (xs 3), .int (xs 2), .int (xs 1), .ref 75, .int (-2)], x_h0, 98, 10728)) rfl ?_
              refine x_R.steps 4 (c' := (2113, [(3, .int 0), (2, .ref 75), (1, .ref 0), (0, .ref x_scr)], [.int 4, .ref x_scr, .int (xs 3), .int (xs 2), .int (xs 1), .ref 75, .int (-2)], x_h0, 98, 10728)) rfl ?_
              refine x_R.steps 1 (c' := (2114, [(3, .int 0), (2, .ref 75), (1, .ref 0), (0, .ref x_scr)], [.int (xs 4), .int (xs 3), .int (xs 2), .int (xs 1), .ref 75, .int (-2)], x_h0, 98, 10728)) rfl ?_
              refine x_R.call (a := 349) (vs := [.ref 75, .int (xs 1), .int (xs 2), .int (xs 3), .int (xs 4)]) (rest := [.int (-2)]) (M' := M_cX12_years) rfl rfl rfl ?_
              refine x_R.steps 1 (c' := (1, [(0, .ref 75), (1, .int (xs 1)), (2, .int (xs 2)), (3, .int (xs 3)), (4, .int (xs 4))], [.int (xs 1)], x_h0, 0, 0)) rfl ?_
              refine x_R.call (a := 345) (vs := [.int (xs 1)]) (rest := []) (M' := M_cX12_isSeed) rfl rfl rfl ?_
              refine x_R.steps 4 (c' := (6, [(0, .int (xs 1))], [.long 2000000000, .long 0, .long ((xs 1)).toInt64], x_h0, 0, 0)) rfl ?_
              refine x_R.call (a := 196) (vs := [.long ((xs 1)).toInt64, .long 0, .long 2000000000]) (rest := []) (M' := M_cX12_in) rfl rfl rfl ?_
              refine x_R.steps 3 (c' := (3, [(0, .long ((xs 1)).toInt64), (2, .long 0), (4, .long 2000000000)], [.int (lg_cmp ((xs 1)).toInt64 0)], x_h0, 0, 0)) rfl ?_
              refine x_R.ite (p := (lg_cmp ((xs 1)).toInt64 0) < (0 : Int32)) (c1 := (17, [(0, .long ((xs 1)).toInt64), (2, .long 0), (4, .long 2000000000)], [], x_h0, 0, 0)) (c2 := (6, [(0, .long ((xs 1)).toInt64), (2, .long 0), (4, .long 2000000000)], [], x_h0, 0, 0)) rfl (fun h22 => ?_) (fun h22 => ?_)
              · have g22 := (x_lg_lt (C := 0) (by decide)).mp h22
                exfalso; omega
              · have g22 := mt (x_lg_lt (C := 0) (by decide)).mpr h22
                refine x_R.steps 3 (c' := (10, [(0, .long ((xs 1)).toInt64), (2, .long 0), (4, .long 2000000000)], [.int (lg_cmp ((xs 1)).toInt64 2000000000)], x_h0, 0, 0)) rfl ?_
                refine x_R.ite (p := (0 : Int32) < (lg_cmp ((xs 1)).toInt64 2000000000)) (c1 := (17, [(0, .long ((xs 1)).toInt64), (2, .long 0), (4, .long 2000000000)], [], x_h0, 0, 0)) (c2 := (13, [(0, .long ((xs 1)).toInt64), (2, .long 0), (4, .long 2000000000)], [], x_h0, 0, 0)) rfl (fun h23 => ?_) (fun h23 => ?_)
                · have g23 := (x_lg_gt (C := 2000000000) (by decide)).mp h23
                  exfalso; omega
                · have g23 := mt (x_lg_gt (C := 2000000000) (by decide)).mpr h23
                  refine x_R.steps 2 (c' := (18, [(0, .long ((xs 1)).toInt64), (2, .long 0), (4, .long 2000000000)], [.int 1], x_h0, 0, 0)) rfl ?_
                  refine x_R.ret (v := some (.int 1)) rfl ?_
                  refine x_R.steps 0 (c' := (9, [(0, .int (xs 1))], [.int 1], x_h0, 0, 0)) rfl ?_
                  refine x_R.ret (v := some (.int 1)) rfl ?_
                  refine x_R.steps 0 (c' := (4, [(0, .ref 75), (1, .int (xs 1)), (2, .int (xs 2)), (3, .int (xs 3)), (4, .int (xs 4))], [.int 1], x_h0, 0, 0)) rfl ?_
                  refine x_R.steps 1 (c' := (7, [(0, .ref 75), (1, .int (xs 1)), (2, .int (xs 2)), (3, .int (xs 3)), (4, .int (xs 4))], [], x_h0, 0, 0)) rfl ?_
                  refine x_R.steps 4 (c' := (13, [(0, .ref 75), (1, .int (xs 1)), (2, .int (xs 2)), (3, .int (xs 3)), (4, .int (xs 4))], [.long 20, .long 1, .long ((xs 2)).toInt64], x_h0, 0, 0)) rfl ?_
                  refine x_R.call (a := 196) (vs := [.long ((xs 2)).toInt64, .long 1, .long 20]) (rest := []) (M' := M_cX12_in) rfl rfl rfl ?_
                  refine x_R.steps 3 (c' := (3, [(0, .long ((xs 2)).toInt64), (2, .long 1), (4, .long 20)], [.int (lg_cmp ((xs 2)).toInt64 1)], x_h0, 0, 0)) rfl ?_
                  refine x_R.ite (p := (lg_cmp ((xs 2)).toInt64 1) < (0 : Int32)) (c1 := (17, [(0, .long ((xs 2)).toInt64), (2, .long 1), (4, .long 20)], [], x_h0, 0, 0)) (c2 := (6, [(0, .long ((xs 2)).toInt64), (2, .long 1), (4, .long 20)], [], x_h0, 0, 0)) rfl (fun h24 => ?_) (fun h24 => ?_)
                  · have g24 := (x_lg_lt (C := 1) (by decide)).mp h24
                    exfalso; omega
                  · have g24 := mt (x_lg_lt (C := 1) (by decide)).mpr h24
                    refine x_R.steps 3 (c' := (10, [(0, .long ((xs 2)).toInt64), (2, .long 1), (4, .long 20)], [.int (lg_cmp ((xs 2)).toInt64 20)], x_h0, 0, 0)) rfl ?_
                    refine x_R.ite (p := (0 : Int32) < (lg_cmp ((xs 2)).toInt64 20)) (c1 := (17, [(0, .long ((xs 2)).toInt64), (2, .long 1), (4, .long 20)], [], x_h0, 0, 0)) (c2 := (13, [(0, .long ((xs 2)).toInt64), (2, .long 1), (4, .long 20)], [], x_h0, 0, 0)) rfl (fun h25 => ?_) (fun h25 => ?_)
                    · have g25 := (x_lg_gt (C := 20) (by decide)).mp h25
                      exfalso; omega
                    · have g25 := mt (x_lg_gt (C := 20) (by decide)).mpr h25
                      refine x_R.steps 2 (c' := (18, [(0, .long ((xs 2)).toInt64), (2, .long 1), (4, .long 20)], [.int 1], x_h0, 0, 0)) rfl ?_
                      refine x_R.ret (v := some (.int 1)) rfl ?_
                      refine x_R.steps 0 (c' := (16, [(0, .ref 75), (1, .int (xs 1)), (2, .int (xs 2)), (3, .int (xs 3)), (4, .int (xs 4))], [.int 1], x_h0, 0, 0)) rfl ?_
                      refine x_R.steps 1 (c' := (19, [(0, .ref 75), (1, .int (xs 1)), (2, .int (xs 2)), (3, .int (xs 3)), (4, .int (xs 4))], [], x_h0, 0, 0)) rfl ?_
                      refine x_R.steps 1 (c' := (20, [(0, .ref 75), (1, .int (xs 1)), (2, .int (xs 2)), (3, .int (xs 3)), (4, .int (xs 4))], [.int (xs 3)], x_h0, 0, 0)) rfl ?_
                      refine x_R.call (a := 289) (vs := [.int (xs 3)]) (rest := []) (M' := M_cX12_isLaw) rfl rfl rfl ?_
                      refine x_R.steps 4 (c' := (6, [(0, .int (xs 3))], [.long 3, .long 0, .long ((xs 3)).toInt64], x_h0, 0, 0)) rfl ?_
                      refine x_R.call (a := 196) (vs := [.long ((xs 3)).toInt64, .long 0, .long 3]) (rest := []) (M' := M_cX12_in) rfl rfl rfl ?_
                      refine x_R.steps 3 (c' := (3, [(0, .long ((xs 3)).toInt64), (2, .long 0), (4, .long 3)], [.int (lg_cmp ((xs 3)).toInt64 0)], x_h0, 0, 0)) rfl ?_
                      refine x_R.ite (p := (lg_cmp ((xs 3)).toInt64 0) < (0 : Int32)) (c1 := (17, [(0, .long ((xs 3)).toInt64), (2, .long 0), (4, .long 3)], [], x_h0, 0, 0)) (c2 := (6, [(0, .long ((xs 3)).toInt64), (2, .long 0), (4, .long 3)], [], x_h0, 0, 0)) rfl (fun h26 => ?_) (fun h26 => ?_)
                      · have g26 := (x_lg_lt (C := 0) (by decide)).mp h26
                        exfalso; omega
                      · have g26 := mt (x_lg_lt (C := 0) (by decide)).mpr h26
                        refine x_R.steps 3 (c' := (10, [(0, .long ((xs 3)).toInt64), (2, .long 0), (4, .long 3)], [.int (lg_cmp ((xs 3)).toInt64 3)], x_h0, 0, 0)) rfl ?_
                        refine x_R.ite (p := (0 : Int32) < (lg_cmp ((xs 3)).toInt64 3)) (c1 := (17, [(0, .long ((xs 3)).toInt64), (2, .long 0), (4, .long 3)], [], x_h0, 0, 0)) (c2 := (13, [(0, .long ((xs 3)).toInt64), (2, .long 0), (4, .long 3)], [], x_h0, 0, 0)) rfl (fun h27 => ?_) (fun h27 => ?_)
                        · have g27 := (x_lg_gt (C := 3) (by decide)).mp h27
                          refine x_R.steps 1 (c' := (18, [(0, .long ((xs 3)).toInt64), (2, .long 0), (4, .long 3)], [.int 0], x_h0, 0, 0)) rfl ?_
                          refine x_R.ret (v := some (.int 0)) rfl ?_
                          refine x_R.steps 0 (c' := (9, [(0, .int (xs 3))], [.int 0], x_h0, 0, 0)) rfl ?_
                          refine x_R.ret (v := some (.int 0)) rfl ?_
                          refine x_R.steps 0 (c' := (23, [(0, .ref 75), (1, .int (xs 1)), (2, .int (xs 2)), (3, .int (xs 3)), (4, .int (xs 4))], [.int 0], x_h0, 0, 0)) rfl ?_
                          refine x_R.steps 1 (c' := (35, [(0, .ref 75), (1, .int (xs 1)), (2, .int (xs 2)), (3, .int (xs 3)), (4, .int (xs 4))], [], x_h0, 0, 0)) rfl ?_
                          refine x_R.steps 1 (c' := (37, [(0, .ref 75), (1, .int (xs 1)), (2, .int (xs 2)), (3, .int (xs 3)), (4, .int (xs 4))], [.int (-2)], x_h0, 0, 0)) rfl ?_
                          refine x_R.ret (v := some (.int (-2))) rfl ?_
                          refine x_R.steps 0 (c' := (2117, [(3, .int 0), (2, .ref 75), (1, .ref 0), (0, .ref x_scr)], [.int (-2), .int (-2)], x_h0, 98, 10728)) rfl ?_
                          refine x_R.steps 1 (c' := (2370, [(3, .int 0), (2, .ref 75), (1, .ref 0), (0, .ref x_scr)], [], x_h0, 98, 10728)) rfl ?_
                          refine x_R.steps 7 (c' := (24, [(3, .int 6), (2, .ref 75), (1, .ref 0), (0, .ref x_scr)], [.int 0, .int 6], x_h0, 98, 10728)) rfl ?_
                          refine x_R.steps 1 (c' := (2376, [(3, .int 6), (2, .ref 75), (1, .ref 0), (0, .ref x_scr)], [], x_h0, 98, 10728)) rfl ?_
                          refine x_R.steps 1 (c' := (2377, [(3, .int 6), (2, .ref 75), (1, .ref 0), (0, .ref x_scr)], [.int 1], x_h0, 98, 10728)) rfl ?_
                          exact x_R.ret (v := some (.int 1)) rfl x_fin
                        · have g27 := mt (x_lg_gt (C := 3) (by decide)).mpr h27
                          exfalso; omega
            · have g21 := mt (x_i_ge (C := 4) (by decide)).mpr h21
              refine x_R.steps 2 (c' := (14, [(0, .int (xs 3))], [.int 1], x_h0, 0, 0)) rfl ?_
              refine x_R.ret (v := some (.int 1)) rfl ?_
              refine x_R.steps 0 (c' := (22, [(0, .ref 0), (1, .int (xs 1)), (2, .int (xs 2)), (3, .int (xs 3)), (4, .int (xs 4))], [.int 1], x_h0, 0, 0)) rfl ?_
              refine x_R.steps 1 (c' := (25, [(0, .ref 0), (1, .int (xs 1)), (2, .int (xs 2)), (3, .int (xs 3)), (4, .int (xs 4))], [], x_h0, 0, 0)) rfl ?_
              refine x_R.steps 3 (c' := (31, [(0, .ref 0), (1, .int (xs 1)), (2, .int (xs 2)), (3, .int (xs 3)), (4, .int (xs 4))], [.int (xs 4), .ref 1], x_h0, 0, 0)) rfl ?_
              refine x_R.call (a := 15) (vs := [.ref 1, .int (xs 4)]) (rest := []) (M' := M_cX2_isPlayer) rfl rfl rfl ?_
              refine x_R.steps 1 (c' := (1, [(0, .ref 1), (1, .int (xs 4))], [.int (xs 4)], x_h0, 0, 0)) rfl ?_
              refine x_R.ite (p := (xs 4) < (0 : Int32)) (c1 := (16, [(0, .ref 1), (1, .int (xs 4))], [], x_h0, 0, 0)) (c2 := (4, [(0, .ref 1), (1, .int (xs 4))], [], x_h0, 0, 0)) rfl (fun h28 => ?_) (fun h28 => ?_)
              · have g28 := (x_i_lt (C := 0) (by decide)).mp h28
                refine x_R.steps 1 (c' := (17, [(0, .ref 1), (1, .int (xs 4))], [.int 0], x_h0, 0, 0)) rfl ?_
                refine x_R.ret (v := some (.int 0)) rfl ?_
                refine x_R.steps 0 (c' := (34, [(0, .ref 0), (1, .int (xs 1)), (2, .int (xs 2)), (3, .int (xs 3)), (4, .int (xs 4))], [.int 0], x_h0, 0, 0)) rfl ?_
                refine x_R.steps 1 (c' := (37, [(0, .ref 0), (1, .int (xs 1)), (2, .int (xs 2)), (3, .int (xs 3)), (4, .int (xs 4))], [], x_h0, 0, 0)) rfl ?_
                refine x_R.steps 1 (c' := (39, [(0, .ref 0), (1, .int (xs 1)), (2, .int (xs 2)), (3, .int (xs 3)), (4, .int (xs 4))], [.int (-2)], x_h0, 0, 0)) rfl ?_
                refine x_R.ret (v := some (.int (-2))) rfl ?_
                refine x_R.steps 0 (c' := (2093, [(3, .int 0), (2, .ref 75), (1, .ref 0), (0, .ref x_scr)], [.int (-2)], x_h0, 98, 10728)) rfl ?_
                refine x_R.steps 5 (c' := (2098, [(3, .int 0), (2, .ref 75), (1, .ref 0), (0, .ref x_scr)], [.int 1, .ref x_scr, .ref 75, .int (-2)], x_h0, 98, 10728)) rfl ?_
                refine x_R.steps 1 (c' := (2099, [(3, .int 0), (2, .ref 75), (1, .ref 0), (0, .ref x_scr)], [.int (xs 1), .ref 75, .int (-2)], x_h0, 98, 10728)) rfl ?_
                refine x_R.steps 4 (c' := (2103, [(3, .int 0), (2, .ref 75), (1, .ref 0), (0, .ref x_scr)], [.int 2, .ref x_scr, .int (xs 1), .ref 75, .int (-2)], x_h0, 98, 10728)) rfl ?_
                refine x_R.steps 1 (c' := (2104, [(3, .int 0), (2, .ref 75), (1, .ref 0), (0, .ref x_scr)], [.int (xs 2), .int (xs 1), .ref 75, .int (-2)], x_h0, 98, 10728)) rfl ?_
                refine x_R.steps 4 (c' := (2108, [(3, .int 0), (2, .ref 75), (1, .ref 0), (0, .ref x_scr)], [.int 3, .ref x_scr, .int (xs 2), .int (xs 1), .ref 75, .int (-2)], x_h0, 98, 10728)) rfl ?_
                refine x_R.steps 1 (c' := (2109, [(3, .int 0), (2, .ref 75), (1, .ref 0), (0, .ref x_scr)], [.int (xs 3), .int (xs 2), .int (xs 1), .ref 75, .int (-2)], x_h0, 98, 10728)) rfl ?_
                refine x_R.steps 4 (c' := (2113, [(3, .int 0), (2, .ref 75), (1, .ref 0), (0, .ref x_scr)], [.int 4, .ref x_scr, .int (xs 3), .int (xs 2), .int (xs 1), .ref 75, .int (-2)], x_h0, 98, 10728)) rfl ?_
                refine x_R.steps 1 (c' := (2114, [(3, .int 0), (2, .ref 75), (1, .ref 0), (0, .ref x_scr)], [.int (xs 4), .int (xs 3), .int (xs 2), .int (xs 1), .ref 75, .int (-2)], x_h0, 98, 10728)) rfl ?_
                refine x_R.call (a := 349) (vs := [.ref 75, .int (xs 1), .int (xs 2), .int (xs 3), .int (xs 4)]) (rest := [.int (-2)]) (M' := M_cX12_years) rfl rfl rfl ?_
                refine x_R.steps 1 (c' := (1, [(0, .ref 75), (1, .int (xs 1)), (2, .int (xs 2)), (3, .int (xs 3)), (4, .int (xs 4))], [.int (xs 1)], x_h0, 0, 0)) rfl ?_
                refine x_R.call (a := 345) (vs := [.int (xs 1)]) (rest := []) (M' := M_cX12_isSeed) rfl rfl rfl ?_
                refine x_R.steps 4 (c' := (6, [(0, .int (xs 1))], [.long 2000000000, .long 0, .long ((xs 1)).toInt64], x_h0, 0, 0)) rfl ?_
                refine x_R.call (a := 196) (vs := [.long ((xs 1)).toInt64, .long 0, .long 2000000000]) (rest := []) (M' := M_cX12_in) rfl rfl rfl ?_
                refine x_R.steps 3 (c' := (3, [(0, .long ((xs 1)).toInt64), (2, .long 0), (4, .long 2000000000)], [.int (lg_cmp ((xs 1)).toInt64 0)], x_h0, 0, 0)) rfl ?_
                refine x_R.ite (p := (lg_cmp ((xs 1)).toInt64 0) < (0 : Int32)) (c1 := (17, [(0, .long ((xs 1)).toInt64), (2, .long 0), (4, .long 2000000000)], [], x_h0, 0, 0)) (c2 := (6, [(0, .long ((xs 1)).toInt64), (2, .long 0), (4, .long 2000000000)], [], x_h0, 0, 0)) rfl (fun h29 => ?_) (fun h29 => ?_)
                · have g29 := (x_lg_lt (C := 0) (by decide)).mp h29
                  exfalso; omega
                · have g29 := mt (x_lg_lt (C := 0) (by decide)).mpr h29
                  refine x_R.steps 3 (c' := (10, [(0, .long ((xs 1)).toInt64), (2, .long 0), (4, .long 2000000000)], [.int (lg_cmp ((xs 1)).toInt64 2000000000)], x_h0, 0, 0)) rfl ?_
                  refine x_R.ite (p := (0 : Int32) < (lg_cmp ((xs 1)).toInt64 2000000000)) (c1 := (17, [(0, .long ((xs 1)).toInt64), (2, .long 0), (4, .long 2000000000)], [], x_h0, 0, 0)) (c2 := (13, [(0, .long ((xs 1)).toInt64), (2, .long 0), (4, .long 2000000000)], [], x_h0, 0, 0)) rfl (fun h30 => ?_) (fun h30 => ?_)
                  · have g30 := (x_lg_gt (C := 2000000000) (by decide)).mp h30
                    exfalso; omega
                  · have g30 := mt (x_lg_gt (C := 2000000000) (by decide)).mpr h30
                    refine x_R.steps 2 (c' := (18, [(0, .long ((xs 1)).toInt64), (2, .long 0), (4, .long 2000000000)], [.int 1], x_h0, 0, 0)) rfl ?_
                    refine x_R.ret (v := some (.int 1)) rfl ?_
                    refine x_R.steps 0 (c' := (9, [(0, .int (xs 1))], [.int 1], x_h0, 0, 0)) rfl ?_
                    refine x_R.ret (v := some (.int 1)) rfl ?_
                    refine x_R.steps 0 (c' := (4, [(0, .ref 75), (1, .int (xs 1)), (2, .int (xs 2)), (3, .int (xs 3)), (4, .int (xs 4))], [.int 1], x_h0, 0, 0)) rfl ?_
                    refine x_R.steps 1 (c' := (7, [(0, .ref 75), (1, .int (xs 1)), (2, .int (xs 2)), (3, .int (xs 3)), (4, .int (xs 4))], [], x_h0, 0, 0)) rfl ?_
                    refine x_R.steps 4 (c' := (13, [(0, .ref 75), (1, .int (xs 1)), (2, .int (xs 2)), (3, .int (xs 3)), (4, .int (xs 4))], [.long 20, .long 1, .long ((xs 2)).toInt64], x_h0, 0, 0)) rfl ?_
                    refine x_R.call (a := 196) (vs := [.long ((xs 2)).toInt64, .long 1, .long 20]) (rest := []) (M' := M_cX12_in) rfl rfl rfl ?_
                    refine x_R.steps 3 (c' := (3, [(0, .long ((xs 2)).toInt64), (2, .long 1), (4, .long 20)], [.int (lg_cmp ((xs 2)).toInt64 1)], x_h0, 0, 0)) rfl ?_
                    refine x_R.ite (p := (lg_cmp ((xs 2)).toInt64 1) < (0 : Int32)) (c1 := (17, [(0, .long ((xs 2)).toInt64), (2, .long 1), (4, .long 20)], [], x_h0, 0, 0)) (c2 := (6, [(0, .long ((xs 2)).toInt64), (2, .long 1), (4, .long 20)], [], x_h0, 0, 0)) rfl (fun h31 => ?_) (fun h31 => ?_)
                    · have g31 := (x_lg_lt (C := 1) (by decide)).mp h31
                      exfalso; omega
                    · have g31 := mt (x_lg_lt (C := 1) (by decide)).mpr h31
                      refine x_R.steps 3 (c' := (10, [(0, .long ((xs 2)).toInt64), (2, .long 1), (4, .long 20)], [.int (lg_cmp ((xs 2)).toInt64 20)], x_h0, 0, 0)) rfl ?_
                      refine x_R.ite (p := (0 : Int32) < (lg_cmp ((xs 2)).toInt64 20)) (c1 := (17, [(0, .long ((xs 2)).toInt64), (2, .long 1), (4, .long 20)], [], x_h0, 0, 0)) (c2 := (13, [(0, .long ((xs 2)).toInt64), (2, .long 1), (4, .long 20)], [], x_h0, 0, 0)) rfl (fun h32 => ?_) (fun h32 => ?_)
                      · have g32 := (x_lg_gt (C := 20) (by decide)).mp h32
                        exfalso; omega
                      · have g32 := mt (x_lg_gt (C := 20) (by decide)).mpr h32
                        refine x_R.steps 2 (c' := (18, [(0, .long ((xs 2)).toInt64), (2, .long 1), (4, .long 20)], [.int 1], x_h0, 0, 0)) rfl ?_
                        refine x_R.ret (v := some (.int 1)) rfl ?_
                        refine x_R.steps 0 (c' := (16, [(0, .ref 75), (1, .int (xs 1)), (2, .int (xs 2)), (3, .int (xs 3)), (4, .int (xs 4))], [.int 1], x_h0, 0, 0)) rfl ?_
                        refine x_R.steps 1 (c' := (19, [(0, .ref 75), (1, .int (xs 1)), (2, .int (xs 2)), (3, .int (xs 3)), (4, .int (xs 4))], [], x_h0, 0, 0)) rfl ?_
                        refine x_R.steps 1 (c' := (20, [(0, .ref 75), (1, .int (xs 1)), (2, .int (xs 2)), (3, .int (xs 3)), (4, .int (xs 4))], [.int (xs 3)], x_h0, 0, 0)) rfl ?_
                        refine x_R.call (a := 289) (vs := [.int (xs 3)]) (rest := []) (M' := M_cX12_isLaw) rfl rfl rfl ?_
                        refine x_R.steps 4 (c' := (6, [(0, .int (xs 3))], [.long 3, .long 0, .long ((xs 3)).toInt64], x_h0, 0, 0)) rfl ?_
                        refine x_R.call (a := 196) (vs := [.long ((xs 3)).toInt64, .long 0, .long 3]) (rest := []) (M' := M_cX12_in) rfl rfl rfl ?_
                        refine x_R.steps 3 (c' := (3, [(0, .long ((xs 3)).toInt64), (2, .long 0), (4, .long 3)], [.int (lg_cmp ((xs 3)).toInt64 0)], x_h0, 0, 0)) rfl ?_
                        refine x_R.ite (p := (lg_cmp ((xs 3)).toInt64 0) < (0 : Int32)) (c1 := (17, [(0, .long ((xs 3)).toInt64), (2, .long 0), (4, .long 3)], [], x_h0, 0, 0)) (c2 := (6, [(0, .long ((xs 3)).toInt64), (2, .long 0), (4, .long 3)], [], x_h0, 0, 0)) rfl (fun h33 => ?_) (fun h33 => ?_)
                        · have g33 := (x_lg_lt (C := 0) (by decide)).mp h33
                          exfalso; omega
                        · have g33 := mt (x_lg_lt (C := 0) (by decide)).mpr h33
                          refine x_R.steps 3 (c' := (10, [(0, .long ((xs 3)).toInt64), (2, .long 0), (4, .long 3)], [.int (lg_cmp ((xs 3)).toInt64 3)], x_h0, 0, 0)) rfl ?_
                          refine x_R.ite (p := (0 : Int32) < (lg_cmp ((xs 3)).toInt64 3)) (c1 := (17, [(0, .long ((xs 3)).toInt64), (2, .long 0), (4, .long 3)], [], x_h0, 0, 0)) (c2 := (13, [(0, .long ((xs 3)).toInt64), (2, .long 0), (4, .long 3)], [], x_h0, 0, 0)) rfl (fun h34 => ?_) (fun h34 => ?_)
                          · have g34 := (x_lg_gt (C := 3) (by decide)).mp h34
                            exfalso; omega
                          · have g34 := mt (x_lg_gt (C := 3) (by decide)).mpr h34
                            refine x_R.steps 2 (c' := (18, [(0, .long ((xs 3)).toInt64), (2, .long 0), (4, .long 3)], [.int 1], x_h0, 0, 0)) rfl ?_
                            refine x_R.ret (v := some (.int 1)) rfl ?_
                            refine x_R.steps 0 (c' := (9, [(0, .int (xs 3))], [.int 1], x_h0, 0, 0)) rfl ?_
                            refine x_R.ret (v := some (.int 1)) rfl ?_
                            refine x_R.steps 0 (c' := (23, [(0, .ref 75), (1, .int (xs 1)), (2, .int (xs 2)), (3, .int (xs 3)), (4, .int (xs 4))], [.int 1], x_h0, 0, 0)) rfl ?_
                            refine x_R.steps 1 (c' := (26, [(0, .ref 75), (1, .int (xs 1)), (2, .int (xs 2)), (3, .int (xs 3)), (4, .int (xs 4))], [], x_h0, 0, 0)) rfl ?_
                            refine x_R.steps 2 (c' := (29, [(0, .ref 75), (1, .int (xs 1)), (2, .int (xs 2)), (3, .int (xs 3)), (4, .int (xs 4))], [.int (xs 4), .ref 75], x_h0, 0, 0)) rfl ?_
                            refine x_R.call (a := 205) (vs := [.ref 75, .int (xs 4)]) (rest := []) (M' := M_cX12_isPlayer) rfl rfl rfl ?_
                            refine x_R.steps 6 (c' := (9, [(0, .ref 75), (1, .int (xs 4))], [.int 6, .ref 76, .long 0, .long ((xs 4)).toInt64], x_h0, 0, 0)) rfl ?_
                            refine x_R.steps 1 (c' := (10, [(0, .ref 75), (1, .int (xs 4))], [.int 0, .long 0, .long ((xs 4)).toInt64], x_h0, 0, 0)) rfl ?_
                            refine x_R.steps 3 (c' := (13, [(0, .ref 75), (1, .int (xs 4))], [.long (-1), .long 0, .long ((xs 4)).toInt64], x_h0, 0, 0)) rfl ?_
                            refine x_R.call (a := 196) (vs := [.long ((xs 4)).toInt64, .long 0, .long (-1)]) (rest := []) (M' := M_cX12_in) rfl rfl rfl ?_
                            refine x_R.steps 3 (c' := (3, [(0, .long ((xs 4)).toInt64), (2, .long 0), (4, .long (-1))], [.int (lg_cmp ((xs 4)).toInt64 0)], x_h0, 0, 0)) rfl ?_
                            refine x_R.ite (p := (lg_cmp ((xs 4)).toInt64 0) < (0 : Int32)) (c1 := (17, [(0, .long ((xs 4)).toInt64), (2, .long 0), (4, .long (-1))], [], x_h0, 0, 0)) (c2 := (6, [(0, .long ((xs 4)).toInt64), (2, .long 0), (4, .long (-1))], [], x_h0, 0, 0)) rfl (fun h35 => ?_) (fun h35 => ?_)
                            · have g35 := (x_lg_lt (C := 0) (by decide)).mp h35
                              refine x_R.steps 1 (c' := (18, [(0, .long ((xs 4)).toInt64), (2, .long 0), (4, .long (-1))], [.int 0], x_h0, 0, 0)) rfl ?_
                              refine x_R.ret (v := some (.int 0)) rfl ?_
                              refine x_R.steps 0 (c' := (16, [(0, .ref 75), (1, .int (xs 4))], [.int 0], x_h0, 0, 0)) rfl ?_
                              refine x_R.ret (v := some (.int 0)) rfl ?_
                              refine x_R.steps 0 (c' := (32, [(0, .ref 75), (1, .int (xs 1)), (2, .int (xs 2)), (3, .int (xs 3)), (4, .int (xs 4))], [.int 0], x_h0, 0, 0)) rfl ?_
                              refine x_R.steps 1 (c' := (35, [(0, .ref 75), (1, .int (xs 1)), (2, .int (xs 2)), (3, .int (xs 3)), (4, .int (xs 4))], [], x_h0, 0, 0)) rfl ?_
                              refine x_R.steps 1 (c' := (37, [(0, .ref 75), (1, .int (xs 1)), (2, .int (xs 2)), (3, .int (xs 3)), (4, .int (xs 4))], [.int (-2)], x_h0, 0, 0)) rfl ?_
                              refine x_R.ret (v := some (.int (-2))) rfl ?_
                              refine x_R.steps 0 (c' := (2117, [(3, .int 0), (2, .ref 75), (1, .ref 0), (0, .ref x_scr)], [.int (-2), .int (-2)], x_h0, 98, 10728)) rfl ?_
                              refine x_R.steps 1 (c' := (2370, [(3, .int 0), (2, .ref 75), (1, .ref 0), (0, .ref x_scr)], [], x_h0, 98, 10728)) rfl ?_
                              refine x_R.steps 7 (c' := (24, [(3, .int 6), (2, .ref 75), (1, .ref 0), (0, .ref x_scr)], [.int 0, .int 6], x_h0, 98, 10728)) rfl ?_
                              refine x_R.steps 1 (c' := (2376, [(3, .int 6), (2, .ref 75), (1, .ref 0), (0, .ref x_scr)], [], x_h0, 98, 10728)) rfl ?_
                              refine x_R.steps 1 (c' := (2377, [(3, .int 6), (2, .ref 75), (1, .ref 0), (0, .ref x_scr)], [.int 1], x_h0, 98, 10728)) rfl ?_
                              exact x_R.ret (v := some (.int 1)) rfl x_fin
                            · have g35 := mt (x_lg_lt (C := 0) (by decide)).mpr h35
                              exfalso; omega
              · have g28 := mt (x_i_lt (C := 0) (by decide)).mpr h28
                refine x_R.steps 3 (c' := (9, [(0, .ref 1), (1, .int (xs 4))], [.int 0, .int (xs 4)], x_h0, 0, 0)) rfl ?_
                refine x_R.ite (p := (0 : Int32) ≤ (xs 4)) (c1 := (16, [(0, .ref 1), (1, .int (xs 4))], [], x_h0, 0, 0)) (c2 := (12, [(0, .ref 1), (1, .int (xs 4))], [], x_h0, 0, 0)) rfl (fun h36 => ?_) (fun h36 => ?_)
                · have g36 := (x_i_ge (C := 0) (by decide)).mp h36
                  refine x_R.steps 1 (c' := (17, [(0, .ref 1), (1, .int (xs 4))], [.int 0], x_h0, 0, 0)) rfl ?_
                  refine x_R.ret (v := some (.int 0)) rfl ?_
                  refine x_R.steps 0 (c' := (34, [(0, .ref 0), (1, .int (xs 1)), (2, .int (xs 2)), (3, .int (xs 3)), (4, .int (xs 4))], [.int 0], x_h0, 0, 0)) rfl ?_
                  refine x_R.steps 1 (c' := (37, [(0, .ref 0), (1, .int (xs 1)), (2, .int (xs 2)), (3, .int (xs 3)), (4, .int (xs 4))], [], x_h0, 0, 0)) rfl ?_
                  refine x_R.steps 1 (c' := (39, [(0, .ref 0), (1, .int (xs 1)), (2, .int (xs 2)), (3, .int (xs 3)), (4, .int (xs 4))], [.int (-2)], x_h0, 0, 0)) rfl ?_
                  refine x_R.ret (v := some (.int (-2))) rfl ?_
                  refine x_R.steps 0 (c' := (2093, [(3, .int 0), (2, .ref 75), (1, .ref 0), (0, .ref x_scr)], [.int (-2)], x_h0, 98, 10728)) rfl ?_
                  refine x_R.steps 5 (c' := (2098, [(3, .int 0), (2, .ref 75), (1, .ref 0), (0, .ref x_scr)], [.int 1, .ref x_scr, .ref 75, .int (-2)], x_h0, 98, 10728)) rfl ?_
                  refine x_R.steps 1 (c' := (2099, [(3, .int 0), (2, .ref 75), (1, .ref 0), (0, .ref x_scr)], [.int (xs 1), .ref 75, .int (-2)], x_h0, 98, 10728)) rfl ?_
                  refine x_R.steps 4 (c' := (2103, [(3, .int 0), (2, .ref 75), (1, .ref 0), (0, .ref x_scr)], [.int 2, .ref x_scr, .int (xs 1), .ref 75, .int (-2)], x_h0, 98, 10728)) rfl ?_
                  refine x_R.steps 1 (c' := (2104, [(3, .int 0), (2, .ref 75), (1, .ref 0), (0, .ref x_scr)], [.int (xs 2), .int (xs 1), .ref 75, .int (-2)], x_h0, 98, 10728)) rfl ?_
                  refine x_R.steps 4 (c' := (2108, [(3, .int 0), (2, .ref 75), (1, .ref 0), (0, .ref x_scr)], [.int 3, .ref x_scr, .int (xs 2), .int (xs 1), .ref 75, .int (-2)], x_h0, 98, 10728)) rfl ?_
                  refine x_R.steps 1 (c' := (2109, [(3, .int 0), (2, .ref 75), (1, .ref 0), (0, .ref x_scr)], [.int (xs 3), .int (xs 2), .int (xs 1), .ref 75, .int (-2)], x_h0, 98, 10728)) rfl ?_
                  refine x_R.steps 4 (c' := (2113, [(3, .int 0), (2, .ref 75), (1, .ref 0), (0, .ref x_scr)], [.int 4, .ref x_scr, .int (xs 3), .int (xs 2), .int (xs 1), .ref 75, .int (-2)], x_h0, 98, 10728)) rfl ?_
                  refine x_R.steps 1 (c' := (2114, [(3, .int 0), (2, .ref 75), (1, .ref 0), (0, .ref x_scr)], [.int (xs 4), .int (xs 3), .int (xs 2), .int (xs 1), .ref 75, .int (-2)], x_h0, 98, 10728)) rfl ?_
                  refine x_R.call (a := 349) (vs := [.ref 75, .int (xs 1), .int (xs 2), .int (xs 3), .int (xs 4)]) (rest := [.int (-2)]) (M' := M_cX12_years) rfl rfl rfl ?_
                  refine x_R.steps 1 (c' := (1, [(0, .ref 75), (1, .int (xs 1)), (2, .int (xs 2)), (3, .int (xs 3)), (4, .int (xs 4))], [.int (xs 1)], x_h0, 0, 0)) rfl ?_
                  refine x_R.call (a := 345) (vs := [.int (xs 1)]) (rest := []) (M' := M_cX12_isSeed) rfl rfl rfl ?_
                  refine x_R.steps 4 (c' := (6, [(0, .int (xs 1))], [.long 2000000000, .long 0, .long ((xs 1)).toInt64], x_h0, 0, 0)) rfl ?_
                  refine x_R.call (a := 196) (vs := [.long ((xs 1)).toInt64, .long 0, .long 2000000000]) (rest := []) (M' := M_cX12_in) rfl rfl rfl ?_
                  refine x_R.steps 3 (c' := (3, [(0, .long ((xs 1)).toInt64), (2, .long 0), (4, .long 2000000000)], [.int (lg_cmp ((xs 1)).toInt64 0)], x_h0, 0, 0)) rfl ?_
                  refine x_R.ite (p := (lg_cmp ((xs 1)).toInt64 0) < (0 : Int32)) (c1 := (17, [(0, .long ((xs 1)).toInt64), (2, .long 0), (4, .long 2000000000)], [], x_h0, 0, 0)) (c2 := (6, [(0, .long ((xs 1)).toInt64), (2, .long 0), (4, .long 2000000000)], [], x_h0, 0, 0)) rfl (fun h37 => ?_) (fun h37 => ?_)
                  · have g37 := (x_lg_lt (C := 0) (by decide)).mp h37
                    exfalso; omega
                  · have g37 := mt (x_lg_lt (C := 0) (by decide)).mpr h37
                    refine x_R.steps 3 (c' := (10, [(0, .long ((xs 1)).toInt64), (2, .long 0), (4, .long 2000000000)], [.int (lg_cmp ((xs 1)).toInt64 2000000000)], x_h0, 0, 0)) rfl ?_
                    refine x_R.ite (p := (0 : Int32) < (lg_cmp ((xs 1)).toInt64 2000000000)) (c1 := (17, [(0, .long ((xs 1)).toInt64), (2, .long 0), (4, .long 2000000000)], [], x_h0, 0, 0)) (c2 := (13, [(0, .long ((xs 1)).toInt64), (2, .long 0), (4, .long 2000000000)], [], x_h0, 0, 0)) rfl (fun h38 => ?_) (fun h38 => ?_)
                    · have g38 := (x_lg_gt (C := 2000000000) (by decide)).mp h38
                      exfalso; omega
                    · have g38 := mt (x_lg_gt (C := 2000000000) (by decide)).mpr h38
                      refine x_R.steps 2 (c' := (18, [(0, .long ((xs 1)).toInt64), (2, .long 0), (4, .long 2000000000)], [.int 1], x_h0, 0, 0)) rfl ?_
                      refine x_R.ret (v := some (.int 1)) rfl ?_
                      refine x_R.steps 0 (c' := (9, [(0, .int (xs 1))], [.int 1], x_h0, 0, 0)) rfl ?_
                      refine x_R.ret (v := some (.int 1)) rfl ?_
                      refine x_R.steps 0 (c' := (4, [(0, .ref 75), (1, .int (xs 1)), (2, .int (xs 2)), (3, .int (xs 3)), (4, .int (xs 4))], [.int 1], x_h0, 0, 0)) rfl ?_
                      refine x_R.steps 1 (c' := (7, [(0, .ref 75), (1, .int (xs 1)), (2, .int (xs 2)), (3, .int (xs 3)), (4, .int (xs 4))], [], x_h0, 0, 0)) rfl ?_
                      refine x_R.steps 4 (c' := (13, [(0, .ref 75), (1, .int (xs 1)), (2, .int (xs 2)), (3, .int (xs 3)), (4, .int (xs 4))], [.long 20, .long 1, .long ((xs 2)).toInt64], x_h0, 0, 0)) rfl ?_
                      refine x_R.call (a := 196) (vs := [.long ((xs 2)).toInt64, .long 1, .long 20]) (rest := []) (M' := M_cX12_in) rfl rfl rfl ?_
                      refine x_R.steps 3 (c' := (3, [(0, .long ((xs 2)).toInt64), (2, .long 1), (4, .long 20)], [.int (lg_cmp ((xs 2)).toInt64 1)], x_h0, 0, 0)) rfl ?_
                      refine x_R.ite (p := (lg_cmp ((xs 2)).toInt64 1) < (0 : Int32)) (c1 := (17, [(0, .long ((xs 2)).toInt64), (2, .long 1), (4, .long 20)], [], x_h0, 0, 0)) (c2 := (6, [(0, .long ((xs 2)).toInt64), (2, .long 1), (4, .long 20)], [], x_h0, 0, 0)) rfl (fun h39 => ?_) (fun h39 => ?_)
                      · have g39 := (x_lg_lt (C := 1) (by decide)).mp h39
                        exfalso; omega
                      · have g39 := mt (x_lg_lt (C := 1) (by decide)).mpr h39
                        refine x_R.steps 3 (c' := (10, [(0, .long ((xs 2)).toInt64), (2, .long 1), (4, .long 20)], [.int (lg_cmp ((xs 2)).toInt64 20)], x_h0, 0, 0)) rfl ?_
                        refine x_R.ite (p := (0 : Int32) < (lg_cmp ((xs 2)).toInt64 20)) (c1 := (17, [(0, .long ((xs 2)).toInt64), (2, .long 1), (4, .long 20)], [], x_h0, 0, 0)) (c2 := (13, [(0, .long ((xs 2)).toInt64), (2, .long 1), (4, .long 20)], [], x_h0, 0, 0)) rfl (fun h40 => ?_) (fun h40 => ?_)
                        · have g40 := (x_lg_gt (C := 20) (by decide)).mp h40
                          exfalso; omega
                        · have g40 := mt (x_lg_gt (C := 20) (by decide)).mpr h40
                          refine x_R.steps 2 (c' := (18, [(0, .long ((xs 2)).toInt64), (2, .long 1), (4, .long 20)], [.int 1], x_h0, 0, 0)) rfl ?_
                          refine x_R.ret (v := some (.int 1)) rfl ?_
                          refine x_R.steps 0 (c' := (16, [(0, .ref 75), (1, .int (xs 1)), (2, .int (xs 2)), (3, .int (xs 3)), (4, .int (xs 4))], [.int 1], x_h0, 0, 0)) rfl ?_
                          refine x_R.steps 1 (c' := (19, [(0, .ref 75), (1, .int (xs 1)), (2, .int (xs 2)), (3, .int (xs 3)), (4, .int (xs 4))], [], x_h0, 0, 0)) rfl ?_
                          refine x_R.steps 1 (c' := (20, [(0, .ref 75), (1, .int (xs 1)), (2, .int (xs 2)), (3, .int (xs 3)), (4, .int (xs 4))], [.int (xs 3)], x_h0, 0, 0)) rfl ?_
                          refine x_R.call (a := 289) (vs := [.int (xs 3)]) (rest := []) (M' := M_cX12_isLaw) rfl rfl rfl ?_
                          refine x_R.steps 4 (c' := (6, [(0, .int (xs 3))], [.long 3, .long 0, .long ((xs 3)).toInt64], x_h0, 0, 0)) rfl ?_
                          refine x_R.call (a := 196) (vs := [.long ((xs 3)).toInt64, .long 0, .long 3]) (rest := []) (M' := M_cX12_in) rfl rfl rfl ?_
                          refine x_R.steps 3 (c' := (3, [(0, .long ((xs 3)).toInt64), (2, .long 0), (4, .long 3)], [.int (lg_cmp ((xs 3)).toInt64 0)], x_h0, 0, 0)) rfl ?_
                          refine x_R.ite (p := (lg_cmp ((xs 3)).toInt64 0) < (0 : Int32)) (c1 := (17, [(0, .long ((xs 3)).toInt64), (2, .long 0), (4, .long 3)], [], x_h0, 0, 0)) (c2 := (6, [(0, .long ((xs 3)).toInt64), (2, .long 0), (4, .long 3)], [], x_h0, 0, 0)) rfl (fun h41 => ?_) (fun h41 => ?_)
                          · have g41 := (x_lg_lt (C := 0) (by decide)).mp h41
                            exfalso; omega
                          · have g41 := mt (x_lg_lt (C := 0) (by decide)).mpr h41
                            refine x_R.steps 3 (c' := (10, [(0, .long ((xs 3)).toInt64), (2, .long 0), (4, .long 3)], [.int (lg_cmp ((xs 3)).toInt64 3)], x_h0, 0, 0)) rfl ?_
                            refine x_R.ite (p := (0 : Int32) < (lg_cmp ((xs 3)).toInt64 3)) (c1 := (17, [(0, .long ((xs 3)).toInt64), (2, .long 0), (4, .long 3)], [], x_h0, 0, 0)) (c2 := (13, [(0, .long ((xs 3)).toInt64), (2, .long 0), (4, .long 3)], [], x_h0, 0, 0)) rfl (fun h42 => ?_) (fun h42 => ?_)
                            · have g42 := (x_lg_gt (C := 3) (by decide)).mp h42
                              exfalso; omega
                            · have g42 := mt (x_lg_gt (C := 3) (by decide)).mpr h42
                              refine x_R.steps 2 (c' := (18, [(0, .long ((xs 3)).toInt64), (2, .long 0), (4, .long 3)], [.int 1], x_h0, 0, 0)) rfl ?_
                              refine x_R.ret (v := some (.int 1)) rfl ?_
                              refine x_R.steps 0 (c' := (9, [(0, .int (xs 3))], [.int 1], x_h0, 0, 0)) rfl ?_
                              refine x_R.ret (v := some (.int 1)) rfl ?_
                              refine x_R.steps 0 (c' := (23, [(0, .ref 75), (1, .int (xs 1)), (2, .int (xs 2)), (3, .int (xs 3)), (4, .int (xs 4))], [.int 1], x_h0, 0, 0)) rfl ?_
                              refine x_R.steps 1 (c' := (26, [(0, .ref 75), (1, .int (xs 1)), (2, .int (xs 2)), (3, .int (xs 3)), (4, .int (xs 4))], [], x_h0, 0, 0)) rfl ?_
                              refine x_R.steps 2 (c' := (29, [(0, .ref 75), (1, .int (xs 1)), (2, .int (xs 2)), (3, .int (xs 3)), (4, .int (xs 4))], [.int (xs 4), .ref 75], x_h0, 0, 0)) rfl ?_
                              refine x_R.call (a := 205) (vs := [.ref 75, .int (xs 4)]) (rest := []) (M' := M_cX12_isPlayer) rfl rfl rfl ?_
                              refine x_R.steps 6 (c' := (9, [(0, .ref 75), (1, .int (xs 4))], [.int 6, .ref 76, .long 0, .long ((xs 4)).toInt64], x_h0, 0, 0)) rfl ?_
                              refine x_R.steps 1 (c' := (10, [(0, .ref 75), (1, .int (xs 4))], [.int 0, .long 0, .long ((xs 4)).toInt64], x_h0, 0, 0)) rfl ?_
                              refine x_R.steps 3 (c' := (13, [(0, .ref 75), (1, .int (xs 4))], [.long (-1), .long 0, .long ((xs 4)).toInt64], x_h0, 0, 0)) rfl ?_
                              refine x_R.call (a := 196) (vs := [.long ((xs 4)).toInt64, .long 0, .long (-1)]) (rest := []) (M' := M_cX12_in) rfl rfl rfl ?_
                              refine x_R.steps 3 (c' := (3, [(0, .long ((xs 4)).toInt64), (2, .long 0), (4, .long (-1))], [.int (lg_cmp ((xs 4)).toInt64 0)], x_h0, 0, 0)) rfl ?_
                              refine x_R.ite (p := (lg_cmp ((xs 4)).toInt64 0) < (0 : Int32)) (c1 := (17, [(0, .long ((xs 4)).toInt64), (2, .long 0), (4, .long (-1))], [], x_h0, 0, 0)) (c2 := (6, [(0, .long ((xs 4)).toInt64), (2, .long 0), (4, .long (-1))], [], x_h0, 0, 0)) rfl (fun h43 => ?_) (fun h43 => ?_)
                              · have g43 := (x_lg_lt (C := 0) (by decide)).mp h43
                                exfalso; omega
                              · have g43 := mt (x_lg_lt (C := 0) (by decide)).mpr h43
                                refine x_R.steps 3 (c' := (10, [(0, .long ((xs 4)).toInt64), (2, .long 0), (4, .long (-1))], [.int (lg_cmp ((xs 4)).toInt64 (-1))], x_h0, 0, 0)) rfl ?_
                                refine x_R.ite (p := (0 : Int32) < (lg_cmp ((xs 4)).toInt64 (-1))) (c1 := (17, [(0, .long ((xs 4)).toInt64), (2, .long 0), (4, .long (-1))], [], x_h0, 0, 0)) (c2 := (13, [(0, .long ((xs 4)).toInt64), (2, .long 0), (4, .long (-1))], [], x_h0, 0, 0)) rfl (fun h44 => ?_) (fun h44 => ?_)
                                · have g44 := (x_lg_gt (C := -1) (by decide)).mp h44
                                  refine x_R.steps 1 (c' := (18, [(0, .long ((xs 4)).toInt64), (2, .long 0), (4, .long (-1))], [.int 0], x_h0, 0, 0)) rfl ?_
                                  refine x_R.ret (v := some (.int 0)) rfl ?_
                                  refine x_R.steps 0 (c' := (16, [(0, .ref 75), (1, .int (xs 4))], [.int 0], x_h0, 0, 0)) rfl ?_
                                  refine x_R.ret (v := some (.int 0)) rfl ?_
                                  refine x_R.steps 0 (c' := (32, [(0, .ref 75), (1, .int (xs 1)), (2, .int (xs 2)), (3, .int (xs 3)), (4, .int (xs 4))], [.int 0], x_h0, 0, 0)) rfl ?_
                                  refine x_R.steps 1 (c' := (35, [(0, .ref 75), (1, .int (xs 1)), (2, .int (xs 2)), (3, .int (xs 3)), (4, .int (xs 4))], [], x_h0, 0, 0)) rfl ?_
                                  refine x_R.steps 1 (c' := (37, [(0, .ref 75), (1, .int (xs 1)), (2, .int (xs 2)), (3, .int (xs 3)), (4, .int (xs 4))], [.int (-2)], x_h0, 0, 0)) rfl ?_
                                  refine x_R.ret (v := some (.int (-2))) rfl ?_
                                  refine x_R.steps 0 (c' := (2117, [(3, .int 0), (2, .ref 75), (1, .ref 0), (0, .ref x_scr)], [.int (-2), .int (-2)], x_h0, 98, 10728)) rfl ?_
                                  refine x_R.steps 1 (c' := (2370, [(3, .int 0), (2, .ref 75), (1, .ref 0), (0, .ref x_scr)], [], x_h0, 98, 10728)) rfl ?_
                                  refine x_R.steps 7 (c' := (24, [(3, .int 6), (2, .ref 75), (1, .ref 0), (0, .ref x_scr)], [.int 0, .int 6], x_h0, 98, 10728)) rfl ?_
                                  refine x_R.steps 1 (c' := (2376, [(3, .int 6), (2, .ref 75), (1, .ref 0), (0, .ref x_scr)], [], x_h0, 98, 10728)) rfl ?_
                                  refine x_R.steps 1 (c' := (2377, [(3, .int 6), (2, .ref 75), (1, .ref 0), (0, .ref x_scr)], [.int 1], x_h0, 98, 10728)) rfl ?_
                                  exact x_R.ret (v := some (.int 1)) rfl x_fin
                                · have g44 := mt (x_lg_gt (C := -1) (by decide)).mpr h44
                                  exfalso; omega
                · have g36 := mt (x_i_ge (C := 0) (by decide)).mpr h36
                  exfalso; omega
set_option maxRecDepth 100000 in
set_option maxHeartbeats 4000000 in
theorem x_c64_0 (xs : Nat → Int32)  : x_R x_mt (some (6, (x_ov 1 0 xs))) 13 M_law (2122, [(3, .int 0), (2, .ref 75), (1, .ref 0), (0, .ref x_scr)], [], x_h0, 98, 10728) x_P := by
  refine x_R.steps 5 (c' := (2127, [(3, .int 0), (2, .ref 75), (1, .ref 0), (0, .ref x_scr)], [.int 1, .ref x_scr, .ref 0], x_h0, 98, 10728)) rfl ?_
  refine x_R.steps 1 (c' := (2128, [(3, .int 0), (2, .ref 75), (1, .ref 0), (0, .ref x_scr)], [.int 0, .ref 0], x_h0, 98, 10728)) rfl ?_
  refine x_R.call (a := 119) (vs := [.ref 0, .int 0]) (rest := []) (M' := M_cX11_count) rfl rfl rfl ?_
  refine x_R.steps 1 (c' := (1, [(0, .ref 0), (1, .int 0)], [.int 0], x_h0, 0, 0)) rfl ?_
  refine x_R.steps 1 (c' := (60, [(0, .ref 0), (1, .int 0)], [], x_h0, 0, 0)) rfl ?_
  refine x_R.steps 3 (c' := (67, [(0, .ref 0), (1, .int 0)], [.int 0], x_h0, 0, 0)) rfl ?_
  refine x_R.ret (v := some (.int 0)) rfl ?_
  refine x_R.steps 0 (c' := (2131, [(3, .int 0), (2, .ref 75), (1, .ref 0), (0, .ref x_scr)], [.int 0], x_h0, 98, 10728)) rfl ?_
  refine x_R.steps 5 (c' := (2136, [(3, .int 0), (2, .ref 75), (1, .ref 0), (0, .ref x_scr)], [.int 1, .ref x_scr, .ref 75, .int 0], x_h0, 98, 10728)) rfl ?_
  refine x_R.steps 1 (c' := (2137, [(3, .int 0), (2, .ref 75), (1, .ref 0), (0, .ref x_scr)], [.int 0, .ref 75, .int 0], x_h0, 98, 10728)) rfl ?_
  refine x_R.call (a := 350) (vs := [.ref 75, .int 0]) (rest := [.int 0]) (M' := M_cX12_count) rfl rfl rfl ?_
  refine x_R.steps 3 (c' := (3, [(2, .int 0), (0, .ref 75), (1, .int 0)], [.int 0], x_h0, 0, 0)) rfl ?_
  refine x_R.steps 1 (c' := (60, [(2, .int 0), (0, .ref 75), (1, .int 0)], [], x_h0, 0, 0)) rfl ?_
  refine x_R.steps 3 (c' := (65, [(2, .int 0), (0, .ref 75), (1, .int 0)], [.int 0, .ref 76], x_h0, 0, 0)) rfl ?_
  refine x_R.steps 1 (c' := (66, [(2, .int 0), (0, .ref 75), (1, .int 0)], [.int 0], x_h0, 0, 0)) rfl ?_
  refine x_R.ret (v := some (.int 0)) rfl ?_
  refine x_R.steps 0 (c' := (2140, [(3, .int 0), (2, .ref 75), (1, .ref 0), (0, .ref x_scr)], [.int 0, .int 0], x_h0, 98, 10728)) rfl ?_
  refine x_R.steps 1 (c' := (2370, [(3, .int 0), (2, .ref 75), (1, .ref 0), (0, .ref x_scr)], [], x_h0, 98, 10728)) rfl ?_
  refine x_R.steps 7 (c' := (24, [(3, .int 6), (2, .ref 75), (1, .ref 0), (0, .ref x_scr)], [.int 0, .int 6], x_h0, 98, 10728)) rfl ?_
  refine x_R.steps 1 (c' := (2376, [(3, .int 6), (2, .ref 75), (1, .ref 0), (0, .ref x_scr)], [], x_h0, 98, 10728)) rfl ?_
  refine x_R.steps 1 (c' := (2377, [(3, .int 6), (2, .ref 75), (1, .ref 0), (0, .ref x_scr)], [.int 1], x_h0, 98, 10728)) rfl ?_
  exact x_R.ret (v := some (.int 1)) rfl x_fin
set_option maxRecDepth 100000 in
set_option maxHeartbeats 4000000 in
theorem x_c64_1 (xs : Nat → Int32)  : x_R x_mt (some (6, (x_ov 1 1 xs))) 13 M_law (2122, [(3, .int 0), (2, .ref 75), (1, .ref 0), (0, .ref x_scr)], [], x_h0, 98, 10728) x_P := by
  refine x_R.steps 5 (c' := (2127, [(3, .int 0), (2, .ref 75), (1, .ref 0), (0, .ref x_scr)], [.int 1, .ref x_scr, .ref 0], x_h0, 98, 10728)) rfl ?_
  refine x_R.steps 1 (c' := (2128, [(3, .int 0), (2, .ref 75), (1, .ref 0), (0, .ref x_scr)], [.int 1, .ref 0], x_h0, 98, 10728)) rfl ?_
  refine x_R.call (a := 119) (vs := [.ref 0, .int 1]) (rest := []) (M' := M_cX11_count) rfl rfl rfl ?_
  refine x_R.steps 1 (c' := (1, [(0, .ref 0), (1, .int 1)], [.int 1], x_h0, 0, 0)) rfl ?_
  refine x_R.steps 1 (c' := (68, [(0, .ref 0), (1, .int 1)], [], x_h0, 0, 0)) rfl ?_
  refine x_R.steps 3 (c' := (75, [(0, .ref 0), (1, .int 1)], [.int 0], x_h0, 0, 0)) rfl ?_
  refine x_R.ret (v := some (.int 0)) rfl ?_
  refine x_R.steps 0 (c' := (2131, [(3, .int 0), (2, .ref 75), (1, .ref 0), (0, .ref x_scr)], [.int 0], x_h0, 98, 10728)) rfl ?_
  refine x_R.steps 5 (c' := (2136, [(3, .int 0), (2, .ref 75), (1, .ref 0), (0, .ref x_scr)], [.int 1, .ref x_scr, .ref 75, .int 0], x_h0, 98, 10728)) rfl ?_
  refine x_R.steps 1 (c' := (2137, [(3, .int 0), (2, .ref 75), (1, .ref 0), (0, .ref x_scr)], [.int 1, .ref 75, .int 0], x_h0, 98, 10728)) rfl ?_
  refine x_R.call (a := 350) (vs := [.ref 75, .int 1]) (rest := [.int 0]) (M' := M_cX12_count) rfl rfl rfl ?_
  refine x_R.steps 3 (c' := (3, [(2, .int 0), (0, .ref 75), (1, .int 1)], [.int 1], x_h0, 0, 0)) rfl ?_
  refine x_R.steps 1 (c' := (67, [(2, .int 0), (0, .ref 75), (1, .int 1)], [], x_h0, 0, 0)) rfl ?_
  refine x_R.steps 3 (c' := (72, [(2, .int 0), (0, .ref 75), (1, .int 1)], [.int 1, .ref 76], x_h0, 0, 0)) rfl ?_
  refine x_R.steps 1 (c' := (73, [(2, .int 0), (0, .ref 75), (1, .int 1)], [.int 0], x_h0, 0, 0)) rfl ?_
  refine x_R.ret (v := some (.int 0)) rfl ?_
  refine x_R.steps 0 (c' := (2140, [(3, .int 0), (2, .ref 75), (1, .ref 0), (0, .ref x_scr)], [.int 0, .int 0], x_h0, 98, 10728)) rfl ?_
  refine x_R.steps 1 (c' := (2370, [(3, .int 0), (2, .ref 75), (1, .ref 0), (0, .ref x_scr)], [], x_h0, 98, 10728)) rfl ?_
  refine x_R.steps 7 (c' := (24, [(3, .int 6), (2, .ref 75), (1, .ref 0), (0, .ref x_scr)], [.int 0, .int 6], x_h0, 98, 10728)) rfl ?_
  refine x_R.steps 1 (c' := (2376, [(3, .int 6), (2, .ref 75), (1, .ref 0), (0, .ref x_scr)], [], x_h0, 98, 10728)) rfl ?_
  refine x_R.steps 1 (c' := (2377, [(3, .int 6), (2, .ref 75), (1, .ref 0), (0, .ref x_scr)], [.int 1], x_h0, 98, 10728)) rfl ?_
  exact x_R.ret (v := some (.int 1)) rfl x_fin
set_option maxRecDepth 100000 in
set_option maxHeartbeats 4000000 in
theorem x_c64_2 (xs : Nat → Int32)  : x_R x_mt (some (6, (x_ov 1 2 xs))) 13 M_law (2122, [(3, .int 0), (2, .ref 75), (1, .ref 0), (0, .ref x_scr)], [], x_h0, 98, 10728) x_P := by
  refine x_R.steps 5 (c' := (2127, [(3, .int 0), (2, .ref 75), (1, .ref 0), (0, .ref x_scr)], [.int 1, .ref x_scr, .ref 0], x_h0, 98, 10728)) rfl ?_
  refine x_R.steps 1 (c' := (2128, [(3, .int 0), (2, .ref 75), (1, .ref 0), (0, .ref x_scr)], [.int 2, .ref 0], x_h0, 98, 10728)) rfl ?_
  refine x_R.call (a := 119) (vs := [.ref 0, .int 2]) (rest := []) (M' := M_cX11_count) rfl rfl rfl ?_
  refine x_R.steps 1 (c' := (1, [(0, .ref 0), (1, .int 2)], [.int 2], x_h0, 0, 0)) rfl ?_
  refine x_R.steps 1 (c' := (76, [(0, .ref 0), (1, .int 2)], [], x_h0, 0, 0)) rfl ?_
  refine x_R.steps 3 (c' := (83, [(0, .ref 0), (1, .int 2)], [.int 0], x_h0, 0, 0)) rfl ?_
  refine x_R.ret (v := some (.int 0)) rfl ?_
  refine x_R.steps 0 (c' := (2131, [(3, .int 0), (2, .ref 75), (1, .ref 0), (0, .ref x_scr)], [.int 0], x_h0, 98, 10728)) rfl ?_
  refine x_R.steps 5 (c' := (2136, [(3, .int 0), (2, .ref 75), (1, .ref 0), (0, .ref x_scr)], [.int 1, .ref x_scr, .ref 75, .int 0], x_h0, 98, 10728)) rfl ?_
  refine x_R.steps 1 (c' := (2137, [(3, .int 0), (2, .ref 75), (1, .ref 0), (0, .ref x_scr)], [.int 2, .ref 75, .int 0], x_h0, 98, 10728)) rfl ?_
  refine x_R.call (a := 350) (vs := [.ref 75, .int 2]) (rest := [.int 0]) (M' := M_cX12_count) rfl rfl rfl ?_
  refine x_R.steps 3 (c' := (3, [(2, .int 0), (0, .ref 75), (1, .int 2)], [.int 2], x_h0, 0, 0)) rfl ?_
  refine x_R.steps 1 (c' := (74, [(2, .int 0), (0, .ref 75), (1, .int 2)], [], x_h0, 0, 0)) rfl ?_
  refine x_R.steps 3 (c' := (79, [(2, .int 0), (0, .ref 75), (1, .int 2)], [.int 2, .ref 76], x_h0, 0, 0)) rfl ?_
  refine x_R.steps 1 (c' := (80, [(2, .int 0), (0, .ref 75), (1, .int 2)], [.int 0], x_h0, 0, 0)) rfl ?_
  refine x_R.ret (v := some (.int 0)) rfl ?_
  refine x_R.steps 0 (c' := (2140, [(3, .int 0), (2, .ref 75), (1, .ref 0), (0, .ref x_scr)], [.int 0, .int 0], x_h0, 98, 10728)) rfl ?_
  refine x_R.steps 1 (c' := (2370, [(3, .int 0), (2, .ref 75), (1, .ref 0), (0, .ref x_scr)], [], x_h0, 98, 10728)) rfl ?_
  refine x_R.steps 7 (c' := (24, [(3, .int 6), (2, .ref 75), (1, .ref 0), (0, .ref x_scr)], [.int 0, .int 6], x_h0, 98, 10728)) rfl ?_
  refine x_R.steps 1 (c' := (2376, [(3, .int 6), (2, .ref 75), (1, .ref 0), (0, .ref x_scr)], [], x_h0, 98, 10728)) rfl ?_
  refine x_R.steps 1 (c' := (2377, [(3, .int 6), (2, .ref 75), (1, .ref 0), (0, .ref x_scr)], [.int 1], x_h0, 98, 10728)) rfl ?_
  exact x_R.ret (v := some (.int 1)) rfl x_fin
set_option maxRecDepth 100000 in
set_option maxHeartbeats 4000000 in
theorem x_c64_3 (xs : Nat → Int32)  : x_R x_mt (some (6, (x_ov 1 3 xs))) 13 M_law (2122, [(3, .int 0), (2, .ref 75), (1, .ref 0), (0, .ref x_scr)], [], x_h0, 98, 10728) x_P := by
  refine x_R.steps 5 (c' := (2127, [(3, .int 0), (2, .ref 75), (1, .ref 0), (0, .ref x_scr)], [.int 1, .ref x_scr, .ref 0], x_h0, 98, 10728)) rfl ?_
  refine x_R.steps 1 (c' := (2128, [(3, .int 0), (2, .ref 75), (1, .ref 0), (0, .ref x_scr)], [.int 3, .ref 0], x_h0, 98, 10728)) rfl ?_
  refine x_R.call (a := 119) (vs := [.ref 0, .int 3]) (rest := []) (M' := M_cX11_count) rfl rfl rfl ?_
  refine x_R.steps 1 (c' := (1, [(0, .ref 0), (1, .int 3)], [.int 3], x_h0, 0, 0)) rfl ?_
  refine x_R.steps 1 (c' := (84, [(0, .ref 0), (1, .int 3)], [], x_h0, 0, 0)) rfl ?_
  refine x_R.steps 3 (c' := (91, [(0, .ref 0), (1, .int 3)], [.int 0], x_h0, 0, 0)) rfl ?_
  refine x_R.ret (v := some (.int 0)) rfl ?_
  refine x_R.steps 0 (c' := (2131, [(3, .int 0), (2, .ref 75), (1, .ref 0), (0, .ref x_scr)], [.int 0], x_h0, 98, 10728)) rfl ?_
  refine x_R.steps 5 (c' := (2136, [(3, .int 0), (2, .ref 75), (1, .ref 0), (0, .ref x_scr)], [.int 1, .ref x_scr, .ref 75, .int 0], x_h0, 98, 10728)) rfl ?_
  refine x_R.steps 1 (c' := (2137, [(3, .int 0), (2, .ref 75), (1, .ref 0), (0, .ref x_scr)], [.int 3, .ref 75, .int 0], x_h0, 98, 10728)) rfl ?_
  refine x_R.call (a := 350) (vs := [.ref 75, .int 3]) (rest := [.int 0]) (M' := M_cX12_count) rfl rfl rfl ?_
  refine x_R.steps 3 (c' := (3, [(2, .int 0), (0, .ref 75), (1, .int 3)], [.int 3], x_h0, 0, 0)) rfl ?_
  refine x_R.steps 1 (c' := (81, [(2, .int 0), (0, .ref 75), (1, .int 3)], [], x_h0, 0, 0)) rfl ?_
  refine x_R.steps 3 (c' := (86, [(2, .int 0), (0, .ref 75), (1, .int 3)], [.int 3, .ref 76], x_h0, 0, 0)) rfl ?_
  refine x_R.steps 1 (c' := (87, [(2, .int 0), (0, .ref 75), (1, .int 3)], [.int 0], x_h0, 0, 0)) rfl ?_
  refine x_R.ret (v := some (.int 0)) rfl ?_
  refine x_R.steps 0 (c' := (2140, [(3, .int 0), (2, .ref 75), (1, .ref 0), (0, .ref x_scr)], [.int 0, .int 0], x_h0, 98, 10728)) rfl ?_
  refine x_R.steps 1 (c' := (2370, [(3, .int 0), (2, .ref 75), (1, .ref 0), (0, .ref x_scr)], [], x_h0, 98, 10728)) rfl ?_
  refine x_R.steps 7 (c' := (24, [(3, .int 6), (2, .ref 75), (1, .ref 0), (0, .ref x_scr)], [.int 0, .int 6], x_h0, 98, 10728)) rfl ?_
  refine x_R.steps 1 (c' := (2376, [(3, .int 6), (2, .ref 75), (1, .ref 0), (0, .ref x_scr)], [], x_h0, 98, 10728)) rfl ?_
  refine x_R.steps 1 (c' := (2377, [(3, .int 6), (2, .ref 75), (1, .ref 0), (0, .ref x_scr)], [.int 1], x_h0, 98, 10728)) rfl ?_
  exact x_R.ret (v := some (.int 1)) rfl x_fin
set_option maxRecDepth 100000 in
set_option maxHeartbeats 4000000 in
theorem x_c64_4 (xs : Nat → Int32)  : x_R x_mt (some (6, (x_ov 1 4 xs))) 13 M_law (2122, [(3, .int 0), (2, .ref 75), (1, .ref 0), (0, .ref x_scr)], [], x_h0, 98, 10728) x_P := by
  refine x_R.steps 5 (c' := (2127, [(3, .int 0), (2, .ref 75), (1, .ref 0), (0, .ref x_scr)], [.int 1, .ref x_scr, .ref 0], x_h0, 98, 10728)) rfl ?_
  refine x_R.steps 1 (c' := (2128, [(3, .int 0), (2, .ref 75), (1, .ref 0), (0, .ref x_scr)], [.int 4, .ref 0], x_h0, 98, 10728)) rfl ?_
  refine x_R.call (a := 119) (vs := [.ref 0, .int 4]) (rest := []) (M' := M_cX11_count) rfl rfl rfl ?_
  refine x_R.steps 1 (c' := (1, [(0, .ref 0), (1, .int 4)], [.int 4], x_h0, 0, 0)) rfl ?_
  refine x_R.steps 1 (c' := (92, [(0, .ref 0), (1, .int 4)], [], x_h0, 0, 0)) rfl ?_
  refine x_R.steps 4 (c' := (102, [(0, .ref 0), (1, .int 4)], [.int 0], x_h0, 0, 0)) rfl ?_
  refine x_R.ret (v := some (.int 0)) rfl ?_
  refine x_R.steps 0 (c' := (2131, [(3, .int 0), (2, .ref 75), (1, .ref 0), (0, .ref x_scr)], [.int 0], x_h0, 98, 10728)) rfl ?_
  refine x_R.steps 5 (c' := (2136, [(3, .int 0), (2, .ref 75), (1, .ref 0), (0, .ref x_scr)], [.int 1, .ref x_scr, .ref 75, .int 0], x_h0, 98, 10728)) rfl ?_
  refine x_R.steps 1 (c' := (2137, [(3, .int 0), (2, .ref 75), (1, .ref 0), (0, .ref x_scr)], [.int 4, .ref 75, .int 0], x_h0, 98, 10728)) rfl ?_
  refine x_R.call (a := 350) (vs := [.ref 75, .int 4]) (rest := [.int 0]) (M' := M_cX12_count) rfl rfl rfl ?_
  refine x_R.steps 3 (c' := (3, [(2, .int 0), (0, .ref 75), (1, .int 4)], [.int 4], x_h0, 0, 0)) rfl ?_
  refine x_R.steps 1 (c' := (88, [(2, .int 0), (0, .ref 75), (1, .int 4)], [], x_h0, 0, 0)) rfl ?_
  refine x_R.steps 3 (c' := (93, [(2, .int 0), (0, .ref 75), (1, .int 4)], [.int 5, .ref 76], x_h0, 0, 0)) rfl ?_
  refine x_R.steps 1 (c' := (94, [(2, .int 0), (0, .ref 75), (1, .int 4)], [.int 0], x_h0, 0, 0)) rfl ?_
  refine x_R.ret (v := some (.int 0)) rfl ?_
  refine x_R.steps 0 (c' := (2140, [(3, .int 0), (2, .ref 75), (1, .ref 0), (0, .ref x_scr)], [.int 0, .int 0], x_h0, 98, 10728)) rfl ?_
  refine x_R.steps 1 (c' := (2370, [(3, .int 0), (2, .ref 75), (1, .ref 0), (0, .ref x_scr)], [], x_h0, 98, 10728)) rfl ?_
  refine x_R.steps 7 (c' := (24, [(3, .int 6), (2, .ref 75), (1, .ref 0), (0, .ref x_scr)], [.int 0, .int 6], x_h0, 98, 10728)) rfl ?_
  refine x_R.steps 1 (c' := (2376, [(3, .int 6), (2, .ref 75), (1, .ref 0), (0, .ref x_scr)], [], x_h0, 98, 10728)) rfl ?_
  refine x_R.steps 1 (c' := (2377, [(3, .int 6), (2, .ref 75), (1, .ref 0), (0, .ref x_scr)], [.int 1], x_h0, 98, 10728)) rfl ?_
  exact x_R.ret (v := some (.int 1)) rfl x_fin
set_option maxRecDepth 100000 in
set_option maxHeartbeats 4000000 in
theorem x_c64_5 (xs : Nat → Int32)  : x_R x_mt (some (6, (x_ov 1 5 xs))) 13 M_law (2122, [(3, .int 0), (2, .ref 75), (1, .ref 0), (0, .ref x_scr)], [], x_h0, 98, 10728) x_P := by
  refine x_R.steps 5 (c' := (2127, [(3, .int 0), (2, .ref 75), (1, .ref 0), (0, .ref x_scr)], [.int 1, .ref x_scr, .ref 0], x_h0, 98, 10728)) rfl ?_
  refine x_R.steps 1 (c' := (2128, [(3, .int 0), (2, .ref 75), (1, .ref 0), (0, .ref x_scr)], [.int 5, .ref 0], x_h0, 98, 10728)) rfl ?_
  refine x_R.call (a := 119) (vs := [.ref 0, .int 5]) (rest := []) (M' := M_cX11_count) rfl rfl rfl ?_
  refine x_R.steps 1 (c' := (1, [(0, .ref 0), (1, .int 5)], [.int 5], x_h0, 0, 0)) rfl ?_
  refine x_R.steps 1 (c' := (103, [(0, .ref 0), (1, .int 5)], [], x_h0, 0, 0)) rfl ?_
  refine x_R.steps 3 (c' := (110, [(0, .ref 0), (1, .int 5)], [.int 0], x_h0, 0, 0)) rfl ?_
  refine x_R.ret (v := some (.int 0)) rfl ?_
  refine x_R.steps 0 (c' := (2131, [(3, .int 0), (2, .ref 75), (1, .ref 0), (0, .ref x_scr)], [.int 0], x_h0, 98, 10728)) rfl ?_
  refine x_R.steps 5 (c' := (2136, [(3, .int 0), (2, .ref 75), (1, .ref 0), (0, .ref x_scr)], [.int 1, .ref x_scr, .ref 75, .int 0], x_h0, 98, 10728)) rfl ?_
  refine x_R.steps 1 (c' := (2137, [(3, .int 0), (2, .ref 75), (1, .ref 0), (0, .ref x_scr)], [.int 5, .ref 75, .int 0], x_h0, 98, 10728)) rfl ?_
  refine x_R.call (a := 350) (vs := [.ref 75, .int 5]) (rest := [.int 0]) (M' := M_cX12_count) rfl rfl rfl ?_
  refine x_R.steps 3 (c' := (3, [(2, .int 0), (0, .ref 75), (1, .int 5)], [.int 5], x_h0, 0, 0)) rfl ?_
  refine x_R.steps 1 (c' := (95, [(2, .int 0), (0, .ref 75), (1, .int 5)], [], x_h0, 0, 0)) rfl ?_
  refine x_R.steps 3 (c' := (101, [(2, .int 0), (0, .ref 75), (1, .int 5)], [.int 6, .ref 76], x_h0, 0, 0)) rfl ?_
  refine x_R.steps 1 (c' := (102, [(2, .int 0), (0, .ref 75), (1, .int 5)], [.int 0], x_h0, 0, 0)) rfl ?_
  refine x_R.ret (v := some (.int 0)) rfl ?_
  refine x_R.steps 0 (c' := (2140, [(3, .int 0), (2, .ref 75), (1, .ref 0), (0, .ref x_scr)], [.int 0, .int 0], x_h0, 98, 10728)) rfl ?_
  refine x_R.steps 1 (c' := (2370, [(3, .int 0), (2, .ref 75), (1, .ref 0), (0, .ref x_scr)], [], x_h0, 98, 10728)) rfl ?_
  refine x_R.steps 7 (c' := (24, [(3, .int 6), (2, .ref 75), (1, .ref 0), (0, .ref x_scr)], [.int 0, .int 6], x_h0, 98, 10728)) rfl ?_
  refine x_R.steps 1 (c' := (2376, [(3, .int 6), (2, .ref 75), (1, .ref 0), (0, .ref x_scr)], [], x_h0, 98, 10728)) rfl ?_
  refine x_R.steps 1 (c' := (2377, [(3, .int 6), (2, .ref 75), (1, .ref 0), (0, .ref x_scr)], [.int 1], x_h0, 98, 10728)) rfl ?_
  exact x_R.ret (v := some (.int 1)) rfl x_fin
set_option maxRecDepth 100000 in
set_option maxHeartbeats 4000000 in
theorem x_c64_6 (xs : Nat → Int32)  : x_R x_mt (some (6, (x_ov 1 6 xs))) 13 M_law (2122, [(3, .int 0), (2, .ref 75), (1, .ref 0), (0, .ref x_scr)], [], x_h0, 98, 10728) x_P := by
  refine x_R.steps 5 (c' := (2127, [(3, .int 0), (2, .ref 75), (1, .ref 0), (0, .ref x_scr)], [.int 1, .ref x_scr, .ref 0], x_h0, 98, 10728)) rfl ?_
  refine x_R.steps 1 (c' := (2128, [(3, .int 0), (2, .ref 75), (1, .ref 0), (0, .ref x_scr)], [.int 6, .ref 0], x_h0, 98, 10728)) rfl ?_
  refine x_R.call (a := 119) (vs := [.ref 0, .int 6]) (rest := []) (M' := M_cX11_count) rfl rfl rfl ?_
  refine x_R.steps 1 (c' := (1, [(0, .ref 0), (1, .int 6)], [.int 6], x_h0, 0, 0)) rfl ?_
  refine x_R.steps 1 (c' := (111, [(0, .ref 0), (1, .int 6)], [], x_h0, 0, 0)) rfl ?_
  refine x_R.steps 3 (c' := (118, [(0, .ref 0), (1, .int 6)], [.int 0], x_h0, 0, 0)) rfl ?_
  refine x_R.ret (v := some (.int 0)) rfl ?_
  refine x_R.steps 0 (c' := (2131, [(3, .int 0), (2, .ref 75), (1, .ref 0), (0, .ref x_scr)], [.int 0], x_h0, 98, 10728)) rfl ?_
  refine x_R.steps 5 (c' := (2136, [(3, .int 0), (2, .ref 75), (1, .ref 0), (0, .ref x_scr)], [.int 1, .ref x_scr, .ref 75, .int 0], x_h0, 98, 10728)) rfl ?_
  refine x_R.steps 1 (c' := (2137, [(3, .int 0), (2, .ref 75), (1, .ref 0), (0, .ref x_scr)], [.int 6, .ref 75, .int 0], x_h0, 98, 10728)) rfl ?_
  refine x_R.call (a := 350) (vs := [.ref 75, .int 6]) (rest := [.int 0]) (M' := M_cX12_count) rfl rfl rfl ?_
  refine x_R.steps 3 (c' := (3, [(2, .int 0), (0, .ref 75), (1, .int 6)], [.int 6], x_h0, 0, 0)) rfl ?_
  refine x_R.steps 1 (c' := (103, [(2, .int 0), (0, .ref 75), (1, .int 6)], [], x_h0, 0, 0)) rfl ?_
  refine x_R.steps 3 (c' := (109, [(2, .int 0), (0, .ref 75), (1, .int 6)], [.int 7, .ref 76], x_h0, 0, 0)) rfl ?_
  refine x_R.steps 1 (c' := (110, [(2, .int 0), (0, .ref 75), (1, .int 6)], [.int 0], x_h0, 0, 0)) rfl ?_
  refine x_R.ret (v := some (.int 0)) rfl ?_
  refine x_R.steps 0 (c' := (2140, [(3, .int 0), (2, .ref 75), (1, .ref 0), (0, .ref x_scr)], [.int 0, .int 0], x_h0, 98, 10728)) rfl ?_
  refine x_R.steps 1 (c' := (2370, [(3, .int 0), (2, .ref 75), (1, .ref 0), (0, .ref x_scr)], [], x_h0, 98, 10728)) rfl ?_
  refine x_R.steps 7 (c' := (24, [(3, .int 6), (2, .ref 75), (1, .ref 0), (0, .ref x_scr)], [.int 0, .int 6], x_h0, 98, 10728)) rfl ?_
  refine x_R.steps 1 (c' := (2376, [(3, .int 6), (2, .ref 75), (1, .ref 0), (0, .ref x_scr)], [], x_h0, 98, 10728)) rfl ?_
  refine x_R.steps 1 (c' := (2377, [(3, .int 6), (2, .ref 75), (1, .ref 0), (0, .ref x_scr)], [.int 1], x_h0, 98, 10728)) rfl ?_
  exact x_R.ret (v := some (.int 1)) rfl x_fin
set_option maxRecDepth 100000 in
set_option maxHeartbeats 4000000 in
theorem x_c64_7 (xs : Nat → Int32)  : x_R x_mt (some (6, (x_ov 1 7 xs))) 13 M_law (2122, [(3, .int 0), (2, .ref 75), (1, .ref 0), (0, .ref x_scr)], [], x_h0, 98, 10728) x_P := by
  refine x_R.steps 5 (c' := (2127, [(3, .int 0), (2, .ref 75), (1, .ref 0), (0, .ref x_scr)], [.int 1, .ref x_scr, .ref 0], x_h0, 98, 10728)) rfl ?_
  refine x_R.steps 1 (c' := (2128, [(3, .int 0), (2, .ref 75), (1, .ref 0), (0, .ref x_scr)], [.int 7, .ref 0], x_h0, 98, 10728)) rfl ?_
  refine x_R.call (a := 119) (vs := [.ref 0, .int 7]) (rest := []) (M' := M_cX11_count) rfl rfl rfl ?_
  refine x_R.steps 1 (c' := (1, [(0, .ref 0), (1, .int 7)], [.int 7], x_h0, 0, 0)) rfl ?_
  refine x_R.steps 1 (c' := (119, [(0, .ref 0), (1, .int 7)], [], x_h0, 0, 0)) rfl ?_
  refine x_R.steps 4 (c' := (129, [(0, .ref 0), (1, .int 7)], [.int 0], x_h0, 0, 0)) rfl ?_
  refine x_R.ret (v := some (.int 0)) rfl ?_
  refine x_R.steps 0 (c' := (2131, [(3, .int 0), (2, .ref 75), (1, .ref 0), (0, .ref x_scr)], [.int 0], x_h0, 98, 10728)) rfl ?_
  refine x_R.steps 5 (c' := (2136, [(3, .int 0), (2, .ref 75), (1, .ref 0), (0, .ref x_scr)], [.int 1, .ref x_scr, .ref 75, .int 0], x_h0, 98, 10728)) rfl ?_
  refine x_R.steps 1 (c' := (2137, [(3, .int 0), (2, .ref 75), (1, .ref 0), (0, .ref x_scr)], [.int 7, .ref 75, .int 0], x_h0, 98, 10728)) rfl ?_
  refine x_R.call (a := 350) (vs := [.ref 75, .int 7]) (rest := [.int 0]) (M' := M_cX12_count) rfl rfl rfl ?_
  refine x_R.steps 3 (c' := (3, [(2, .int 0), (0, .ref 75), (1, .int 7)], [.int 7], x_h0, 0, 0)) rfl ?_
  refine x_R.steps 1 (c' := (111, [(2, .int 0), (0, .ref 75), (1, .int 7)], [], x_h0, 0, 0)) rfl ?_
  refine x_R.steps 3 (c' := (117, [(2, .int 0), (0, .ref 75), (1, .int 7)], [.int 8, .ref 76], x_h0, 0, 0)) rfl ?_
  refine x_R.steps 1 (c' := (118, [(2, .int 0), (0, .ref 75), (1, .int 7)], [.int 0], x_h0, 0, 0)) rfl ?_
  refine x_R.ret (v := some (.int 0)) rfl ?_
  refine x_R.steps 0 (c' := (2140, [(3, .int 0), (2, .ref 75), (1, .ref 0), (0, .ref x_scr)], [.int 0, .int 0], x_h0, 98, 10728)) rfl ?_
  refine x_R.steps 1 (c' := (2370, [(3, .int 0), (2, .ref 75), (1, .ref 0), (0, .ref x_scr)], [], x_h0, 98, 10728)) rfl ?_
  refine x_R.steps 7 (c' := (24, [(3, .int 6), (2, .ref 75), (1, .ref 0), (0, .ref x_scr)], [.int 0, .int 6], x_h0, 98, 10728)) rfl ?_
  refine x_R.steps 1 (c' := (2376, [(3, .int 6), (2, .ref 75), (1, .ref 0), (0, .ref x_scr)], [], x_h0, 98, 10728)) rfl ?_
  refine x_R.steps 1 (c' := (2377, [(3, .int 6), (2, .ref 75), (1, .ref 0), (0, .ref x_scr)], [.int 1], x_h0, 98, 10728)) rfl ?_
  exact x_R.ret (v := some (.int 1)) rfl x_fin
set_option maxRecDepth 100000 in
set_option maxHeartbeats 4000000 in
theorem x_c64_8 (xs : Nat → Int32)  : x_R x_mt (some (6, (x_ov 1 8 xs))) 13 M_law (2122, [(3, .int 0), (2, .ref 75), (1, .ref 0), (0, .ref x_scr)], [], x_h0, 98, 10728) x_P := by
  refine x_R.steps 5 (c' := (2127, [(3, .int 0), (2, .ref 75), (1, .ref 0), (0, .ref x_scr)], [.int 1, .ref x_scr, .ref 0], x_h0, 98, 10728)) rfl ?_
  refine x_R.steps 1 (c' := (2128, [(3, .int 0), (2, .ref 75), (1, .ref 0), (0, .ref x_scr)], [.int 8, .ref 0], x_h0, 98, 10728)) rfl ?_
  refine x_R.call (a := 119) (vs := [.ref 0, .int 8]) (rest := []) (M' := M_cX11_count) rfl rfl rfl ?_
  refine x_R.steps 1 (c' := (1, [(0, .ref 0), (1, .int 8)], [.int 8], x_h0, 0, 0)) rfl ?_
  refine x_R.steps 1 (c' := (130, [(0, .ref 0), (1, .int 8)], [], x_h0, 0, 0)) rfl ?_
  refine x_R.steps 3 (c' := (137, [(0, .ref 0), (1, .int 8)], [.int 0], x_h0, 0, 0)) rfl ?_
  refine x_R.ret (v := some (.int 0)) rfl ?_
  refine x_R.steps 0 (c' := (2131, [(3, .int 0), (2, .ref 75), (1, .ref 0), (0, .ref x_scr)], [.int 0], x_h0, 98, 10728)) rfl ?_
  refine x_R.steps 5 (c' := (2136, [(3, .int 0), (2, .ref 75), (1, .ref 0), (0, .ref x_scr)], [.int 1, .ref x_scr, .ref 75, .int 0], x_h0, 98, 10728)) rfl ?_
  refine x_R.steps 1 (c' := (2137, [(3, .int 0), (2, .ref 75), (1, .ref 0), (0, .ref x_scr)], [.int 8, .ref 75, .int 0], x_h0, 98, 10728)) rfl ?_
  refine x_R.call (a := 350) (vs := [.ref 75, .int 8]) (rest := [.int 0]) (M' := M_cX12_count) rfl rfl rfl ?_
  refine x_R.steps 3 (c' := (3, [(2, .int 0), (0, .ref 75), (1, .int 8)], [.int 8], x_h0, 0, 0)) rfl ?_
  refine x_R.steps 1 (c' := (119, [(2, .int 0), (0, .ref 75), (1, .int 8)], [], x_h0, 0, 0)) rfl ?_
  refine x_R.steps 3 (c' := (125, [(2, .int 0), (0, .ref 75), (1, .int 8)], [.int 9, .ref 76], x_h0, 0, 0)) rfl ?_
  refine x_R.steps 1 (c' := (126, [(2, .int 0), (0, .ref 75), (1, .int 8)], [.int 0], x_h0, 0, 0)) rfl ?_
  refine x_R.ret (v := some (.int 0)) rfl ?_
  refine x_R.steps 0 (c' := (2140, [(3, .int 0), (2, .ref 75), (1, .ref 0), (0, .ref x_scr)], [.int 0, .int 0], x_h0, 98, 10728)) rfl ?_
  refine x_R.steps 1 (c' := (2370, [(3, .int 0), (2, .ref 75), (1, .ref 0), (0, .ref x_scr)], [], x_h0, 98, 10728)) rfl ?_
  refine x_R.steps 7 (c' := (24, [(3, .int 6), (2, .ref 75), (1, .ref 0), (0, .ref x_scr)], [.int 0, .int 6], x_h0, 98, 10728)) rfl ?_
  refine x_R.steps 1 (c' := (2376, [(3, .int 6), (2, .ref 75), (1, .ref 0), (0, .ref x_scr)], [], x_h0, 98, 10728)) rfl ?_
  refine x_R.steps 1 (c' := (2377, [(3, .int 6), (2, .ref 75), (1, .ref 0), (0, .ref x_scr)], [.int 1], x_h0, 98, 10728)) rfl ?_
  exact x_R.ret (v := some (.int 1)) rfl x_fin
set_option maxRecDepth 100000 in
set_option maxHeartbeats 4000000 in
theorem x_c64_9 (xs : Nat → Int32)  : x_R x_mt (some (6, (x_ov 1 9 xs))) 13 M_law (2122, [(3, .int 0), (2, .ref 75), (1, .ref 0), (0, .ref x_scr)], [], x_h0, 98, 10728) x_P := by
  refine x_R.steps 5 (c' := (2127, [(3, .int 0), (2, .ref 75), (1, .ref 0), (0, .ref x_scr)], [.int 1, .ref x_scr, .ref 0], x_h0, 98, 10728)) rfl ?_
  refine x_R.steps 1 (c' := (2128, [(3, .int 0), (2, .ref 75), (1, .ref 0), (0, .ref x_scr)], [.int 9, .ref 0], x_h0, 98, 10728)) rfl ?_
  refine x_R.call (a := 119) (vs := [.ref 0, .int 9]) (rest := []) (M' := M_cX11_count) rfl rfl rfl ?_
  refine x_R.steps 1 (c' := (1, [(0, .ref 0), (1, .int 9)], [.int 9], x_h0, 0, 0)) rfl ?_
  refine x_R.steps 1 (c' := (138, [(0, .ref 0), (1, .int 9)], [], x_h0, 0, 0)) rfl ?_
  refine x_R.steps 4 (c' := (148, [(0, .ref 0), (1, .int 9)], [.int 0], x_h0, 0, 0)) rfl ?_
  refine x_R.ret (v := some (.int 0)) rfl ?_
  refine x_R.steps 0 (c' := (2131, [(3, .int 0), (2, .ref 75), (1, .ref 0), (0, .ref x_scr)], [.int 0], x_h0, 98, 10728)) rfl ?_
  refine x_R.steps 5 (c' := (2136, [(3, .int 0), (2, .ref 75), (1, .ref 0), (0, .ref x_scr)], [.int 1, .ref x_scr, .ref 75, .int 0], x_h0, 98, 10728)) rfl ?_
  refine x_R.steps 1 (c' := (2137, [(3, .int 0), (2, .ref 75), (1, .ref 0), (0, .ref x_scr)], [.int 9, .ref 75, .int 0], x_h0, 98, 10728)) rfl ?_
  refine x_R.call (a := 350) (vs := [.ref 75, .int 9]) (rest := [.int 0]) (M' := M_cX12_count) rfl rfl rfl ?_
  refine x_R.steps 3 (c' := (3, [(2, .int 0), (0, .ref 75), (1, .int 9)], [.int 9], x_h0, 0, 0)) rfl ?_
  refine x_R.steps 1 (c' := (127, [(2, .int 0), (0, .ref 75), (1, .int 9)], [], x_h0, 0, 0)) rfl ?_
  refine x_R.steps 2 (c' := (131, [(2, .int 0), (0, .ref 75), (1, .int 9)], [.int 0], x_h0, 0, 0)) rfl ?_
  refine x_R.ret (v := some (.int 0)) rfl ?_
  refine x_R.steps 0 (c' := (2140, [(3, .int 0), (2, .ref 75), (1, .ref 0), (0, .ref x_scr)], [.int 0, .int 0], x_h0, 98, 10728)) rfl ?_
  refine x_R.steps 1 (c' := (2370, [(3, .int 0), (2, .ref 75), (1, .ref 0), (0, .ref x_scr)], [], x_h0, 98, 10728)) rfl ?_
  refine x_R.steps 7 (c' := (24, [(3, .int 6), (2, .ref 75), (1, .ref 0), (0, .ref x_scr)], [.int 0, .int 6], x_h0, 98, 10728)) rfl ?_
  refine x_R.steps 1 (c' := (2376, [(3, .int 6), (2, .ref 75), (1, .ref 0), (0, .ref x_scr)], [], x_h0, 98, 10728)) rfl ?_
  refine x_R.steps 1 (c' := (2377, [(3, .int 6), (2, .ref 75), (1, .ref 0), (0, .ref x_scr)], [.int 1], x_h0, 98, 10728)) rfl ?_
  exact x_R.ret (v := some (.int 1)) rfl x_fin
set_option maxRecDepth 100000 in
set_option maxHeartbeats 4000000 in
theorem x_c64_10 (xs : Nat → Int32)  : x_R x_mt (some (6, (x_ov 1 10 xs))) 13 M_law (2122, [(3, .int 0), (2, .ref 75), (1, .ref 0), (0, .ref x_scr)], [], x_h0, 98, 10728) x_P := by
  refine x_R.steps 5 (c' := (2127, [(3, .int 0), (2, .ref 75), (1, .ref 0), (0, .ref x_scr)], [.int 1, .ref x_scr, .ref 0], x_h0, 98, 10728)) rfl ?_
  refine x_R.steps 1 (c' := (2128, [(3, .int 0), (2, .ref 75), (1, .ref 0), (0, .ref x_scr)], [.int 10, .ref 0], x_h0, 98, 10728)) rfl ?_
  refine x_R.call (a := 119) (vs := [.ref 0, .int 10]) (rest := []) (M' := M_cX11_count) rfl rfl rfl ?_
  refine x_R.steps 1 (c' := (1, [(0, .ref 0), (1, .int 10)], [.int 10], x_h0, 0, 0)) rfl ?_
  refine x_R.steps 1 (c' := (149, [(0, .ref 0), (1, .int 10)], [], x_h0, 0, 0)) rfl ?_
  refine x_R.steps 1 (c' := (150, [(0, .ref 0), (1, .int 10)], [.ref 0], x_h0, 0, 0)) rfl ?_
  refine x_R.call (a := 185) (vs := [.ref 0]) (rest := []) (M' := M_cX11_rowsKept) rfl rfl rfl ?_
  refine x_R.steps 6 (c' := (6, [(2, .int 0), (1, .int 0), (0, .ref 0)], [.int 4, .int 0], x_h0, 0, 0)) rfl ?_
  refine x_R.steps 1 (c' := (9, [(2, .int 0), (1, .int 0), (0, .ref 0)], [], x_h0, 0, 0)) rfl ?_
  refine x_R.steps 3 (c' := (14, [(2, .int 0), (1, .int 0), (0, .ref 0)], [.int 0, .ref 42], x_h0, 0, 0)) rfl ?_
  refine x_R.steps 1 (c' := (15, [(2, .int 0), (1, .int 0), (0, .ref 0)], [.ref 67], x_h0, 0, 0)) rfl ?_
  refine x_R.call (a := 91) (vs := [.ref 67]) (rest := []) (M' := M_cX8_isMade) rfl rfl rfl ?_
  refine x_R.steps 2 (c' := (4, [(0, .ref 67)], [.int (-1)], x_h0, 0, 0)) rfl ?_
  refine x_R.steps 1 (c' := (11, [(0, .ref 67)], [], x_h0, 0, 0)) rfl ?_
  refine x_R.steps 1 (c' := (12, [(0, .ref 67)], [.int 0], x_h0, 0, 0)) rfl ?_
  refine x_R.ret (v := some (.int 0)) rfl ?_
  refine x_R.steps 0 (c' := (18, [(2, .int 0), (1, .int 0), (0, .ref 0)], [.int 0], x_h0, 0, 0)) rfl ?_
  refine x_R.steps 1 (c' := (24, [(2, .int 0), (1, .int 0), (0, .ref 0)], [], x_h0, 0, 0)) rfl ?_
  refine x_R.steps 4 (c' := (6, [(2, .int 1), (1, .int 0), (0, .ref 0)], [.int 4, .int 1], x_h0, 0, 0)) rfl ?_
  refine x_R.steps 1 (c' := (9, [(2, .int 1), (1, .int 0), (0, .ref 0)], [], x_h0, 0, 0)) rfl ?_
  refine x_R.steps 3 (c' := (14, [(2, .int 1), (1, .int 0), (0, .ref 0)], [.int 1, .ref 42], x_h0, 0, 0)) rfl ?_
  refine x_R.steps 1 (c' := (15, [(2, .int 1), (1, .int 0), (0, .ref 0)], [.ref 69], x_h0, 0, 0)) rfl ?_
  refine x_R.call (a := 91) (vs := [.ref 69]) (rest := []) (M' := M_cX8_isMade) rfl rfl rfl ?_
  refine x_R.steps 2 (c' := (4, [(0, .ref 69)], [.int (-1)], x_h0, 0, 0)) rfl ?_
  refine x_R.steps 1 (c' := (11, [(0, .ref 69)], [], x_h0, 0, 0)) rfl ?_
  refine x_R.steps 1 (c' := (12, [(0, .ref 69)], [.int 0], x_h0, 0, 0)) rfl ?_
  refine x_R.ret (v := some (.int 0)) rfl ?_
  refine x_R.steps 0 (c' := (18, [(2, .int 1), (1, .int 0), (0, .ref 0)], [.int 0], x_h0, 0, 0)) rfl ?_
  refine x_R.steps 1 (c' := (24, [(2, .int 1), (1, .int 0), (0, .ref 0)], [], x_h0, 0, 0)) rfl ?_
  refine x_R.steps 4 (c' := (6, [(2, .int 2), (1, .int 0), (0, .ref 0)], [.int 4, .int 2], x_h0, 0, 0)) rfl ?_
  refine x_R.steps 1 (c' := (9, [(2, .int 2), (1, .int 0), (0, .ref 0)], [], x_h0, 0, 0)) rfl ?_
  refine x_R.steps 3 (c' := (14, [(2, .int 2), (1, .int 0), (0, .ref 0)], [.int 2, .ref 42], x_h0, 0, 0)) rfl ?_
  refine x_R.steps 1 (c' := (15, [(2, .int 2), (1, .int 0), (0, .ref 0)], [.ref 71], x_h0, 0, 0)) rfl ?_
  refine x_R.call (a := 91) (vs := [.ref 71]) (rest := []) (M' := M_cX8_isMade) rfl rfl rfl ?_
  refine x_R.steps 2 (c' := (4, [(0, .ref 71)], [.int (-1)], x_h0, 0, 0)) rfl ?_
  refine x_R.steps 1 (c' := (11, [(0, .ref 71)], [], x_h0, 0, 0)) rfl ?_
  refine x_R.steps 1 (c' := (12, [(0, .ref 71)], [.int 0], x_h0, 0, 0)) rfl ?_
  refine x_R.ret (v := some (.int 0)) rfl ?_
  refine x_R.steps 0 (c' := (18, [(2, .int 2), (1, .int 0), (0, .ref 0)], [.int 0], x_h0, 0, 0)) rfl ?_
  refine x_R.steps 1 (c' := (24, [(2, .int 2), (1, .int 0), (0, .ref 0)], [], x_h0, 0, 0)) rfl ?_
  refine x_R.steps 4 (c' := (6, [(2, .int 3), (1, .int 0), (0, .ref 0)], [.int 4, .int 3], x_h0, 0, 0)) rfl ?_
  refine x_R.steps 1 (c' := (9, [(2, .int 3), (1, .int 0), (0, .ref 0)], [], x_h0, 0, 0)) rfl ?_
  refine x_R.steps 3 (c' := (14, [(2, .int 3), (1, .int 0), (0, .ref 0)], [.int 3, .ref 42], x_h0, 0, 0)) rfl ?_
  refine x_R.steps 1 (c' := (15, [(2, .int 3), (1, .int 0), (0, .ref 0)], [.ref 73], x_h0, 0, 0)) rfl ?_
  refine x_R.call (a := 91) (vs := [.ref 73]) (rest := []) (M' := M_cX8_isMade) rfl rfl rfl ?_
  refine x_R.steps 2 (c' := (4, [(0, .ref 73)], [.int (-1)], x_h0, 0, 0)) rfl ?_
  refine x_R.steps 1 (c' := (11, [(0, .ref 73)], [], x_h0, 0, 0)) rfl ?_
  refine x_R.steps 1 (c' := (12, [(0, .ref 73)], [.int 0], x_h0, 0, 0)) rfl ?_
  refine x_R.ret (v := some (.int 0)) rfl ?_
  refine x_R.steps 0 (c' := (18, [(2, .int 3), (1, .int 0), (0, .ref 0)], [.int 0], x_h0, 0, 0)) rfl ?_
  refine x_R.steps 1 (c' := (24, [(2, .int 3), (1, .int 0), (0, .ref 0)], [], x_h0, 0, 0)) rfl ?_
  refine x_R.steps 4 (c' := (6, [(2, .int 4), (1, .int 0), (0, .ref 0)], [.int 4, .int 4], x_h0, 0, 0)) rfl ?_
  refine x_R.steps 1 (c' := (30, [(2, .int 4), (1, .int 0), (0, .ref 0)], [], x_h0, 0, 0)) rfl ?_
  refine x_R.steps 1 (c' := (31, [(2, .int 4), (1, .int 0), (0, .ref 0)], [.int 0], x_h0, 0, 0)) rfl ?_
  refine x_R.ret (v := some (.int 0)) rfl ?_
  refine x_R.steps 0 (c' := (153, [(0, .ref 0), (1, .int 10)], [.int 0], x_h0, 0, 0)) rfl ?_
  refine x_R.ret (v := some (.int 0)) rfl ?_
  refine x_R.steps 0 (c' := (2131, [(3, .int 0), (2, .ref 75), (1, .ref 0), (0, .ref x_scr)], [.int 0], x_h0, 98, 10728)) rfl ?_
  refine x_R.steps 5 (c' := (2136, [(3, .int 0), (2, .ref 75), (1, .ref 0), (0, .ref x_scr)], [.int 1, .ref x_scr, .ref 75, .int 0], x_h0, 98, 10728)) rfl ?_
  refine x_R.steps 1 (c' := (2137, [(3, .int 0), (2, .ref 75), (1, .ref 0), (0, .ref x_scr)], [.int 10, .ref 75, .int 0], x_h0, 98, 10728)) rfl ?_
  refine x_R.call (a := 350) (vs := [.ref 75, .int 10]) (rest := [.int 0]) (M' := M_cX12_count) rfl rfl rfl ?_
  refine x_R.steps 3 (c' := (3, [(2, .int 0), (0, .ref 75), (1, .int 10)], [.int 10], x_h0, 0, 0)) rfl ?_
  refine x_R.steps 1 (c' := (132, [(2, .int 0), (0, .ref 75), (1, .int 10)], [], x_h0, 0, 0)) rfl ?_
  refine x_R.steps 4 (c' := (136, [(3, .int 0), (2, .int 0), (0, .ref 75), (1, .int 10)], [.int 4, .int 0], x_h0, 0, 0)) rfl ?_
  refine x_R.steps 1 (c' := (139, [(3, .int 0), (2, .int 0), (0, .ref 75), (1, .int 10)], [], x_h0, 0, 0)) rfl ?_
  refine x_R.steps 4 (c' := (145, [(3, .int 0), (2, .int 0), (0, .ref 75), (1, .int 10)], [.int 0, .ref 94, .int 0], x_h0, 0, 0)) rfl ?_
  refine x_R.steps 1 (c' := (146, [(3, .int 0), (2, .int 0), (0, .ref 75), (1, .int 10)], [.int (-1), .int 0], x_h0, 0, 0)) rfl ?_
  refine x_R.steps 1 (c' := (147, [(3, .int 0), (2, .int 0), (0, .ref 75), (1, .int 10)], [.int (-1), .int (-1), .int 0], x_h0, 0, 0)) rfl ?_
  refine x_R.steps 1 (c' := (150, [(3, .int 0), (2, .int 0), (0, .ref 75), (1, .int 10)], [.int 0], x_h0, 0, 0)) rfl ?_
  refine x_R.steps 8 (c' := (136, [(3, .int 1), (2, .int 0), (0, .ref 75), (1, .int 10)], [.int 4, .int 1], x_h0, 0, 0)) rfl ?_
  refine x_R.steps 1 (c' := (139, [(3, .int 1), (2, .int 0), (0, .ref 75), (1, .int 10)], [], x_h0, 0, 0)) rfl ?_
  refine x_R.steps 4 (c' := (145, [(3, .int 1), (2, .int 0), (0, .ref 75), (1, .int 10)], [.int 1, .ref 94, .int 0], x_h0, 0, 0)) rfl ?_
  refine x_R.steps 1 (c' := (146, [(3, .int 1), (2, .int 0), (0, .ref 75), (1, .int 10)], [.int (-1), .int 0], x_h0, 0, 0)) rfl ?_
  refine x_R.steps 1 (c' := (147, [(3, .int 1), (2, .int 0), (0, .ref 75), (1, .int 10)], [.int (-1), .int (-1), .int 0], x_h0, 0, 0)) rfl ?_
  refine x_R.steps 1 (c' := (150, [(3, .int 1), (2, .int 0), (0, .ref 75), (1, .int 10)], [.int 0], x_h0, 0, 0)) rfl ?_
  refine x_R.steps 8 (c' := (136, [(3, .int 2), (2, .int 0), (0, .ref 75), (1, .int 10)], [.int 4, .int 2], x_h0, 0, 0)) rfl ?_
  refine x_R.steps 1 (c' := (139, [(3, .int 2), (2, .int 0), (0, .ref 75), (1, .int 10)], [], x_h0, 0, 0)) rfl ?_
  refine x_R.steps 4 (c' := (145, [(3, .int 2), (2, .int 0), (0, .ref 75), (1, .int 10)], [.int 2, .ref 94, .int 0], x_h0, 0, 0)) rfl ?_
  refine x_R.steps 1 (c' := (146, [(3, .int 2), (2, .int 0), (0, .ref 75), (1, .int 10)], [.int (-1), .int 0], x_h0, 0, 0)) rfl ?_
  refine x_R.steps 1 (c' := (147, [(3, .int 2), (2, .int 0), (0, .ref 75), (1, .int 10)], [.int (-1), .int (-1), .int 0], x_h0, 0, 0)) rfl ?_
  refine x_R.steps 1 (c' := (150, [(3, .int 2), (2, .int 0), (0, .ref 75), (1, .int 10)], [.int 0], x_h0, 0, 0)) rfl ?_
  refine x_R.steps 8 (c' := (136, [(3, .int 3), (2, .int 0), (0, .ref 75), (1, .int 10)], [.int 4, .int 3], x_h0, 0, 0)) rfl ?_
  refine x_R.steps 1 (c' := (139, [(3, .int 3), (2, .int 0), (0, .ref 75), (1, .int 10)], [], x_h0, 0, 0)) rfl ?_
  refine x_R.steps 4 (c' := (145, [(3, .int 3), (2, .int 0), (0, .ref 75), (1, .int 10)], [.int 3, .ref 94, .int 0], x_h0, 0, 0)) rfl ?_
  refine x_R.steps 1 (c' := (146, [(3, .int 3), (2, .int 0), (0, .ref 75), (1, .int 10)], [.int (-1), .int 0], x_h0, 0, 0)) rfl ?_
  refine x_R.steps 1 (c' := (147, [(3, .int 3), (2, .int 0), (0, .ref 75), (1, .int 10)], [.int (-1), .int (-1), .int 0], x_h0, 0, 0)) rfl ?_
  refine x_R.steps 1 (c' := (150, [(3, .int 3), (2, .int 0), (0, .ref 75), (1, .int 10)], [.int 0], x_h0, 0, 0)) rfl ?_
  refine x_R.steps 8 (c' := (136, [(3, .int 4), (2, .int 0), (0, .ref 75), (1, .int 10)], [.int 4, .int 4], x_h0, 0, 0)) rfl ?_
  refine x_R.steps 1 (c' := (163, [(3, .int 4), (2, .int 0), (0, .ref 75), (1, .int 10)], [], x_h0, 0, 0)) rfl ?_
  refine x_R.steps 1 (c' := (164, [(3, .int 4), (2, .int 0), (0, .ref 75), (1, .int 10)], [.int 0], x_h0, 0, 0)) rfl ?_
  refine x_R.ret (v := some (.int 0)) rfl ?_
  refine x_R.steps 0 (c' := (2140, [(3, .int 0), (2, .ref 75), (1, .ref 0), (0, .ref x_scr)], [.int 0, .int 0], x_h0, 98, 10728)) rfl ?_
  refine x_R.steps 1 (c' := (2370, [(3, .int 0), (2, .ref 75), (1, .ref 0), (0, .ref x_scr)], [], x_h0, 98, 10728)) rfl ?_
  refine x_R.steps 7 (c' := (24, [(3, .int 6), (2, .ref 75), (1, .ref 0), (0, .ref x_scr)], [.int 0, .int 6], x_h0, 98, 10728)) rfl ?_
  refine x_R.steps 1 (c' := (2376, [(3, .int 6), (2, .ref 75), (1, .ref 0), (0, .ref x_scr)], [], x_h0, 98, 10728)) rfl ?_
  refine x_R.steps 1 (c' := (2377, [(3, .int 6), (2, .ref 75), (1, .ref 0), (0, .ref x_scr)], [.int 1], x_h0, 98, 10728)) rfl ?_
  exact x_R.ret (v := some (.int 1)) rfl x_fin
set_option maxRecDepth 100000 in
set_option maxHeartbeats 4000000 in
theorem x_c64_11 (xs : Nat → Int32) (f0 : (xs 1).toInt < 0) : x_R x_mt (some (6, xs)) 13 M_law (2122, [(3, .int 0), (2, .ref 75), (1, .ref 0), (0, .ref x_scr)], [], x_h0, 98, 10728) x_P := by
  refine x_R.steps 5 (c' := (2127, [(3, .int 0), (2, .ref 75), (1, .ref 0), (0, .ref x_scr)], [.int 1, .ref x_scr, .ref 0], x_h0, 98, 10728)) rfl ?_
  refine x_R.steps 1 (c' := (2128, [(3, .int 0), (2, .ref 75), (1, .ref 0), (0, .ref x_scr)], [.int (xs 1), .ref 0], x_h0, 98, 10728)) rfl ?_
  refine x_R.call (a := 119) (vs := [.ref 0, .int (xs 1)]) (rest := []) (M' := M_cX11_count) rfl rfl rfl ?_
  refine x_R.steps 1 (c' := (1, [(0, .ref 0), (1, .int (xs 1))], [.int (xs 1)], x_h0, 0, 0)) rfl ?_
  refine x_R.iteT (p := (xs 1).toInt < 0 ∨ 10 < (xs 1).toInt) (c1 := (154, [(0, .ref 0), (1, .int (xs 1))], [], x_h0, 0, 0)) rfl (by omega) ?_
  refine x_R.steps 1 (c' := (155, [(0, .ref 0), (1, .int (xs 1))], [.int (-1)], x_h0, 0, 0)) rfl ?_
  refine x_R.ret (v := some (.int (-1))) rfl ?_
  refine x_R.steps 0 (c' := (2131, [(3, .int 0), (2, .ref 75), (1, .ref 0), (0, .ref x_scr)], [.int (-1)], x_h0, 98, 10728)) rfl ?_
  refine x_R.steps 5 (c' := (2136, [(3, .int 0), (2, .ref 75), (1, .ref 0), (0, .ref x_scr)], [.int 1, .ref x_scr, .ref 75, .int (-1)], x_h0, 98, 10728)) rfl ?_
  refine x_R.steps 1 (c' := (2137, [(3, .int 0), (2, .ref 75), (1, .ref 0), (0, .ref x_scr)], [.int (xs 1), .ref 75, .int (-1)], x_h0, 98, 10728)) rfl ?_
  refine x_R.call (a := 350) (vs := [.ref 75, .int (xs 1)]) (rest := [.int (-1)]) (M' := M_cX12_count) rfl rfl rfl ?_
  refine x_R.steps 3 (c' := (3, [(2, .int 0), (0, .ref 75), (1, .int (xs 1))], [.int (xs 1)], x_h0, 0, 0)) rfl ?_
  refine x_R.iteT (p := (xs 1).toInt < 0 ∨ 10 < (xs 1).toInt) (c1 := (165, [(2, .int 0), (0, .ref 75), (1, .int (xs 1))], [], x_h0, 0, 0)) rfl (by omega) ?_
  refine x_R.steps 1 (c' := (166, [(2, .int 0), (0, .ref 75), (1, .int (xs 1))], [.int (-1)], x_h0, 0, 0)) rfl ?_
  refine x_R.ret (v := some (.int (-1))) rfl ?_
  refine x_R.steps 0 (c' := (2140, [(3, .int 0), (2, .ref 75), (1, .ref 0), (0, .ref x_scr)], [.int (-1), .int (-1)], x_h0, 98, 10728)) rfl ?_
  refine x_R.steps 1 (c' := (2370, [(3, .int 0), (2, .ref 75), (1, .ref 0), (0, .ref x_scr)], [], x_h0, 98, 10728)) rfl ?_
  refine x_R.steps 7 (c' := (24, [(3, .int 6), (2, .ref 75), (1, .ref 0), (0, .ref x_scr)], [.int 0, .int 6], x_h0, 98, 10728)) rfl ?_
  refine x_R.steps 1 (c' := (2376, [(3, .int 6), (2, .ref 75), (1, .ref 0), (0, .ref x_scr)], [], x_h0, 98, 10728)) rfl ?_
  refine x_R.steps 1 (c' := (2377, [(3, .int 6), (2, .ref 75), (1, .ref 0), (0, .ref x_scr)], [.int 1], x_h0, 98, 10728)) rfl ?_
  exact x_R.ret (v := some (.int 1)) rfl x_fin
set_option maxRecDepth 100000 in
set_option maxHeartbeats 4000000 in
theorem x_c64_12 (xs : Nat → Int32) (f0 : (xs 1).toInt > 10) : x_R x_mt (some (6, xs)) 13 M_law (2122, [(3, .int 0), (2, .ref 75), (1, .ref 0), (0, .ref x_scr)], [], x_h0, 98, 10728) x_P := by
  refine x_R.steps 5 (c' := (2127, [(3, .int 0), (2, .ref 75), (1, .ref 0), (0, .ref x_scr)], [.int 1, .ref x_scr, .ref 0], x_h0, 98, 10728)) rfl ?_
  refine x_R.steps 1 (c' := (2128, [(3, .int 0), (2, .ref 75), (1, .ref 0), (0, .ref x_scr)], [.int (xs 1), .ref 0], x_h0, 98, 10728)) rfl ?_
  refine x_R.call (a := 119) (vs := [.ref 0, .int (xs 1)]) (rest := []) (M' := M_cX11_count) rfl rfl rfl ?_
  refine x_R.steps 1 (c' := (1, [(0, .ref 0), (1, .int (xs 1))], [.int (xs 1)], x_h0, 0, 0)) rfl ?_
  refine x_R.iteT (p := (xs 1).toInt < 0 ∨ 10 < (xs 1).toInt) (c1 := (154, [(0, .ref 0), (1, .int (xs 1))], [], x_h0, 0, 0)) rfl (by omega) ?_
  refine x_R.steps 1 (c' := (155, [(0, .ref 0), (1, .int (xs 1))], [.int (-1)], x_h0, 0, 0)) rfl ?_
  refine x_R.ret (v := some (.int (-1))) rfl ?_
  refine x_R.steps 0 (c' := (2131, [(3, .int 0), (2, .ref 75), (1, .ref 0), (0, .ref x_scr)], [.int (-1)], x_h0, 98, 10728)) rfl ?_
  refine x_R.steps 5 (c' := (2136, [(3, .int 0), (2, .ref 75), (1, .ref 0), (0, .ref x_scr)], [.int 1, .ref x_scr, .ref 75, .int (-1)], x_h0, 98, 10728)) rfl ?_
  refine x_R.steps 1 (c' := (2137, [(3, .int 0), (2, .ref 75), (1, .ref 0), (0, .ref x_scr)], [.int (xs 1), .ref 75, .int (-1)], x_h0, 98, 10728)) rfl ?_
  refine x_R.call (a := 350) (vs := [.ref 75, .int (xs 1)]) (rest := [.int (-1)]) (M' := M_cX12_count) rfl rfl rfl ?_
  refine x_R.steps 3 (c' := (3, [(2, .int 0), (0, .ref 75), (1, .int (xs 1))], [.int (xs 1)], x_h0, 0, 0)) rfl ?_
  refine x_R.iteT (p := (xs 1).toInt < 0 ∨ 10 < (xs 1).toInt) (c1 := (165, [(2, .int 0), (0, .ref 75), (1, .int (xs 1))], [], x_h0, 0, 0)) rfl (by omega) ?_
  refine x_R.steps 1 (c' := (166, [(2, .int 0), (0, .ref 75), (1, .int (xs 1))], [.int (-1)], x_h0, 0, 0)) rfl ?_
  refine x_R.ret (v := some (.int (-1))) rfl ?_
  refine x_R.steps 0 (c' := (2140, [(3, .int 0), (2, .ref 75), (1, .ref 0), (0, .ref x_scr)], [.int (-1), .int (-1)], x_h0, 98, 10728)) rfl ?_
  refine x_R.steps 1 (c' := (2370, [(3, .int 0), (2, .ref 75), (1, .ref 0), (0, .ref x_scr)], [], x_h0, 98, 10728)) rfl ?_
  refine x_R.steps 7 (c' := (24, [(3, .int 6), (2, .ref 75), (1, .ref 0), (0, .ref x_scr)], [.int 0, .int 6], x_h0, 98, 10728)) rfl ?_
  refine x_R.steps 1 (c' := (2376, [(3, .int 6), (2, .ref 75), (1, .ref 0), (0, .ref x_scr)], [], x_h0, 98, 10728)) rfl ?_
  refine x_R.steps 1 (c' := (2377, [(3, .int 6), (2, .ref 75), (1, .ref 0), (0, .ref x_scr)], [.int 1], x_h0, 98, 10728)) rfl ?_
  exact x_R.ret (v := some (.int 1)) rfl x_fin
set_option maxRecDepth 100000 in
set_option maxHeartbeats 4000000 in
theorem x_c66_0 (xs : Nat → Int32)  : x_R x_mt (some (6, (x_ov 1 0 xs))) 13 M_law (2168, [(3, .int 0), (2, .ref 75), (1, .ref 0), (0, .ref x_scr)], [], x_h0, 98, 10728) x_P := by
  refine x_R.steps 5 (c' := (2173, [(3, .int 0), (2, .ref 75), (1, .ref 0), (0, .ref x_scr)], [.int 1, .ref x_scr, .ref 0], x_h0, 98, 10728)) rfl ?_
  refine x_R.steps 1 (c' := (2174, [(3, .int 0), (2, .ref 75), (1, .ref 0), (0, .ref x_scr)], [.int 0, .ref 0], x_h0, 98, 10728)) rfl ?_
  refine x_R.call (a := 178) (vs := [.ref 0, .int 0]) (rest := []) (M' := M_cX11_back) rfl rfl rfl ?_
  refine x_R.steps 1 (c' := (1, [(0, .ref 0), (1, .int 0)], [.int 0], x_h0, 0, 0)) rfl ?_
  refine x_R.steps 1 (c' := (4, [(0, .ref 0), (1, .int 0)], [], x_h0, 0, 0)) rfl ?_
  refine x_R.steps 2 (c' := (6, [(0, .ref 0), (1, .int 0)], [.int 3, .int 0], x_h0, 0, 0)) rfl ?_
  refine x_R.steps 1 (c' := (12, [(0, .ref 0), (1, .int 0)], [], x_h0, 0, 0)) rfl ?_
  refine x_R.steps 3 (c' := (17, [(0, .ref 0), (1, .int 0)], [.int 0, .ref 9], x_h0, 0, 0)) rfl ?_
  refine x_R.steps 1 (c' := (18, [(0, .ref 0), (1, .int 0)], [.ref 43], x_h0, 0, 0)) rfl ?_
  refine x_R.steps 1 (c' := (21, [(0, .ref 0), (1, .int 0)], [.int 0], x_h0, 0, 0)) rfl ?_
  refine x_R.steps 1 (c' := (24, [(0, .ref 0), (1, .int 0)], [], x_h0, 0, 0)) rfl ?_
  refine x_R.steps 1 (c' := (26, [(0, .ref 0), (1, .int 0)], [.int (-6)], x_h0, 0, 0)) rfl ?_
  refine x_R.ret (v := some (.int (-6))) rfl ?_
  refine x_R.steps 0 (c' := (2177, [(3, .int 0), (2, .ref 75), (1, .ref 0), (0, .ref x_scr)], [.int (-6)], x_h0, 98, 10728)) rfl ?_
  refine x_R.steps 5 (c' := (2182, [(3, .int 0), (2, .ref 75), (1, .ref 0), (0, .ref x_scr)], [.int 1, .ref x_scr, .ref 75, .int (-6)], x_h0, 98, 10728)) rfl ?_
  refine x_R.steps 1 (c' := (2183, [(3, .int 0), (2, .ref 75), (1, .ref 0), (0, .ref x_scr)], [.int 0, .ref 75, .int (-6)], x_h0, 98, 10728)) rfl ?_
  refine x_R.call (a := 198) (vs := [.ref 75, .int 0]) (rest := [.int (-6)]) (M' := M_cX12_back) rfl rfl rfl ?_
  refine x_R.steps 4 (c' := (6, [(0, .ref 75), (1, .int 0)], [.long 2, .long 0, .long 0], x_h0, 0, 0)) rfl ?_
  refine x_R.call (a := 196) (vs := [.long 0, .long 0, .long 2]) (rest := []) (M' := M_cX12_in) rfl rfl rfl ?_
  refine x_R.steps 3 (c' := (3, [(0, .long 0), (2, .long 0), (4, .long 2)], [.int 0], x_h0, 0, 0)) rfl ?_
  refine x_R.steps 1 (c' := (6, [(0, .long 0), (2, .long 0), (4, .long 2)], [], x_h0, 0, 0)) rfl ?_
  refine x_R.steps 3 (c' := (10, [(0, .long 0), (2, .long 0), (4, .long 2)], [.int (-1)], x_h0, 0, 0)) rfl ?_
  refine x_R.steps 1 (c' := (13, [(0, .long 0), (2, .long 0), (4, .long 2)], [], x_h0, 0, 0)) rfl ?_
  refine x_R.steps 2 (c' := (18, [(0, .long 0), (2, .long 0), (4, .long 2)], [.int 1], x_h0, 0, 0)) rfl ?_
  refine x_R.ret (v := some (.int 1)) rfl ?_
  refine x_R.steps 0 (c' := (9, [(0, .ref 75), (1, .int 0)], [.int 1], x_h0, 0, 0)) rfl ?_
  refine x_R.steps 1 (c' := (15, [(0, .ref 75), (1, .int 0)], [], x_h0, 0, 0)) rfl ?_
  refine x_R.steps 3 (c' := (20, [(0, .ref 75), (1, .int 0)], [.int 0, .ref 78], x_h0, 0, 0)) rfl ?_
  refine x_R.steps 1 (c' := (21, [(0, .ref 75), (1, .int 0)], [.int 0], x_h0, 0, 0)) rfl ?_
  refine x_R.steps 1 (c' := (24, [(0, .ref 75), (1, .int 0)], [], x_h0, 0, 0)) rfl ?_
  refine x_R.steps 1 (c' := (26, [(0, .ref 75), (1, .int 0)], [.int (-6)], x_h0, 0, 0)) rfl ?_
  refine x_R.ret (v := some (.int (-6))) rfl ?_
  refine x_R.steps 0 (c' := (2186, [(3, .int 0), (2, .ref 75), (1, .ref 0), (0, .ref x_scr)], [.int (-6), .int (-6)], x_h0, 98, 10728)) rfl ?_
  refine x_R.steps 1 (c' := (2370, [(3, .int 0), (2, .ref 75), (1, .ref 0), (0, .ref x_scr)], [], x_h0, 98, 10728)) rfl ?_
  refine x_R.steps 7 (c' := (24, [(3, .int 6), (2, .ref 75), (1, .ref 0), (0, .ref x_scr)], [.int 0, .int 6], x_h0, 98, 10728)) rfl ?_
  refine x_R.steps 1 (c' := (2376, [(3, .int 6), (2, .ref 75), (1, .ref 0), (0, .ref x_scr)], [], x_h0, 98, 10728)) rfl ?_
  refine x_R.steps 1 (c' := (2377, [(3, .int 6), (2, .ref 75), (1, .ref 0), (0, .ref x_scr)], [.int 1], x_h0, 98, 10728)) rfl ?_
  exact x_R.ret (v := some (.int 1)) rfl x_fin
set_option maxRecDepth 100000 in
set_option maxHeartbeats 4000000 in
theorem x_c66_1 (xs : Nat → Int32)  : x_R x_mt (some (6, (x_ov 1 1 xs))) 13 M_law (2168, [(3, .int 0), (2, .ref 75), (1, .ref 0), (0, .ref x_scr)], [], x_h0, 98, 10728) x_P := by
  refine x_R.steps 5 (c' := (2173, [(3, .int 0), (2, .ref 75), (1, .ref 0), (0, .ref x_scr)], [.int 1, .ref x_scr, .ref 0], x_h0, 98, 10728)) rfl ?_
  refine x_R.steps 1 (c' := (2174, [(3, .int 0), (2, .ref 75), (1, .ref 0), (0, .ref x_scr)], [.int 1, .ref 0], x_h0, 98, 10728)) rfl ?_
  refine x_R.call (a := 178) (vs := [.ref 0, .int 1]) (rest := []) (M' := M_cX11_back) rfl rfl rfl ?_
  refine x_R.steps 1 (c' := (1, [(0, .ref 0), (1, .int 1)], [.int 1], x_h0, 0, 0)) rfl ?_
  refine x_R.steps 1 (c' := (4, [(0, .ref 0), (1, .int 1)], [], x_h0, 0, 0)) rfl ?_
  refine x_R.steps 2 (c' := (6, [(0, .ref 0), (1, .int 1)], [.int 3, .int 1], x_h0, 0, 0)) rfl ?_
  refine x_R.steps 1 (c' := (12, [(0, .ref 0), (1, .int 1)], [], x_h0, 0, 0)) rfl ?_
  refine x_R.steps 3 (c' := (17, [(0, .ref 0), (1, .int 1)], [.int 1, .ref 9], x_h0, 0, 0)) rfl ?_
  refine x_R.steps 1 (c' := (18, [(0, .ref 0), (1, .int 1)], [.ref 51], x_h0, 0, 0)) rfl ?_
  refine x_R.steps 1 (c' := (21, [(0, .ref 0), (1, .int 1)], [.int 0], x_h0, 0, 0)) rfl ?_
  refine x_R.steps 1 (c' := (24, [(0, .ref 0), (1, .int 1)], [], x_h0, 0, 0)) rfl ?_
  refine x_R.steps 1 (c' := (26, [(0, .ref 0), (1, .int 1)], [.int (-6)], x_h0, 0, 0)) rfl ?_
  refine x_R.ret (v := some (.int (-6))) rfl ?_
  refine x_R.steps 0 (c' := (2177, [(3, .int 0), (2, .ref 75), (1, .ref 0), (0, .ref x_scr)], [.int (-6)], x_h0, 98, 10728)) rfl ?_
  refine x_R.steps 5 (c' := (2182, [(3, .int 0), (2, .ref 75), (1, .ref 0), (0, .ref x_scr)], [.int 1, .ref x_scr, .ref 75, .int (-6)], x_h0, 98, 10728)) rfl ?_
  refine x_R.steps 1 (c' := (2183, [(3, .int 0), (2, .ref 75), (1, .ref 0), (0, .ref x_scr)], [.int 1, .ref 75, .int (-6)], x_h0, 98, 10728)) rfl ?_
  refine x_R.call (a := 198) (vs := [.ref 75, .int 1]) (rest := [.int (-6)]) (M' := M_cX12_back) rfl rfl rfl ?_
  refine x_R.steps 4 (c' := (6, [(0, .ref 75), (1, .int 1)], [.long 2, .long 0, .long 1], x_h0, 0, 0)) rfl ?_
  refine x_R.call (a := 196) (vs := [.long 1, .long 0, .long 2]) (rest := []) (M' := M_cX12_in) rfl rfl rfl ?_
  refine x_R.steps 3 (c' := (3, [(0, .long 1), (2, .long 0), (4, .long 2)], [.int 1], x_h0, 0, 0)) rfl ?_
  refine x_R.steps 1 (c' := (6, [(0, .long 1), (2, .long 0), (4, .long 2)], [], x_h0, 0, 0)) rfl ?_
  refine x_R.steps 3 (c' := (10, [(0, .long 1), (2, .long 0), (4, .long 2)], [.int (-1)], x_h0, 0, 0)) rfl ?_
  refine x_R.steps 1 (c' := (13, [(0, .long 1), (2, .long 0), (4, .long 2)], [], x_h0, 0, 0)) rfl ?_
  refine x_R.steps 2 (c' := (18, [(0, .long 1), (2, .long 0), (4, .long 2)], [.int 1], x_h0, 0, 0)) rfl ?_
  refine x_R.ret (v := some (.int 1)) rfl ?_
  refine x_R.steps 0 (c' := (9, [(0, .ref 75), (1, .int 1)], [.int 1], x_h0, 0, 0)) rfl ?_
  refine x_R.steps 1 (c' := (15, [(0, .ref 75), (1, .int 1)], [], x_h0, 0, 0)) rfl ?_
  refine x_R.steps 3 (c' := (20, [(0, .ref 75), (1, .int 1)], [.int 1, .ref 78], x_h0, 0, 0)) rfl ?_
  refine x_R.steps 1 (c' := (21, [(0, .ref 75), (1, .int 1)], [.int 0], x_h0, 0, 0)) rfl ?_
  refine x_R.steps 1 (c' := (24, [(0, .ref 75), (1, .int 1)], [], x_h0, 0, 0)) rfl ?_
  refine x_R.steps 1 (c' := (26, [(0, .ref 75), (1, .int 1)], [.int (-6)], x_h0, 0, 0)) rfl ?_
  refine x_R.ret (v := some (.int (-6))) rfl ?_
  refine x_R.steps 0 (c' := (2186, [(3, .int 0), (2, .ref 75), (1, .ref 0), (0, .ref x_scr)], [.int (-6), .int (-6)], x_h0, 98, 10728)) rfl ?_
  refine x_R.steps 1 (c' := (2370, [(3, .int 0), (2, .ref 75), (1, .ref 0), (0, .ref x_scr)], [], x_h0, 98, 10728)) rfl ?_
  refine x_R.steps 7 (c' := (24, [(3, .int 6), (2, .ref 75), (1, .ref 0), (0, .ref x_scr)], [.int 0, .int 6], x_h0, 98, 10728)) rfl ?_
  refine x_R.steps 1 (c' := (2376, [(3, .int 6), (2, .ref 75), (1, .ref 0), (0, .ref x_scr)], [], x_h0, 98, 10728)) rfl ?_
  refine x_R.steps 1 (c' := (2377, [(3, .int 6), (2, .ref 75), (1, .ref 0), (0, .ref x_scr)], [.int 1], x_h0, 98, 10728)) rfl ?_
  exact x_R.ret (v := some (.int 1)) rfl x_fin
set_option maxRecDepth 100000 in
set_option maxHeartbeats 4000000 in
theorem x_c66_2 (xs : Nat → Int32)  : x_R x_mt (some (6, (x_ov 1 2 xs))) 13 M_law (2168, [(3, .int 0), (2, .ref 75), (1, .ref 0), (0, .ref x_scr)], [], x_h0, 98, 10728) x_P := by
  refine x_R.steps 5 (c' := (2173, [(3, .int 0), (2, .ref 75), (1, .ref 0), (0, .ref x_scr)], [.int 1, .ref x_scr, .ref 0], x_h0, 98, 10728)) rfl ?_
  refine x_R.steps 1 (c' := (2174, [(3, .int 0), (2, .ref 75), (1, .ref 0), (0, .ref x_scr)], [.int 2, .ref 0], x_h0, 98, 10728)) rfl ?_
  refine x_R.call (a := 178) (vs := [.ref 0, .int 2]) (rest := []) (M' := M_cX11_back) rfl rfl rfl ?_
  refine x_R.steps 1 (c' := (1, [(0, .ref 0), (1, .int 2)], [.int 2], x_h0, 0, 0)) rfl ?_
  refine x_R.steps 1 (c' := (4, [(0, .ref 0), (1, .int 2)], [], x_h0, 0, 0)) rfl ?_
  refine x_R.steps 2 (c' := (6, [(0, .ref 0), (1, .int 2)], [.int 3, .int 2], x_h0, 0, 0)) rfl ?_
  refine x_R.steps 1 (c' := (12, [(0, .ref 0), (1, .int 2)], [], x_h0, 0, 0)) rfl ?_
  refine x_R.steps 3 (c' := (17, [(0, .ref 0), (1, .int 2)], [.int 2, .ref 9], x_h0, 0, 0)) rfl ?_
  refine x_R.steps 1 (c' := (18, [(0, .ref 0), (1, .int 2)], [.ref 59], x_h0, 0, 0)) rfl ?_
  refine x_R.steps 1 (c' := (21, [(0, .ref 0), (1, .int 2)], [.int 0], x_h0, 0, 0)) rfl ?_
  refine x_R.steps 1 (c' := (24, [(0, .ref 0), (1, .int 2)], [], x_h0, 0, 0)) rfl ?_
  refine x_R.steps 1 (c' := (26, [(0, .ref 0), (1, .int 2)], [.int (-6)], x_h0, 0, 0)) rfl ?_
  refine x_R.ret (v := some (.int (-6))) rfl ?_
  refine x_R.steps 0 (c' := (2177, [(3, .int 0), (2, .ref 75), (1, .ref 0), (0, .ref x_scr)], [.int (-6)], x_h0, 98, 10728)) rfl ?_
  refine x_R.steps 5 (c' := (2182, [(3, .int 0), (2, .ref 75), (1, .ref 0), (0, .ref x_scr)], [.int 1, .ref x_scr, .ref 75, .int (-6)], x_h0, 98, 10728)) rfl ?_
  refine x_R.steps 1 (c' := (2183, [(3, .int 0), (2, .ref 75), (1, .ref 0), (0, .ref x_scr)], [.int 2, .ref 75, .int (-6)], x_h0, 98, 10728)) rfl ?_
  refine x_R.call (a := 198) (vs := [.ref 75, .int 2]) (rest := [.int (-6)]) (M' := M_cX12_back) rfl rfl rfl ?_
  refine x_R.steps 4 (c' := (6, [(0, .ref 75), (1, .int 2)], [.long 2, .long 0, .long 2], x_h0, 0, 0)) rfl ?_
  refine x_R.call (a := 196) (vs := [.long 2, .long 0, .long 2]) (rest := []) (M' := M_cX12_in) rfl rfl rfl ?_
  refine x_R.steps 3 (c' := (3, [(0, .long 2), (2, .long 0), (4, .long 2)], [.int 1], x_h0, 0, 0)) rfl ?_
  refine x_R.steps 1 (c' := (6, [(0, .long 2), (2, .long 0), (4, .long 2)], [], x_h0, 0, 0)) rfl ?_
  refine x_R.steps 3 (c' := (10, [(0, .long 2), (2, .long 0), (4, .long 2)], [.int 0], x_h0, 0, 0)) rfl ?_
  refine x_R.steps 1 (c' := (13, [(0, .long 2), (2, .long 0), (4, .long 2)], [], x_h0, 0, 0)) rfl ?_
  refine x_R.steps 2 (c' := (18, [(0, .long 2), (2, .long 0), (4, .long 2)], [.int 1], x_h0, 0, 0)) rfl ?_
  refine x_R.ret (v := some (.int 1)) rfl ?_
  refine x_R.steps 0 (c' := (9, [(0, .ref 75), (1, .int 2)], [.int 1], x_h0, 0, 0)) rfl ?_
  refine x_R.steps 1 (c' := (15, [(0, .ref 75), (1, .int 2)], [], x_h0, 0, 0)) rfl ?_
  refine x_R.steps 3 (c' := (20, [(0, .ref 75), (1, .int 2)], [.int 2, .ref 78], x_h0, 0, 0)) rfl ?_
  refine x_R.steps 1 (c' := (21, [(0, .ref 75), (1, .int 2)], [.int 0], x_h0, 0, 0)) rfl ?_
  refine x_R.steps 1 (c' := (24, [(0, .ref 75), (1, .int 2)], [], x_h0, 0, 0)) rfl ?_
  refine x_R.steps 1 (c' := (26, [(0, .ref 75), (1, .int 2)], [.int (-6)], x_h0, 0, 0)) rfl ?_
  refine x_R.ret (v := some (.int (-6))) rfl ?_
  refine x_R.steps 0 (c' := (2186, [(3, .int 0), (2, .ref 75), (1, .ref 0), (0, .ref x_scr)], [.int (-6), .int (-6)], x_h0, 98, 10728)) rfl ?_
  refine x_R.steps 1 (c' := (2370, [(3, .int 0), (2, .ref 75), (1, .ref 0), (0, .ref x_scr)], [], x_h0, 98, 10728)) rfl ?_
  refine x_R.steps 7 (c' := (24, [(3, .int 6), (2, .ref 75), (1, .ref 0), (0, .ref x_scr)], [.int 0, .int 6], x_h0, 98, 10728)) rfl ?_
  refine x_R.steps 1 (c' := (2376, [(3, .int 6), (2, .ref 75), (1, .ref 0), (0, .ref x_scr)], [], x_h0, 98, 10728)) rfl ?_
  refine x_R.steps 1 (c' := (2377, [(3, .int 6), (2, .ref 75), (1, .ref 0), (0, .ref x_scr)], [.int 1], x_h0, 98, 10728)) rfl ?_
  exact x_R.ret (v := some (.int 1)) rfl x_fin
set_option maxRecDepth 100000 in
set_option maxHeartbeats 4000000 in
theorem x_c66_3 (xs : Nat → Int32) (f0 : (xs 1).toInt < 0) : x_R x_mt (some (6, xs)) 13 M_law (2168, [(3, .int 0), (2, .ref 75), (1, .ref 0), (0, .ref x_scr)], [], x_h0, 98, 10728) x_P := by
  refine x_R.steps 5 (c' := (2173, [(3, .int 0), (2, .ref 75), (1, .ref 0), (0, .ref x_scr)], [.int 1, .ref x_scr, .ref 0], x_h0, 98, 10728)) rfl ?_
  refine x_R.steps 1 (c' := (2174, [(3, .int 0), (2, .ref 75), (1, .ref 0), (0, .ref x_scr)], [.int (xs 1), .ref 0], x_h0, 98, 10728)) rfl ?_
  refine x_R.call (a := 178) (vs := [.ref 0, .int (xs 1)]) (rest := []) (M' := M_cX11_back) rfl rfl rfl ?_
  refine x_R.steps 1 (c' := (1, [(0, .ref 0), (1, .int (xs 1))], [.int (xs 1)], x_h0, 0, 0)) rfl ?_
  refine x_R.ite (p := (xs 1) < (0 : Int32)) (c1 := (9, [(0, .ref 0), (1, .int (xs 1))], [], x_h0, 0, 0)) (c2 := (4, [(0, .ref 0), (1, .int (xs 1))], [], x_h0, 0, 0)) rfl (fun h1 => ?_) (fun h1 => ?_)
  · have g1 := (x_i_lt (C := 0) (by decide)).mp h1
    refine x_R.steps 1 (c' := (11, [(0, .ref 0), (1, .int (xs 1))], [.int (-2)], x_h0, 0, 0)) rfl ?_
    refine x_R.ret (v := some (.int (-2))) rfl ?_
    refine x_R.steps 0 (c' := (2177, [(3, .int 0), (2, .ref 75), (1, .ref 0), (0, .ref x_scr)], [.int (-2)], x_h0, 98, 10728)) rfl ?_
    refine x_R.steps 5 (c' := (2182, [(3, .int 0), (2, .ref 75), (1, .ref 0), (0, .ref x_scr)], [.int 1, .ref x_scr, .ref 75, .int (-2)], x_h0, 98, 10728)) rfl ?_
    refine x_R.steps 1 (c' := (2183, [(3, .int 0), (2, .ref 75), (1, .ref 0), (0, .ref x_scr)], [.int (xs 1), .ref 75, .int (-2)], x_h0, 98, 10728)) rfl ?_
    refine x_R.call (a := 198) (vs := [.ref 75, .int (xs 1)]) (rest := [.int (-2)]) (M' := M_cX12_back) rfl rfl rfl ?_
    refine x_R.steps 4 (c' := (6, [(0, .ref 75), (1, .int (xs 1))], [.long 2, .long 0, .long ((xs 1)).toInt64], x_h0, 0, 0)) rfl ?_
    refine x_R.call (a := 196) (vs := [.long ((xs 1)).toInt64, .long 0, .long 2]) (rest := []) (M' := M_cX12_in) rfl rfl rfl ?_
    refine x_R.steps 3 (c' := (3, [(0, .long ((xs 1)).toInt64), (2, .long 0), (4, .long 2)], [.int (lg_cmp ((xs 1)).toInt64 0)], x_h0, 0, 0)) rfl ?_
    refine x_R.ite (p := (lg_cmp ((xs 1)).toInt64 0) < (0 : Int32)) (c1 := (17, [(0, .long ((xs 1)).toInt64), (2, .long 0), (4, .long 2)], [], x_h0, 0, 0)) (c2 := (6, [(0, .long ((xs 1)).toInt64), (2, .long 0), (4, .long 2)], [], x_h0, 0, 0)) rfl (fun h2 => ?_) (fun h2 => ?_)
    · have g2 := (x_lg_lt (C := 0) (by decide)).mp h2
      refine x_R.steps 1 (c' := (18, [(0, .long ((xs 1)).toInt64), (2, .long 0), (4, .long 2)], [.int 0], x_h0, 0, 0)) rfl ?_
      refine x_R.ret (v := some (.int 0)) rfl ?_
      refine x_R.steps 0 (c' := (9, [(0, .ref 75), (1, .int (xs 1))], [.int 0], x_h0, 0, 0)) rfl ?_
      refine x_R.steps 1 (c' := (12, [(0, .ref 75), (1, .int (xs 1))], [], x_h0, 0, 0)) rfl ?_
      refine x_R.steps 1 (c' := (14, [(0, .ref 75), (1, .int (xs 1))], [.int (-2)], x_h0, 0, 0)) rfl ?_
      refine x_R.ret (v := some (.int (-2))) rfl ?_
      refine x_R.steps 0 (c' := (2186, [(3, .int 0), (2, .ref 75), (1, .ref 0), (0, .ref x_scr)], [.int (-2), .int (-2)], x_h0, 98, 10728)) rfl ?_
      refine x_R.steps 1 (c' := (2370, [(3, .int 0), (2, .ref 75), (1, .ref 0), (0, .ref x_scr)], [], x_h0, 98, 10728)) rfl ?_
      refine x_R.steps 7 (c' := (24, [(3, .int 6), (2, .ref 75), (1, .ref 0), (0, .ref x_scr)], [.int 0, .int 6], x_h0, 98, 10728)) rfl ?_
      refine x_R.steps 1 (c' := (2376, [(3, .int 6), (2, .ref 75), (1, .ref 0), (0, .ref x_scr)], [], x_h0, 98, 10728)) rfl ?_
      refine x_R.steps 1 (c' := (2377, [(3, .int 6), (2, .ref 75), (1, .ref 0), (0, .ref x_scr)], [.int 1], x_h0, 98, 10728)) rfl ?_
      exact x_R.ret (v := some (.int 1)) rfl x_fin
    · have g2 := mt (x_lg_lt (C := 0) (by decide)).mpr h2
      exfalso; omega
  · have g1 := mt (x_i_lt (C := 0) (by decide)).mpr h1
    exfalso; omega
set_option maxRecDepth 100000 in
set_option maxHeartbeats 4000000 in
theorem x_c66_4 (xs : Nat → Int32) (f0 : (xs 1).toInt > 2) : x_R x_mt (some (6, xs)) 13 M_law (2168, [(3, .int 0), (2, .ref 75), (1, .ref 0), (0, .ref x_scr)], [], x_h0, 98, 10728) x_P := by
  refine x_R.steps 5 (c' := (2173, [(3, .int 0), (2, .ref 75), (1, .ref 0), (0, .ref x_scr)], [.int 1, .ref x_scr, .ref 0], x_h0, 98, 10728)) rfl ?_
  refine x_R.steps 1 (c' := (2174, [(3, .int 0), (2, .ref 75), (1, .ref 0), (0, .ref x_scr)], [.int (xs 1), .ref 0], x_h0, 98, 10728)) rfl ?_
  refine x_R.call (a := 178) (vs := [.ref 0, .int (xs 1)]) (rest := []) (M' := M_cX11_back) rfl rfl rfl ?_
  refine x_R.steps 1 (c' := (1, [(0, .ref 0), (1, .int (xs 1))], [.int (xs 1)], x_h0, 0, 0)) rfl ?_
  refine x_R.ite (p := (xs 1) < (0 : Int32)) (c1 := (9, [(0, .ref 0), (1, .int (xs 1))], [], x_h0, 0, 0)) (c2 := (4, [(0, .ref 0), (1, .int (xs 1))], [], x_h0, 0, 0)) rfl (fun h1 => ?_) (fun h1 => ?_)
  · have g1 := (x_i_lt (C := 0) (by decide)).mp h1
    exfalso; omega
  · have g1 := mt (x_i_lt (C := 0) (by decide)).mpr h1
    refine x_R.steps 2 (c' := (6, [(0, .ref 0), (1, .int (xs 1))], [.int 3, .int (xs 1)], x_h0, 0, 0)) rfl ?_
    refine x_R.ite (p := (xs 1) < (3 : Int32)) (c1 := (12, [(0, .ref 0), (1, .int (xs 1))], [], x_h0, 0, 0)) (c2 := (9, [(0, .ref 0), (1, .int (xs 1))], [], x_h0, 0, 0)) rfl (fun h2 => ?_) (fun h2 => ?_)
    · have g2 := (x_i_lt (C := 3) (by decide)).mp h2
      exfalso; omega
    · have g2 := mt (x_i_lt (C := 3) (by decide)).mpr h2
      refine x_R.steps 1 (c' := (11, [(0, .ref 0), (1, .int (xs 1))], [.int (-2)], x_h0, 0, 0)) rfl ?_
      refine x_R.ret (v := some (.int (-2))) rfl ?_
      refine x_R.steps 0 (c' := (2177, [(3, .int 0), (2, .ref 75), (1, .ref 0), (0, .ref x_scr)], [.int (-2)], x_h0, 98, 10728)) rfl ?_
      refine x_R.steps 5 (c' := (2182, [(3, .int 0), (2, .ref 75), (1, .ref 0), (0, .ref x_scr)], [.int 1, .ref x_scr, .ref 75, .int (-2)], x_h0, 98, 10728)) rfl ?_
      refine x_R.steps 1 (c' := (2183, [(3, .int 0), (2, .ref 75), (1, .ref 0), (0, .ref x_scr)], [.int (xs 1), .ref 75, .int (-2)], x_h0, 98, 10728)) rfl ?_
      refine x_R.call (a := 198) (vs := [.ref 75, .int (xs 1)]) (rest := [.int (-2)]) (M' := M_cX12_back) rfl rfl rfl ?_
      refine x_R.steps 4 (c' := (6, [(0, .ref 75), (1, .int (xs 1))], [.long 2, .long 0, .long ((xs 1)).toInt64], x_h0, 0, 0)) rfl ?_
      refine x_R.call (a := 196) (vs := [.long ((xs 1)).toInt64, .long 0, .long 2]) (rest := []) (M' := M_cX12_in) rfl rfl rfl ?_
      refine x_R.steps 3 (c' := (3, [(0, .long ((xs 1)).toInt64), (2, .long 0), (4, .long 2)], [.int (lg_cmp ((xs 1)).toInt64 0)], x_h0, 0, 0)) rfl ?_
      refine x_R.ite (p := (lg_cmp ((xs 1)).toInt64 0) < (0 : Int32)) (c1 := (17, [(0, .long ((xs 1)).toInt64), (2, .long 0), (4, .long 2)], [], x_h0, 0, 0)) (c2 := (6, [(0, .long ((xs 1)).toInt64), (2, .long 0), (4, .long 2)], [], x_h0, 0, 0)) rfl (fun h3 => ?_) (fun h3 => ?_)
      · have g3 := (x_lg_lt (C := 0) (by decide)).mp h3
        exfalso; omega
      · have g3 := mt (x_lg_lt (C := 0) (by decide)).mpr h3
        refine x_R.steps 3 (c' := (10, [(0, .long ((xs 1)).toInt64), (2, .long 0), (4, .long 2)], [.int (lg_cmp ((xs 1)).toInt64 2)], x_h0, 0, 0)) rfl ?_
        refine x_R.ite (p := (0 : Int32) < (lg_cmp ((xs 1)).toInt64 2)) (c1 := (17, [(0, .long ((xs 1)).toInt64), (2, .long 0), (4, .long 2)], [], x_h0, 0, 0)) (c2 := (13, [(0, .long ((xs 1)).toInt64), (2, .long 0), (4, .long 2)], [], x_h0, 0, 0)) rfl (fun h4 => ?_) (fun h4 => ?_)
        · have g4 := (x_lg_gt (C := 2) (by decide)).mp h4
          refine x_R.steps 1 (c' := (18, [(0, .long ((xs 1)).toInt64), (2, .long 0), (4, .long 2)], [.int 0], x_h0, 0, 0)) rfl ?_
          refine x_R.ret (v := some (.int 0)) rfl ?_
          refine x_R.steps 0 (c' := (9, [(0, .ref 75), (1, .int (xs 1))], [.int 0], x_h0, 0, 0)) rfl ?_
          refine x_R.steps 1 (c' := (12, [(0, .ref 75), (1, .int (xs 1))], [], x_h0, 0, 0)) rfl ?_
          refine x_R.steps 1 (c' := (14, [(0, .ref 75), (1, .int (xs 1))], [.int (-2)], x_h0, 0, 0)) rfl ?_
          refine x_R.ret (v := some (.int (-2))) rfl ?_
          refine x_R.steps 0 (c' := (2186, [(3, .int 0), (2, .ref 75), (1, .ref 0), (0, .ref x_scr)], [.int (-2), .int (-2)], x_h0, 98, 10728)) rfl ?_
          refine x_R.steps 1 (c' := (2370, [(3, .int 0), (2, .ref 75), (1, .ref 0), (0, .ref x_scr)], [], x_h0, 98, 10728)) rfl ?_
          refine x_R.steps 7 (c' := (24, [(3, .int 6), (2, .ref 75), (1, .ref 0), (0, .ref x_scr)], [.int 0, .int 6], x_h0, 98, 10728)) rfl ?_
          refine x_R.steps 1 (c' := (2376, [(3, .int 6), (2, .ref 75), (1, .ref 0), (0, .ref x_scr)], [], x_h0, 98, 10728)) rfl ?_
          refine x_R.steps 1 (c' := (2377, [(3, .int 6), (2, .ref 75), (1, .ref 0), (0, .ref x_scr)], [.int 1], x_h0, 98, 10728)) rfl ?_
          exact x_R.ret (v := some (.int 1)) rfl x_fin
        · have g4 := mt (x_lg_gt (C := 2) (by decide)).mpr h4
          exfalso; omega
set_option maxRecDepth 100000 in
set_option maxHeartbeats 4000000 in
theorem x_c68_0 (xs : Nat → Int32)  : x_R x_mt (some (6, (x_ov 1 0 xs))) 13 M_law (2234, [(3, .int 0), (2, .ref 75), (1, .ref 0), (0, .ref x_scr)], [], x_h0, 98, 10728) x_P := by
  refine x_R.steps 5 (c' := (2239, [(3, .int 0), (2, .ref 75), (1, .ref 0), (0, .ref x_scr)], [.int 1, .ref x_scr, .ref 0], x_h0, 98, 10728)) rfl ?_
  refine x_R.steps 1 (c' := (2240, [(3, .int 0), (2, .ref 75), (1, .ref 0), (0, .ref x_scr)], [.int 0, .ref 0], x_h0, 98, 10728)) rfl ?_
  refine x_R.steps 4 (c' := (2244, [(3, .int 0), (2, .ref 75), (1, .ref 0), (0, .ref x_scr)], [.int 2, .ref x_scr, .int 0, .ref 0], x_h0, 98, 10728)) rfl ?_
  refine x_R.steps 1 (c' := (2245, [(3, .int 0), (2, .ref 75), (1, .ref 0), (0, .ref x_scr)], [.int (xs 2), .int 0, .ref 0], x_h0, 98, 10728)) rfl ?_
  refine x_R.steps 4 (c' := (2249, [(3, .int 0), (2, .ref 75), (1, .ref 0), (0, .ref x_scr)], [.int 3, .ref x_scr, .int (xs 2), .int 0, .ref 0], x_h0, 98, 10728)) rfl ?_
  refine x_R.steps 1 (c' := (2250, [(3, .int 0), (2, .ref 75), (1, .ref 0), (0, .ref x_scr)], [.int (xs 3), .int (xs 2), .int 0, .ref 0], x_h0, 98, 10728)) rfl ?_
  refine x_R.steps 7 (c' := (2258, [(3, .int 0), (2, .ref 75), (1, .ref 0), (0, .ref x_scr)], [.int 4, .ref x_scr, .long (((xs 3)).toInt64 <<< ((32 : Int32).toInt64 &&& 63)), .int (xs 2), .int 0, .ref 0], x_h0, 98, 10728)) rfl ?_
  refine x_R.steps 1 (c' := (2259, [(3, .int 0), (2, .ref 75), (1, .ref 0), (0, .ref x_scr)], [.int (xs 4), .long (((xs 3)).toInt64 <<< ((32 : Int32).toInt64 &&& 63)), .int (xs 2), .int 0, .ref 0], x_h0, 98, 10728)) rfl ?_
  refine x_R.steps 4 (c' := (2265, [(3, .int 0), (2, .ref 75), (1, .ref 0), (0, .ref x_scr)], [.long ((((xs 3)).toInt64 <<< ((32 : Int32).toInt64 &&& 63)) ||| (((xs 4)).toInt64 &&& 4294967295)), .int (xs 2), .int 0, .ref 0], x_h0, 98, 10728)) rfl ?_
  refine x_R.call (a := 180) (vs := [.ref 0, .int 0, .int (xs 2), .long ((((xs 3)).toInt64 <<< ((32 : Int32).toInt64 &&& 63)) ||| (((xs 4)).toInt64 &&& 4294967295))]) (rest := []) (M' := M_cX11_write) rfl rfl rfl ?_
  refine x_R.steps 1 (c' := (1, [(0, .ref 0), (1, .int 0), (2, .int (xs 2)), (3, .long ((((xs 3)).toInt64 <<< ((32 : Int32).toInt64 &&& 63)) ||| (((xs 4)).toInt64 &&& 4294967295)))], [.int 0], x_h0, 0, 0)) rfl ?_
  refine x_R.call (a := 182) (vs := [.int 0]) (rest := []) (M' := M_cX11_isSlot) rfl rfl rfl ?_
  refine x_R.steps 1 (c' := (1, [(0, .int 0)], [.int 0], x_h0, 0, 0)) rfl ?_
  refine x_R.steps 1 (c' := (4, [(0, .int 0)], [], x_h0, 0, 0)) rfl ?_
  refine x_R.steps 2 (c' := (6, [(0, .int 0)], [.int 4, .int 0], x_h0, 0, 0)) rfl ?_
  refine x_R.steps 1 (c' := (9, [(0, .int 0)], [], x_h0, 0, 0)) rfl ?_
  refine x_R.steps 2 (c' := (14, [(0, .int 0)], [.int 1], x_h0, 0, 0)) rfl ?_
  refine x_R.ret (v := some (.int 1)) rfl ?_
  refine x_R.steps 0 (c' := (4, [(0, .ref 0), (1, .int 0), (2, .int (xs 2)), (3, .long ((((xs 3)).toInt64 <<< ((32 : Int32).toInt64 &&& 63)) ||| (((xs 4)).toInt64 &&& 4294967295)))], [.int 1], x_h0, 0, 0)) rfl ?_
  refine x_R.steps 1 (c' := (10, [(0, .ref 0), (1, .int 0), (2, .int (xs 2)), (3, .long ((((xs 3)).toInt64 <<< ((32 : Int32).toInt64 &&& 63)) ||| (((xs 4)).toInt64 &&& 4294967295)))], [], x_h0, 0, 0)) rfl ?_
  refine x_R.steps 3 (c' := (15, [(0, .ref 0), (1, .int 0), (2, .int (xs 2)), (3, .long ((((xs 3)).toInt64 <<< ((32 : Int32).toInt64 &&& 63)) ||| (((xs 4)).toInt64 &&& 4294967295)))], [.int 0, .ref 42], x_h0, 0, 0)) rfl ?_
  refine x_R.steps 1 (c' := (16, [(0, .ref 0), (1, .int 0), (2, .int (xs 2)), (3, .long ((((xs 3)).toInt64 <<< ((32 : Int32).toInt64 &&& 63)) ||| (((xs 4)).toInt64 &&& 4294967295)))], [.ref 67], x_h0, 0, 0)) rfl ?_
  refine x_R.call (a := 91) (vs := [.ref 67]) (rest := []) (M' := M_cX8_isMade) rfl rfl rfl ?_
  refine x_R.steps 2 (c' := (4, [(0, .ref 67)], [.int (-1)], x_h0, 0, 0)) rfl ?_
  refine x_R.steps 1 (c' := (11, [(0, .ref 67)], [], x_h0, 0, 0)) rfl ?_
  refine x_R.steps 1 (c' := (12, [(0, .ref 67)], [.int 0], x_h0, 0, 0)) rfl ?_
  refine x_R.ret (v := some (.int 0)) rfl ?_
  refine x_R.steps 0 (c' := (19, [(0, .ref 0), (1, .int 0), (2, .int (xs 2)), (3, .long ((((xs 3)).toInt64 <<< ((32 : Int32).toInt64 &&& 63)) ||| (((xs 4)).toInt64 &&& 4294967295)))], [.int 0], x_h0, 0, 0)) rfl ?_
  refine x_R.steps 1 (c' := (22, [(0, .ref 0), (1, .int 0), (2, .int (xs 2)), (3, .long ((((xs 3)).toInt64 <<< ((32 : Int32).toInt64 &&& 63)) ||| (((xs 4)).toInt64 &&& 4294967295)))], [], x_h0, 0, 0)) rfl ?_
  refine x_R.steps 1 (c' := (24, [(0, .ref 0), (1, .int 0), (2, .int (xs 2)), (3, .long ((((xs 3)).toInt64 <<< ((32 : Int32).toInt64 &&& 63)) ||| (((xs 4)).toInt64 &&& 4294967295)))], [.int (-6)], x_h0, 0, 0)) rfl ?_
  refine x_R.ret (v := some (.int (-6))) rfl ?_
  refine x_R.steps 0 (c' := (2268, [(3, .int 0), (2, .ref 75), (1, .ref 0), (0, .ref x_scr)], [.int (-6)], x_h0, 98, 10728)) rfl ?_
  refine x_R.steps 5 (c' := (2273, [(3, .int 0), (2, .ref 75), (1, .ref 0), (0, .ref x_scr)], [.int 1, .ref x_scr, .ref 75, .int (-6)], x_h0, 98, 10728)) rfl ?_
  refine x_R.steps 1 (c' := (2274, [(3, .int 0), (2, .ref 75), (1, .ref 0), (0, .ref x_scr)], [.int 0, .ref 75, .int (-6)], x_h0, 98, 10728)) rfl ?_
  refine x_R.steps 4 (c' := (2278, [(3, .int 0), (2, .ref 75), (1, .ref 0), (0, .ref x_scr)], [.int 2, .ref x_scr, .int 0, .ref 75, .int (-6)], x_h0, 98, 10728)) rfl ?_
  refine x_R.steps 1 (c' := (2279, [(3, .int 0), (2, .ref 75), (1, .ref 0), (0, .ref x_scr)], [.int (xs 2), .int 0, .ref 75, .int (-6)], x_h0, 98, 10728)) rfl ?_
  refine x_R.steps 4 (c' := (2283, [(3, .int 0), (2, .ref 75), (1, .ref 0), (0, .ref x_scr)], [.int 3, .ref x_scr, .int (xs 2), .int 0, .ref 75, .int (-6)], x_h0, 98, 10728)) rfl ?_
  refine x_R.steps 1 (c' := (2284, [(3, .int 0), (2, .ref 75), (1, .ref 0), (0, .ref x_scr)], [.int (xs 3), .int (xs 2), .int 0, .ref 75, .int (-6)], x_h0, 98, 10728)) rfl ?_
  refine x_R.steps 7 (c' := (2292, [(3, .int 0), (2, .ref 75), (1, .ref 0), (0, .ref x_scr)], [.int 4, .ref x_scr, .long (((xs 3)).toInt64 <<< ((32 : Int32).toInt64 &&& 63)), .int (xs 2), .int 0, .ref 75, .int (-6)], x_h0, 98, 10728)) rfl ?_
  refine x_R.steps 1 (c' := (2293, [(3, .int 0), (2, .ref 75), (1, .ref 0), (0, .ref x_scr)], [.int (xs 4), .long (((xs 3)).toInt64 <<< ((32 : Int32).toInt64 &&& 63)), .int (xs 2), .int 0, .ref 75, .int (-6)], x_h0, 98, 10728)) rfl ?_
  refine x_R.steps 4 (c' := (2299, [(3, .int 0), (2, .ref 75), (1, .ref 0), (0, .ref x_scr)], [.long ((((xs 3)).toInt64 <<< ((32 : Int32).toInt64 &&& 63)) ||| (((xs 4)).toInt64 &&& 4294967295)), .int (xs 2), .int 0, .ref 75, .int (-6)], x_h0, 98, 10728)) rfl ?_
  refine x_R.call (a := 354) (vs := [.ref 75, .int 0, .int (xs 2), .long ((((xs 3)).toInt64 <<< ((32 : Int32).toInt64 &&& 63)) ||| (((xs 4)).toInt64 &&& 4294967295))]) (rest := [.int (-6)]) (M' := M_cX12_write) rfl rfl rfl ?_
  refine x_R.steps 1 (c' := (1, [(0, .ref 75), (1, .int 0), (2, .int (xs 2)), (3, .long ((((xs 3)).toInt64 <<< ((32 : Int32).toInt64 &&& 63)) ||| (((xs 4)).toInt64 &&& 4294967295)))], [.int 0], x_h0, 0, 0)) rfl ?_
  refine x_R.call (a := 351) (vs := [.int 0]) (rest := []) (M' := M_cX12_isSlot) rfl rfl rfl ?_
  refine x_R.steps 4 (c' := (6, [(0, .int 0)], [.long 3, .long 0, .long 0], x_h0, 0, 0)) rfl ?_
  refine x_R.call (a := 196) (vs := [.long 0, .long 0, .long 3]) (rest := []) (M' := M_cX12_in) rfl rfl rfl ?_
  refine x_R.steps 3 (c' := (3, [(0, .long 0), (2, .long 0), (4, .long 3)], [.int 0], x_h0, 0, 0)) rfl ?_
  refine x_R.steps 1 (c' := (6, [(0, .long 0), (2, .long 0), (4, .long 3)], [], x_h0, 0, 0)) rfl ?_
  refine x_R.steps 3 (c' := (10, [(0, .long 0), (2, .long 0), (4, .long 3)], [.int (-1)], x_h0, 0, 0)) rfl ?_
  refine x_R.steps 1 (c' := (13, [(0, .long 0), (2, .long 0), (4, .long 3)], [], x_h0, 0, 0)) rfl ?_
  refine x_R.steps 2 (c' := (18, [(0, .long 0), (2, .long 0), (4, .long 3)], [.int 1], x_h0, 0, 0)) rfl ?_
  refine x_R.ret (v := some (.int 1)) rfl ?_
  refine x_R.steps 0 (c' := (9, [(0, .int 0)], [.int 1], x_h0, 0, 0)) rfl ?_
  refine x_R.ret (v := some (.int 1)) rfl ?_
  refine x_R.steps 0 (c' := (4, [(0, .ref 75), (1, .int 0), (2, .int (xs 2)), (3, .long ((((xs 3)).toInt64 <<< ((32 : Int32).toInt64 &&& 63)) ||| (((xs 4)).toInt64 &&& 4294967295)))], [.int 1], x_h0, 0, 0)) rfl ?_
  refine x_R.steps 1 (c' := (10, [(0, .ref 75), (1, .int 0), (2, .int (xs 2)), (3, .long ((((xs 3)).toInt64 <<< ((32 : Int32).toInt64 &&& 63)) ||| (((xs 4)).toInt64 &&& 4294967295)))], [], x_h0, 0, 0)) rfl ?_
  refine x_R.steps 3 (c' := (15, [(0, .ref 75), (1, .int 0), (2, .int (xs 2)), (3, .long ((((xs 3)).toInt64 <<< ((32 : Int32).toInt64 &&& 63)) ||| (((xs 4)).toInt64 &&& 4294967295)))], [.int 0, .ref 94], x_h0, 0, 0)) rfl ?_
  refine x_R.steps 1 (c' := (16, [(0, .ref 75), (1, .int 0), (2, .int (xs 2)), (3, .long ((((xs 3)).toInt64 <<< ((32 : Int32).toInt64 &&& 63)) ||| (((xs 4)).toInt64 &&& 4294967295)))], [.int (-1)], x_h0, 0, 0)) rfl ?_
  refine x_R.steps 1 (c' := (17, [(0, .ref 75), (1, .int 0), (2, .int (xs 2)), (3, .long ((((xs 3)).toInt64 <<< ((32 : Int32).toInt64 &&& 63)) ||| (((xs 4)).toInt64 &&& 4294967295)))], [.int (-1), .int (-1)], x_h0, 0, 0)) rfl ?_
  refine x_R.steps 1 (c' := (20, [(0, .ref 75), (1, .int 0), (2, .int (xs 2)), (3, .long ((((xs 3)).toInt64 <<< ((32 : Int32).toInt64 &&& 63)) ||| (((xs 4)).toInt64 &&& 4294967295)))], [], x_h0, 0, 0)) rfl ?_
  refine x_R.steps 1 (c' := (22, [(0, .ref 75), (1, .int 0), (2, .int (xs 2)), (3, .long ((((xs 3)).toInt64 <<< ((32 : Int32).toInt64 &&& 63)) ||| (((xs 4)).toInt64 &&& 4294967295)))], [.int (-6)], x_h0, 0, 0)) rfl ?_
  refine x_R.ret (v := some (.int (-6))) rfl ?_
  refine x_R.steps 0 (c' := (2302, [(3, .int 0), (2, .ref 75), (1, .ref 0), (0, .ref x_scr)], [.int (-6), .int (-6)], x_h0, 98, 10728)) rfl ?_
  refine x_R.steps 1 (c' := (2370, [(3, .int 0), (2, .ref 75), (1, .ref 0), (0, .ref x_scr)], [], x_h0, 98, 10728)) rfl ?_
  refine x_R.steps 7 (c' := (24, [(3, .int 6), (2, .ref 75), (1, .ref 0), (0, .ref x_scr)], [.int 0, .int 6], x_h0, 98, 10728)) rfl ?_
  refine x_R.steps 1 (c' := (2376, [(3, .int 6), (2, .ref 75), (1, .ref 0), (0, .ref x_scr)], [], x_h0, 98, 10728)) rfl ?_
  refine x_R.steps 1 (c' := (2377, [(3, .int 6), (2, .ref 75), (1, .ref 0), (0, .ref x_scr)], [.int 1], x_h0, 98, 10728)) rfl ?_
  exact x_R.ret (v := some (.int 1)) rfl x_fin
