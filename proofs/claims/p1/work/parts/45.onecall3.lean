set_option maxRecDepth 100000 in
set_option maxHeartbeats 4000000 in
theorem x_c39_0 (xs : Nat → Int32)  : x_R x_mt (some (6, xs)) 13 M_law (1417, [(3, .int 0), (2, .ref 75), (1, .ref 0), (0, .ref x_scr)], [], x_h0, 98, 10728) x_P := by
  refine x_R.steps 5 (c' := (1422, [(3, .int 0), (2, .ref 75), (1, .ref 0), (0, .ref x_scr)], [.int 1, .ref x_scr, .ref 0], x_h0, 98, 10728)) rfl ?_
  refine x_R.steps 1 (c' := (1423, [(3, .int 0), (2, .ref 75), (1, .ref 0), (0, .ref x_scr)], [.int (xs 1), .ref 0], x_h0, 98, 10728)) rfl ?_
  refine x_R.call (a := 153) (vs := [.ref 0, .int (xs 1)]) (rest := []) (M' := M_cX11_next) rfl rfl rfl ?_
  refine x_R.steps 2 (c' := (2, [(0, .ref 0), (1, .int (xs 1))], [.int (xs 1), .ref 0], x_h0, 0, 0)) rfl ?_
  refine x_R.call (a := 193) (vs := [.ref 0, .int (xs 1)]) (rest := []) (M' := M_cX11_whyUnheard) rfl rfl rfl ?_
  refine x_R.steps 1 (c' := (1, [(0, .ref 0), (1, .int (xs 1))], [.int (xs 1)], x_h0, 0, 0)) rfl ?_
  refine x_R.call (a := 182) (vs := [.int (xs 1)]) (rest := []) (M' := M_cX11_isSlot) rfl rfl rfl ?_
  refine x_R.steps 1 (c' := (1, [(0, .int (xs 1))], [.int (xs 1)], x_h0, 0, 0)) rfl ?_
  refine x_R.ite (p := (xs 1) < (0 : Int32)) (c1 := (13, [(0, .int (xs 1))], [], x_h0, 0, 0)) (c2 := (4, [(0, .int (xs 1))], [], x_h0, 0, 0)) rfl (fun h1 => ?_) (fun h1 => ?_)
  · have g1 := (x_i_lt (C := 0) (by decide)).mp h1
    refine x_R.steps 1 (c' := (14, [(0, .int (xs 1))], [.int 0], x_h0, 0, 0)) rfl ?_
    refine x_R.ret (v := some (.int 0)) rfl ?_
    refine x_R.steps 0 (c' := (4, [(0, .ref 0), (1, .int (xs 1))], [.int 0], x_h0, 0, 0)) rfl ?_
    refine x_R.steps 1 (c' := (17, [(0, .ref 0), (1, .int (xs 1))], [], x_h0, 0, 0)) rfl ?_
    refine x_R.steps 1 (c' := (19, [(0, .ref 0), (1, .int (xs 1))], [.int (-2)], x_h0, 0, 0)) rfl ?_
    refine x_R.ret (v := some (.int (-2))) rfl ?_
    refine x_R.steps 0 (c' := (5, [(0, .ref 0), (1, .int (xs 1))], [.int (-2)], x_h0, 0, 0)) rfl ?_
    refine x_R.steps 2 (c' := (7, [(2, .int (-2)), (0, .ref 0), (1, .int (xs 1))], [.int (-2)], x_h0, 0, 0)) rfl ?_
    refine x_R.steps 1 (c' := (10, [(2, .int (-2)), (0, .ref 0), (1, .int (xs 1))], [], x_h0, 0, 0)) rfl ?_
    refine x_R.steps 1 (c' := (11, [(2, .int (-2)), (0, .ref 0), (1, .int (xs 1))], [.int (-2)], x_h0, 0, 0)) rfl ?_
    refine x_R.ret (v := some (.int (-2))) rfl ?_
    refine x_R.steps 0 (c' := (1426, [(3, .int 0), (2, .ref 75), (1, .ref 0), (0, .ref x_scr)], [.int (-2)], x_h0, 98, 10728)) rfl ?_
    refine x_R.steps 5 (c' := (1431, [(3, .int 0), (2, .ref 75), (1, .ref 0), (0, .ref x_scr)], [.int 1, .ref x_scr, .ref 75, .int (-2)], x_h0, 98, 10728)) rfl ?_
    refine x_R.steps 1 (c' := (1432, [(3, .int 0), (2, .ref 75), (1, .ref 0), (0, .ref x_scr)], [.int (xs 1), .ref 75, .int (-2)], x_h0, 98, 10728)) rfl ?_
    refine x_R.call (a := 308) (vs := [.ref 75, .int (xs 1)]) (rest := [.int (-2)]) (M' := M_cX12_next) rfl rfl rfl ?_
    refine x_R.steps 2 (c' := (2, [(0, .ref 75), (1, .int (xs 1))], [.int (xs 1), .ref 75], x_h0, 0, 0)) rfl ?_
    refine x_R.call (a := 299) (vs := [.ref 75, .int (xs 1)]) (rest := []) (M' := M_cX12_asksHeard) rfl rfl rfl ?_
    refine x_R.steps 1 (c' := (1, [(0, .ref 75), (1, .int (xs 1))], [.int (xs 1)], x_h0, 0, 0)) rfl ?_
    refine x_R.call (a := 351) (vs := [.int (xs 1)]) (rest := []) (M' := M_cX12_isSlot) rfl rfl rfl ?_
    refine x_R.steps 4 (c' := (6, [(0, .int (xs 1))], [.long 3, .long 0, .long ((xs 1)).toInt64], x_h0, 0, 0)) rfl ?_
    refine x_R.call (a := 196) (vs := [.long ((xs 1)).toInt64, .long 0, .long 3]) (rest := []) (M' := M_cX12_in) rfl rfl rfl ?_
    refine x_R.steps 3 (c' := (3, [(0, .long ((xs 1)).toInt64), (2, .long 0), (4, .long 3)], [.int (lg_cmp ((xs 1)).toInt64 0)], x_h0, 0, 0)) rfl ?_
    refine x_R.ite (p := (lg_cmp ((xs 1)).toInt64 0) < (0 : Int32)) (c1 := (17, [(0, .long ((xs 1)).toInt64), (2, .long 0), (4, .long 3)], [], x_h0, 0, 0)) (c2 := (6, [(0, .long ((xs 1)).toInt64), (2, .long 0), (4, .long 3)], [], x_h0, 0, 0)) rfl (fun h2 => ?_) (fun h2 => ?_)
    · have g2 := (x_lg_lt (C := 0) (by decide)).mp h2
      refine x_R.steps 1 (c' := (18, [(0, .long ((xs 1)).toInt64), (2, .long 0), (4, .long 3)], [.int 0], x_h0, 0, 0)) rfl ?_
      refine x_R.ret (v := some (.int 0)) rfl ?_
      refine x_R.steps 0 (c' := (9, [(0, .int (xs 1))], [.int 0], x_h0, 0, 0)) rfl ?_
      refine x_R.ret (v := some (.int 0)) rfl ?_
      refine x_R.steps 0 (c' := (4, [(0, .ref 75), (1, .int (xs 1))], [.int 0], x_h0, 0, 0)) rfl ?_
      refine x_R.steps 1 (c' := (14, [(0, .ref 75), (1, .int (xs 1))], [], x_h0, 0, 0)) rfl ?_
      refine x_R.steps 1 (c' := (16, [(0, .ref 75), (1, .int (xs 1))], [.int (-2)], x_h0, 0, 0)) rfl ?_
      refine x_R.ret (v := some (.int (-2))) rfl ?_
      refine x_R.steps 0 (c' := (5, [(0, .ref 75), (1, .int (xs 1))], [.int (-2)], x_h0, 0, 0)) rfl ?_
      refine x_R.steps 2 (c' := (7, [(2, .int (-2)), (0, .ref 75), (1, .int (xs 1))], [.int (-2)], x_h0, 0, 0)) rfl ?_
      refine x_R.steps 1 (c' := (10, [(2, .int (-2)), (0, .ref 75), (1, .int (xs 1))], [], x_h0, 0, 0)) rfl ?_
      refine x_R.steps 1 (c' := (11, [(2, .int (-2)), (0, .ref 75), (1, .int (xs 1))], [.int (-2)], x_h0, 0, 0)) rfl ?_
      refine x_R.ret (v := some (.int (-2))) rfl ?_
      refine x_R.steps 0 (c' := (1435, [(3, .int 0), (2, .ref 75), (1, .ref 0), (0, .ref x_scr)], [.int (-2), .int (-2)], x_h0, 98, 10728)) rfl ?_
      refine x_R.steps 1 (c' := (2370, [(3, .int 0), (2, .ref 75), (1, .ref 0), (0, .ref x_scr)], [], x_h0, 98, 10728)) rfl ?_
      refine x_R.steps 7 (c' := (24, [(3, .int 6), (2, .ref 75), (1, .ref 0), (0, .ref x_scr)], [.int 0, .int 6], x_h0, 98, 10728)) rfl ?_
      refine x_R.steps 1 (c' := (2376, [(3, .int 6), (2, .ref 75), (1, .ref 0), (0, .ref x_scr)], [], x_h0, 98, 10728)) rfl ?_
      refine x_R.steps 1 (c' := (2377, [(3, .int 6), (2, .ref 75), (1, .ref 0), (0, .ref x_scr)], [.int 1], x_h0, 98, 10728)) rfl ?_
      exact x_R.ret (v := some (.int 1)) rfl x_fin
    · have g2 := mt (x_lg_lt (C := 0) (by decide)).mpr h2
      exfalso; omega
  · have g1 := mt (x_i_lt (C := 0) (by decide)).mpr h1
    refine x_R.steps 2 (c' := (6, [(0, .int (xs 1))], [.int 4, .int (xs 1)], x_h0, 0, 0)) rfl ?_
    refine x_R.ite (p := (4 : Int32) ≤ (xs 1)) (c1 := (13, [(0, .int (xs 1))], [], x_h0, 0, 0)) (c2 := (9, [(0, .int (xs 1))], [], x_h0, 0, 0)) rfl (fun h3 => ?_) (fun h3 => ?_)
    · have g3 := (x_i_ge (C := 4) (by decide)).mp h3
      refine x_R.steps 1 (c' := (14, [(0, .int (xs 1))], [.int 0], x_h0, 0, 0)) rfl ?_
      refine x_R.ret (v := some (.int 0)) rfl ?_
      refine x_R.steps 0 (c' := (4, [(0, .ref 0), (1, .int (xs 1))], [.int 0], x_h0, 0, 0)) rfl ?_
      refine x_R.steps 1 (c' := (17, [(0, .ref 0), (1, .int (xs 1))], [], x_h0, 0, 0)) rfl ?_
      refine x_R.steps 1 (c' := (19, [(0, .ref 0), (1, .int (xs 1))], [.int (-2)], x_h0, 0, 0)) rfl ?_
      refine x_R.ret (v := some (.int (-2))) rfl ?_
      refine x_R.steps 0 (c' := (5, [(0, .ref 0), (1, .int (xs 1))], [.int (-2)], x_h0, 0, 0)) rfl ?_
      refine x_R.steps 2 (c' := (7, [(2, .int (-2)), (0, .ref 0), (1, .int (xs 1))], [.int (-2)], x_h0, 0, 0)) rfl ?_
      refine x_R.steps 1 (c' := (10, [(2, .int (-2)), (0, .ref 0), (1, .int (xs 1))], [], x_h0, 0, 0)) rfl ?_
      refine x_R.steps 1 (c' := (11, [(2, .int (-2)), (0, .ref 0), (1, .int (xs 1))], [.int (-2)], x_h0, 0, 0)) rfl ?_
      refine x_R.ret (v := some (.int (-2))) rfl ?_
      refine x_R.steps 0 (c' := (1426, [(3, .int 0), (2, .ref 75), (1, .ref 0), (0, .ref x_scr)], [.int (-2)], x_h0, 98, 10728)) rfl ?_
      refine x_R.steps 5 (c' := (1431, [(3, .int 0), (2, .ref 75), (1, .ref 0), (0, .ref x_scr)], [.int 1, .ref x_scr, .ref 75, .int (-2)], x_h0, 98, 10728)) rfl ?_
      refine x_R.steps 1 (c' := (1432, [(3, .int 0), (2, .ref 75), (1, .ref 0), (0, .ref x_scr)], [.int (xs 1), .ref 75, .int (-2)], x_h0, 98, 10728)) rfl ?_
      refine x_R.call (a := 308) (vs := [.ref 75, .int (xs 1)]) (rest := [.int (-2)]) (M' := M_cX12_next) rfl rfl rfl ?_
      refine x_R.steps 2 (c' := (2, [(0, .ref 75), (1, .int (xs 1))], [.int (xs 1), .ref 75], x_h0, 0, 0)) rfl ?_
      refine x_R.call (a := 299) (vs := [.ref 75, .int (xs 1)]) (rest := []) (M' := M_cX12_asksHeard) rfl rfl rfl ?_
      refine x_R.steps 1 (c' := (1, [(0, .ref 75), (1, .int (xs 1))], [.int (xs 1)], x_h0, 0, 0)) rfl ?_
      refine x_R.call (a := 351) (vs := [.int (xs 1)]) (rest := []) (M' := M_cX12_isSlot) rfl rfl rfl ?_
      refine x_R.steps 4 (c' := (6, [(0, .int (xs 1))], [.long 3, .long 0, .long ((xs 1)).toInt64], x_h0, 0, 0)) rfl ?_
      refine x_R.call (a := 196) (vs := [.long ((xs 1)).toInt64, .long 0, .long 3]) (rest := []) (M' := M_cX12_in) rfl rfl rfl ?_
      refine x_R.steps 3 (c' := (3, [(0, .long ((xs 1)).toInt64), (2, .long 0), (4, .long 3)], [.int (lg_cmp ((xs 1)).toInt64 0)], x_h0, 0, 0)) rfl ?_
      refine x_R.ite (p := (lg_cmp ((xs 1)).toInt64 0) < (0 : Int32)) (c1 := (17, [(0, .long ((xs 1)).toInt64), (2, .long 0), (4, .long 3)], [], x_h0, 0, 0)) (c2 := (6, [(0, .long ((xs 1)).toInt64), (2, .long 0), (4, .long 3)], [], x_h0, 0, 0)) rfl (fun h4 => ?_) (fun h4 => ?_)
      · have g4 := (x_lg_lt (C := 0) (by decide)).mp h4
        exfalso; omega
      · have g4 := mt (x_lg_lt (C := 0) (by decide)).mpr h4
        refine x_R.steps 3 (c' := (10, [(0, .long ((xs 1)).toInt64), (2, .long 0), (4, .long 3)], [.int (lg_cmp ((xs 1)).toInt64 3)], x_h0, 0, 0)) rfl ?_
        refine x_R.ite (p := (0 : Int32) < (lg_cmp ((xs 1)).toInt64 3)) (c1 := (17, [(0, .long ((xs 1)).toInt64), (2, .long 0), (4, .long 3)], [], x_h0, 0, 0)) (c2 := (13, [(0, .long ((xs 1)).toInt64), (2, .long 0), (4, .long 3)], [], x_h0, 0, 0)) rfl (fun h5 => ?_) (fun h5 => ?_)
        · have g5 := (x_lg_gt (C := 3) (by decide)).mp h5
          refine x_R.steps 1 (c' := (18, [(0, .long ((xs 1)).toInt64), (2, .long 0), (4, .long 3)], [.int 0], x_h0, 0, 0)) rfl ?_
          refine x_R.ret (v := some (.int 0)) rfl ?_
          refine x_R.steps 0 (c' := (9, [(0, .int (xs 1))], [.int 0], x_h0, 0, 0)) rfl ?_
          refine x_R.ret (v := some (.int 0)) rfl ?_
          refine x_R.steps 0 (c' := (4, [(0, .ref 75), (1, .int (xs 1))], [.int 0], x_h0, 0, 0)) rfl ?_
          refine x_R.steps 1 (c' := (14, [(0, .ref 75), (1, .int (xs 1))], [], x_h0, 0, 0)) rfl ?_
          refine x_R.steps 1 (c' := (16, [(0, .ref 75), (1, .int (xs 1))], [.int (-2)], x_h0, 0, 0)) rfl ?_
          refine x_R.ret (v := some (.int (-2))) rfl ?_
          refine x_R.steps 0 (c' := (5, [(0, .ref 75), (1, .int (xs 1))], [.int (-2)], x_h0, 0, 0)) rfl ?_
          refine x_R.steps 2 (c' := (7, [(2, .int (-2)), (0, .ref 75), (1, .int (xs 1))], [.int (-2)], x_h0, 0, 0)) rfl ?_
          refine x_R.steps 1 (c' := (10, [(2, .int (-2)), (0, .ref 75), (1, .int (xs 1))], [], x_h0, 0, 0)) rfl ?_
          refine x_R.steps 1 (c' := (11, [(2, .int (-2)), (0, .ref 75), (1, .int (xs 1))], [.int (-2)], x_h0, 0, 0)) rfl ?_
          refine x_R.ret (v := some (.int (-2))) rfl ?_
          refine x_R.steps 0 (c' := (1435, [(3, .int 0), (2, .ref 75), (1, .ref 0), (0, .ref x_scr)], [.int (-2), .int (-2)], x_h0, 98, 10728)) rfl ?_
          refine x_R.steps 1 (c' := (2370, [(3, .int 0), (2, .ref 75), (1, .ref 0), (0, .ref x_scr)], [], x_h0, 98, 10728)) rfl ?_
          refine x_R.steps 7 (c' := (24, [(3, .int 6), (2, .ref 75), (1, .ref 0), (0, .ref x_scr)], [.int 0, .int 6], x_h0, 98, 10728)) rfl ?_
          refine x_R.steps 1 (c' := (2376, [(3, .int 6), (2, .ref 75), (1, .ref 0), (0, .ref x_scr)], [], x_h0, 98, 10728)) rfl ?_
          refine x_R.steps 1 (c' := (2377, [(3, .int 6), (2, .ref 75), (1, .ref 0), (0, .ref x_scr)], [.int 1], x_h0, 98, 10728)) rfl ?_
          exact x_R.ret (v := some (.int 1)) rfl x_fin
        · have g5 := mt (x_lg_gt (C := 3) (by decide)).mpr h5
          exfalso; omega
    · have g3 := mt (x_i_ge (C := 4) (by decide)).mpr h3
      refine x_R.steps 2 (c' := (14, [(0, .int (xs 1))], [.int 1], x_h0, 0, 0)) rfl ?_
      refine x_R.ret (v := some (.int 1)) rfl ?_
      refine x_R.steps 0 (c' := (4, [(0, .ref 0), (1, .int (xs 1))], [.int 1], x_h0, 0, 0)) rfl ?_
      refine x_R.steps 1 (c' := (7, [(0, .ref 0), (1, .int (xs 1))], [], x_h0, 0, 0)) rfl ?_
      refine x_R.steps 2 (c' := (11, [(0, .ref 0), (1, .int (xs 1))], [.ref 1], x_h0, 0, 0)) rfl ?_
      refine x_R.call (a := 11) (vs := [.ref 1]) (rest := []) (M' := M_cX2_isTold) rfl rfl rfl ?_
      refine x_R.steps 2 (c' := (4, [(0, .ref 1)], [.int 0], x_h0, 0, 0)) rfl ?_
      refine x_R.steps 1 (c' := (11, [(0, .ref 1)], [], x_h0, 0, 0)) rfl ?_
      refine x_R.steps 1 (c' := (12, [(0, .ref 1)], [.int 0], x_h0, 0, 0)) rfl ?_
      refine x_R.ret (v := some (.int 0)) rfl ?_
      refine x_R.steps 0 (c' := (14, [(0, .ref 0), (1, .int (xs 1))], [.int 0], x_h0, 0, 0)) rfl ?_
      refine x_R.steps 1 (c' := (17, [(0, .ref 0), (1, .int (xs 1))], [], x_h0, 0, 0)) rfl ?_
      refine x_R.steps 1 (c' := (19, [(0, .ref 0), (1, .int (xs 1))], [.int (-2)], x_h0, 0, 0)) rfl ?_
      refine x_R.ret (v := some (.int (-2))) rfl ?_
      refine x_R.steps 0 (c' := (5, [(0, .ref 0), (1, .int (xs 1))], [.int (-2)], x_h0, 0, 0)) rfl ?_
      refine x_R.steps 2 (c' := (7, [(2, .int (-2)), (0, .ref 0), (1, .int (xs 1))], [.int (-2)], x_h0, 0, 0)) rfl ?_
      refine x_R.steps 1 (c' := (10, [(2, .int (-2)), (0, .ref 0), (1, .int (xs 1))], [], x_h0, 0, 0)) rfl ?_
      refine x_R.steps 1 (c' := (11, [(2, .int (-2)), (0, .ref 0), (1, .int (xs 1))], [.int (-2)], x_h0, 0, 0)) rfl ?_
      refine x_R.ret (v := some (.int (-2))) rfl ?_
      refine x_R.steps 0 (c' := (1426, [(3, .int 0), (2, .ref 75), (1, .ref 0), (0, .ref x_scr)], [.int (-2)], x_h0, 98, 10728)) rfl ?_
      refine x_R.steps 5 (c' := (1431, [(3, .int 0), (2, .ref 75), (1, .ref 0), (0, .ref x_scr)], [.int 1, .ref x_scr, .ref 75, .int (-2)], x_h0, 98, 10728)) rfl ?_
      refine x_R.steps 1 (c' := (1432, [(3, .int 0), (2, .ref 75), (1, .ref 0), (0, .ref x_scr)], [.int (xs 1), .ref 75, .int (-2)], x_h0, 98, 10728)) rfl ?_
      refine x_R.call (a := 308) (vs := [.ref 75, .int (xs 1)]) (rest := [.int (-2)]) (M' := M_cX12_next) rfl rfl rfl ?_
      refine x_R.steps 2 (c' := (2, [(0, .ref 75), (1, .int (xs 1))], [.int (xs 1), .ref 75], x_h0, 0, 0)) rfl ?_
      refine x_R.call (a := 299) (vs := [.ref 75, .int (xs 1)]) (rest := []) (M' := M_cX12_asksHeard) rfl rfl rfl ?_
      refine x_R.steps 1 (c' := (1, [(0, .ref 75), (1, .int (xs 1))], [.int (xs 1)], x_h0, 0, 0)) rfl ?_
      refine x_R.call (a := 351) (vs := [.int (xs 1)]) (rest := []) (M' := M_cX12_isSlot) rfl rfl rfl ?_
      refine x_R.steps 4 (c' := (6, [(0, .int (xs 1))], [.long 3, .long 0, .long ((xs 1)).toInt64], x_h0, 0, 0)) rfl ?_
      refine x_R.call (a := 196) (vs := [.long ((xs 1)).toInt64, .long 0, .long 3]) (rest := []) (M' := M_cX12_in) rfl rfl rfl ?_
      refine x_R.steps 3 (c' := (3, [(0, .long ((xs 1)).toInt64), (2, .long 0), (4, .long 3)], [.int (lg_cmp ((xs 1)).toInt64 0)], x_h0, 0, 0)) rfl ?_
      refine x_R.ite (p := (lg_cmp ((xs 1)).toInt64 0) < (0 : Int32)) (c1 := (17, [(0, .long ((xs 1)).toInt64), (2, .long 0), (4, .long 3)], [], x_h0, 0, 0)) (c2 := (6, [(0, .long ((xs 1)).toInt64), (2, .long 0), (4, .long 3)], [], x_h0, 0, 0)) rfl (fun h6 => ?_) (fun h6 => ?_)
      · have g6 := (x_lg_lt (C := 0) (by decide)).mp h6
        exfalso; omega
      · have g6 := mt (x_lg_lt (C := 0) (by decide)).mpr h6
        refine x_R.steps 3 (c' := (10, [(0, .long ((xs 1)).toInt64), (2, .long 0), (4, .long 3)], [.int (lg_cmp ((xs 1)).toInt64 3)], x_h0, 0, 0)) rfl ?_
        refine x_R.ite (p := (0 : Int32) < (lg_cmp ((xs 1)).toInt64 3)) (c1 := (17, [(0, .long ((xs 1)).toInt64), (2, .long 0), (4, .long 3)], [], x_h0, 0, 0)) (c2 := (13, [(0, .long ((xs 1)).toInt64), (2, .long 0), (4, .long 3)], [], x_h0, 0, 0)) rfl (fun h7 => ?_) (fun h7 => ?_)
        · have g7 := (x_lg_gt (C := 3) (by decide)).mp h7
          exfalso; omega
        · have g7 := mt (x_lg_gt (C := 3) (by decide)).mpr h7
          refine x_R.steps 2 (c' := (18, [(0, .long ((xs 1)).toInt64), (2, .long 0), (4, .long 3)], [.int 1], x_h0, 0, 0)) rfl ?_
          refine x_R.ret (v := some (.int 1)) rfl ?_
          refine x_R.steps 0 (c' := (9, [(0, .int (xs 1))], [.int 1], x_h0, 0, 0)) rfl ?_
          refine x_R.ret (v := some (.int 1)) rfl ?_
          refine x_R.steps 0 (c' := (4, [(0, .ref 75), (1, .int (xs 1))], [.int 1], x_h0, 0, 0)) rfl ?_
          refine x_R.steps 1 (c' := (7, [(0, .ref 75), (1, .int (xs 1))], [], x_h0, 0, 0)) rfl ?_
          refine x_R.steps 1 (c' := (8, [(0, .ref 75), (1, .int (xs 1))], [.ref 75], x_h0, 0, 0)) rfl ?_
          refine x_R.call (a := 199) (vs := [.ref 75]) (rest := []) (M' := M_cX12_isBoard) rfl rfl rfl ?_
          refine x_R.steps 3 (c' := (5, [(0, .ref 75)], [.int 0, .ref 76], x_h0, 0, 0)) rfl ?_
          refine x_R.steps 1 (c' := (6, [(0, .ref 75)], [.int 0], x_h0, 0, 0)) rfl ?_
          refine x_R.steps 1 (c' := (13, [(0, .ref 75)], [], x_h0, 0, 0)) rfl ?_
          refine x_R.steps 1 (c' := (14, [(0, .ref 75)], [.int 0], x_h0, 0, 0)) rfl ?_
          refine x_R.ret (v := some (.int 0)) rfl ?_
          refine x_R.steps 0 (c' := (11, [(0, .ref 75), (1, .int (xs 1))], [.int 0], x_h0, 0, 0)) rfl ?_
          refine x_R.steps 1 (c' := (14, [(0, .ref 75), (1, .int (xs 1))], [], x_h0, 0, 0)) rfl ?_
          refine x_R.steps 1 (c' := (16, [(0, .ref 75), (1, .int (xs 1))], [.int (-2)], x_h0, 0, 0)) rfl ?_
          refine x_R.ret (v := some (.int (-2))) rfl ?_
          refine x_R.steps 0 (c' := (5, [(0, .ref 75), (1, .int (xs 1))], [.int (-2)], x_h0, 0, 0)) rfl ?_
          refine x_R.steps 2 (c' := (7, [(2, .int (-2)), (0, .ref 75), (1, .int (xs 1))], [.int (-2)], x_h0, 0, 0)) rfl ?_
          refine x_R.steps 1 (c' := (10, [(2, .int (-2)), (0, .ref 75), (1, .int (xs 1))], [], x_h0, 0, 0)) rfl ?_
          refine x_R.steps 1 (c' := (11, [(2, .int (-2)), (0, .ref 75), (1, .int (xs 1))], [.int (-2)], x_h0, 0, 0)) rfl ?_
          refine x_R.ret (v := some (.int (-2))) rfl ?_
          refine x_R.steps 0 (c' := (1435, [(3, .int 0), (2, .ref 75), (1, .ref 0), (0, .ref x_scr)], [.int (-2), .int (-2)], x_h0, 98, 10728)) rfl ?_
          refine x_R.steps 1 (c' := (2370, [(3, .int 0), (2, .ref 75), (1, .ref 0), (0, .ref x_scr)], [], x_h0, 98, 10728)) rfl ?_
          refine x_R.steps 7 (c' := (24, [(3, .int 6), (2, .ref 75), (1, .ref 0), (0, .ref x_scr)], [.int 0, .int 6], x_h0, 98, 10728)) rfl ?_
          refine x_R.steps 1 (c' := (2376, [(3, .int 6), (2, .ref 75), (1, .ref 0), (0, .ref x_scr)], [], x_h0, 98, 10728)) rfl ?_
          refine x_R.steps 1 (c' := (2377, [(3, .int 6), (2, .ref 75), (1, .ref 0), (0, .ref x_scr)], [.int 1], x_h0, 98, 10728)) rfl ?_
          exact x_R.ret (v := some (.int 1)) rfl x_fin
set_option maxRecDepth 100000 in
set_option maxHeartbeats 4000000 in
theorem x_c40_0 (xs : Nat → Int32)  : x_R x_mt (some (6, xs)) 13 M_law (1440, [(3, .int 0), (2, .ref 75), (1, .ref 0), (0, .ref x_scr)], [], x_h0, 98, 10728) x_P := by
  refine x_R.steps 5 (c' := (1445, [(3, .int 0), (2, .ref 75), (1, .ref 0), (0, .ref x_scr)], [.int 1, .ref x_scr, .ref 0], x_h0, 98, 10728)) rfl ?_
  refine x_R.steps 1 (c' := (1446, [(3, .int 0), (2, .ref 75), (1, .ref 0), (0, .ref x_scr)], [.int (xs 1), .ref 0], x_h0, 98, 10728)) rfl ?_
  refine x_R.call (a := 154) (vs := [.ref 0, .int (xs 1)]) (rest := []) (M' := M_cX11_needed) rfl rfl rfl ?_
  refine x_R.steps 4 (c' := (8, [(0, .ref 0), (1, .int (xs 1))], [.int (xs 1), .ref 5], x_h0, 0, 0)) rfl ?_
  refine x_R.call (a := 31) (vs := [.ref 5, .int (xs 1)]) (rest := []) (M' := M_cX3_has) rfl rfl rfl ?_
  refine x_R.steps 1 (c' := (1, [(0, .ref 5), (1, .int (xs 1))], [.int (xs 1)], x_h0, 0, 0)) rfl ?_
  refine x_R.ite (p := (xs 1) < (0 : Int32)) (c1 := (16, [(0, .ref 5), (1, .int (xs 1))], [], x_h0, 0, 0)) (c2 := (4, [(0, .ref 5), (1, .int (xs 1))], [], x_h0, 0, 0)) rfl (fun h1 => ?_) (fun h1 => ?_)
  · have g1 := (x_i_lt (C := 0) (by decide)).mp h1
    refine x_R.steps 1 (c' := (17, [(0, .ref 5), (1, .int (xs 1))], [.int 0], x_h0, 0, 0)) rfl ?_
    refine x_R.ret (v := some (.int 0)) rfl ?_
    refine x_R.steps 0 (c' := (11, [(0, .ref 0), (1, .int (xs 1))], [.int 0], x_h0, 0, 0)) rfl ?_
    refine x_R.steps 1 (c' := (28, [(0, .ref 0), (1, .int (xs 1))], [], x_h0, 0, 0)) rfl ?_
    refine x_R.steps 1 (c' := (30, [(0, .ref 0), (1, .int (xs 1))], [.int (-2)], x_h0, 0, 0)) rfl ?_
    refine x_R.ret (v := some (.int (-2))) rfl ?_
    refine x_R.steps 0 (c' := (1449, [(3, .int 0), (2, .ref 75), (1, .ref 0), (0, .ref x_scr)], [.int (-2)], x_h0, 98, 10728)) rfl ?_
    refine x_R.steps 5 (c' := (1454, [(3, .int 0), (2, .ref 75), (1, .ref 0), (0, .ref x_scr)], [.int 1, .ref x_scr, .ref 75, .int (-2)], x_h0, 98, 10728)) rfl ?_
    refine x_R.steps 1 (c' := (1455, [(3, .int 0), (2, .ref 75), (1, .ref 0), (0, .ref x_scr)], [.int (xs 1), .ref 75, .int (-2)], x_h0, 98, 10728)) rfl ?_
    refine x_R.call (a := 311) (vs := [.ref 75, .int (xs 1)]) (rest := [.int (-2)]) (M' := M_cX12_needed) rfl rfl rfl ?_
    refine x_R.steps 2 (c' := (2, [(0, .ref 75), (1, .int (xs 1))], [.int (xs 1), .ref 75], x_h0, 0, 0)) rfl ?_
    refine x_R.call (a := 204) (vs := [.ref 75, .int (xs 1)]) (rest := []) (M' := M_cX12_isComing) rfl rfl rfl ?_
    refine x_R.steps 6 (c' := (8, [(0, .ref 75), (1, .int (xs 1))], [.int 5, .ref 76, .long 0, .long ((xs 1)).toInt64], x_h0, 0, 0)) rfl ?_
    refine x_R.steps 1 (c' := (9, [(0, .ref 75), (1, .int (xs 1))], [.int 0, .long 0, .long ((xs 1)).toInt64], x_h0, 0, 0)) rfl ?_
    refine x_R.steps 3 (c' := (12, [(0, .ref 75), (1, .int (xs 1))], [.long (-1), .long 0, .long ((xs 1)).toInt64], x_h0, 0, 0)) rfl ?_
    refine x_R.call (a := 196) (vs := [.long ((xs 1)).toInt64, .long 0, .long (-1)]) (rest := []) (M' := M_cX12_in) rfl rfl rfl ?_
    refine x_R.steps 3 (c' := (3, [(0, .long ((xs 1)).toInt64), (2, .long 0), (4, .long (-1))], [.int (lg_cmp ((xs 1)).toInt64 0)], x_h0, 0, 0)) rfl ?_
    refine x_R.ite (p := (lg_cmp ((xs 1)).toInt64 0) < (0 : Int32)) (c1 := (17, [(0, .long ((xs 1)).toInt64), (2, .long 0), (4, .long (-1))], [], x_h0, 0, 0)) (c2 := (6, [(0, .long ((xs 1)).toInt64), (2, .long 0), (4, .long (-1))], [], x_h0, 0, 0)) rfl (fun h2 => ?_) (fun h2 => ?_)
    · have g2 := (x_lg_lt (C := 0) (by decide)).mp h2
      refine x_R.steps 1 (c' := (18, [(0, .long ((xs 1)).toInt64), (2, .long 0), (4, .long (-1))], [.int 0], x_h0, 0, 0)) rfl ?_
      refine x_R.ret (v := some (.int 0)) rfl ?_
      refine x_R.steps 0 (c' := (15, [(0, .ref 75), (1, .int (xs 1))], [.int 0], x_h0, 0, 0)) rfl ?_
      refine x_R.ret (v := some (.int 0)) rfl ?_
      refine x_R.steps 0 (c' := (5, [(0, .ref 75), (1, .int (xs 1))], [.int 0], x_h0, 0, 0)) rfl ?_
      refine x_R.steps 1 (c' := (16, [(0, .ref 75), (1, .int (xs 1))], [], x_h0, 0, 0)) rfl ?_
      refine x_R.steps 1 (c' := (18, [(0, .ref 75), (1, .int (xs 1))], [.int (-2)], x_h0, 0, 0)) rfl ?_
      refine x_R.ret (v := some (.int (-2))) rfl ?_
      refine x_R.steps 0 (c' := (1458, [(3, .int 0), (2, .ref 75), (1, .ref 0), (0, .ref x_scr)], [.int (-2), .int (-2)], x_h0, 98, 10728)) rfl ?_
      refine x_R.steps 1 (c' := (2370, [(3, .int 0), (2, .ref 75), (1, .ref 0), (0, .ref x_scr)], [], x_h0, 98, 10728)) rfl ?_
      refine x_R.steps 7 (c' := (24, [(3, .int 6), (2, .ref 75), (1, .ref 0), (0, .ref x_scr)], [.int 0, .int 6], x_h0, 98, 10728)) rfl ?_
      refine x_R.steps 1 (c' := (2376, [(3, .int 6), (2, .ref 75), (1, .ref 0), (0, .ref x_scr)], [], x_h0, 98, 10728)) rfl ?_
      refine x_R.steps 1 (c' := (2377, [(3, .int 6), (2, .ref 75), (1, .ref 0), (0, .ref x_scr)], [.int 1], x_h0, 98, 10728)) rfl ?_
      exact x_R.ret (v := some (.int 1)) rfl x_fin
    · have g2 := mt (x_lg_lt (C := 0) (by decide)).mpr h2
      exfalso; omega
  · have g1 := mt (x_i_lt (C := 0) (by decide)).mpr h1
    refine x_R.steps 3 (c' := (9, [(0, .ref 5), (1, .int (xs 1))], [.int 0, .int (xs 1)], x_h0, 0, 0)) rfl ?_
    refine x_R.ite (p := (0 : Int32) ≤ (xs 1)) (c1 := (16, [(0, .ref 5), (1, .int (xs 1))], [], x_h0, 0, 0)) (c2 := (12, [(0, .ref 5), (1, .int (xs 1))], [], x_h0, 0, 0)) rfl (fun h3 => ?_) (fun h3 => ?_)
    · have g3 := (x_i_ge (C := 0) (by decide)).mp h3
      refine x_R.steps 1 (c' := (17, [(0, .ref 5), (1, .int (xs 1))], [.int 0], x_h0, 0, 0)) rfl ?_
      refine x_R.ret (v := some (.int 0)) rfl ?_
      refine x_R.steps 0 (c' := (11, [(0, .ref 0), (1, .int (xs 1))], [.int 0], x_h0, 0, 0)) rfl ?_
      refine x_R.steps 1 (c' := (28, [(0, .ref 0), (1, .int (xs 1))], [], x_h0, 0, 0)) rfl ?_
      refine x_R.steps 1 (c' := (30, [(0, .ref 0), (1, .int (xs 1))], [.int (-2)], x_h0, 0, 0)) rfl ?_
      refine x_R.ret (v := some (.int (-2))) rfl ?_
      refine x_R.steps 0 (c' := (1449, [(3, .int 0), (2, .ref 75), (1, .ref 0), (0, .ref x_scr)], [.int (-2)], x_h0, 98, 10728)) rfl ?_
      refine x_R.steps 5 (c' := (1454, [(3, .int 0), (2, .ref 75), (1, .ref 0), (0, .ref x_scr)], [.int 1, .ref x_scr, .ref 75, .int (-2)], x_h0, 98, 10728)) rfl ?_
      refine x_R.steps 1 (c' := (1455, [(3, .int 0), (2, .ref 75), (1, .ref 0), (0, .ref x_scr)], [.int (xs 1), .ref 75, .int (-2)], x_h0, 98, 10728)) rfl ?_
      refine x_R.call (a := 311) (vs := [.ref 75, .int (xs 1)]) (rest := [.int (-2)]) (M' := M_cX12_needed) rfl rfl rfl ?_
      refine x_R.steps 2 (c' := (2, [(0, .ref 75), (1, .int (xs 1))], [.int (xs 1), .ref 75], x_h0, 0, 0)) rfl ?_
      refine x_R.call (a := 204) (vs := [.ref 75, .int (xs 1)]) (rest := []) (M' := M_cX12_isComing) rfl rfl rfl ?_
      refine x_R.steps 6 (c' := (8, [(0, .ref 75), (1, .int (xs 1))], [.int 5, .ref 76, .long 0, .long ((xs 1)).toInt64], x_h0, 0, 0)) rfl ?_
      refine x_R.steps 1 (c' := (9, [(0, .ref 75), (1, .int (xs 1))], [.int 0, .long 0, .long ((xs 1)).toInt64], x_h0, 0, 0)) rfl ?_
      refine x_R.steps 3 (c' := (12, [(0, .ref 75), (1, .int (xs 1))], [.long (-1), .long 0, .long ((xs 1)).toInt64], x_h0, 0, 0)) rfl ?_
      refine x_R.call (a := 196) (vs := [.long ((xs 1)).toInt64, .long 0, .long (-1)]) (rest := []) (M' := M_cX12_in) rfl rfl rfl ?_
      refine x_R.steps 3 (c' := (3, [(0, .long ((xs 1)).toInt64), (2, .long 0), (4, .long (-1))], [.int (lg_cmp ((xs 1)).toInt64 0)], x_h0, 0, 0)) rfl ?_
      refine x_R.ite (p := (lg_cmp ((xs 1)).toInt64 0) < (0 : Int32)) (c1 := (17, [(0, .long ((xs 1)).toInt64), (2, .long 0), (4, .long (-1))], [], x_h0, 0, 0)) (c2 := (6, [(0, .long ((xs 1)).toInt64), (2, .long 0), (4, .long (-1))], [], x_h0, 0, 0)) rfl (fun h4 => ?_) (fun h4 => ?_)
      · have g4 := (x_lg_lt (C := 0) (by decide)).mp h4
        exfalso; omega
      · have g4 := mt (x_lg_lt (C := 0) (by decide)).mpr h4
        refine x_R.steps 3 (c' := (10, [(0, .long ((xs 1)).toInt64), (2, .long 0), (4, .long (-1))], [.int (lg_cmp ((xs 1)).toInt64 (-1))], x_h0, 0, 0)) rfl ?_
        refine x_R.ite (p := (0 : Int32) < (lg_cmp ((xs 1)).toInt64 (-1))) (c1 := (17, [(0, .long ((xs 1)).toInt64), (2, .long 0), (4, .long (-1))], [], x_h0, 0, 0)) (c2 := (13, [(0, .long ((xs 1)).toInt64), (2, .long 0), (4, .long (-1))], [], x_h0, 0, 0)) rfl (fun h5 => ?_) (fun h5 => ?_)
        · have g5 := (x_lg_gt (C := -1) (by decide)).mp h5
          refine x_R.steps 1 (c' := (18, [(0, .long ((xs 1)).toInt64), (2, .long 0), (4, .long (-1))], [.int 0], x_h0, 0, 0)) rfl ?_
          refine x_R.ret (v := some (.int 0)) rfl ?_
          refine x_R.steps 0 (c' := (15, [(0, .ref 75), (1, .int (xs 1))], [.int 0], x_h0, 0, 0)) rfl ?_
          refine x_R.ret (v := some (.int 0)) rfl ?_
          refine x_R.steps 0 (c' := (5, [(0, .ref 75), (1, .int (xs 1))], [.int 0], x_h0, 0, 0)) rfl ?_
          refine x_R.steps 1 (c' := (16, [(0, .ref 75), (1, .int (xs 1))], [], x_h0, 0, 0)) rfl ?_
          refine x_R.steps 1 (c' := (18, [(0, .ref 75), (1, .int (xs 1))], [.int (-2)], x_h0, 0, 0)) rfl ?_
          refine x_R.ret (v := some (.int (-2))) rfl ?_
          refine x_R.steps 0 (c' := (1458, [(3, .int 0), (2, .ref 75), (1, .ref 0), (0, .ref x_scr)], [.int (-2), .int (-2)], x_h0, 98, 10728)) rfl ?_
          refine x_R.steps 1 (c' := (2370, [(3, .int 0), (2, .ref 75), (1, .ref 0), (0, .ref x_scr)], [], x_h0, 98, 10728)) rfl ?_
          refine x_R.steps 7 (c' := (24, [(3, .int 6), (2, .ref 75), (1, .ref 0), (0, .ref x_scr)], [.int 0, .int 6], x_h0, 98, 10728)) rfl ?_
          refine x_R.steps 1 (c' := (2376, [(3, .int 6), (2, .ref 75), (1, .ref 0), (0, .ref x_scr)], [], x_h0, 98, 10728)) rfl ?_
          refine x_R.steps 1 (c' := (2377, [(3, .int 6), (2, .ref 75), (1, .ref 0), (0, .ref x_scr)], [.int 1], x_h0, 98, 10728)) rfl ?_
          exact x_R.ret (v := some (.int 1)) rfl x_fin
        · have g5 := mt (x_lg_gt (C := -1) (by decide)).mpr h5
          exfalso; omega
    · have g3 := mt (x_i_ge (C := 0) (by decide)).mpr h3
      exfalso; omega
set_option maxRecDepth 100000 in
set_option maxHeartbeats 4000000 in
theorem x_c41_0 (xs : Nat → Int32)  : x_R x_mt (some (6, xs)) 13 M_law (1463, [(3, .int 0), (2, .ref 75), (1, .ref 0), (0, .ref x_scr)], [], x_h0, 98, 10728) x_P := by
  refine x_R.steps 1 (c' := (1464, [(3, .int 0), (2, .ref 75), (1, .ref 0), (0, .ref x_scr)], [.ref 0], x_h0, 98, 10728)) rfl ?_
  refine x_R.call (a := 155) (vs := [.ref 0]) (rest := []) (M' := M_cX11_known) rfl rfl rfl ?_
  refine x_R.steps 2 (c' := (4, [(0, .ref 0)], [.ref 1], x_h0, 0, 0)) rfl ?_
  refine x_R.call (a := 11) (vs := [.ref 1]) (rest := []) (M' := M_cX2_isTold) rfl rfl rfl ?_
  refine x_R.steps 2 (c' := (4, [(0, .ref 1)], [.int 0], x_h0, 0, 0)) rfl ?_
  refine x_R.steps 1 (c' := (11, [(0, .ref 1)], [], x_h0, 0, 0)) rfl ?_
  refine x_R.steps 1 (c' := (12, [(0, .ref 1)], [.int 0], x_h0, 0, 0)) rfl ?_
  refine x_R.ret (v := some (.int 0)) rfl ?_
  refine x_R.steps 0 (c' := (7, [(0, .ref 0)], [.int 0], x_h0, 0, 0)) rfl ?_
  refine x_R.steps 1 (c' := (10, [(0, .ref 0)], [], x_h0, 0, 0)) rfl ?_
  refine x_R.steps 1 (c' := (12, [(0, .ref 0)], [.int (-2)], x_h0, 0, 0)) rfl ?_
  refine x_R.ret (v := some (.int (-2))) rfl ?_
  refine x_R.steps 0 (c' := (1467, [(3, .int 0), (2, .ref 75), (1, .ref 0), (0, .ref x_scr)], [.int (-2)], x_h0, 98, 10728)) rfl ?_
  refine x_R.steps 1 (c' := (1468, [(3, .int 0), (2, .ref 75), (1, .ref 0), (0, .ref x_scr)], [.ref 75, .int (-2)], x_h0, 98, 10728)) rfl ?_
  refine x_R.call (a := 312) (vs := [.ref 75]) (rest := [.int (-2)]) (M' := M_cX12_known) rfl rfl rfl ?_
  refine x_R.steps 1 (c' := (1, [(0, .ref 75)], [.ref 75], x_h0, 0, 0)) rfl ?_
  refine x_R.call (a := 199) (vs := [.ref 75]) (rest := []) (M' := M_cX12_isBoard) rfl rfl rfl ?_
  refine x_R.steps 3 (c' := (5, [(0, .ref 75)], [.int 0, .ref 76], x_h0, 0, 0)) rfl ?_
  refine x_R.steps 1 (c' := (6, [(0, .ref 75)], [.int 0], x_h0, 0, 0)) rfl ?_
  refine x_R.steps 1 (c' := (13, [(0, .ref 75)], [], x_h0, 0, 0)) rfl ?_
  refine x_R.steps 1 (c' := (14, [(0, .ref 75)], [.int 0], x_h0, 0, 0)) rfl ?_
  refine x_R.ret (v := some (.int 0)) rfl ?_
  refine x_R.steps 0 (c' := (4, [(0, .ref 75)], [.int 0], x_h0, 0, 0)) rfl ?_
  refine x_R.steps 1 (c' := (7, [(0, .ref 75)], [], x_h0, 0, 0)) rfl ?_
  refine x_R.steps 1 (c' := (9, [(0, .ref 75)], [.int (-2)], x_h0, 0, 0)) rfl ?_
  refine x_R.ret (v := some (.int (-2))) rfl ?_
  refine x_R.steps 0 (c' := (1471, [(3, .int 0), (2, .ref 75), (1, .ref 0), (0, .ref x_scr)], [.int (-2), .int (-2)], x_h0, 98, 10728)) rfl ?_
  refine x_R.steps 1 (c' := (2370, [(3, .int 0), (2, .ref 75), (1, .ref 0), (0, .ref x_scr)], [], x_h0, 98, 10728)) rfl ?_
  refine x_R.steps 7 (c' := (24, [(3, .int 6), (2, .ref 75), (1, .ref 0), (0, .ref x_scr)], [.int 0, .int 6], x_h0, 98, 10728)) rfl ?_
  refine x_R.steps 1 (c' := (2376, [(3, .int 6), (2, .ref 75), (1, .ref 0), (0, .ref x_scr)], [], x_h0, 98, 10728)) rfl ?_
  refine x_R.steps 1 (c' := (2377, [(3, .int 6), (2, .ref 75), (1, .ref 0), (0, .ref x_scr)], [.int 1], x_h0, 98, 10728)) rfl ?_
  exact x_R.ret (v := some (.int 1)) rfl x_fin
set_option maxRecDepth 100000 in
set_option maxHeartbeats 4000000 in
theorem x_c42_0 (xs : Nat → Int32)  : x_R x_mt (some (6, xs)) 13 M_law (1476, [(3, .int 0), (2, .ref 75), (1, .ref 0), (0, .ref x_scr)], [], x_h0, 98, 10728) x_P := by
  refine x_R.steps 5 (c' := (1481, [(3, .int 0), (2, .ref 75), (1, .ref 0), (0, .ref x_scr)], [.int 1, .ref x_scr, .ref 0], x_h0, 98, 10728)) rfl ?_
  refine x_R.steps 1 (c' := (1482, [(3, .int 0), (2, .ref 75), (1, .ref 0), (0, .ref x_scr)], [.int (xs 1), .ref 0], x_h0, 98, 10728)) rfl ?_
  refine x_R.call (a := 156) (vs := [.ref 0, .int (xs 1)]) (rest := []) (M' := M_cX11_rash) rfl rfl rfl ?_
  refine x_R.steps 2 (c' := (2, [(0, .ref 0), (1, .int (xs 1))], [.int (xs 1), .ref 0], x_h0, 0, 0)) rfl ?_
  refine x_R.call (a := 186) (vs := [.ref 0, .int (xs 1)]) (rest := []) (M' := M_cX11_makeReady) rfl rfl rfl ?_
  refine x_R.steps 3 (c' := (5, [(0, .ref 0), (1, .int (xs 1))], [.int (xs 1), .ref 1], x_h0, 0, 0)) rfl ?_
  refine x_R.call (a := 15) (vs := [.ref 1, .int (xs 1)]) (rest := []) (M' := M_cX2_isPlayer) rfl rfl rfl ?_
  refine x_R.steps 1 (c' := (1, [(0, .ref 1), (1, .int (xs 1))], [.int (xs 1)], x_h0, 0, 0)) rfl ?_
  refine x_R.ite (p := (xs 1) < (0 : Int32)) (c1 := (16, [(0, .ref 1), (1, .int (xs 1))], [], x_h0, 0, 0)) (c2 := (4, [(0, .ref 1), (1, .int (xs 1))], [], x_h0, 0, 0)) rfl (fun h1 => ?_) (fun h1 => ?_)
  · have g1 := (x_i_lt (C := 0) (by decide)).mp h1
    refine x_R.steps 1 (c' := (17, [(0, .ref 1), (1, .int (xs 1))], [.int 0], x_h0, 0, 0)) rfl ?_
    refine x_R.ret (v := some (.int 0)) rfl ?_
    refine x_R.steps 0 (c' := (8, [(0, .ref 0), (1, .int (xs 1))], [.int 0], x_h0, 0, 0)) rfl ?_
    refine x_R.steps 1 (c' := (11, [(0, .ref 0), (1, .int (xs 1))], [], x_h0, 0, 0)) rfl ?_
    refine x_R.steps 1 (c' := (12, [(0, .ref 0), (1, .int (xs 1))], [.int 0], x_h0, 0, 0)) rfl ?_
    refine x_R.ret (v := some (.int 0)) rfl ?_
    refine x_R.steps 0 (c' := (5, [(0, .ref 0), (1, .int (xs 1))], [.int 0], x_h0, 0, 0)) rfl ?_
    refine x_R.steps 1 (c' := (30, [(0, .ref 0), (1, .int (xs 1))], [], x_h0, 0, 0)) rfl ?_
    refine x_R.steps 1 (c' := (33, [(0, .ref 0), (1, .int (xs 1))], [.int (-2000)], x_h0, 0, 0)) rfl ?_
    refine x_R.ret (v := some (.int (-2000))) rfl ?_
    refine x_R.steps 0 (c' := (1485, [(3, .int 0), (2, .ref 75), (1, .ref 0), (0, .ref x_scr)], [.int (-2000)], x_h0, 98, 10728)) rfl ?_
    refine x_R.steps 5 (c' := (1490, [(3, .int 0), (2, .ref 75), (1, .ref 0), (0, .ref x_scr)], [.int 1, .ref x_scr, .ref 75, .int (-2000)], x_h0, 98, 10728)) rfl ?_
    refine x_R.steps 1 (c' := (1491, [(3, .int 0), (2, .ref 75), (1, .ref 0), (0, .ref x_scr)], [.int (xs 1), .ref 75, .int (-2000)], x_h0, 98, 10728)) rfl ?_
    refine x_R.call (a := 314) (vs := [.ref 75, .int (xs 1)]) (rest := [.int (-2000)]) (M' := M_cX12_rash) rfl rfl rfl ?_
    refine x_R.steps 2 (c' := (2, [(0, .ref 75), (1, .int (xs 1))], [.int (xs 1), .ref 75], x_h0, 0, 0)) rfl ?_
    refine x_R.call (a := 205) (vs := [.ref 75, .int (xs 1)]) (rest := []) (M' := M_cX12_isPlayer) rfl rfl rfl ?_
    refine x_R.steps 6 (c' := (9, [(0, .ref 75), (1, .int (xs 1))], [.int 6, .ref 76, .long 0, .long ((xs 1)).toInt64], x_h0, 0, 0)) rfl ?_
    refine x_R.steps 1 (c' := (10, [(0, .ref 75), (1, .int (xs 1))], [.int 0, .long 0, .long ((xs 1)).toInt64], x_h0, 0, 0)) rfl ?_
    refine x_R.steps 3 (c' := (13, [(0, .ref 75), (1, .int (xs 1))], [.long (-1), .long 0, .long ((xs 1)).toInt64], x_h0, 0, 0)) rfl ?_
    refine x_R.call (a := 196) (vs := [.long ((xs 1)).toInt64, .long 0, .long (-1)]) (rest := []) (M' := M_cX12_in) rfl rfl rfl ?_
    refine x_R.steps 3 (c' := (3, [(0, .long ((xs 1)).toInt64), (2, .long 0), (4, .long (-1))], [.int (lg_cmp ((xs 1)).toInt64 0)], x_h0, 0, 0)) rfl ?_
    refine x_R.ite (p := (lg_cmp ((xs 1)).toInt64 0) < (0 : Int32)) (c1 := (17, [(0, .long ((xs 1)).toInt64), (2, .long 0), (4, .long (-1))], [], x_h0, 0, 0)) (c2 := (6, [(0, .long ((xs 1)).toInt64), (2, .long 0), (4, .long (-1))], [], x_h0, 0, 0)) rfl (fun h2 => ?_) (fun h2 => ?_)
    · have g2 := (x_lg_lt (C := 0) (by decide)).mp h2
      refine x_R.steps 1 (c' := (18, [(0, .long ((xs 1)).toInt64), (2, .long 0), (4, .long (-1))], [.int 0], x_h0, 0, 0)) rfl ?_
      refine x_R.ret (v := some (.int 0)) rfl ?_
      refine x_R.steps 0 (c' := (16, [(0, .ref 75), (1, .int (xs 1))], [.int 0], x_h0, 0, 0)) rfl ?_
      refine x_R.ret (v := some (.int 0)) rfl ?_
      refine x_R.steps 0 (c' := (5, [(0, .ref 75), (1, .int (xs 1))], [.int 0], x_h0, 0, 0)) rfl ?_
      refine x_R.steps 1 (c' := (8, [(0, .ref 75), (1, .int (xs 1))], [], x_h0, 0, 0)) rfl ?_
      refine x_R.steps 1 (c' := (11, [(0, .ref 75), (1, .int (xs 1))], [.int (-2000)], x_h0, 0, 0)) rfl ?_
      refine x_R.ret (v := some (.int (-2000))) rfl ?_
      refine x_R.steps 0 (c' := (1494, [(3, .int 0), (2, .ref 75), (1, .ref 0), (0, .ref x_scr)], [.int (-2000), .int (-2000)], x_h0, 98, 10728)) rfl ?_
      refine x_R.steps 1 (c' := (2370, [(3, .int 0), (2, .ref 75), (1, .ref 0), (0, .ref x_scr)], [], x_h0, 98, 10728)) rfl ?_
      refine x_R.steps 7 (c' := (24, [(3, .int 6), (2, .ref 75), (1, .ref 0), (0, .ref x_scr)], [.int 0, .int 6], x_h0, 98, 10728)) rfl ?_
      refine x_R.steps 1 (c' := (2376, [(3, .int 6), (2, .ref 75), (1, .ref 0), (0, .ref x_scr)], [], x_h0, 98, 10728)) rfl ?_
      refine x_R.steps 1 (c' := (2377, [(3, .int 6), (2, .ref 75), (1, .ref 0), (0, .ref x_scr)], [.int 1], x_h0, 98, 10728)) rfl ?_
      exact x_R.ret (v := some (.int 1)) rfl x_fin
    · have g2 := mt (x_lg_lt (C := 0) (by decide)).mpr h2
      exfalso; omega
  · have g1 := mt (x_i_lt (C := 0) (by decide)).mpr h1
    refine x_R.steps 3 (c' := (9, [(0, .ref 1), (1, .int (xs 1))], [.int 0, .int (xs 1)], x_h0, 0, 0)) rfl ?_
    refine x_R.ite (p := (0 : Int32) ≤ (xs 1)) (c1 := (16, [(0, .ref 1), (1, .int (xs 1))], [], x_h0, 0, 0)) (c2 := (12, [(0, .ref 1), (1, .int (xs 1))], [], x_h0, 0, 0)) rfl (fun h3 => ?_) (fun h3 => ?_)
    · have g3 := (x_i_ge (C := 0) (by decide)).mp h3
      refine x_R.steps 1 (c' := (17, [(0, .ref 1), (1, .int (xs 1))], [.int 0], x_h0, 0, 0)) rfl ?_
      refine x_R.ret (v := some (.int 0)) rfl ?_
      refine x_R.steps 0 (c' := (8, [(0, .ref 0), (1, .int (xs 1))], [.int 0], x_h0, 0, 0)) rfl ?_
      refine x_R.steps 1 (c' := (11, [(0, .ref 0), (1, .int (xs 1))], [], x_h0, 0, 0)) rfl ?_
      refine x_R.steps 1 (c' := (12, [(0, .ref 0), (1, .int (xs 1))], [.int 0], x_h0, 0, 0)) rfl ?_
      refine x_R.ret (v := some (.int 0)) rfl ?_
      refine x_R.steps 0 (c' := (5, [(0, .ref 0), (1, .int (xs 1))], [.int 0], x_h0, 0, 0)) rfl ?_
      refine x_R.steps 1 (c' := (30, [(0, .ref 0), (1, .int (xs 1))], [], x_h0, 0, 0)) rfl ?_
      refine x_R.steps 1 (c' := (33, [(0, .ref 0), (1, .int (xs 1))], [.int (-2000)], x_h0, 0, 0)) rfl ?_
      refine x_R.ret (v := some (.int (-2000))) rfl ?_
      refine x_R.steps 0 (c' := (1485, [(3, .int 0), (2, .ref 75), (1, .ref 0), (0, .ref x_scr)], [.int (-2000)], x_h0, 98, 10728)) rfl ?_
      refine x_R.steps 5 (c' := (1490, [(3, .int 0), (2, .ref 75), (1, .ref 0), (0, .ref x_scr)], [.int 1, .ref x_scr, .ref 75, .int (-2000)], x_h0, 98, 10728)) rfl ?_
      refine x_R.steps 1 (c' := (1491, [(3, .int 0), (2, .ref 75), (1, .ref 0), (0, .ref x_scr)], [.int (xs 1), .ref 75, .int (-2000)], x_h0, 98, 10728)) rfl ?_
      refine x_R.call (a := 314) (vs := [.ref 75, .int (xs 1)]) (rest := [.int (-2000)]) (M' := M_cX12_rash) rfl rfl rfl ?_
      refine x_R.steps 2 (c' := (2, [(0, .ref 75), (1, .int (xs 1))], [.int (xs 1), .ref 75], x_h0, 0, 0)) rfl ?_
      refine x_R.call (a := 205) (vs := [.ref 75, .int (xs 1)]) (rest := []) (M' := M_cX12_isPlayer) rfl rfl rfl ?_
      refine x_R.steps 6 (c' := (9, [(0, .ref 75), (1, .int (xs 1))], [.int 6, .ref 76, .long 0, .long ((xs 1)).toInt64], x_h0, 0, 0)) rfl ?_
      refine x_R.steps 1 (c' := (10, [(0, .ref 75), (1, .int (xs 1))], [.int 0, .long 0, .long ((xs 1)).toInt64], x_h0, 0, 0)) rfl ?_
      refine x_R.steps 3 (c' := (13, [(0, .ref 75), (1, .int (xs 1))], [.long (-1), .long 0, .long ((xs 1)).toInt64], x_h0, 0, 0)) rfl ?_
      refine x_R.call (a := 196) (vs := [.long ((xs 1)).toInt64, .long 0, .long (-1)]) (rest := []) (M' := M_cX12_in) rfl rfl rfl ?_
      refine x_R.steps 3 (c' := (3, [(0, .long ((xs 1)).toInt64), (2, .long 0), (4, .long (-1))], [.int (lg_cmp ((xs 1)).toInt64 0)], x_h0, 0, 0)) rfl ?_
      refine x_R.ite (p := (lg_cmp ((xs 1)).toInt64 0) < (0 : Int32)) (c1 := (17, [(0, .long ((xs 1)).toInt64), (2, .long 0), (4, .long (-1))], [], x_h0, 0, 0)) (c2 := (6, [(0, .long ((xs 1)).toInt64), (2, .long 0), (4, .long (-1))], [], x_h0, 0, 0)) rfl (fun h4 => ?_) (fun h4 => ?_)
      · have g4 := (x_lg_lt (C := 0) (by decide)).mp h4
        exfalso; omega
      · have g4 := mt (x_lg_lt (C := 0) (by decide)).mpr h4
        refine x_R.steps 3 (c' := (10, [(0, .long ((xs 1)).toInt64), (2, .long 0), (4, .long (-1))], [.int (lg_cmp ((xs 1)).toInt64 (-1))], x_h0, 0, 0)) rfl ?_
        refine x_R.ite (p := (0 : Int32) < (lg_cmp ((xs 1)).toInt64 (-1))) (c1 := (17, [(0, .long ((xs 1)).toInt64), (2, .long 0), (4, .long (-1))], [], x_h0, 0, 0)) (c2 := (13, [(0, .long ((xs 1)).toInt64), (2, .long 0), (4, .long (-1))], [], x_h0, 0, 0)) rfl (fun h5 => ?_) (fun h5 => ?_)
        · have g5 := (x_lg_gt (C := -1) (by decide)).mp h5
          refine x_R.steps 1 (c' := (18, [(0, .long ((xs 1)).toInt64), (2, .long 0), (4, .long (-1))], [.int 0], x_h0, 0, 0)) rfl ?_
          refine x_R.ret (v := some (.int 0)) rfl ?_
          refine x_R.steps 0 (c' := (16, [(0, .ref 75), (1, .int (xs 1))], [.int 0], x_h0, 0, 0)) rfl ?_
          refine x_R.ret (v := some (.int 0)) rfl ?_
          refine x_R.steps 0 (c' := (5, [(0, .ref 75), (1, .int (xs 1))], [.int 0], x_h0, 0, 0)) rfl ?_
          refine x_R.steps 1 (c' := (8, [(0, .ref 75), (1, .int (xs 1))], [], x_h0, 0, 0)) rfl ?_
          refine x_R.steps 1 (c' := (11, [(0, .ref 75), (1, .int (xs 1))], [.int (-2000)], x_h0, 0, 0)) rfl ?_
          refine x_R.ret (v := some (.int (-2000))) rfl ?_
          refine x_R.steps 0 (c' := (1494, [(3, .int 0), (2, .ref 75), (1, .ref 0), (0, .ref x_scr)], [.int (-2000), .int (-2000)], x_h0, 98, 10728)) rfl ?_
          refine x_R.steps 1 (c' := (2370, [(3, .int 0), (2, .ref 75), (1, .ref 0), (0, .ref x_scr)], [], x_h0, 98, 10728)) rfl ?_
          refine x_R.steps 7 (c' := (24, [(3, .int 6), (2, .ref 75), (1, .ref 0), (0, .ref x_scr)], [.int 0, .int 6], x_h0, 98, 10728)) rfl ?_
          refine x_R.steps 1 (c' := (2376, [(3, .int 6), (2, .ref 75), (1, .ref 0), (0, .ref x_scr)], [], x_h0, 98, 10728)) rfl ?_
          refine x_R.steps 1 (c' := (2377, [(3, .int 6), (2, .ref 75), (1, .ref 0), (0, .ref x_scr)], [.int 1], x_h0, 98, 10728)) rfl ?_
          exact x_R.ret (v := some (.int 1)) rfl x_fin
        · have g5 := mt (x_lg_gt (C := -1) (by decide)).mpr h5
          exfalso; omega
    · have g3 := mt (x_i_ge (C := 0) (by decide)).mpr h3
      exfalso; omega
set_option maxRecDepth 100000 in
set_option maxHeartbeats 4000000 in
theorem x_c43_0 (xs : Nat → Int32)  : x_R x_mt (some (6, xs)) 13 M_law (1499, [(3, .int 0), (2, .ref 75), (1, .ref 0), (0, .ref x_scr)], [], x_h0, 98, 10728) x_P := by
  refine x_R.steps 5 (c' := (1504, [(3, .int 0), (2, .ref 75), (1, .ref 0), (0, .ref x_scr)], [.int 1, .ref x_scr, .ref 0], x_h0, 98, 10728)) rfl ?_
  refine x_R.steps 1 (c' := (1505, [(3, .int 0), (2, .ref 75), (1, .ref 0), (0, .ref x_scr)], [.int (xs 1), .ref 0], x_h0, 98, 10728)) rfl ?_
  refine x_R.steps 4 (c' := (1509, [(3, .int 0), (2, .ref 75), (1, .ref 0), (0, .ref x_scr)], [.int 2, .ref x_scr, .int (xs 1), .ref 0], x_h0, 98, 10728)) rfl ?_
  refine x_R.steps 1 (c' := (1510, [(3, .int 0), (2, .ref 75), (1, .ref 0), (0, .ref x_scr)], [.int (xs 2), .int (xs 1), .ref 0], x_h0, 98, 10728)) rfl ?_
  refine x_R.call (a := 157) (vs := [.ref 0, .int (xs 1), .int (xs 2)]) (rest := []) (M' := M_cX11_look) rfl rfl rfl ?_
  refine x_R.steps 1 (c' := (1, [(0, .ref 0), (1, .int (xs 1)), (2, .int (xs 2))], [.int (xs 2)], x_h0, 0, 0)) rfl ?_
  refine x_R.ite (p := (xs 2) < (0 : Int32)) (c1 := (18, [(0, .ref 0), (1, .int (xs 1)), (2, .int (xs 2))], [], x_h0, 0, 0)) (c2 := (4, [(0, .ref 0), (1, .int (xs 1)), (2, .int (xs 2))], [], x_h0, 0, 0)) rfl (fun h1 => ?_) (fun h1 => ?_)
  · have g1 := (x_i_lt (C := 0) (by decide)).mp h1
    refine x_R.steps 1 (c' := (21, [(0, .ref 0), (1, .int (xs 1)), (2, .int (xs 2))], [.int (-2000)], x_h0, 0, 0)) rfl ?_
    refine x_R.ret (v := some (.int (-2000))) rfl ?_
    refine x_R.steps 0 (c' := (1513, [(3, .int 0), (2, .ref 75), (1, .ref 0), (0, .ref x_scr)], [.int (-2000)], x_h0, 98, 10728)) rfl ?_
    refine x_R.steps 5 (c' := (1518, [(3, .int 0), (2, .ref 75), (1, .ref 0), (0, .ref x_scr)], [.int 1, .ref x_scr, .ref 75, .int (-2000)], x_h0, 98, 10728)) rfl ?_
    refine x_R.steps 1 (c' := (1519, [(3, .int 0), (2, .ref 75), (1, .ref 0), (0, .ref x_scr)], [.int (xs 1), .ref 75, .int (-2000)], x_h0, 98, 10728)) rfl ?_
    refine x_R.steps 4 (c' := (1523, [(3, .int 0), (2, .ref 75), (1, .ref 0), (0, .ref x_scr)], [.int 2, .ref x_scr, .int (xs 1), .ref 75, .int (-2000)], x_h0, 98, 10728)) rfl ?_
    refine x_R.steps 1 (c' := (1524, [(3, .int 0), (2, .ref 75), (1, .ref 0), (0, .ref x_scr)], [.int (xs 2), .int (xs 1), .ref 75, .int (-2000)], x_h0, 98, 10728)) rfl ?_
    refine x_R.call (a := 316) (vs := [.ref 75, .int (xs 1), .int (xs 2)]) (rest := [.int (-2000)]) (M' := M_cX12_look) rfl rfl rfl ?_
    refine x_R.steps 2 (c' := (2, [(0, .ref 75), (1, .int (xs 1)), (2, .int (xs 2))], [.int (xs 1), .ref 75], x_h0, 0, 0)) rfl ?_
    refine x_R.call (a := 205) (vs := [.ref 75, .int (xs 1)]) (rest := []) (M' := M_cX12_isPlayer) rfl rfl rfl ?_
    refine x_R.steps 6 (c' := (9, [(0, .ref 75), (1, .int (xs 1))], [.int 6, .ref 76, .long 0, .long ((xs 1)).toInt64], x_h0, 0, 0)) rfl ?_
    refine x_R.steps 1 (c' := (10, [(0, .ref 75), (1, .int (xs 1))], [.int 0, .long 0, .long ((xs 1)).toInt64], x_h0, 0, 0)) rfl ?_
    refine x_R.steps 3 (c' := (13, [(0, .ref 75), (1, .int (xs 1))], [.long (-1), .long 0, .long ((xs 1)).toInt64], x_h0, 0, 0)) rfl ?_
    refine x_R.call (a := 196) (vs := [.long ((xs 1)).toInt64, .long 0, .long (-1)]) (rest := []) (M' := M_cX12_in) rfl rfl rfl ?_
    refine x_R.steps 3 (c' := (3, [(0, .long ((xs 1)).toInt64), (2, .long 0), (4, .long (-1))], [.int (lg_cmp ((xs 1)).toInt64 0)], x_h0, 0, 0)) rfl ?_
    refine x_R.ite (p := (lg_cmp ((xs 1)).toInt64 0) < (0 : Int32)) (c1 := (17, [(0, .long ((xs 1)).toInt64), (2, .long 0), (4, .long (-1))], [], x_h0, 0, 0)) (c2 := (6, [(0, .long ((xs 1)).toInt64), (2, .long 0), (4, .long (-1))], [], x_h0, 0, 0)) rfl (fun h2 => ?_) (fun h2 => ?_)
    · have g2 := (x_lg_lt (C := 0) (by decide)).mp h2
      refine x_R.steps 1 (c' := (18, [(0, .long ((xs 1)).toInt64), (2, .long 0), (4, .long (-1))], [.int 0], x_h0, 0, 0)) rfl ?_
      refine x_R.ret (v := some (.int 0)) rfl ?_
      refine x_R.steps 0 (c' := (16, [(0, .ref 75), (1, .int (xs 1))], [.int 0], x_h0, 0, 0)) rfl ?_
      refine x_R.ret (v := some (.int 0)) rfl ?_
      refine x_R.steps 0 (c' := (5, [(0, .ref 75), (1, .int (xs 1)), (2, .int (xs 2))], [.int 0], x_h0, 0, 0)) rfl ?_
      refine x_R.steps 1 (c' := (20, [(0, .ref 75), (1, .int (xs 1)), (2, .int (xs 2))], [], x_h0, 0, 0)) rfl ?_
      refine x_R.steps 1 (c' := (23, [(0, .ref 75), (1, .int (xs 1)), (2, .int (xs 2))], [.int (-2000)], x_h0, 0, 0)) rfl ?_
      refine x_R.ret (v := some (.int (-2000))) rfl ?_
      refine x_R.steps 0 (c' := (1527, [(3, .int 0), (2, .ref 75), (1, .ref 0), (0, .ref x_scr)], [.int (-2000), .int (-2000)], x_h0, 98, 10728)) rfl ?_
      refine x_R.steps 1 (c' := (2370, [(3, .int 0), (2, .ref 75), (1, .ref 0), (0, .ref x_scr)], [], x_h0, 98, 10728)) rfl ?_
      refine x_R.steps 7 (c' := (24, [(3, .int 6), (2, .ref 75), (1, .ref 0), (0, .ref x_scr)], [.int 0, .int 6], x_h0, 98, 10728)) rfl ?_
      refine x_R.steps 1 (c' := (2376, [(3, .int 6), (2, .ref 75), (1, .ref 0), (0, .ref x_scr)], [], x_h0, 98, 10728)) rfl ?_
      refine x_R.steps 1 (c' := (2377, [(3, .int 6), (2, .ref 75), (1, .ref 0), (0, .ref x_scr)], [.int 1], x_h0, 98, 10728)) rfl ?_
      exact x_R.ret (v := some (.int 1)) rfl x_fin
    · have g2 := mt (x_lg_lt (C := 0) (by decide)).mpr h2
      refine x_R.steps 3 (c' := (10, [(0, .long ((xs 1)).toInt64), (2, .long 0), (4, .long (-1))], [.int (lg_cmp ((xs 1)).toInt64 (-1))], x_h0, 0, 0)) rfl ?_
      refine x_R.ite (p := (0 : Int32) < (lg_cmp ((xs 1)).toInt64 (-1))) (c1 := (17, [(0, .long ((xs 1)).toInt64), (2, .long 0), (4, .long (-1))], [], x_h0, 0, 0)) (c2 := (13, [(0, .long ((xs 1)).toInt64), (2, .long 0), (4, .long (-1))], [], x_h0, 0, 0)) rfl (fun h3 => ?_) (fun h3 => ?_)
      · have g3 := (x_lg_gt (C := -1) (by decide)).mp h3
        refine x_R.steps 1 (c' := (18, [(0, .long ((xs 1)).toInt64), (2, .long 0), (4, .long (-1))], [.int 0], x_h0, 0, 0)) rfl ?_
        refine x_R.ret (v := some (.int 0)) rfl ?_
        refine x_R.steps 0 (c' := (16, [(0, .ref 75), (1, .int (xs 1))], [.int 0], x_h0, 0, 0)) rfl ?_
        refine x_R.ret (v := some (.int 0)) rfl ?_
        refine x_R.steps 0 (c' := (5, [(0, .ref 75), (1, .int (xs 1)), (2, .int (xs 2))], [.int 0], x_h0, 0, 0)) rfl ?_
        refine x_R.steps 1 (c' := (20, [(0, .ref 75), (1, .int (xs 1)), (2, .int (xs 2))], [], x_h0, 0, 0)) rfl ?_
        refine x_R.steps 1 (c' := (23, [(0, .ref 75), (1, .int (xs 1)), (2, .int (xs 2))], [.int (-2000)], x_h0, 0, 0)) rfl ?_
        refine x_R.ret (v := some (.int (-2000))) rfl ?_
        refine x_R.steps 0 (c' := (1527, [(3, .int 0), (2, .ref 75), (1, .ref 0), (0, .ref x_scr)], [.int (-2000), .int (-2000)], x_h0, 98, 10728)) rfl ?_
        refine x_R.steps 1 (c' := (2370, [(3, .int 0), (2, .ref 75), (1, .ref 0), (0, .ref x_scr)], [], x_h0, 98, 10728)) rfl ?_
        refine x_R.steps 7 (c' := (24, [(3, .int 6), (2, .ref 75), (1, .ref 0), (0, .ref x_scr)], [.int 0, .int 6], x_h0, 98, 10728)) rfl ?_
        refine x_R.steps 1 (c' := (2376, [(3, .int 6), (2, .ref 75), (1, .ref 0), (0, .ref x_scr)], [], x_h0, 98, 10728)) rfl ?_
        refine x_R.steps 1 (c' := (2377, [(3, .int 6), (2, .ref 75), (1, .ref 0), (0, .ref x_scr)], [.int 1], x_h0, 98, 10728)) rfl ?_
        exact x_R.ret (v := some (.int 1)) rfl x_fin
      · have g3 := mt (x_lg_gt (C := -1) (by decide)).mpr h3
        exfalso; omega
  · have g1 := mt (x_i_lt (C := 0) (by decide)).mpr h1
    refine x_R.steps 2 (c' := (7, [(0, .ref 0), (1, .int (xs 1)), (2, .int (xs 2))], [.int 20, .int (xs 2)], x_h0, 0, 0)) rfl ?_
    refine x_R.ite (p := (20 : Int32) < (xs 2)) (c1 := (18, [(0, .ref 0), (1, .int (xs 1)), (2, .int (xs 2))], [], x_h0, 0, 0)) (c2 := (10, [(0, .ref 0), (1, .int (xs 1)), (2, .int (xs 2))], [], x_h0, 0, 0)) rfl (fun h4 => ?_) (fun h4 => ?_)
    · have g4 := (x_i_gt (C := 20) (by decide)).mp h4
      refine x_R.steps 1 (c' := (21, [(0, .ref 0), (1, .int (xs 1)), (2, .int (xs 2))], [.int (-2000)], x_h0, 0, 0)) rfl ?_
      refine x_R.ret (v := some (.int (-2000))) rfl ?_
      refine x_R.steps 0 (c' := (1513, [(3, .int 0), (2, .ref 75), (1, .ref 0), (0, .ref x_scr)], [.int (-2000)], x_h0, 98, 10728)) rfl ?_
      refine x_R.steps 5 (c' := (1518, [(3, .int 0), (2, .ref 75), (1, .ref 0), (0, .ref x_scr)], [.int 1, .ref x_scr, .ref 75, .int (-2000)], x_h0, 98, 10728)) rfl ?_
      refine x_R.steps 1 (c' := (1519, [(3, .int 0), (2, .ref 75), (1, .ref 0), (0, .ref x_scr)], [.int (xs 1), .ref 75, .int (-2000)], x_h0, 98, 10728)) rfl ?_
      refine x_R.steps 4 (c' := (1523, [(3, .int 0), (2, .ref 75), (1, .ref 0), (0, .ref x_scr)], [.int 2, .ref x_scr, .int (xs 1), .ref 75, .int (-2000)], x_h0, 98, 10728)) rfl ?_
      refine x_R.steps 1 (c' := (1524, [(3, .int 0), (2, .ref 75), (1, .ref 0), (0, .ref x_scr)], [.int (xs 2), .int (xs 1), .ref 75, .int (-2000)], x_h0, 98, 10728)) rfl ?_
      refine x_R.call (a := 316) (vs := [.ref 75, .int (xs 1), .int (xs 2)]) (rest := [.int (-2000)]) (M' := M_cX12_look) rfl rfl rfl ?_
      refine x_R.steps 2 (c' := (2, [(0, .ref 75), (1, .int (xs 1)), (2, .int (xs 2))], [.int (xs 1), .ref 75], x_h0, 0, 0)) rfl ?_
      refine x_R.call (a := 205) (vs := [.ref 75, .int (xs 1)]) (rest := []) (M' := M_cX12_isPlayer) rfl rfl rfl ?_
      refine x_R.steps 6 (c' := (9, [(0, .ref 75), (1, .int (xs 1))], [.int 6, .ref 76, .long 0, .long ((xs 1)).toInt64], x_h0, 0, 0)) rfl ?_
      refine x_R.steps 1 (c' := (10, [(0, .ref 75), (1, .int (xs 1))], [.int 0, .long 0, .long ((xs 1)).toInt64], x_h0, 0, 0)) rfl ?_
      refine x_R.steps 3 (c' := (13, [(0, .ref 75), (1, .int (xs 1))], [.long (-1), .long 0, .long ((xs 1)).toInt64], x_h0, 0, 0)) rfl ?_
      refine x_R.call (a := 196) (vs := [.long ((xs 1)).toInt64, .long 0, .long (-1)]) (rest := []) (M' := M_cX12_in) rfl rfl rfl ?_
      refine x_R.steps 3 (c' := (3, [(0, .long ((xs 1)).toInt64), (2, .long 0), (4, .long (-1))], [.int (lg_cmp ((xs 1)).toInt64 0)], x_h0, 0, 0)) rfl ?_
      refine x_R.ite (p := (lg_cmp ((xs 1)).toInt64 0) < (0 : Int32)) (c1 := (17, [(0, .long ((xs 1)).toInt64), (2, .long 0), (4, .long (-1))], [], x_h0, 0, 0)) (c2 := (6, [(0, .long ((xs 1)).toInt64), (2, .long 0), (4, .long (-1))], [], x_h0, 0, 0)) rfl (fun h5 => ?_) (fun h5 => ?_)
      · have g5 := (x_lg_lt (C := 0) (by decide)).mp h5
        refine x_R.steps 1 (c' := (18, [(0, .long ((xs 1)).toInt64), (2, .long 0), (4, .long (-1))], [.int 0], x_h0, 0, 0)) rfl ?_
        refine x_R.ret (v := some (.int 0)) rfl ?_
        refine x_R.steps 0 (c' := (16, [(0, .ref 75), (1, .int (xs 1))], [.int 0], x_h0, 0, 0)) rfl ?_
        refine x_R.ret (v := some (.int 0)) rfl ?_
        refine x_R.steps 0 (c' := (5, [(0, .ref 75), (1, .int (xs 1)), (2, .int (xs 2))], [.int 0], x_h0, 0, 0)) rfl ?_
        refine x_R.steps 1 (c' := (20, [(0, .ref 75), (1, .int (xs 1)), (2, .int (xs 2))], [], x_h0, 0, 0)) rfl ?_
        refine x_R.steps 1 (c' := (23, [(0, .ref 75), (1, .int (xs 1)), (2, .int (xs 2))], [.int (-2000)], x_h0, 0, 0)) rfl ?_
        refine x_R.ret (v := some (.int (-2000))) rfl ?_
        refine x_R.steps 0 (c' := (1527, [(3, .int 0), (2, .ref 75), (1, .ref 0), (0, .ref x_scr)], [.int (-2000), .int (-2000)], x_h0, 98, 10728)) rfl ?_
        refine x_R.steps 1 (c' := (2370, [(3, .int 0), (2, .ref 75), (1, .ref 0), (0, .ref x_scr)], [], x_h0, 98, 10728)) rfl ?_
        refine x_R.steps 7 (c' := (24, [(3, .int 6), (2, .ref 75), (1, .ref 0), (0, .ref x_scr)], [.int 0, .int 6], x_h0, 98, 10728)) rfl ?_
        refine x_R.steps 1 (c' := (2376, [(3, .int 6), (2, .ref 75), (1, .ref 0), (0, .ref x_scr)], [], x_h0, 98, 10728)) rfl ?_
        refine x_R.steps 1 (c' := (2377, [(3, .int 6), (2, .ref 75), (1, .ref 0), (0, .ref x_scr)], [.int 1], x_h0, 98, 10728)) rfl ?_
        exact x_R.ret (v := some (.int 1)) rfl x_fin
      · have g5 := mt (x_lg_lt (C := 0) (by decide)).mpr h5
        refine x_R.steps 3 (c' := (10, [(0, .long ((xs 1)).toInt64), (2, .long 0), (4, .long (-1))], [.int (lg_cmp ((xs 1)).toInt64 (-1))], x_h0, 0, 0)) rfl ?_
        refine x_R.ite (p := (0 : Int32) < (lg_cmp ((xs 1)).toInt64 (-1))) (c1 := (17, [(0, .long ((xs 1)).toInt64), (2, .long 0), (4, .long (-1))], [], x_h0, 0, 0)) (c2 := (13, [(0, .long ((xs 1)).toInt64), (2, .long 0), (4, .long (-1))], [], x_h0, 0, 0)) rfl (fun h6 => ?_) (fun h6 => ?_)
        · have g6 := (x_lg_gt (C := -1) (by decide)).mp h6
          refine x_R.steps 1 (c' := (18, [(0, .long ((xs 1)).toInt64), (2, .long 0), (4, .long (-1))], [.int 0], x_h0, 0, 0)) rfl ?_
          refine x_R.ret (v := some (.int 0)) rfl ?_
          refine x_R.steps 0 (c' := (16, [(0, .ref 75), (1, .int (xs 1))], [.int 0], x_h0, 0, 0)) rfl ?_
          refine x_R.ret (v := some (.int 0)) rfl ?_
          refine x_R.steps 0 (c' := (5, [(0, .ref 75), (1, .int (xs 1)), (2, .int (xs 2))], [.int 0], x_h0, 0, 0)) rfl ?_
          refine x_R.steps 1 (c' := (20, [(0, .ref 75), (1, .int (xs 1)), (2, .int (xs 2))], [], x_h0, 0, 0)) rfl ?_
          refine x_R.steps 1 (c' := (23, [(0, .ref 75), (1, .int (xs 1)), (2, .int (xs 2))], [.int (-2000)], x_h0, 0, 0)) rfl ?_
          refine x_R.ret (v := some (.int (-2000))) rfl ?_
          refine x_R.steps 0 (c' := (1527, [(3, .int 0), (2, .ref 75), (1, .ref 0), (0, .ref x_scr)], [.int (-2000), .int (-2000)], x_h0, 98, 10728)) rfl ?_
          refine x_R.steps 1 (c' := (2370, [(3, .int 0), (2, .ref 75), (1, .ref 0), (0, .ref x_scr)], [], x_h0, 98, 10728)) rfl ?_
          refine x_R.steps 7 (c' := (24, [(3, .int 6), (2, .ref 75), (1, .ref 0), (0, .ref x_scr)], [.int 0, .int 6], x_h0, 98, 10728)) rfl ?_
          refine x_R.steps 1 (c' := (2376, [(3, .int 6), (2, .ref 75), (1, .ref 0), (0, .ref x_scr)], [], x_h0, 98, 10728)) rfl ?_
          refine x_R.steps 1 (c' := (2377, [(3, .int 6), (2, .ref 75), (1, .ref 0), (0, .ref x_scr)], [.int 1], x_h0, 98, 10728)) rfl ?_
          exact x_R.ret (v := some (.int 1)) rfl x_fin
        · have g6 := mt (x_lg_gt (C := -1) (by decide)).mpr h6
          exfalso; omega
    · have g4 := mt (x_i_gt (C := 20) (by decide)).mpr h4
      refine x_R.steps 2 (c' := (12, [(0, .ref 0), (1, .int (xs 1)), (2, .int (xs 2))], [.int (xs 1), .ref 0], x_h0, 0, 0)) rfl ?_
      refine x_R.call (a := 186) (vs := [.ref 0, .int (xs 1)]) (rest := []) (M' := M_cX11_makeReady) rfl rfl rfl ?_
      refine x_R.steps 3 (c' := (5, [(0, .ref 0), (1, .int (xs 1))], [.int (xs 1), .ref 1], x_h0, 0, 0)) rfl ?_
      refine x_R.call (a := 15) (vs := [.ref 1, .int (xs 1)]) (rest := []) (M' := M_cX2_isPlayer) rfl rfl rfl ?_
      refine x_R.steps 1 (c' := (1, [(0, .ref 1), (1, .int (xs 1))], [.int (xs 1)], x_h0, 0, 0)) rfl ?_
      refine x_R.ite (p := (xs 1) < (0 : Int32)) (c1 := (16, [(0, .ref 1), (1, .int (xs 1))], [], x_h0, 0, 0)) (c2 := (4, [(0, .ref 1), (1, .int (xs 1))], [], x_h0, 0, 0)) rfl (fun h7 => ?_) (fun h7 => ?_)
      · have g7 := (x_i_lt (C := 0) (by decide)).mp h7
        refine x_R.steps 1 (c' := (17, [(0, .ref 1), (1, .int (xs 1))], [.int 0], x_h0, 0, 0)) rfl ?_
        refine x_R.ret (v := some (.int 0)) rfl ?_
        refine x_R.steps 0 (c' := (8, [(0, .ref 0), (1, .int (xs 1))], [.int 0], x_h0, 0, 0)) rfl ?_
        refine x_R.steps 1 (c' := (11, [(0, .ref 0), (1, .int (xs 1))], [], x_h0, 0, 0)) rfl ?_
        refine x_R.steps 1 (c' := (12, [(0, .ref 0), (1, .int (xs 1))], [.int 0], x_h0, 0, 0)) rfl ?_
        refine x_R.ret (v := some (.int 0)) rfl ?_
        refine x_R.steps 0 (c' := (15, [(0, .ref 0), (1, .int (xs 1)), (2, .int (xs 2))], [.int 0], x_h0, 0, 0)) rfl ?_
        refine x_R.steps 1 (c' := (18, [(0, .ref 0), (1, .int (xs 1)), (2, .int (xs 2))], [], x_h0, 0, 0)) rfl ?_
        refine x_R.steps 1 (c' := (21, [(0, .ref 0), (1, .int (xs 1)), (2, .int (xs 2))], [.int (-2000)], x_h0, 0, 0)) rfl ?_
        refine x_R.ret (v := some (.int (-2000))) rfl ?_
        refine x_R.steps 0 (c' := (1513, [(3, .int 0), (2, .ref 75), (1, .ref 0), (0, .ref x_scr)], [.int (-2000)], x_h0, 98, 10728)) rfl ?_
        refine x_R.steps 5 (c' := (1518, [(3, .int 0), (2, .ref 75), (1, .ref 0), (0, .ref x_scr)], [.int 1, .ref x_scr, .ref 75, .int (-2000)], x_h0, 98, 10728)) rfl ?_
        refine x_R.steps 1 (c' := (1519, [(3, .int 0), (2, .ref 75), (1, .ref 0), (0, .ref x_scr)], [.int (xs 1), .ref 75, .int (-2000)], x_h0, 98, 10728)) rfl ?_
        refine x_R.steps 4 (c' := (1523, [(3, .int 0), (2, .ref 75), (1, .ref 0), (0, .ref x_scr)], [.int 2, .ref x_scr, .int (xs 1), .ref 75, .int (-2000)], x_h0, 98, 10728)) rfl ?_
        refine x_R.steps 1 (c' := (1524, [(3, .int 0), (2, .ref 75), (1, .ref 0), (0, .ref x_scr)], [.int (xs 2), .int (xs 1), .ref 75, .int (-2000)], x_h0, 98, 10728)) rfl ?_
        refine x_R.call (a := 316) (vs := [.ref 75, .int (xs 1), .int (xs 2)]) (rest := [.int (-2000)]) (M' := M_cX12_look) rfl rfl rfl ?_
        refine x_R.steps 2 (c' := (2, [(0, .ref 75), (1, .int (xs 1)), (2, .int (xs 2))], [.int (xs 1), .ref 75], x_h0, 0, 0)) rfl ?_
        refine x_R.call (a := 205) (vs := [.ref 75, .int (xs 1)]) (rest := []) (M' := M_cX12_isPlayer) rfl rfl rfl ?_
        refine x_R.steps 6 (c' := (9, [(0, .ref 75), (1, .int (xs 1))], [.int 6, .ref 76, .long 0, .long ((xs 1)).toInt64], x_h0, 0, 0)) rfl ?_
        refine x_R.steps 1 (c' := (10, [(0, .ref 75), (1, .int (xs 1))], [.int 0, .long 0, .long ((xs 1)).toInt64], x_h0, 0, 0)) rfl ?_
        refine x_R.steps 3 (c' := (13, [(0, .ref 75), (1, .int (xs 1))], [.long (-1), .long 0, .long ((xs 1)).toInt64], x_h0, 0, 0)) rfl ?_
        refine x_R.call (a := 196) (vs := [.long ((xs 1)).toInt64, .long 0, .long (-1)]) (rest := []) (M' := M_cX12_in) rfl rfl rfl ?_
        refine x_R.steps 3 (c' := (3, [(0, .long ((xs 1)).toInt64), (2, .long 0), (4, .long (-1))], [.int (lg_cmp ((xs 1)).toInt64 0)], x_h0, 0, 0)) rfl ?_
        refine x_R.ite (p := (lg_cmp ((xs 1)).toInt64 0) < (0 : Int32)) (c1 := (17, [(0, .long ((xs 1)).toInt64), (2, .long 0), (4, .long (-1))], [], x_h0, 0, 0)) (c2 := (6, [(0, .long ((xs 1)).toInt64), (2, .long 0), (4, .long (-1))], [], x_h0, 0, 0)) rfl (fun h8 => ?_) (fun h8 => ?_)
        · have g8 := (x_lg_lt (C := 0) (by decide)).mp h8
          refine x_R.steps 1 (c' := (18, [(0, .long ((xs 1)).toInt64), (2, .long 0), (4, .long (-1))], [.int 0], x_h0, 0, 0)) rfl ?_
          refine x_R.ret (v := some (.int 0)) rfl ?_
          refine x_R.steps 0 (c' := (16, [(0, .ref 75), (1, .int (xs 1))], [.int 0], x_h0, 0, 0)) rfl ?_
          refine x_R.ret (v := some (.int 0)) rfl ?_
          refine x_R.steps 0 (c' := (5, [(0, .ref 75), (1, .int (xs 1)), (2, .int (xs 2))], [.int 0], x_h0, 0, 0)) rfl ?_
          refine x_R.steps 1 (c' := (20, [(0, .ref 75), (1, .int (xs 1)), (2, .int (xs 2))], [], x_h0, 0, 0)) rfl ?_
          refine x_R.steps 1 (c' := (23, [(0, .ref 75), (1, .int (xs 1)), (2, .int (xs 2))], [.int (-2000)], x_h0, 0, 0)) rfl ?_
          refine x_R.ret (v := some (.int (-2000))) rfl ?_
          refine x_R.steps 0 (c' := (1527, [(3, .int 0), (2, .ref 75), (1, .ref 0), (0, .ref x_scr)], [.int (-2000), .int (-2000)], x_h0, 98, 10728)) rfl ?_
          refine x_R.steps 1 (c' := (2370, [(3, .int 0), (2, .ref 75), (1, .ref 0), (0, .ref x_scr)], [], x_h0, 98, 10728)) rfl ?_
          refine x_R.steps 7 (c' := (24, [(3, .int 6), (2, .ref 75), (1, .ref 0), (0, .ref x_scr)], [.int 0, .int 6], x_h0, 98, 10728)) rfl ?_
          refine x_R.steps 1 (c' := (2376, [(3, .int 6), (2, .ref 75), (1, .ref 0), (0, .ref x_scr)], [], x_h0, 98, 10728)) rfl ?_
          refine x_R.steps 1 (c' := (2377, [(3, .int 6), (2, .ref 75), (1, .ref 0), (0, .ref x_scr)], [.int 1], x_h0, 98, 10728)) rfl ?_
          exact x_R.ret (v := some (.int 1)) rfl x_fin
        · have g8 := mt (x_lg_lt (C := 0) (by decide)).mpr h8
          exfalso; omega
      · have g7 := mt (x_i_lt (C := 0) (by decide)).mpr h7
        refine x_R.steps 3 (c' := (9, [(0, .ref 1), (1, .int (xs 1))], [.int 0, .int (xs 1)], x_h0, 0, 0)) rfl ?_
        refine x_R.ite (p := (0 : Int32) ≤ (xs 1)) (c1 := (16, [(0, .ref 1), (1, .int (xs 1))], [], x_h0, 0, 0)) (c2 := (12, [(0, .ref 1), (1, .int (xs 1))], [], x_h0, 0, 0)) rfl (fun h9 => ?_) (fun h9 => ?_)
        · have g9 := (x_i_ge (C := 0) (by decide)).mp h9
          refine x_R.steps 1 (c' := (17, [(0, .ref 1), (1, .int (xs 1))], [.int 0], x_h0, 0, 0)) rfl ?_
          refine x_R.ret (v := some (.int 0)) rfl ?_
          refine x_R.steps 0 (c' := (8, [(0, .ref 0), (1, .int (xs 1))], [.int 0], x_h0, 0, 0)) rfl ?_
          refine x_R.steps 1 (c' := (11, [(0, .ref 0), (1, .int (xs 1))], [], x_h0, 0, 0)) rfl ?_
          refine x_R.steps 1 (c' := (12, [(0, .ref 0), (1, .int (xs 1))], [.int 0], x_h0, 0, 0)) rfl ?_
          refine x_R.ret (v := some (.int 0)) rfl ?_
          refine x_R.steps 0 (c' := (15, [(0, .ref 0), (1, .int (xs 1)), (2, .int (xs 2))], [.int 0], x_h0, 0, 0)) rfl ?_
          refine x_R.steps 1 (c' := (18, [(0, .ref 0), (1, .int (xs 1)), (2, .int (xs 2))], [], x_h0, 0, 0)) rfl ?_
          refine x_R.steps 1 (c' := (21, [(0, .ref 0), (1, .int (xs 1)), (2, .int (xs 2))], [.int (-2000)], x_h0, 0, 0)) rfl ?_
          refine x_R.ret (v := some (.int (-2000))) rfl ?_
          refine x_R.steps 0 (c' := (1513, [(3, .int 0), (2, .ref 75), (1, .ref 0), (0, .ref x_scr)], [.int (-2000)], x_h0, 98, 10728)) rfl ?_
          refine x_R.steps 5 (c' := (1518, [(3, .int 0), (2, .ref 75), (1, .ref 0), (0, .ref x_scr)], [.int 1, .ref x_scr, .ref 75, .int (-2000)], x_h0, 98, 10728)) rfl ?_
          refine x_R.steps 1 (c' := (1519, [(3, .int 0), (2, .ref 75), (1, .ref 0), (0, .ref x_scr)], [.int (xs 1), .ref 75, .int (-2000)], x_h0, 98, 10728)) rfl ?_
          refine x_R.steps 4 (c' := (1523, [(3, .int 0), (2, .ref 75), (1, .ref 0), (0, .ref x_scr)], [.int 2, .ref x_scr, .int (xs 1), .ref 75, .int (-2000)], x_h0, 98, 10728)) rfl ?_
          refine x_R.steps 1 (c' := (1524, [(3, .int 0), (2, .ref 75), (1, .ref 0), (0, .ref x_scr)], [.int (xs 2), .int (xs 1), .ref 75, .int (-2000)], x_h0, 98, 10728)) rfl ?_
          refine x_R.call (a := 316) (vs := [.ref 75, .int (xs 1), .int (xs 2)]) (rest := [.int (-2000)]) (M' := M_cX12_look) rfl rfl rfl ?_
          refine x_R.steps 2 (c' := (2, [(0, .ref 75), (1, .int (xs 1)), (2, .int (xs 2))], [.int (xs 1), .ref 75], x_h0, 0, 0)) rfl ?_
          refine x_R.call (a := 205) (vs := [.ref 75, .int (xs 1)]) (rest := []) (M' := M_cX12_isPlayer) rfl rfl rfl ?_
          refine x_R.steps 6 (c' := (9, [(0, .ref 75), (1, .int (xs 1))], [.int 6, .ref 76, .long 0, .long ((xs 1)).toInt64], x_h0, 0, 0)) rfl ?_
          refine x_R.steps 1 (c' := (10, [(0, .ref 75), (1, .int (xs 1))], [.int 0, .long 0, .long ((xs 1)).toInt64], x_h0, 0, 0)) rfl ?_
          refine x_R.steps 3 (c' := (13, [(0, .ref 75), (1, .int (xs 1))], [.long (-1), .long 0, .long ((xs 1)).toInt64], x_h0, 0, 0)) rfl ?_
          refine x_R.call (a := 196) (vs := [.long ((xs 1)).toInt64, .long 0, .long (-1)]) (rest := []) (M' := M_cX12_in) rfl rfl rfl ?_
          refine x_R.steps 3 (c' := (3, [(0, .long ((xs 1)).toInt64), (2, .long 0), (4, .long (-1))], [.int (lg_cmp ((xs 1)).toInt64 0)], x_h0, 0, 0)) rfl ?_
          refine x_R.ite (p := (lg_cmp ((xs 1)).toInt64 0) < (0 : Int32)) (c1 := (17, [(0, .long ((xs 1)).toInt64), (2, .long 0), (4, .long (-1))], [], x_h0, 0, 0)) (c2 := (6, [(0, .long ((xs 1)).toInt64), (2, .long 0), (4, .long (-1))], [], x_h0, 0, 0)) rfl (fun h10 => ?_) (fun h10 => ?_)
          · have g10 := (x_lg_lt (C := 0) (by decide)).mp h10
            exfalso; omega
          · have g10 := mt (x_lg_lt (C := 0) (by decide)).mpr h10
            refine x_R.steps 3 (c' := (10, [(0, .long ((xs 1)).toInt64), (2, .long 0), (4, .long (-1))], [.int (lg_cmp ((xs 1)).toInt64 (-1))], x_h0, 0, 0)) rfl ?_
            refine x_R.ite (p := (0 : Int32) < (lg_cmp ((xs 1)).toInt64 (-1))) (c1 := (17, [(0, .long ((xs 1)).toInt64), (2, .long 0), (4, .long (-1))], [], x_h0, 0, 0)) (c2 := (13, [(0, .long ((xs 1)).toInt64), (2, .long 0), (4, .long (-1))], [], x_h0, 0, 0)) rfl (fun h11 => ?_) (fun h11 => ?_)
            · have g11 := (x_lg_gt (C := -1) (by decide)).mp h11
              refine x_R.steps 1 (c' := (18, [(0, .long ((xs 1)).toInt64), (2, .long 0), (4, .long (-1))], [.int 0], x_h0, 0, 0)) rfl ?_
              refine x_R.ret (v := some (.int 0)) rfl ?_
              refine x_R.steps 0 (c' := (16, [(0, .ref 75), (1, .int (xs 1))], [.int 0], x_h0, 0, 0)) rfl ?_
              refine x_R.ret (v := some (.int 0)) rfl ?_
              refine x_R.steps 0 (c' := (5, [(0, .ref 75), (1, .int (xs 1)), (2, .int (xs 2))], [.int 0], x_h0, 0, 0)) rfl ?_
              refine x_R.steps 1 (c' := (20, [(0, .ref 75), (1, .int (xs 1)), (2, .int (xs 2))], [], x_h0, 0, 0)) rfl ?_
              refine x_R.steps 1 (c' := (23, [(0, .ref 75), (1, .int (xs 1)), (2, .int (xs 2))], [.int (-2000)], x_h0, 0, 0)) rfl ?_
              refine x_R.ret (v := some (.int (-2000))) rfl ?_
              refine x_R.steps 0 (c' := (1527, [(3, .int 0), (2, .ref 75), (1, .ref 0), (0, .ref x_scr)], [.int (-2000), .int (-2000)], x_h0, 98, 10728)) rfl ?_
              refine x_R.steps 1 (c' := (2370, [(3, .int 0), (2, .ref 75), (1, .ref 0), (0, .ref x_scr)], [], x_h0, 98, 10728)) rfl ?_
              refine x_R.steps 7 (c' := (24, [(3, .int 6), (2, .ref 75), (1, .ref 0), (0, .ref x_scr)], [.int 0, .int 6], x_h0, 98, 10728)) rfl ?_
              refine x_R.steps 1 (c' := (2376, [(3, .int 6), (2, .ref 75), (1, .ref 0), (0, .ref x_scr)], [], x_h0, 98, 10728)) rfl ?_
              refine x_R.steps 1 (c' := (2377, [(3, .int 6), (2, .ref 75), (1, .ref 0), (0, .ref x_scr)], [.int 1], x_h0, 98, 10728)) rfl ?_
              exact x_R.ret (v := some (.int 1)) rfl x_fin
            · have g11 := mt (x_lg_gt (C := -1) (by decide)).mpr h11
              exfalso; omega
        · have g9 := mt (x_i_ge (C := 0) (by decide)).mpr h9
          exfalso; omega
set_option maxRecDepth 100000 in
set_option maxHeartbeats 4000000 in
theorem x_c44_0 (xs : Nat → Int32)  : x_R x_mt (some (6, xs)) 13 M_law (1532, [(3, .int 0), (2, .ref 75), (1, .ref 0), (0, .ref x_scr)], [], x_h0, 98, 10728) x_P := by
  refine x_R.steps 5 (c' := (1537, [(3, .int 0), (2, .ref 75), (1, .ref 0), (0, .ref x_scr)], [.int 1, .ref x_scr, .ref 0], x_h0, 98, 10728)) rfl ?_
  refine x_R.steps 1 (c' := (1538, [(3, .int 0), (2, .ref 75), (1, .ref 0), (0, .ref x_scr)], [.int (xs 1), .ref 0], x_h0, 98, 10728)) rfl ?_
  refine x_R.call (a := 158) (vs := [.ref 0, .int (xs 1)]) (rest := []) (M' := M_cX11_line) rfl rfl rfl ?_
  refine x_R.steps 2 (c' := (2, [(0, .ref 0), (1, .int (xs 1))], [.int (xs 1), .ref 0], x_h0, 0, 0)) rfl ?_
  refine x_R.call (a := 186) (vs := [.ref 0, .int (xs 1)]) (rest := []) (M' := M_cX11_makeReady) rfl rfl rfl ?_
  refine x_R.steps 3 (c' := (5, [(0, .ref 0), (1, .int (xs 1))], [.int (xs 1), .ref 1], x_h0, 0, 0)) rfl ?_
  refine x_R.call (a := 15) (vs := [.ref 1, .int (xs 1)]) (rest := []) (M' := M_cX2_isPlayer) rfl rfl rfl ?_
  refine x_R.steps 1 (c' := (1, [(0, .ref 1), (1, .int (xs 1))], [.int (xs 1)], x_h0, 0, 0)) rfl ?_
  refine x_R.ite (p := (xs 1) < (0 : Int32)) (c1 := (16, [(0, .ref 1), (1, .int (xs 1))], [], x_h0, 0, 0)) (c2 := (4, [(0, .ref 1), (1, .int (xs 1))], [], x_h0, 0, 0)) rfl (fun h1 => ?_) (fun h1 => ?_)
  · have g1 := (x_i_lt (C := 0) (by decide)).mp h1
    refine x_R.steps 1 (c' := (17, [(0, .ref 1), (1, .int (xs 1))], [.int 0], x_h0, 0, 0)) rfl ?_
    refine x_R.ret (v := some (.int 0)) rfl ?_
    refine x_R.steps 0 (c' := (8, [(0, .ref 0), (1, .int (xs 1))], [.int 0], x_h0, 0, 0)) rfl ?_
    refine x_R.steps 1 (c' := (11, [(0, .ref 0), (1, .int (xs 1))], [], x_h0, 0, 0)) rfl ?_
    refine x_R.steps 1 (c' := (12, [(0, .ref 0), (1, .int (xs 1))], [.int 0], x_h0, 0, 0)) rfl ?_
    refine x_R.ret (v := some (.int 0)) rfl ?_
    refine x_R.steps 0 (c' := (5, [(0, .ref 0), (1, .int (xs 1))], [.int 0], x_h0, 0, 0)) rfl ?_
    refine x_R.steps 1 (c' := (8, [(0, .ref 0), (1, .int (xs 1))], [], x_h0, 0, 0)) rfl ?_
    refine x_R.steps 1 (c' := (10, [(0, .ref 0), (1, .int (xs 1))], [.int (-2)], x_h0, 0, 0)) rfl ?_
    refine x_R.ret (v := some (.int (-2))) rfl ?_
    refine x_R.steps 0 (c' := (1541, [(3, .int 0), (2, .ref 75), (1, .ref 0), (0, .ref x_scr)], [.int (-2)], x_h0, 98, 10728)) rfl ?_
    refine x_R.steps 5 (c' := (1546, [(3, .int 0), (2, .ref 75), (1, .ref 0), (0, .ref x_scr)], [.int 1, .ref x_scr, .ref 75, .int (-2)], x_h0, 98, 10728)) rfl ?_
    refine x_R.steps 1 (c' := (1547, [(3, .int 0), (2, .ref 75), (1, .ref 0), (0, .ref x_scr)], [.int (xs 1), .ref 75, .int (-2)], x_h0, 98, 10728)) rfl ?_
    refine x_R.call (a := 317) (vs := [.ref 75, .int (xs 1)]) (rest := [.int (-2)]) (M' := M_cX12_line) rfl rfl rfl ?_
    refine x_R.steps 2 (c' := (2, [(0, .ref 75), (1, .int (xs 1))], [.int (xs 1), .ref 75], x_h0, 0, 0)) rfl ?_
    refine x_R.call (a := 205) (vs := [.ref 75, .int (xs 1)]) (rest := []) (M' := M_cX12_isPlayer) rfl rfl rfl ?_
    refine x_R.steps 6 (c' := (9, [(0, .ref 75), (1, .int (xs 1))], [.int 6, .ref 76, .long 0, .long ((xs 1)).toInt64], x_h0, 0, 0)) rfl ?_
    refine x_R.steps 1 (c' := (10, [(0, .ref 75), (1, .int (xs 1))], [.int 0, .long 0, .long ((xs 1)).toInt64], x_h0, 0, 0)) rfl ?_
    refine x_R.steps 3 (c' := (13, [(0, .ref 75), (1, .int (xs 1))], [.long (-1), .long 0, .long ((xs 1)).toInt64], x_h0, 0, 0)) rfl ?_
    refine x_R.call (a := 196) (vs := [.long ((xs 1)).toInt64, .long 0, .long (-1)]) (rest := []) (M' := M_cX12_in) rfl rfl rfl ?_
    refine x_R.steps 3 (c' := (3, [(0, .long ((xs 1)).toInt64), (2, .long 0), (4, .long (-1))], [.int (lg_cmp ((xs 1)).toInt64 0)], x_h0, 0, 0)) rfl ?_
    refine x_R.ite (p := (lg_cmp ((xs 1)).toInt64 0) < (0 : Int32)) (c1 := (17, [(0, .long ((xs 1)).toInt64), (2, .long 0), (4, .long (-1))], [], x_h0, 0, 0)) (c2 := (6, [(0, .long ((xs 1)).toInt64), (2, .long 0), (4, .long (-1))], [], x_h0, 0, 0)) rfl (fun h2 => ?_) (fun h2 => ?_)
    · have g2 := (x_lg_lt (C := 0) (by decide)).mp h2
      refine x_R.steps 1 (c' := (18, [(0, .long ((xs 1)).toInt64), (2, .long 0), (4, .long (-1))], [.int 0], x_h0, 0, 0)) rfl ?_
      refine x_R.ret (v := some (.int 0)) rfl ?_
      refine x_R.steps 0 (c' := (16, [(0, .ref 75), (1, .int (xs 1))], [.int 0], x_h0, 0, 0)) rfl ?_
      refine x_R.ret (v := some (.int 0)) rfl ?_
      refine x_R.steps 0 (c' := (5, [(0, .ref 75), (1, .int (xs 1))], [.int 0], x_h0, 0, 0)) rfl ?_
      refine x_R.steps 1 (c' := (8, [(0, .ref 75), (1, .int (xs 1))], [], x_h0, 0, 0)) rfl ?_
      refine x_R.steps 1 (c' := (10, [(0, .ref 75), (1, .int (xs 1))], [.int (-2)], x_h0, 0, 0)) rfl ?_
      refine x_R.ret (v := some (.int (-2))) rfl ?_
      refine x_R.steps 0 (c' := (1550, [(3, .int 0), (2, .ref 75), (1, .ref 0), (0, .ref x_scr)], [.int (-2), .int (-2)], x_h0, 98, 10728)) rfl ?_
      refine x_R.steps 1 (c' := (2370, [(3, .int 0), (2, .ref 75), (1, .ref 0), (0, .ref x_scr)], [], x_h0, 98, 10728)) rfl ?_
      refine x_R.steps 7 (c' := (24, [(3, .int 6), (2, .ref 75), (1, .ref 0), (0, .ref x_scr)], [.int 0, .int 6], x_h0, 98, 10728)) rfl ?_
      refine x_R.steps 1 (c' := (2376, [(3, .int 6), (2, .ref 75), (1, .ref 0), (0, .ref x_scr)], [], x_h0, 98, 10728)) rfl ?_
      refine x_R.steps 1 (c' := (2377, [(3, .int 6), (2, .ref 75), (1, .ref 0), (0, .ref x_scr)], [.int 1], x_h0, 98, 10728)) rfl ?_
      exact x_R.ret (v := some (.int 1)) rfl x_fin
    · have g2 := mt (x_lg_lt (C := 0) (by decide)).mpr h2
      exfalso; omega
  · have g1 := mt (x_i_lt (C := 0) (by decide)).mpr h1
    refine x_R.steps 3 (c' := (9, [(0, .ref 1), (1, .int (xs 1))], [.int 0, .int (xs 1)], x_h0, 0, 0)) rfl ?_
    refine x_R.ite (p := (0 : Int32) ≤ (xs 1)) (c1 := (16, [(0, .ref 1), (1, .int (xs 1))], [], x_h0, 0, 0)) (c2 := (12, [(0, .ref 1), (1, .int (xs 1))], [], x_h0, 0, 0)) rfl (fun h3 => ?_) (fun h3 => ?_)
    · have g3 := (x_i_ge (C := 0) (by decide)).mp h3
      refine x_R.steps 1 (c' := (17, [(0, .ref 1), (1, .int (xs 1))], [.int 0], x_h0, 0, 0)) rfl ?_
      refine x_R.ret (v := some (.int 0)) rfl ?_
      refine x_R.steps 0 (c' := (8, [(0, .ref 0), (1, .int (xs 1))], [.int 0], x_h0, 0, 0)) rfl ?_
      refine x_R.steps 1 (c' := (11, [(0, .ref 0), (1, .int (xs 1))], [], x_h0, 0, 0)) rfl ?_
      refine x_R.steps 1 (c' := (12, [(0, .ref 0), (1, .int (xs 1))], [.int 0], x_h0, 0, 0)) rfl ?_
      refine x_R.ret (v := some (.int 0)) rfl ?_
      refine x_R.steps 0 (c' := (5, [(0, .ref 0), (1, .int (xs 1))], [.int 0], x_h0, 0, 0)) rfl ?_
      refine x_R.steps 1 (c' := (8, [(0, .ref 0), (1, .int (xs 1))], [], x_h0, 0, 0)) rfl ?_
      refine x_R.steps 1 (c' := (10, [(0, .ref 0), (1, .int (xs 1))], [.int (-2)], x_h0, 0, 0)) rfl ?_
      refine x_R.ret (v := some (.int (-2))) rfl ?_
      refine x_R.steps 0 (c' := (1541, [(3, .int 0), (2, .ref 75), (1, .ref 0), (0, .ref x_scr)], [.int (-2)], x_h0, 98, 10728)) rfl ?_
      refine x_R.steps 5 (c' := (1546, [(3, .int 0), (2, .ref 75), (1, .ref 0), (0, .ref x_scr)], [.int 1, .ref x_scr, .ref 75, .int (-2)], x_h0, 98, 10728)) rfl ?_
      refine x_R.steps 1 (c' := (1547, [(3, .int 0), (2, .ref 75), (1, .ref 0), (0, .ref x_scr)], [.int (xs 1), .ref 75, .int (-2)], x_h0, 98, 10728)) rfl ?_
      refine x_R.call (a := 317) (vs := [.ref 75, .int (xs 1)]) (rest := [.int (-2)]) (M' := M_cX12_line) rfl rfl rfl ?_
      refine x_R.steps 2 (c' := (2, [(0, .ref 75), (1, .int (xs 1))], [.int (xs 1), .ref 75], x_h0, 0, 0)) rfl ?_
      refine x_R.call (a := 205) (vs := [.ref 75, .int (xs 1)]) (rest := []) (M' := M_cX12_isPlayer) rfl rfl rfl ?_
      refine x_R.steps 6 (c' := (9, [(0, .ref 75), (1, .int (xs 1))], [.int 6, .ref 76, .long 0, .long ((xs 1)).toInt64], x_h0, 0, 0)) rfl ?_
      refine x_R.steps 1 (c' := (10, [(0, .ref 75), (1, .int (xs 1))], [.int 0, .long 0, .long ((xs 1)).toInt64], x_h0, 0, 0)) rfl ?_
      refine x_R.steps 3 (c' := (13, [(0, .ref 75), (1, .int (xs 1))], [.long (-1), .long 0, .long ((xs 1)).toInt64], x_h0, 0, 0)) rfl ?_
      refine x_R.call (a := 196) (vs := [.long ((xs 1)).toInt64, .long 0, .long (-1)]) (rest := []) (M' := M_cX12_in) rfl rfl rfl ?_
      refine x_R.steps 3 (c' := (3, [(0, .long ((xs 1)).toInt64), (2, .long 0), (4, .long (-1))], [.int (lg_cmp ((xs 1)).toInt64 0)], x_h0, 0, 0)) rfl ?_
      refine x_R.ite (p := (lg_cmp ((xs 1)).toInt64 0) < (0 : Int32)) (c1 := (17, [(0, .long ((xs 1)).toInt64), (2, .long 0), (4, .long (-1))], [], x_h0, 0, 0)) (c2 := (6, [(0, .long ((xs 1)).toInt64), (2, .long 0), (4, .long (-1))], [], x_h0, 0, 0)) rfl (fun h4 => ?_) (fun h4 => ?_)
      · have g4 := (x_lg_lt (C := 0) (by decide)).mp h4
        exfalso; omega
      · have g4 := mt (x_lg_lt (C := 0) (by decide)).mpr h4
        refine x_R.steps 3 (c' := (10, [(0, .long ((xs 1)).toInt64), (2, .long 0), (4, .long (-1))], [.int (lg_cmp ((xs 1)).toInt64 (-1))], x_h0, 0, 0)) rfl ?_
        refine x_R.ite (p := (0 : Int32) < (lg_cmp ((xs 1)).toInt64 (-1))) (c1 := (17, [(0, .long ((xs 1)).toInt64), (2, .long 0), (4, .long (-1))], [], x_h0, 0, 0)) (c2 := (13, [(0, .long ((xs 1)).toInt64), (2, .long 0), (4, .long (-1))], [], x_h0, 0, 0)) rfl (fun h5 => ?_) (fun h5 => ?_)
        · have g5 := (x_lg_gt (C := -1) (by decide)).mp h5
          refine x_R.steps 1 (c' := (18, [(0, .long ((xs 1)).toInt64), (2, .long 0), (4, .long (-1))], [.int 0], x_h0, 0, 0)) rfl ?_
          refine x_R.ret (v := some (.int 0)) rfl ?_
          refine x_R.steps 0 (c' := (16, [(0, .ref 75), (1, .int (xs 1))], [.int 0], x_h0, 0, 0)) rfl ?_
          refine x_R.ret (v := some (.int 0)) rfl ?_
          refine x_R.steps 0 (c' := (5, [(0, .ref 75), (1, .int (xs 1))], [.int 0], x_h0, 0, 0)) rfl ?_
          refine x_R.steps 1 (c' := (8, [(0, .ref 75), (1, .int (xs 1))], [], x_h0, 0, 0)) rfl ?_
          refine x_R.steps 1 (c' := (10, [(0, .ref 75), (1, .int (xs 1))], [.int (-2)], x_h0, 0, 0)) rfl ?_
          refine x_R.ret (v := some (.int (-2))) rfl ?_
          refine x_R.steps 0 (c' := (1550, [(3, .int 0), (2, .ref 75), (1, .ref 0), (0, .ref x_scr)], [.int (-2), .int (-2)], x_h0, 98, 10728)) rfl ?_
          refine x_R.steps 1 (c' := (2370, [(3, .int 0), (2, .ref 75), (1, .ref 0), (0, .ref x_scr)], [], x_h0, 98, 10728)) rfl ?_
          refine x_R.steps 7 (c' := (24, [(3, .int 6), (2, .ref 75), (1, .ref 0), (0, .ref x_scr)], [.int 0, .int 6], x_h0, 98, 10728)) rfl ?_
          refine x_R.steps 1 (c' := (2376, [(3, .int 6), (2, .ref 75), (1, .ref 0), (0, .ref x_scr)], [], x_h0, 98, 10728)) rfl ?_
          refine x_R.steps 1 (c' := (2377, [(3, .int 6), (2, .ref 75), (1, .ref 0), (0, .ref x_scr)], [.int 1], x_h0, 98, 10728)) rfl ?_
          exact x_R.ret (v := some (.int 1)) rfl x_fin
        · have g5 := mt (x_lg_gt (C := -1) (by decide)).mpr h5
          exfalso; omega
    · have g3 := mt (x_i_ge (C := 0) (by decide)).mpr h3
      exfalso; omega
set_option maxRecDepth 100000 in
set_option maxHeartbeats 4000000 in
theorem x_c45_0 (xs : Nat → Int32)  : x_R x_mt (some (6, xs)) 13 M_law (1555, [(3, .int 0), (2, .ref 75), (1, .ref 0), (0, .ref x_scr)], [], x_h0, 98, 10728) x_P := by
  refine x_R.steps 5 (c' := (1560, [(3, .int 0), (2, .ref 75), (1, .ref 0), (0, .ref x_scr)], [.int 1, .ref x_scr, .ref 0], x_h0, 98, 10728)) rfl ?_
  refine x_R.steps 1 (c' := (1561, [(3, .int 0), (2, .ref 75), (1, .ref 0), (0, .ref x_scr)], [.int (xs 1), .ref 0], x_h0, 98, 10728)) rfl ?_
  refine x_R.steps 4 (c' := (1565, [(3, .int 0), (2, .ref 75), (1, .ref 0), (0, .ref x_scr)], [.int 2, .ref x_scr, .int (xs 1), .ref 0], x_h0, 98, 10728)) rfl ?_
  refine x_R.steps 1 (c' := (1566, [(3, .int 0), (2, .ref 75), (1, .ref 0), (0, .ref x_scr)], [.int (xs 2), .int (xs 1), .ref 0], x_h0, 98, 10728)) rfl ?_
  refine x_R.steps 4 (c' := (1570, [(3, .int 0), (2, .ref 75), (1, .ref 0), (0, .ref x_scr)], [.int 3, .ref x_scr, .int (xs 2), .int (xs 1), .ref 0], x_h0, 98, 10728)) rfl ?_
  refine x_R.steps 1 (c' := (1571, [(3, .int 0), (2, .ref 75), (1, .ref 0), (0, .ref x_scr)], [.int (xs 3), .int (xs 2), .int (xs 1), .ref 0], x_h0, 98, 10728)) rfl ?_
  refine x_R.call (a := 159) (vs := [.ref 0, .int (xs 1), .int (xs 2), .int (xs 3)]) (rest := []) (M' := M_cX11_two) rfl rfl rfl ?_
  refine x_R.steps 1 (c' := (1, [(0, .ref 0), (1, .int (xs 1)), (2, .int (xs 2)), (3, .int (xs 3))], [.int (xs 3)], x_h0, 0, 0)) rfl ?_
  refine x_R.ite (p := (xs 3) < (0 : Int32)) (c1 := (33, [(0, .ref 0), (1, .int (xs 1)), (2, .int (xs 2)), (3, .int (xs 3))], [], x_h0, 0, 0)) (c2 := (4, [(0, .ref 0), (1, .int (xs 1)), (2, .int (xs 2)), (3, .int (xs 3))], [], x_h0, 0, 0)) rfl (fun h1 => ?_) (fun h1 => ?_)
  · have g1 := (x_i_lt (C := 0) (by decide)).mp h1
    refine x_R.steps 1 (c' := (35, [(0, .ref 0), (1, .int (xs 1)), (2, .int (xs 2)), (3, .int (xs 3))], [.int (-2)], x_h0, 0, 0)) rfl ?_
    refine x_R.ret (v := some (.int (-2))) rfl ?_
    refine x_R.steps 0 (c' := (1574, [(3, .int 0), (2, .ref 75), (1, .ref 0), (0, .ref x_scr)], [.int (-2)], x_h0, 98, 10728)) rfl ?_
    refine x_R.steps 5 (c' := (1579, [(3, .int 0), (2, .ref 75), (1, .ref 0), (0, .ref x_scr)], [.int 1, .ref x_scr, .ref 75, .int (-2)], x_h0, 98, 10728)) rfl ?_
    refine x_R.steps 1 (c' := (1580, [(3, .int 0), (2, .ref 75), (1, .ref 0), (0, .ref x_scr)], [.int (xs 1), .ref 75, .int (-2)], x_h0, 98, 10728)) rfl ?_
    refine x_R.steps 4 (c' := (1584, [(3, .int 0), (2, .ref 75), (1, .ref 0), (0, .ref x_scr)], [.int 2, .ref x_scr, .int (xs 1), .ref 75, .int (-2)], x_h0, 98, 10728)) rfl ?_
    refine x_R.steps 1 (c' := (1585, [(3, .int 0), (2, .ref 75), (1, .ref 0), (0, .ref x_scr)], [.int (xs 2), .int (xs 1), .ref 75, .int (-2)], x_h0, 98, 10728)) rfl ?_
    refine x_R.steps 4 (c' := (1589, [(3, .int 0), (2, .ref 75), (1, .ref 0), (0, .ref x_scr)], [.int 3, .ref x_scr, .int (xs 2), .int (xs 1), .ref 75, .int (-2)], x_h0, 98, 10728)) rfl ?_
    refine x_R.steps 1 (c' := (1590, [(3, .int 0), (2, .ref 75), (1, .ref 0), (0, .ref x_scr)], [.int (xs 3), .int (xs 2), .int (xs 1), .ref 75, .int (-2)], x_h0, 98, 10728)) rfl ?_
    refine x_R.call (a := 319) (vs := [.ref 75, .int (xs 1), .int (xs 2), .int (xs 3)]) (rest := [.int (-2)]) (M' := M_cX12_two) rfl rfl rfl ?_
    refine x_R.steps 2 (c' := (2, [(0, .ref 75), (1, .int (xs 1)), (2, .int (xs 2)), (3, .int (xs 3))], [.int (xs 1), .ref 75], x_h0, 0, 0)) rfl ?_
    refine x_R.call (a := 205) (vs := [.ref 75, .int (xs 1)]) (rest := []) (M' := M_cX12_isPlayer) rfl rfl rfl ?_
    refine x_R.steps 6 (c' := (9, [(0, .ref 75), (1, .int (xs 1))], [.int 6, .ref 76, .long 0, .long ((xs 1)).toInt64], x_h0, 0, 0)) rfl ?_
    refine x_R.steps 1 (c' := (10, [(0, .ref 75), (1, .int (xs 1))], [.int 0, .long 0, .long ((xs 1)).toInt64], x_h0, 0, 0)) rfl ?_
    refine x_R.steps 3 (c' := (13, [(0, .ref 75), (1, .int (xs 1))], [.long (-1), .long 0, .long ((xs 1)).toInt64], x_h0, 0, 0)) rfl ?_
    refine x_R.call (a := 196) (vs := [.long ((xs 1)).toInt64, .long 0, .long (-1)]) (rest := []) (M' := M_cX12_in) rfl rfl rfl ?_
    refine x_R.steps 3 (c' := (3, [(0, .long ((xs 1)).toInt64), (2, .long 0), (4, .long (-1))], [.int (lg_cmp ((xs 1)).toInt64 0)], x_h0, 0, 0)) rfl ?_
    refine x_R.ite (p := (lg_cmp ((xs 1)).toInt64 0) < (0 : Int32)) (c1 := (17, [(0, .long ((xs 1)).toInt64), (2, .long 0), (4, .long (-1))], [], x_h0, 0, 0)) (c2 := (6, [(0, .long ((xs 1)).toInt64), (2, .long 0), (4, .long (-1))], [], x_h0, 0, 0)) rfl (fun h2 => ?_) (fun h2 => ?_)
    · have g2 := (x_lg_lt (C := 0) (by decide)).mp h2
      refine x_R.steps 1 (c' := (18, [(0, .long ((xs 1)).toInt64), (2, .long 0), (4, .long (-1))], [.int 0], x_h0, 0, 0)) rfl ?_
      refine x_R.ret (v := some (.int 0)) rfl ?_
      refine x_R.steps 0 (c' := (16, [(0, .ref 75), (1, .int (xs 1))], [.int 0], x_h0, 0, 0)) rfl ?_
      refine x_R.ret (v := some (.int 0)) rfl ?_
      refine x_R.steps 0 (c' := (5, [(0, .ref 75), (1, .int (xs 1)), (2, .int (xs 2)), (3, .int (xs 3))], [.int 0], x_h0, 0, 0)) rfl ?_
      refine x_R.steps 1 (c' := (31, [(0, .ref 75), (1, .int (xs 1)), (2, .int (xs 2)), (3, .int (xs 3))], [], x_h0, 0, 0)) rfl ?_
      refine x_R.steps 1 (c' := (33, [(0, .ref 75), (1, .int (xs 1)), (2, .int (xs 2)), (3, .int (xs 3))], [.int (-2)], x_h0, 0, 0)) rfl ?_
      refine x_R.ret (v := some (.int (-2))) rfl ?_
      refine x_R.steps 0 (c' := (1593, [(3, .int 0), (2, .ref 75), (1, .ref 0), (0, .ref x_scr)], [.int (-2), .int (-2)], x_h0, 98, 10728)) rfl ?_
      refine x_R.steps 1 (c' := (2370, [(3, .int 0), (2, .ref 75), (1, .ref 0), (0, .ref x_scr)], [], x_h0, 98, 10728)) rfl ?_
      refine x_R.steps 7 (c' := (24, [(3, .int 6), (2, .ref 75), (1, .ref 0), (0, .ref x_scr)], [.int 0, .int 6], x_h0, 98, 10728)) rfl ?_
      refine x_R.steps 1 (c' := (2376, [(3, .int 6), (2, .ref 75), (1, .ref 0), (0, .ref x_scr)], [], x_h0, 98, 10728)) rfl ?_
      refine x_R.steps 1 (c' := (2377, [(3, .int 6), (2, .ref 75), (1, .ref 0), (0, .ref x_scr)], [.int 1], x_h0, 98, 10728)) rfl ?_
      exact x_R.ret (v := some (.int 1)) rfl x_fin
    · have g2 := mt (x_lg_lt (C := 0) (by decide)).mpr h2
      refine x_R.steps 3 (c' := (10, [(0, .long ((xs 1)).toInt64), (2, .long 0), (4, .long (-1))], [.int (lg_cmp ((xs 1)).toInt64 (-1))], x_h0, 0, 0)) rfl ?_
      refine x_R.ite (p := (0 : Int32) < (lg_cmp ((xs 1)).toInt64 (-1))) (c1 := (17, [(0, .long ((xs 1)).toInt64), (2, .long 0), (4, .long (-1))], [], x_h0, 0, 0)) (c2 := (13, [(0, .long ((xs 1)).toInt64), (2, .long 0), (4, .long (-1))], [], x_h0, 0, 0)) rfl (fun h3 => ?_) (fun h3 => ?_)
      · have g3 := (x_lg_gt (C := -1) (by decide)).mp h3
        refine x_R.steps 1 (c' := (18, [(0, .long ((xs 1)).toInt64), (2, .long 0), (4, .long (-1))], [.int 0], x_h0, 0, 0)) rfl ?_
        refine x_R.ret (v := some (.int 0)) rfl ?_
        refine x_R.steps 0 (c' := (16, [(0, .ref 75), (1, .int (xs 1))], [.int 0], x_h0, 0, 0)) rfl ?_
        refine x_R.ret (v := some (.int 0)) rfl ?_
        refine x_R.steps 0 (c' := (5, [(0, .ref 75), (1, .int (xs 1)), (2, .int (xs 2)), (3, .int (xs 3))], [.int 0], x_h0, 0, 0)) rfl ?_
        refine x_R.steps 1 (c' := (31, [(0, .ref 75), (1, .int (xs 1)), (2, .int (xs 2)), (3, .int (xs 3))], [], x_h0, 0, 0)) rfl ?_
        refine x_R.steps 1 (c' := (33, [(0, .ref 75), (1, .int (xs 1)), (2, .int (xs 2)), (3, .int (xs 3))], [.int (-2)], x_h0, 0, 0)) rfl ?_
        refine x_R.ret (v := some (.int (-2))) rfl ?_
        refine x_R.steps 0 (c' := (1593, [(3, .int 0), (2, .ref 75), (1, .ref 0), (0, .ref x_scr)], [.int (-2), .int (-2)], x_h0, 98, 10728)) rfl ?_
        refine x_R.steps 1 (c' := (2370, [(3, .int 0), (2, .ref 75), (1, .ref 0), (0, .ref x_scr)], [], x_h0, 98, 10728)) rfl ?_
        refine x_R.steps 7 (c' := (24, [(3, .int 6), (2, .ref 75), (1, .ref 0), (0, .ref x_scr)], [.int 0, .int 6], x_h0, 98, 10728)) rfl ?_
        refine x_R.steps 1 (c' := (2376, [(3, .int 6), (2, .ref 75), (1, .ref 0), (0, .ref x_scr)], [], x_h0, 98, 10728)) rfl ?_
        refine x_R.steps 1 (c' := (2377, [(3, .int 6), (2, .ref 75), (1, .ref 0), (0, .ref x_scr)], [.int 1], x_h0, 98, 10728)) rfl ?_
        exact x_R.ret (v := some (.int 1)) rfl x_fin
      · have g3 := mt (x_lg_gt (C := -1) (by decide)).mpr h3
        exfalso; omega
  · have g1 := mt (x_i_lt (C := 0) (by decide)).mpr h1
    refine x_R.steps 2 (c' := (6, [(0, .ref 0), (1, .int (xs 1)), (2, .int (xs 2)), (3, .int (xs 3))], [.int 1, .int (xs 3)], x_h0, 0, 0)) rfl ?_
    refine x_R.ite (p := (1 : Int32) < (xs 3)) (c1 := (33, [(0, .ref 0), (1, .int (xs 1)), (2, .int (xs 2)), (3, .int (xs 3))], [], x_h0, 0, 0)) (c2 := (9, [(0, .ref 0), (1, .int (xs 1)), (2, .int (xs 2)), (3, .int (xs 3))], [], x_h0, 0, 0)) rfl (fun h4 => ?_) (fun h4 => ?_)
    · have g4 := (x_i_gt (C := 1) (by decide)).mp h4
      refine x_R.steps 1 (c' := (35, [(0, .ref 0), (1, .int (xs 1)), (2, .int (xs 2)), (3, .int (xs 3))], [.int (-2)], x_h0, 0, 0)) rfl ?_
      refine x_R.ret (v := some (.int (-2))) rfl ?_
      refine x_R.steps 0 (c' := (1574, [(3, .int 0), (2, .ref 75), (1, .ref 0), (0, .ref x_scr)], [.int (-2)], x_h0, 98, 10728)) rfl ?_
      refine x_R.steps 5 (c' := (1579, [(3, .int 0), (2, .ref 75), (1, .ref 0), (0, .ref x_scr)], [.int 1, .ref x_scr, .ref 75, .int (-2)], x_h0, 98, 10728)) rfl ?_
      refine x_R.steps 1 (c' := (1580, [(3, .int 0), (2, .ref 75), (1, .ref 0), (0, .ref x_scr)], [.int (xs 1), .ref 75, .int (-2)], x_h0, 98, 10728)) rfl ?_
      refine x_R.steps 4 (c' := (1584, [(3, .int 0), (2, .ref 75), (1, .ref 0), (0, .ref x_scr)], [.int 2, .ref x_scr, .int (xs 1), .ref 75, .int (-2)], x_h0, 98, 10728)) rfl ?_
      refine x_R.steps 1 (c' := (1585, [(3, .int 0), (2, .ref 75), (1, .ref 0), (0, .ref x_scr)], [.int (xs 2), .int (xs 1), .ref 75, .int (-2)], x_h0, 98, 10728)) rfl ?_
      refine x_R.steps 4 (c' := (1589, [(3, .int 0), (2, .ref 75), (1, .ref 0), (0, .ref x_scr)], [.int 3, .ref x_scr, .int (xs 2), .int (xs 1), .ref 75, .int (-2)], x_h0, 98, 10728)) rfl ?_
      refine x_R.steps 1 (c' := (1590, [(3, .int 0), (2, .ref 75), (1, .ref 0), (0, .ref x_scr)], [.int (xs 3), .int (xs 2), .int (xs 1), .ref 75, .int (-2)], x_h0, 98, 10728)) rfl ?_
      refine x_R.call (a := 319) (vs := [.ref 75, .int (xs 1), .int (xs 2), .int (xs 3)]) (rest := [.int (-2)]) (M' := M_cX12_two) rfl rfl rfl ?_
      refine x_R.steps 2 (c' := (2, [(0, .ref 75), (1, .int (xs 1)), (2, .int (xs 2)), (3, .int (xs 3))], [.int (xs 1), .ref 75], x_h0, 0, 0)) rfl ?_
      refine x_R.call (a := 205) (vs := [.ref 75, .int (xs 1)]) (rest := []) (M' := M_cX12_isPlayer) rfl rfl rfl ?_
      refine x_R.steps 6 (c' := (9, [(0, .ref 75), (1, .int (xs 1))], [.int 6, .ref 76, .long 0, .long ((xs 1)).toInt64], x_h0, 0, 0)) rfl ?_
      refine x_R.steps 1 (c' := (10, [(0, .ref 75), (1, .int (xs 1))], [.int 0, .long 0, .long ((xs 1)).toInt64], x_h0, 0, 0)) rfl ?_
      refine x_R.steps 3 (c' := (13, [(0, .ref 75), (1, .int (xs 1))], [.long (-1), .long 0, .long ((xs 1)).toInt64], x_h0, 0, 0)) rfl ?_
      refine x_R.call (a := 196) (vs := [.long ((xs 1)).toInt64, .long 0, .long (-1)]) (rest := []) (M' := M_cX12_in) rfl rfl rfl ?_
      refine x_R.steps 3 (c' := (3, [(0, .long ((xs 1)).toInt64), (2, .long 0), (4, .long (-1))], [.int (lg_cmp ((xs 1)).toInt64 0)], x_h0, 0, 0)) rfl ?_
      refine x_R.ite (p := (lg_cmp ((xs 1)).toInt64 0) < (0 : Int32)) (c1 := (17, [(0, .long ((xs 1)).toInt64), (2, .long 0), (4, .long (-1))], [], x_h0, 0, 0)) (c2 := (6, [(0, .long ((xs 1)).toInt64), (2, .long 0), (4, .long (-1))], [], x_h0, 0, 0)) rfl (fun h5 => ?_) (fun h5 => ?_)
      · have g5 := (x_lg_lt (C := 0) (by decide)).mp h5
        refine x_R.steps 1 (c' := (18, [(0, .long ((xs 1)).toInt64), (2, .long 0), (4, .long (-1))], [.int 0], x_h0, 0, 0)) rfl ?_
        refine x_R.ret (v := some (.int 0)) rfl ?_
        refine x_R.steps 0 (c' := (16, [(0, .ref 75), (1, .int (xs 1))], [.int 0], x_h0, 0, 0)) rfl ?_
        refine x_R.ret (v := some (.int 0)) rfl ?_
        refine x_R.steps 0 (c' := (5, [(0, .ref 75), (1, .int (xs 1)), (2, .int (xs 2)), (3, .int (xs 3))], [.int 0], x_h0, 0, 0)) rfl ?_
        refine x_R.steps 1 (c' := (31, [(0, .ref 75), (1, .int (xs 1)), (2, .int (xs 2)), (3, .int (xs 3))], [], x_h0, 0, 0)) rfl ?_
        refine x_R.steps 1 (c' := (33, [(0, .ref 75), (1, .int (xs 1)), (2, .int (xs 2)), (3, .int (xs 3))], [.int (-2)], x_h0, 0, 0)) rfl ?_
        refine x_R.ret (v := some (.int (-2))) rfl ?_
        refine x_R.steps 0 (c' := (1593, [(3, .int 0), (2, .ref 75), (1, .ref 0), (0, .ref x_scr)], [.int (-2), .int (-2)], x_h0, 98, 10728)) rfl ?_
        refine x_R.steps 1 (c' := (2370, [(3, .int 0), (2, .ref 75), (1, .ref 0), (0, .ref x_scr)], [], x_h0, 98, 10728)) rfl ?_
        refine x_R.steps 7 (c' := (24, [(3, .int 6), (2, .ref 75), (1, .ref 0), (0, .ref x_scr)], [.int 0, .int 6], x_h0, 98, 10728)) rfl ?_
        refine x_R.steps 1 (c' := (2376, [(3, .int 6), (2, .ref 75), (1, .ref 0), (0, .ref x_scr)], [], x_h0, 98, 10728)) rfl ?_
        refine x_R.steps 1 (c' := (2377, [(3, .int 6), (2, .ref 75), (1, .ref 0), (0, .ref x_scr)], [.int 1], x_h0, 98, 10728)) rfl ?_
        exact x_R.ret (v := some (.int 1)) rfl x_fin
      · have g5 := mt (x_lg_lt (C := 0) (by decide)).mpr h5
        refine x_R.steps 3 (c' := (10, [(0, .long ((xs 1)).toInt64), (2, .long 0), (4, .long (-1))], [.int (lg_cmp ((xs 1)).toInt64 (-1))], x_h0, 0, 0)) rfl ?_
        refine x_R.ite (p := (0 : Int32) < (lg_cmp ((xs 1)).toInt64 (-1))) (c1 := (17, [(0, .long ((xs 1)).toInt64), (2, .long 0), (4, .long (-1))], [], x_h0, 0, 0)) (c2 := (13, [(0, .long ((xs 1)).toInt64), (2, .long 0), (4, .long (-1))], [], x_h0, 0, 0)) rfl (fun h6 => ?_) (fun h6 => ?_)
        · have g6 := (x_lg_gt (C := -1) (by decide)).mp h6
          refine x_R.steps 1 (c' := (18, [(0, .long ((xs 1)).toInt64), (2, .long 0), (4, .long (-1))], [.int 0], x_h0, 0, 0)) rfl ?_
          refine x_R.ret (v := some (.int 0)) rfl ?_
          refine x_R.steps 0 (c' := (16, [(0, .ref 75), (1, .int (xs 1))], [.int 0], x_h0, 0, 0)) rfl ?_
          refine x_R.ret (v := some (.int 0)) rfl ?_
          refine x_R.steps 0 (c' := (5, [(0, .ref 75), (1, .int (xs 1)), (2, .int (xs 2)), (3, .int (xs 3))], [.int 0], x_h0, 0, 0)) rfl ?_
          refine x_R.steps 1 (c' := (31, [(0, .ref 75), (1, .int (xs 1)), (2, .int (xs 2)), (3, .int (xs 3))], [], x_h0, 0, 0)) rfl ?_
          refine x_R.steps 1 (c' := (33, [(0, .ref 75), (1, .int (xs 1)), (2, .int (xs 2)), (3, .int (xs 3))], [.int (-2)], x_h0, 0, 0)) rfl ?_
          refine x_R.ret (v := some (.int (-2))) rfl ?_
          refine x_R.steps 0 (c' := (1593, [(3, .int 0), (2, .ref 75), (1, .ref 0), (0, .ref x_scr)], [.int (-2), .int (-2)], x_h0, 98, 10728)) rfl ?_
          refine x_R.steps 1 (c' := (2370, [(3, .int 0), (2, .ref 75), (1, .ref 0), (0, .ref x_scr)], [], x_h0, 98, 10728)) rfl ?_
          refine x_R.steps 7 (c' := (24, [(3, .int 6), (2, .ref 75), (1, .ref 0), (0, .ref x_scr)], [.int 0, .int 6], x_h0, 98, 10728)) rfl ?_
          refine x_R.steps 1 (c' := (2376, [(3, .int 6), (2, .ref 75), (1, .ref 0), (0, .ref x_scr)], [], x_h0, 98, 10728)) rfl ?_
          refine x_R.steps 1 (c' := (2377, [(3, .int 6), (2, .ref 75), (1, .ref 0), (0, .ref x_scr)], [.int 1], x_h0, 98, 10728)) rfl ?_
          exact x_R.ret (v := some (.int 1)) rfl x_fin
        · have g6 := mt (x_lg_gt (C := -1) (by decide)).mpr h6
          exfalso; omega
    · have g4 := mt (x_i_gt (C := 1) (by decide)).mpr h4
      refine x_R.steps 2 (c' := (11, [(0, .ref 0), (1, .int (xs 1)), (2, .int (xs 2)), (3, .int (xs 3))], [.int (xs 2), .int (xs 1)], x_h0, 0, 0)) rfl ?_
      refine x_R.ite (p := (xs 1) = (xs 2)) (c1 := (33, [(0, .ref 0), (1, .int (xs 1)), (2, .int (xs 2)), (3, .int (xs 3))], [], x_h0, 0, 0)) (c2 := (14, [(0, .ref 0), (1, .int (xs 1)), (2, .int (xs 2)), (3, .int (xs 3))], [], x_h0, 0, 0)) rfl (fun h7 => ?_) (fun h7 => ?_)
      · skip
        refine x_R.steps 1 (c' := (35, [(0, .ref 0), (1, .int (xs 1)), (2, .int (xs 2)), (3, .int (xs 3))], [.int (-2)], x_h0, 0, 0)) rfl ?_
        refine x_R.ret (v := some (.int (-2))) rfl ?_
        refine x_R.steps 0 (c' := (1574, [(3, .int 0), (2, .ref 75), (1, .ref 0), (0, .ref x_scr)], [.int (-2)], x_h0, 98, 10728)) rfl ?_
        refine x_R.steps 5 (c' := (1579, [(3, .int 0), (2, .ref 75), (1, .ref 0), (0, .ref x_scr)], [.int 1, .ref x_scr, .ref 75, .int (-2)], x_h0, 98, 10728)) rfl ?_
        refine x_R.steps 1 (c' := (1580, [(3, .int 0), (2, .ref 75), (1, .ref 0), (0, .ref x_scr)], [.int (xs 1), .ref 75, .int (-2)], x_h0, 98, 10728)) rfl ?_
        refine x_R.steps 4 (c' := (1584, [(3, .int 0), (2, .ref 75), (1, .ref 0), (0, .ref x_scr)], [.int 2, .ref x_scr, .int (xs 1), .ref 75, .int (-2)], x_h0, 98, 10728)) rfl ?_
        refine x_R.steps 1 (c' := (1585, [(3, .int 0), (2, .ref 75), (1, .ref 0), (0, .ref x_scr)], [.int (xs 2), .int (xs 1), .ref 75, .int (-2)], x_h0, 98, 10728)) rfl ?_
        refine x_R.steps 4 (c' := (1589, [(3, .int 0), (2, .ref 75), (1, .ref 0), (0, .ref x_scr)], [.int 3, .ref x_scr, .int (xs 2), .int (xs 1), .ref 75, .int (-2)], x_h0, 98, 10728)) rfl ?_
        refine x_R.steps 1 (c' := (1590, [(3, .int 0), (2, .ref 75), (1, .ref 0), (0, .ref x_scr)], [.int (xs 3), .int (xs 2), .int (xs 1), .ref 75, .int (-2)], x_h0, 98, 10728)) rfl ?_
        refine x_R.call (a := 319) (vs := [.ref 75, .int (xs 1), .int (xs 2), .int (xs 3)]) (rest := [.int (-2)]) (M' := M_cX12_two) rfl rfl rfl ?_
        refine x_R.steps 2 (c' := (2, [(0, .ref 75), (1, .int (xs 1)), (2, .int (xs 2)), (3, .int (xs 3))], [.int (xs 1), .ref 75], x_h0, 0, 0)) rfl ?_
        refine x_R.call (a := 205) (vs := [.ref 75, .int (xs 1)]) (rest := []) (M' := M_cX12_isPlayer) rfl rfl rfl ?_
        refine x_R.steps 6 (c' := (9, [(0, .ref 75), (1, .int (xs 1))], [.int 6, .ref 76, .long 0, .long ((xs 1)).toInt64], x_h0, 0, 0)) rfl ?_
        refine x_R.steps 1 (c' := (10, [(0, .ref 75), (1, .int (xs 1))], [.int 0, .long 0, .long ((xs 1)).toInt64], x_h0, 0, 0)) rfl ?_
        refine x_R.steps 3 (c' := (13, [(0, .ref 75), (1, .int (xs 1))], [.long (-1), .long 0, .long ((xs 1)).toInt64], x_h0, 0, 0)) rfl ?_
        refine x_R.call (a := 196) (vs := [.long ((xs 1)).toInt64, .long 0, .long (-1)]) (rest := []) (M' := M_cX12_in) rfl rfl rfl ?_
        refine x_R.steps 3 (c' := (3, [(0, .long ((xs 1)).toInt64), (2, .long 0), (4, .long (-1))], [.int (lg_cmp ((xs 1)).toInt64 0)], x_h0, 0, 0)) rfl ?_
        refine x_R.ite (p := (lg_cmp ((xs 1)).toInt64 0) < (0 : Int32)) (c1 := (17, [(0, .long ((xs 1)).toInt64), (2, .long 0), (4, .long (-1))], [], x_h0, 0, 0)) (c2 := (6, [(0, .long ((xs 1)).toInt64), (2, .long 0), (4, .long (-1))], [], x_h0, 0, 0)) rfl (fun h8 => ?_) (fun h8 => ?_)
        · have g8 := (x_lg_lt (C := 0) (by decide)).mp h8
          refine x_R.steps 1 (c' := (18, [(0, .long ((xs 1)).toInt64), (2, .long 0), (4, .long (-1))], [.int 0], x_h0, 0, 0)) rfl ?_
          refine x_R.ret (v := some (.int 0)) rfl ?_
          refine x_R.steps 0 (c' := (16, [(0, .ref 75), (1, .int (xs 1))], [.int 0], x_h0, 0, 0)) rfl ?_
          refine x_R.ret (v := some (.int 0)) rfl ?_
          refine x_R.steps 0 (c' := (5, [(0, .ref 75), (1, .int (xs 1)), (2, .int (xs 2)), (3, .int (xs 3))], [.int 0], x_h0, 0, 0)) rfl ?_
          refine x_R.steps 1 (c' := (31, [(0, .ref 75), (1, .int (xs 1)), (2, .int (xs 2)), (3, .int (xs 3))], [], x_h0, 0, 0)) rfl ?_
          refine x_R.steps 1 (c' := (33, [(0, .ref 75), (1, .int (xs 1)), (2, .int (xs 2)), (3, .int (xs 3))], [.int (-2)], x_h0, 0, 0)) rfl ?_
          refine x_R.ret (v := some (.int (-2))) rfl ?_
          refine x_R.steps 0 (c' := (1593, [(3, .int 0), (2, .ref 75), (1, .ref 0), (0, .ref x_scr)], [.int (-2), .int (-2)], x_h0, 98, 10728)) rfl ?_
          refine x_R.steps 1 (c' := (2370, [(3, .int 0), (2, .ref 75), (1, .ref 0), (0, .ref x_scr)], [], x_h0, 98, 10728)) rfl ?_
          refine x_R.steps 7 (c' := (24, [(3, .int 6), (2, .ref 75), (1, .ref 0), (0, .ref x_scr)], [.int 0, .int 6], x_h0, 98, 10728)) rfl ?_
          refine x_R.steps 1 (c' := (2376, [(3, .int 6), (2, .ref 75), (1, .ref 0), (0, .ref x_scr)], [], x_h0, 98, 10728)) rfl ?_
          refine x_R.steps 1 (c' := (2377, [(3, .int 6), (2, .ref 75), (1, .ref 0), (0, .ref x_scr)], [.int 1], x_h0, 98, 10728)) rfl ?_
          exact x_R.ret (v := some (.int 1)) rfl x_fin
        · have g8 := mt (x_lg_lt (C := 0) (by decide)).mpr h8
          refine x_R.steps 3 (c' := (10, [(0, .long ((xs 1)).toInt64), (2, .long 0), (4, .long (-1))], [.int (lg_cmp ((xs 1)).toInt64 (-1))], x_h0, 0, 0)) rfl ?_
          refine x_R.ite (p := (0 : Int32) < (lg_cmp ((xs 1)).toInt64 (-1))) (c1 := (17, [(0, .long ((xs 1)).toInt64), (2, .long 0), (4, .long (-1))], [], x_h0, 0, 0)) (c2 := (13, [(0, .long ((xs 1)).toInt64), (2, .long 0), (4, .long (-1))], [], x_h0, 0, 0)) rfl (fun h9 => ?_) (fun h9 => ?_)
          · have g9 := (x_lg_gt (C := -1) (by decide)).mp h9
            refine x_R.steps 1 (c' := (18, [(0, .long ((xs 1)).toInt64), (2, .long 0), (4, .long (-1))], [.int 0], x_h0, 0, 0)) rfl ?_
            refine x_R.ret (v := some (.int 0)) rfl ?_
            refine x_R.steps 0 (c' := (16, [(0, .ref 75), (1, .int (xs 1))], [.int 0], x_h0, 0, 0)) rfl ?_
            refine x_R.ret (v := some (.int 0)) rfl ?_
            refine x_R.steps 0 (c' := (5, [(0, .ref 75), (1, .int (xs 1)), (2, .int (xs 2)), (3, .int (xs 3))], [.int 0], x_h0, 0, 0)) rfl ?_
            refine x_R.steps 1 (c' := (31, [(0, .ref 75), (1, .int (xs 1)), (2, .int (xs 2)), (3, .int (xs 3))], [], x_h0, 0, 0)) rfl ?_
            refine x_R.steps 1 (c' := (33, [(0, .ref 75), (1, .int (xs 1)), (2, .int (xs 2)), (3, .int (xs 3))], [.int (-2)], x_h0, 0, 0)) rfl ?_
            refine x_R.ret (v := some (.int (-2))) rfl ?_
            refine x_R.steps 0 (c' := (1593, [(3, .int 0), (2, .ref 75), (1, .ref 0), (0, .ref x_scr)], [.int (-2), .int (-2)], x_h0, 98, 10728)) rfl ?_
            refine x_R.steps 1 (c' := (2370, [(3, .int 0), (2, .ref 75), (1, .ref 0), (0, .ref x_scr)], [], x_h0, 98, 10728)) rfl ?_
            refine x_R.steps 7 (c' := (24, [(3, .int 6), (2, .ref 75), (1, .ref 0), (0, .ref x_scr)], [.int 0, .int 6], x_h0, 98, 10728)) rfl ?_
            refine x_R.steps 1 (c' := (2376, [(3, .int 6), (2, .ref 75), (1, .ref 0), (0, .ref x_scr)], [], x_h0, 98, 10728)) rfl ?_
            refine x_R.steps 1 (c' := (2377, [(3, .int 6), (2, .ref 75), (1, .ref 0), (0, .ref x_scr)], [.int 1], x_h0, 98, 10728)) rfl ?_
            exact x_R.ret (v := some (.int 1)) rfl x_fin
          · have g9 := mt (x_lg_gt (C := -1) (by decide)).mpr h9
            exfalso; omega
      · skip
        refine x_R.steps 3 (c' := (19, [(0, .ref 0), (1, .int (xs 1)), (2, .int (xs 2)), (3, .int (xs 3))], [.int (xs 2), .ref 1], x_h0, 0, 0)) rfl ?_
        refine x_R.call (a := 15) (vs := [.ref 1, .int (xs 2)]) (rest := []) (M' := M_cX2_isPlayer) rfl rfl rfl ?_
        refine x_R.steps 1 (c' := (1, [(0, .ref 1), (1, .int (xs 2))], [.int (xs 2)], x_h0, 0, 0)) rfl ?_
        refine x_R.ite (p := (xs 2) < (0 : Int32)) (c1 := (16, [(0, .ref 1), (1, .int (xs 2))], [], x_h0, 0, 0)) (c2 := (4, [(0, .ref 1), (1, .int (xs 2))], [], x_h0, 0, 0)) rfl (fun h10 => ?_) (fun h10 => ?_)
        · have g10 := (x_i_lt (C := 0) (by decide)).mp h10
          refine x_R.steps 1 (c' := (17, [(0, .ref 1), (1, .int (xs 2))], [.int 0], x_h0, 0, 0)) rfl ?_
          refine x_R.ret (v := some (.int 0)) rfl ?_
          refine x_R.steps 0 (c' := (22, [(0, .ref 0), (1, .int (xs 1)), (2, .int (xs 2)), (3, .int (xs 3))], [.int 0], x_h0, 0, 0)) rfl ?_
          refine x_R.steps 1 (c' := (33, [(0, .ref 0), (1, .int (xs 1)), (2, .int (xs 2)), (3, .int (xs 3))], [], x_h0, 0, 0)) rfl ?_
          refine x_R.steps 1 (c' := (35, [(0, .ref 0), (1, .int (xs 1)), (2, .int (xs 2)), (3, .int (xs 3))], [.int (-2)], x_h0, 0, 0)) rfl ?_
          refine x_R.ret (v := some (.int (-2))) rfl ?_
          refine x_R.steps 0 (c' := (1574, [(3, .int 0), (2, .ref 75), (1, .ref 0), (0, .ref x_scr)], [.int (-2)], x_h0, 98, 10728)) rfl ?_
          refine x_R.steps 5 (c' := (1579, [(3, .int 0), (2, .ref 75), (1, .ref 0), (0, .ref x_scr)], [.int 1, .ref x_scr, .ref 75, .int (-2)], x_h0, 98, 10728)) rfl ?_
          refine x_R.steps 1 (c' := (1580, [(3, .int 0), (2, .ref 75), (1, .ref 0), (0, .ref x_scr)], [.int (xs 1), .ref 75, .int (-2)], x_h0, 98, 10728)) rfl ?_
          refine x_R.steps 4 (c' := (1584, [(3, .int 0), (2, .ref 75), (1, .ref 0), (0, .ref x_scr)], [.int 2, .ref x_scr, .int (xs 1), .ref 75, .int (-2)], x_h0, 98, 10728)) rfl ?_
          refine x_R.steps 1 (c' := (1585, [(3, .int 0), (2, .ref 75), (1, .ref 0), (0, .ref x_scr)], [.int (xs 2), .int (xs 1), .ref 75, .int (-2)], x_h0, 98, 10728)) rfl ?_
          refine x_R.steps 4 (c' := (1589, [(3, .int 0), (2, .ref 75), (1, .ref 0), (0, .ref x_scr)], [.int 3, .ref x_scr, .int (xs 2), .int (xs 1), .ref 75, .int (-2)], x_h0, 98, 10728)) rfl ?_
          refine x_R.steps 1 (c' := (1590, [(3, .int 0), (2, .ref 75), (1, .ref 0), (0, .ref x_scr)], [.int (xs 3), .int (xs 2), .int (xs 1), .ref 75, .int (-2)], x_h0, 98, 10728)) rfl ?_
          refine x_R.call (a := 319) (vs := [.ref 75, .int (xs 1), .int (xs 2), .int (xs 3)]) (rest := [.int (-2)]) (M' := M_cX12_two) rfl rfl rfl ?_
          refine x_R.steps 2 (c' := (2, [(0, .ref 75), (1, .int (xs 1)), (2, .int (xs 2)), (3, .int (xs 3))], [.int (xs 1), .ref 75], x_h0, 0, 0)) rfl ?_
          refine x_R.call (a := 205) (vs := [.ref 75, .int (xs 1)]) (rest := []) (M' := M_cX12_isPlayer) rfl rfl rfl ?_
          refine x_R.steps 6 (c' := (9, [(0, .ref 75), (1, .int (xs 1))], [.int 6, .ref 76, .long 0, .long ((xs 1)).toInt64], x_h0, 0, 0)) rfl ?_
          refine x_R.steps 1 (c' := (10, [(0, .ref 75), (1, .int (xs 1))], [.int 0, .long 0, .long ((xs 1)).toInt64], x_h0, 0, 0)) rfl ?_
          refine x_R.steps 3 (c' := (13, [(0, .ref 75), (1, .int (xs 1))], [.long (-1), .long 0, .long ((xs 1)).toInt64], x_h0, 0, 0)) rfl ?_
          refine x_R.call (a := 196) (vs := [.long ((xs 1)).toInt64, .long 0, .long (-1)]) (rest := []) (M' := M_cX12_in) rfl rfl rfl ?_
          refine x_R.steps 3 (c' := (3, [(0, .long ((xs 1)).toInt64), (2, .long 0), (4, .long (-1))], [.int (lg_cmp ((xs 1)).toInt64 0)], x_h0, 0, 0)) rfl ?_
          refine x_R.ite (p := (lg_cmp ((xs 1)).toInt64 0) < (0 : Int32)) (c1 := (17, [(0, .long ((xs 1)).toInt64), (2, .long 0), (4, .long (-1))], [], x_h0, 0, 0)) (c2 := (6, [(0, .long ((xs 1)).toInt64), (2, .long 0), (4, .long (-1))], [], x_h0, 0, 0)) rfl (fun h11 => ?_) (fun h11 => ?_)
          · have g11 := (x_lg_lt (C := 0) (by decide)).mp h11
            refine x_R.steps 1 (c' := (18, [(0, .long ((xs 1)).toInt64), (2, .long 0), (4, .long (-1))], [.int 0], x_h0, 0, 0)) rfl ?_
            refine x_R.ret (v := some (.int 0)) rfl ?_
            refine x_R.steps 0 (c' := (16, [(0, .ref 75), (1, .int (xs 1))], [.int 0], x_h0, 0, 0)) rfl ?_
            refine x_R.ret (v := some (.int 0)) rfl ?_
            refine x_R.steps 0 (c' := (5, [(0, .ref 75), (1, .int (xs 1)), (2, .int (xs 2)), (3, .int (xs 3))], [.int 0], x_h0, 0, 0)) rfl ?_
            refine x_R.steps 1 (c' := (31, [(0, .ref 75), (1, .int (xs 1)), (2, .int (xs 2)), (3, .int (xs 3))], [], x_h0, 0, 0)) rfl ?_
            refine x_R.steps 1 (c' := (33, [(0, .ref 75), (1, .int (xs 1)), (2, .int (xs 2)), (3, .int (xs 3))], [.int (-2)], x_h0, 0, 0)) rfl ?_
            refine x_R.ret (v := some (.int (-2))) rfl ?_
            refine x_R.steps 0 (c' := (1593, [(3, .int 0), (2, .ref 75), (1, .ref 0), (0, .ref x_scr)], [.int (-2), .int (-2)], x_h0, 98, 10728)) rfl ?_
            refine x_R.steps 1 (c' := (2370, [(3, .int 0), (2, .ref 75), (1, .ref 0), (0, .ref x_scr)], [], x_h0, 98, 10728)) rfl ?_
            refine x_R.steps 7 (c' := (24, [(3, .int 6), (2, .ref 75), (1, .ref 0), (0, .ref x_scr)], [.int 0, .int 6], x_h0, 98, 10728)) rfl ?_
            refine x_R.steps 1 (c' := (2376, [(3, .int 6), (2, .ref 75), (1, .ref 0), (0, .ref x_scr)], [], x_h0, 98, 10728)) rfl ?_
            refine x_R.steps 1 (c' := (2377, [(3, .int 6), (2, .ref 75), (1, .ref 0), (0, .ref x_scr)], [.int 1], x_h0, 98, 10728)) rfl ?_
            exact x_R.ret (v := some (.int 1)) rfl x_fin
          · have g11 := mt (x_lg_lt (C := 0) (by decide)).mpr h11
            refine x_R.steps 3 (c' := (10, [(0, .long ((xs 1)).toInt64), (2, .long 0), (4, .long (-1))], [.int (lg_cmp ((xs 1)).toInt64 (-1))], x_h0, 0, 0)) rfl ?_
            refine x_R.ite (p := (0 : Int32) < (lg_cmp ((xs 1)).toInt64 (-1))) (c1 := (17, [(0, .long ((xs 1)).toInt64), (2, .long 0), (4, .long (-1))], [], x_h0, 0, 0)) (c2 := (13, [(0, .long ((xs 1)).toInt64), (2, .long 0), (4, .long (-1))], [], x_h0, 0, 0)) rfl (fun h12 => ?_) (fun h12 => ?_)
            · have g12 := (x_lg_gt (C := -1) (by decide)).mp h12
              refine x_R.steps 1 (c' := (18, [(0, .long ((xs 1)).toInt64), (2, .long 0), (4, .long (-1))], [.int 0], x_h0, 0, 0)) rfl ?_
              refine x_R.ret (v := some (.int 0)) rfl ?_
              refine x_R.steps 0 (c' := (16, [(0, .ref 75), (1, .int (xs 1))], [.int 0], x_h0, 0, 0)) rfl ?_
              refine x_R.ret (v := some (.int 0)) rfl ?_
              refine x_R.steps 0 (c' := (5, [(0, .ref 75), (1, .int (xs 1)), (2, .int (xs 2)), (3, .int (xs 3))], [.int 0], x_h0, 0, 0)) rfl ?_
              refine x_R.steps 1 (c' := (31, [(0, .ref 75), (1, .int (xs 1)), (2, .int (xs 2)), (3, .int (xs 3))], [], x_h0, 0, 0)) rfl ?_
              refine x_R.steps 1 (c' := (33, [(0, .ref 75), (1, .int (xs 1)), (2, .int (xs 2)), (3, .int (xs 3))], [.int (-2)], x_h0, 0, 0)) rfl ?_
              refine x_R.ret (v := some (.int (-2))) rfl ?_
              refine x_R.steps 0 (c' := (1593, [(3, .int 0), (2, .ref 75), (1, .ref 0), (0, .ref x_scr)], [.int (-2), .int (-2)], x_h0, 98, 10728)) rfl ?_
              refine x_R.steps 1 (c' := (2370, [(3, .int 0), (2, .ref 75), (1, .ref 0), (0, .ref x_scr)], [], x_h0, 98, 10728)) rfl ?_
              refine x_R.steps 7 (c' := (24, [(3, .int 6), (2, .ref 75), (1, .ref 0), (0, .ref x_scr)], [.int 0, .int 6], x_h0, 98, 10728)) rfl ?_
              refine x_R.steps 1 (c' := (2376, [(3, .int 6), (2, .ref 75), (1, .ref 0), (0, .ref x_scr)], [], x_h0, 98, 10728)) rfl ?_
              refine x_R.steps 1 (c' := (2377, [(3, .int 6), (2, .ref 75), (1, .ref 0), (0, .ref x_scr)], [.int 1], x_h0, 98, 10728)) rfl ?_
              exact x_R.ret (v := some (.int 1)) rfl x_fin
            · have g12 := mt (x_lg_gt (C := -1) (by decide)).mpr h12
              exfalso; omega
        · have g10 := mt (x_i_lt (C := 0) (by decide)).mpr h10
          refine x_R.steps 3 (c' := (9, [(0, .ref 1), (1, .int (xs 2))], [.int 0, .int (xs 2)], x_h0, 0, 0)) rfl ?_
          refine x_R.ite (p := (0 : Int32) ≤ (xs 2)) (c1 := (16, [(0, .ref 1), (1, .int (xs 2))], [], x_h0, 0, 0)) (c2 := (12, [(0, .ref 1), (1, .int (xs 2))], [], x_h0, 0, 0)) rfl (fun h13 => ?_) (fun h13 => ?_)
          · have g13 := (x_i_ge (C := 0) (by decide)).mp h13
            refine x_R.steps 1 (c' := (17, [(0, .ref 1), (1, .int (xs 2))], [.int 0], x_h0, 0, 0)) rfl ?_
            refine x_R.ret (v := some (.int 0)) rfl ?_
            refine x_R.steps 0 (c' := (22, [(0, .ref 0), (1, .int (xs 1)), (2, .int (xs 2)), (3, .int (xs 3))], [.int 0], x_h0, 0, 0)) rfl ?_
            refine x_R.steps 1 (c' := (33, [(0, .ref 0), (1, .int (xs 1)), (2, .int (xs 2)), (3, .int (xs 3))], [], x_h0, 0, 0)) rfl ?_
            refine x_R.steps 1 (c' := (35, [(0, .ref 0), (1, .int (xs 1)), (2, .int (xs 2)), (3, .int (xs 3))], [.int (-2)], x_h0, 0, 0)) rfl ?_
            refine x_R.ret (v := some (.int (-2))) rfl ?_
            refine x_R.steps 0 (c' := (1574, [(3, .int 0), (2, .ref 75), (1, .ref 0), (0, .ref x_scr)], [.int (-2)], x_h0, 98, 10728)) rfl ?_
            refine x_R.steps 5 (c' := (1579, [(3, .int 0), (2, .ref 75), (1, .ref 0), (0, .ref x_scr)], [.int 1, .ref x_scr, .ref 75, .int (-2)], x_h0, 98, 10728)) rfl ?_
            refine x_R.steps 1 (c' := (1580, [(3, .int 0), (2, .ref 75), (1, .ref 0), (0, .ref x_scr)], [.int (xs 1), .ref 75, .int (-2)], x_h0, 98, 10728)) rfl ?_
            refine x_R.steps 4 (c' := (1584, [(3, .int 0), (2, .ref 75), (1, .ref 0), (0, .ref x_scr)], [.int 2, .ref x_scr, .int (xs 1), .ref 75, .int (-2)], x_h0, 98, 10728)) rfl ?_
            refine x_R.steps 1 (c' := (1585, [(3, .int 0), (2, .ref 75), (1, .ref 0), (0, .ref x_scr)], [.int (xs 2), .int (xs 1), .ref 75, .int (-2)], x_h0, 98, 10728)) rfl ?_
            refine x_R.steps 4 (c' := (1589, [(3, .int 0), (2, .ref 75), (1, .ref 0), (0, .ref x_scr)], [.int 3, .ref x_scr, .int (xs 2), .int (xs 1), .ref 75, .int (-2)], x_h0, 98, 10728)) rfl ?_
            refine x_R.steps 1 (c' := (1590, [(3, .int 0), (2, .ref 75), (1, .ref 0), (0, .ref x_scr)], [.int (xs 3), .int (xs 2), .int (xs 1), .ref 75, .int (-2)], x_h0, 98, 10728)) rfl ?_
            refine x_R.call (a := 319) (vs := [.ref 75, .int (xs 1), .int (xs 2), .int (xs 3)]) (rest := [.int (-2)]) (M' := M_cX12_two) rfl rfl rfl ?_
            refine x_R.steps 2 (c' := (2, [(0, .ref 75), (1, .int (xs 1)), (2, .int (xs 2)), (3, .int (xs 3))], [.int (xs 1), .ref 75], x_h0, 0, 0)) rfl ?_
            refine x_R.call (a := 205) (vs := [.ref 75, .int (xs 1)]) (rest := []) (M' := M_cX12_isPlayer) rfl rfl rfl ?_
            refine x_R.steps 6 (c' := (9, [(0, .ref 75), (1, .int (xs 1))], [.int 6, .ref 76, .long 0, .long ((xs 1)).toInt64], x_h0, 0, 0)) rfl ?_
            refine x_R.steps 1 (c' := (10, [(0, .ref 75), (1, .int (xs 1))], [.int 0, .long 0, .long ((xs 1)).toInt64], x_h0, 0, 0)) rfl ?_
            refine x_R.steps 3 (c' := (13, [(0, .ref 75), (1, .int (xs 1))], [.long (-1), .long 0, .long ((xs 1)).toInt64], x_h0, 0, 0)) rfl ?_
            refine x_R.call (a := 196) (vs := [.long ((xs 1)).toInt64, .long 0, .long (-1)]) (rest := []) (M' := M_cX12_in) rfl rfl rfl ?_
            refine x_R.steps 3 (c' := (3, [(0, .long ((xs 1)).toInt64), (2, .long 0), (4, .long (-1))], [.int (lg_cmp ((xs 1)).toInt64 0)], x_h0, 0, 0)) rfl ?_
            refine x_R.ite (p := (lg_cmp ((xs 1)).toInt64 0) < (0 : Int32)) (c1 := (17, [(0, .long ((xs 1)).toInt64), (2, .long 0), (4, .long (-1))], [], x_h0, 0, 0)) (c2 := (6, [(0, .long ((xs 1)).toInt64), (2, .long 0), (4, .long (-1))], [], x_h0, 0, 0)) rfl (fun h14 => ?_) (fun h14 => ?_)
            · have g14 := (x_lg_lt (C := 0) (by decide)).mp h14
              refine x_R.steps 1 (c' := (18, [(0, .long ((xs 1)).toInt64), (2, .long 0), (4, .long (-1))], [.int 0], x_h0, 0, 0)) rfl ?_
              refine x_R.ret (v := some (.int 0)) rfl ?_
              refine x_R.steps 0 (c' := (16, [(0, .ref 75), (1, .int (xs 1))], [.int 0], x_h0, 0, 0)) rfl ?_
              refine x_R.ret (v := some (.int 0)) rfl ?_
              refine x_R.steps 0 (c' := (5, [(0, .ref 75), (1, .int (xs 1)), (2, .int (xs 2)), (3, .int (xs 3))], [.int 0], x_h0, 0, 0)) rfl ?_
              refine x_R.steps 1 (c' := (31, [(0, .ref 75), (1, .int (xs 1)), (2, .int (xs 2)), (3, .int (xs 3))], [], x_h0, 0, 0)) rfl ?_
              refine x_R.steps 1 (c' := (33, [(0, .ref 75), (1, .int (xs 1)), (2, .int (xs 2)), (3, .int (xs 3))], [.int (-2)], x_h0, 0, 0)) rfl ?_
              refine x_R.ret (v := some (.int (-2))) rfl ?_
              refine x_R.steps 0 (c' := (1593, [(3, .int 0), (2, .ref 75), (1, .ref 0), (0, .ref x_scr)], [.int (-2), .int (-2)], x_h0, 98, 10728)) rfl ?_
              refine x_R.steps 1 (c' := (2370, [(3, .int 0), (2, .ref 75), (1, .ref 0), (0, .ref x_scr)], [], x_h0, 98, 10728)) rfl ?_
              refine x_R.steps 7 (c' := (24, [(3, .int 6), (2, .ref 75), (1, .ref 0), (0, .ref x_scr)], [.int 0, .int 6], x_h0, 98, 10728)) rfl ?_
              refine x_R.steps 1 (c' := (2376, [(3, .int 6), (2, .ref 75), (1, .ref 0), (0, .ref x_scr)], [], x_h0, 98, 10728)) rfl ?_
              refine x_R.steps 1 (c' := (2377, [(3, .int 6), (2, .ref 75), (1, .ref 0), (0, .ref x_scr)], [.int 1], x_h0, 98, 10728)) rfl ?_
              exact x_R.ret (v := some (.int 1)) rfl x_fin
            · have g14 := mt (x_lg_lt (C := 0) (by decide)).mpr h14
              refine x_R.steps 3 (c' := (10, [(0, .long ((xs 1)).toInt64), (2, .long 0), (4, .long (-1))], [.int (lg_cmp ((xs 1)).toInt64 (-1))], x_h0, 0, 0)) rfl ?_
              refine x_R.ite (p := (0 : Int32) < (lg_cmp ((xs 1)).toInt64 (-1))) (c1 := (17, [(0, .long ((xs 1)).toInt64), (2, .long 0), (4, .long (-1))], [], x_h0, 0, 0)) (c2 := (13, [(0, .long ((xs 1)).toInt64), (2, .long 0), (4, .long (-1))], [], x_h0, 0, 0)) rfl (fun h15 => ?_) (fun h15 => ?_)
              · have g15 := (x_lg_gt (C := -1) (by decide)).mp h15
                refine x_R.steps 1 (c' := (18, [(0, .long ((xs 1)).toInt64), (2, .long 0), (4, .long (-1))], [.int 0], x_h0, 0, 0)) rfl ?_
                refine x_R.ret (v := some (.int 0)) rfl ?_
                refine x_R.steps 0 (c' := (16, [(0, .ref 75), (1, .int (xs 1))], [.int 0], x_h0, 0, 0)) rfl ?_
                refine x_R.ret (v := some (.int 0)) rfl ?_
                refine x_R.steps 0 (c' := (5, [(0, .ref 75), (1, .int (xs 1)), (2, .int (xs 2)), (3, .int (xs 3))], [.int 0], x_h0, 0, 0)) rfl ?_
                refine x_R.steps 1 (c' := (31, [(0, .ref 75), (1, .int (xs 1)), (2, .int (xs 2)), (3, .int (xs 3))], [], x_h0, 0, 0)) rfl ?_
                refine x_R.steps 1 (c' := (33, [(0, .ref 75), (1, .int (xs 1)), (2, .int (xs 2)), (3, .int (xs 3))], [.int (-2)], x_h0, 0, 0)) rfl ?_
                refine x_R.ret (v := some (.int (-2))) rfl ?_
                refine x_R.steps 0 (c' := (1593, [(3, .int 0), (2, .ref 75), (1, .ref 0), (0, .ref x_scr)], [.int (-2), .int (-2)], x_h0, 98, 10728)) rfl ?_
                refine x_R.steps 1 (c' := (2370, [(3, .int 0), (2, .ref 75), (1, .ref 0), (0, .ref x_scr)], [], x_h0, 98, 10728)) rfl ?_
                refine x_R.steps 7 (c' := (24, [(3, .int 6), (2, .ref 75), (1, .ref 0), (0, .ref x_scr)], [.int 0, .int 6], x_h0, 98, 10728)) rfl ?_
                refine x_R.steps 1 (c' := (2376, [(3, .int 6), (2, .ref 75), (1, .ref 0), (0, .ref x_scr)], [], x_h0, 98, 10728)) rfl ?_
                refine x_R.steps 1 (c' := (2377, [(3, .int 6), (2, .ref 75), (1, .ref 0), (0, .ref x_scr)], [.int 1], x_h0, 98, 10728)) rfl ?_
                exact x_R.ret (v := some (.int 1)) rfl x_fin
              · have g15 := mt (x_lg_gt (C := -1) (by decide)).mpr h15
                exfalso; omega
          · have g13 := mt (x_i_ge (C := 0) (by decide)).mpr h13
            exfalso; omega
set_option maxRecDepth 100000 in
set_option maxHeartbeats 4000000 in
theorem x_c46_0 (xs : Nat → Int32)  : x_R x_mt (some (6, xs)) 13 M_law (1598, [(3, .int 0), (2, .ref 75), (1, .ref 0), (0, .ref x_scr)], [], x_h0, 98, 10728) x_P := by
  refine x_R.steps 5 (c' := (1603, [(3, .int 0), (2, .ref 75), (1, .ref 0), (0, .ref x_scr)], [.int 1, .ref x_scr, .ref 0], x_h0, 98, 10728)) rfl ?_
  refine x_R.steps 1 (c' := (1604, [(3, .int 0), (2, .ref 75), (1, .ref 0), (0, .ref x_scr)], [.int (xs 1), .ref 0], x_h0, 98, 10728)) rfl ?_
  refine x_R.call (a := 160) (vs := [.ref 0, .int (xs 1)]) (rest := []) (M' := M_cX11_tickets) rfl rfl rfl ?_
  refine x_R.steps 2 (c' := (2, [(0, .ref 0), (1, .int (xs 1))], [.int (xs 1), .ref 0], x_h0, 0, 0)) rfl ?_
  refine x_R.call (a := 187) (vs := [.ref 0, .int (xs 1)]) (rest := []) (M' := M_cX11_runOf) rfl rfl rfl ?_
  refine x_R.steps 2 (c' := (2, [(0, .ref 0), (1, .int (xs 1))], [.int (xs 1), .ref 0], x_h0, 0, 0)) rfl ?_
  refine x_R.call (a := 186) (vs := [.ref 0, .int (xs 1)]) (rest := []) (M' := M_cX11_makeReady) rfl rfl rfl ?_
  refine x_R.steps 3 (c' := (5, [(0, .ref 0), (1, .int (xs 1))], [.int (xs 1), .ref 1], x_h0, 0, 0)) rfl ?_
  refine x_R.call (a := 15) (vs := [.ref 1, .int (xs 1)]) (rest := []) (M' := M_cX2_isPlayer) rfl rfl rfl ?_
  refine x_R.steps 1 (c' := (1, [(0, .ref 1), (1, .int (xs 1))], [.int (xs 1)], x_h0, 0, 0)) rfl ?_
  refine x_R.ite (p := (xs 1) < (0 : Int32)) (c1 := (16, [(0, .ref 1), (1, .int (xs 1))], [], x_h0, 0, 0)) (c2 := (4, [(0, .ref 1), (1, .int (xs 1))], [], x_h0, 0, 0)) rfl (fun h1 => ?_) (fun h1 => ?_)
  · have g1 := (x_i_lt (C := 0) (by decide)).mp h1
    refine x_R.steps 1 (c' := (17, [(0, .ref 1), (1, .int (xs 1))], [.int 0], x_h0, 0, 0)) rfl ?_
    refine x_R.ret (v := some (.int 0)) rfl ?_
    refine x_R.steps 0 (c' := (8, [(0, .ref 0), (1, .int (xs 1))], [.int 0], x_h0, 0, 0)) rfl ?_
    refine x_R.steps 1 (c' := (11, [(0, .ref 0), (1, .int (xs 1))], [], x_h0, 0, 0)) rfl ?_
    refine x_R.steps 1 (c' := (12, [(0, .ref 0), (1, .int (xs 1))], [.int 0], x_h0, 0, 0)) rfl ?_
    refine x_R.ret (v := some (.int 0)) rfl ?_
    refine x_R.steps 0 (c' := (5, [(0, .ref 0), (1, .int (xs 1))], [.int 0], x_h0, 0, 0)) rfl ?_
    refine x_R.steps 1 (c' := (8, [(0, .ref 0), (1, .int (xs 1))], [], x_h0, 0, 0)) rfl ?_
    refine x_R.steps 1 (c' := (9, [(0, .ref 0), (1, .int (xs 1))], [.int 0], x_h0, 0, 0)) rfl ?_
    refine x_R.ret (v := some (.int 0)) rfl ?_
    refine x_R.steps 0 (c' := (5, [(0, .ref 0), (1, .int (xs 1))], [.int 0], x_h0, 0, 0)) rfl ?_
    refine x_R.steps 1 (c' := (15, [(0, .ref 0), (1, .int (xs 1))], [], x_h0, 0, 0)) rfl ?_
    refine x_R.steps 1 (c' := (17, [(0, .ref 0), (1, .int (xs 1))], [.int (-2)], x_h0, 0, 0)) rfl ?_
    refine x_R.ret (v := some (.int (-2))) rfl ?_
    refine x_R.steps 0 (c' := (1607, [(3, .int 0), (2, .ref 75), (1, .ref 0), (0, .ref x_scr)], [.int (-2)], x_h0, 98, 10728)) rfl ?_
    refine x_R.steps 5 (c' := (1612, [(3, .int 0), (2, .ref 75), (1, .ref 0), (0, .ref x_scr)], [.int 1, .ref x_scr, .ref 75, .int (-2)], x_h0, 98, 10728)) rfl ?_
    refine x_R.steps 1 (c' := (1613, [(3, .int 0), (2, .ref 75), (1, .ref 0), (0, .ref x_scr)], [.int (xs 1), .ref 75, .int (-2)], x_h0, 98, 10728)) rfl ?_
    refine x_R.call (a := 321) (vs := [.ref 75, .int (xs 1)]) (rest := [.int (-2)]) (M' := M_cX12_tickets) rfl rfl rfl ?_
    refine x_R.steps 2 (c' := (2, [(0, .ref 75), (1, .int (xs 1))], [.int (xs 1), .ref 75], x_h0, 0, 0)) rfl ?_
    refine x_R.call (a := 205) (vs := [.ref 75, .int (xs 1)]) (rest := []) (M' := M_cX12_isPlayer) rfl rfl rfl ?_
    refine x_R.steps 6 (c' := (9, [(0, .ref 75), (1, .int (xs 1))], [.int 6, .ref 76, .long 0, .long ((xs 1)).toInt64], x_h0, 0, 0)) rfl ?_
    refine x_R.steps 1 (c' := (10, [(0, .ref 75), (1, .int (xs 1))], [.int 0, .long 0, .long ((xs 1)).toInt64], x_h0, 0, 0)) rfl ?_
    refine x_R.steps 3 (c' := (13, [(0, .ref 75), (1, .int (xs 1))], [.long (-1), .long 0, .long ((xs 1)).toInt64], x_h0, 0, 0)) rfl ?_
    refine x_R.call (a := 196) (vs := [.long ((xs 1)).toInt64, .long 0, .long (-1)]) (rest := []) (M' := M_cX12_in) rfl rfl rfl ?_
    refine x_R.steps 3 (c' := (3, [(0, .long ((xs 1)).toInt64), (2, .long 0), (4, .long (-1))], [.int (lg_cmp ((xs 1)).toInt64 0)], x_h0, 0, 0)) rfl ?_
    refine x_R.ite (p := (lg_cmp ((xs 1)).toInt64 0) < (0 : Int32)) (c1 := (17, [(0, .long ((xs 1)).toInt64), (2, .long 0), (4, .long (-1))], [], x_h0, 0, 0)) (c2 := (6, [(0, .long ((xs 1)).toInt64), (2, .long 0), (4, .long (-1))], [], x_h0, 0, 0)) rfl (fun h2 => ?_) (fun h2 => ?_)
    · have g2 := (x_lg_lt (C := 0) (by decide)).mp h2
      refine x_R.steps 1 (c' := (18, [(0, .long ((xs 1)).toInt64), (2, .long 0), (4, .long (-1))], [.int 0], x_h0, 0, 0)) rfl ?_
      refine x_R.ret (v := some (.int 0)) rfl ?_
      refine x_R.steps 0 (c' := (16, [(0, .ref 75), (1, .int (xs 1))], [.int 0], x_h0, 0, 0)) rfl ?_
      refine x_R.ret (v := some (.int 0)) rfl ?_
      refine x_R.steps 0 (c' := (5, [(0, .ref 75), (1, .int (xs 1))], [.int 0], x_h0, 0, 0)) rfl ?_
      refine x_R.steps 1 (c' := (16, [(0, .ref 75), (1, .int (xs 1))], [], x_h0, 0, 0)) rfl ?_
      refine x_R.steps 1 (c' := (18, [(0, .ref 75), (1, .int (xs 1))], [.int (-2)], x_h0, 0, 0)) rfl ?_
      refine x_R.ret (v := some (.int (-2))) rfl ?_
      refine x_R.steps 0 (c' := (1616, [(3, .int 0), (2, .ref 75), (1, .ref 0), (0, .ref x_scr)], [.int (-2), .int (-2)], x_h0, 98, 10728)) rfl ?_
      refine x_R.steps 1 (c' := (2370, [(3, .int 0), (2, .ref 75), (1, .ref 0), (0, .ref x_scr)], [], x_h0, 98, 10728)) rfl ?_
      refine x_R.steps 7 (c' := (24, [(3, .int 6), (2, .ref 75), (1, .ref 0), (0, .ref x_scr)], [.int 0, .int 6], x_h0, 98, 10728)) rfl ?_
      refine x_R.steps 1 (c' := (2376, [(3, .int 6), (2, .ref 75), (1, .ref 0), (0, .ref x_scr)], [], x_h0, 98, 10728)) rfl ?_
      refine x_R.steps 1 (c' := (2377, [(3, .int 6), (2, .ref 75), (1, .ref 0), (0, .ref x_scr)], [.int 1], x_h0, 98, 10728)) rfl ?_
      exact x_R.ret (v := some (.int 1)) rfl x_fin
    · have g2 := mt (x_lg_lt (C := 0) (by decide)).mpr h2
      exfalso; omega
  · have g1 := mt (x_i_lt (C := 0) (by decide)).mpr h1
    refine x_R.steps 3 (c' := (9, [(0, .ref 1), (1, .int (xs 1))], [.int 0, .int (xs 1)], x_h0, 0, 0)) rfl ?_
    refine x_R.ite (p := (0 : Int32) ≤ (xs 1)) (c1 := (16, [(0, .ref 1), (1, .int (xs 1))], [], x_h0, 0, 0)) (c2 := (12, [(0, .ref 1), (1, .int (xs 1))], [], x_h0, 0, 0)) rfl (fun h3 => ?_) (fun h3 => ?_)
    · have g3 := (x_i_ge (C := 0) (by decide)).mp h3
      refine x_R.steps 1 (c' := (17, [(0, .ref 1), (1, .int (xs 1))], [.int 0], x_h0, 0, 0)) rfl ?_
      refine x_R.ret (v := some (.int 0)) rfl ?_
      refine x_R.steps 0 (c' := (8, [(0, .ref 0), (1, .int (xs 1))], [.int 0], x_h0, 0, 0)) rfl ?_
      refine x_R.steps 1 (c' := (11, [(0, .ref 0), (1, .int (xs 1))], [], x_h0, 0, 0)) rfl ?_
      refine x_R.steps 1 (c' := (12, [(0, .ref 0), (1, .int (xs 1))], [.int 0], x_h0, 0, 0)) rfl ?_
      refine x_R.ret (v := some (.int 0)) rfl ?_
      refine x_R.steps 0 (c' := (5, [(0, .ref 0), (1, .int (xs 1))], [.int 0], x_h0, 0, 0)) rfl ?_
      refine x_R.steps 1 (c' := (8, [(0, .ref 0), (1, .int (xs 1))], [], x_h0, 0, 0)) rfl ?_
      refine x_R.steps 1 (c' := (9, [(0, .ref 0), (1, .int (xs 1))], [.int 0], x_h0, 0, 0)) rfl ?_
      refine x_R.ret (v := some (.int 0)) rfl ?_
      refine x_R.steps 0 (c' := (5, [(0, .ref 0), (1, .int (xs 1))], [.int 0], x_h0, 0, 0)) rfl ?_
      refine x_R.steps 1 (c' := (15, [(0, .ref 0), (1, .int (xs 1))], [], x_h0, 0, 0)) rfl ?_
      refine x_R.steps 1 (c' := (17, [(0, .ref 0), (1, .int (xs 1))], [.int (-2)], x_h0, 0, 0)) rfl ?_
      refine x_R.ret (v := some (.int (-2))) rfl ?_
      refine x_R.steps 0 (c' := (1607, [(3, .int 0), (2, .ref 75), (1, .ref 0), (0, .ref x_scr)], [.int (-2)], x_h0, 98, 10728)) rfl ?_
      refine x_R.steps 5 (c' := (1612, [(3, .int 0), (2, .ref 75), (1, .ref 0), (0, .ref x_scr)], [.int 1, .ref x_scr, .ref 75, .int (-2)], x_h0, 98, 10728)) rfl ?_
      refine x_R.steps 1 (c' := (1613, [(3, .int 0), (2, .ref 75), (1, .ref 0), (0, .ref x_scr)], [.int (xs 1), .ref 75, .int (-2)], x_h0, 98, 10728)) rfl ?_
      refine x_R.call (a := 321) (vs := [.ref 75, .int (xs 1)]) (rest := [.int (-2)]) (M' := M_cX12_tickets) rfl rfl rfl ?_
      refine x_R.steps 2 (c' := (2, [(0, .ref 75), (1, .int (xs 1))], [.int (xs 1), .ref 75], x_h0, 0, 0)) rfl ?_
      refine x_R.call (a := 205) (vs := [.ref 75, .int (xs 1)]) (rest := []) (M' := M_cX12_isPlayer) rfl rfl rfl ?_
      refine x_R.steps 6 (c' := (9, [(0, .ref 75), (1, .int (xs 1))], [.int 6, .ref 76, .long 0, .long ((xs 1)).toInt64], x_h0, 0, 0)) rfl ?_
      refine x_R.steps 1 (c' := (10, [(0, .ref 75), (1, .int (xs 1))], [.int 0, .long 0, .long ((xs 1)).toInt64], x_h0, 0, 0)) rfl ?_
      refine x_R.steps 3 (c' := (13, [(0, .ref 75), (1, .int (xs 1))], [.long (-1), .long 0, .long ((xs 1)).toInt64], x_h0, 0, 0)) rfl ?_
      refine x_R.call (a := 196) (vs := [.long ((xs 1)).toInt64, .long 0, .long (-1)]) (rest := []) (M' := M_cX12_in) rfl rfl rfl ?_
      refine x_R.steps 3 (c' := (3, [(0, .long ((xs 1)).toInt64), (2, .long 0), (4, .long (-1))], [.int (lg_cmp ((xs 1)).toInt64 0)], x_h0, 0, 0)) rfl ?_
      refine x_R.ite (p := (lg_cmp ((xs 1)).toInt64 0) < (0 : Int32)) (c1 := (17, [(0, .long ((xs 1)).toInt64), (2, .long 0), (4, .long (-1))], [], x_h0, 0, 0)) (c2 := (6, [(0, .long ((xs 1)).toInt64), (2, .long 0), (4, .long (-1))], [], x_h0, 0, 0)) rfl (fun h4 => ?_) (fun h4 => ?_)
      · have g4 := (x_lg_lt (C := 0) (by decide)).mp h4
        exfalso; omega
      · have g4 := mt (x_lg_lt (C := 0) (by decide)).mpr h4
        refine x_R.steps 3 (c' := (10, [(0, .long ((xs 1)).toInt64), (2, .long 0), (4, .long (-1))], [.int (lg_cmp ((xs 1)).toInt64 (-1))], x_h0, 0, 0)) rfl ?_
        refine x_R.ite (p := (0 : Int32) < (lg_cmp ((xs 1)).toInt64 (-1))) (c1 := (17, [(0, .long ((xs 1)).toInt64), (2, .long 0), (4, .long (-1))], [], x_h0, 0, 0)) (c2 := (13, [(0, .long ((xs 1)).toInt64), (2, .long 0), (4, .long (-1))], [], x_h0, 0, 0)) rfl (fun h5 => ?_) (fun h5 => ?_)
        · have g5 := (x_lg_gt (C := -1) (by decide)).mp h5
          refine x_R.steps 1 (c' := (18, [(0, .long ((xs 1)).toInt64), (2, .long 0), (4, .long (-1))], [.int 0], x_h0, 0, 0)) rfl ?_
          refine x_R.ret (v := some (.int 0)) rfl ?_
          refine x_R.steps 0 (c' := (16, [(0, .ref 75), (1, .int (xs 1))], [.int 0], x_h0, 0, 0)) rfl ?_
          refine x_R.ret (v := some (.int 0)) rfl ?_
          refine x_R.steps 0 (c' := (5, [(0, .ref 75), (1, .int (xs 1))], [.int 0], x_h0, 0, 0)) rfl ?_
          refine x_R.steps 1 (c' := (16, [(0, .ref 75), (1, .int (xs 1))], [], x_h0, 0, 0)) rfl ?_
          refine x_R.steps 1 (c' := (18, [(0, .ref 75), (1, .int (xs 1))], [.int (-2)], x_h0, 0, 0)) rfl ?_
          refine x_R.ret (v := some (.int (-2))) rfl ?_
          refine x_R.steps 0 (c' := (1616, [(3, .int 0), (2, .ref 75), (1, .ref 0), (0, .ref x_scr)], [.int (-2), .int (-2)], x_h0, 98, 10728)) rfl ?_
          refine x_R.steps 1 (c' := (2370, [(3, .int 0), (2, .ref 75), (1, .ref 0), (0, .ref x_scr)], [], x_h0, 98, 10728)) rfl ?_
          refine x_R.steps 7 (c' := (24, [(3, .int 6), (2, .ref 75), (1, .ref 0), (0, .ref x_scr)], [.int 0, .int 6], x_h0, 98, 10728)) rfl ?_
          refine x_R.steps 1 (c' := (2376, [(3, .int 6), (2, .ref 75), (1, .ref 0), (0, .ref x_scr)], [], x_h0, 98, 10728)) rfl ?_
          refine x_R.steps 1 (c' := (2377, [(3, .int 6), (2, .ref 75), (1, .ref 0), (0, .ref x_scr)], [.int 1], x_h0, 98, 10728)) rfl ?_
          exact x_R.ret (v := some (.int 1)) rfl x_fin
        · have g5 := mt (x_lg_gt (C := -1) (by decide)).mpr h5
          exfalso; omega
    · have g3 := mt (x_i_ge (C := 0) (by decide)).mpr h3
      exfalso; omega
set_option maxRecDepth 100000 in
set_option maxHeartbeats 4000000 in
theorem x_c47_0 (xs : Nat → Int32)  : x_R x_mt (some (6, xs)) 13 M_law (1621, [(3, .int 0), (2, .ref 75), (1, .ref 0), (0, .ref x_scr)], [], x_h0, 98, 10728) x_P := by
  refine x_R.steps 5 (c' := (1626, [(3, .int 0), (2, .ref 75), (1, .ref 0), (0, .ref x_scr)], [.int 1, .ref x_scr, .ref 0], x_h0, 98, 10728)) rfl ?_
  refine x_R.steps 1 (c' := (1627, [(3, .int 0), (2, .ref 75), (1, .ref 0), (0, .ref x_scr)], [.int (xs 1), .ref 0], x_h0, 98, 10728)) rfl ?_
  refine x_R.call (a := 161) (vs := [.ref 0, .int (xs 1)]) (rest := []) (M' := M_cX11_prize) rfl rfl rfl ?_
  refine x_R.steps 2 (c' := (2, [(0, .ref 0), (1, .int (xs 1))], [.int (xs 1), .ref 0], x_h0, 0, 0)) rfl ?_
  refine x_R.call (a := 187) (vs := [.ref 0, .int (xs 1)]) (rest := []) (M' := M_cX11_runOf) rfl rfl rfl ?_
  refine x_R.steps 2 (c' := (2, [(0, .ref 0), (1, .int (xs 1))], [.int (xs 1), .ref 0], x_h0, 0, 0)) rfl ?_
  refine x_R.call (a := 186) (vs := [.ref 0, .int (xs 1)]) (rest := []) (M' := M_cX11_makeReady) rfl rfl rfl ?_
  refine x_R.steps 3 (c' := (5, [(0, .ref 0), (1, .int (xs 1))], [.int (xs 1), .ref 1], x_h0, 0, 0)) rfl ?_
  refine x_R.call (a := 15) (vs := [.ref 1, .int (xs 1)]) (rest := []) (M' := M_cX2_isPlayer) rfl rfl rfl ?_
  refine x_R.steps 1 (c' := (1, [(0, .ref 1), (1, .int (xs 1))], [.int (xs 1)], x_h0, 0, 0)) rfl ?_
  refine x_R.ite (p := (xs 1) < (0 : Int32)) (c1 := (16, [(0, .ref 1), (1, .int (xs 1))], [], x_h0, 0, 0)) (c2 := (4, [(0, .ref 1), (1, .int (xs 1))], [], x_h0, 0, 0)) rfl (fun h1 => ?_) (fun h1 => ?_)
  · have g1 := (x_i_lt (C := 0) (by decide)).mp h1
    refine x_R.steps 1 (c' := (17, [(0, .ref 1), (1, .int (xs 1))], [.int 0], x_h0, 0, 0)) rfl ?_
    refine x_R.ret (v := some (.int 0)) rfl ?_
    refine x_R.steps 0 (c' := (8, [(0, .ref 0), (1, .int (xs 1))], [.int 0], x_h0, 0, 0)) rfl ?_
    refine x_R.steps 1 (c' := (11, [(0, .ref 0), (1, .int (xs 1))], [], x_h0, 0, 0)) rfl ?_
    refine x_R.steps 1 (c' := (12, [(0, .ref 0), (1, .int (xs 1))], [.int 0], x_h0, 0, 0)) rfl ?_
    refine x_R.ret (v := some (.int 0)) rfl ?_
    refine x_R.steps 0 (c' := (5, [(0, .ref 0), (1, .int (xs 1))], [.int 0], x_h0, 0, 0)) rfl ?_
    refine x_R.steps 1 (c' := (8, [(0, .ref 0), (1, .int (xs 1))], [], x_h0, 0, 0)) rfl ?_
    refine x_R.steps 1 (c' := (9, [(0, .ref 0), (1, .int (xs 1))], [.int 0], x_h0, 0, 0)) rfl ?_
    refine x_R.ret (v := some (.int 0)) rfl ?_
    refine x_R.steps 0 (c' := (5, [(0, .ref 0), (1, .int (xs 1))], [.int 0], x_h0, 0, 0)) rfl ?_
    refine x_R.steps 1 (c' := (8, [(0, .ref 0), (1, .int (xs 1))], [], x_h0, 0, 0)) rfl ?_
    refine x_R.steps 1 (c' := (10, [(0, .ref 0), (1, .int (xs 1))], [.int (-2)], x_h0, 0, 0)) rfl ?_
    refine x_R.ret (v := some (.int (-2))) rfl ?_
    refine x_R.steps 0 (c' := (1630, [(3, .int 0), (2, .ref 75), (1, .ref 0), (0, .ref x_scr)], [.int (-2)], x_h0, 98, 10728)) rfl ?_
    refine x_R.steps 5 (c' := (1635, [(3, .int 0), (2, .ref 75), (1, .ref 0), (0, .ref x_scr)], [.int 1, .ref x_scr, .ref 75, .int (-2)], x_h0, 98, 10728)) rfl ?_
    refine x_R.steps 1 (c' := (1636, [(3, .int 0), (2, .ref 75), (1, .ref 0), (0, .ref x_scr)], [.int (xs 1), .ref 75, .int (-2)], x_h0, 98, 10728)) rfl ?_
    refine x_R.call (a := 322) (vs := [.ref 75, .int (xs 1)]) (rest := [.int (-2)]) (M' := M_cX12_prize) rfl rfl rfl ?_
    refine x_R.steps 2 (c' := (2, [(0, .ref 75), (1, .int (xs 1))], [.int (xs 1), .ref 75], x_h0, 0, 0)) rfl ?_
    refine x_R.call (a := 205) (vs := [.ref 75, .int (xs 1)]) (rest := []) (M' := M_cX12_isPlayer) rfl rfl rfl ?_
    refine x_R.steps 6 (c' := (9, [(0, .ref 75), (1, .int (xs 1))], [.int 6, .ref 76, .long 0, .long ((xs 1)).toInt64], x_h0, 0, 0)) rfl ?_
    refine x_R.steps 1 (c' := (10, [(0, .ref 75), (1, .int (xs 1))], [.int 0, .long 0, .long ((xs 1)).toInt64], x_h0, 0, 0)) rfl ?_
    refine x_R.steps 3 (c' := (13, [(0, .ref 75), (1, .int (xs 1))], [.long (-1), .long 0, .long ((xs 1)).toInt64], x_h0, 0, 0)) rfl ?_
    refine x_R.call (a := 196) (vs := [.long ((xs 1)).toInt64, .long 0, .long (-1)]) (rest := []) (M' := M_cX12_in) rfl rfl rfl ?_
    refine x_R.steps 3 (c' := (3, [(0, .long ((xs 1)).toInt64), (2, .long 0), (4, .long (-1))], [.int (lg_cmp ((xs 1)).toInt64 0)], x_h0, 0, 0)) rfl ?_
    refine x_R.ite (p := (lg_cmp ((xs 1)).toInt64 0) < (0 : Int32)) (c1 := (17, [(0, .long ((xs 1)).toInt64), (2, .long 0), (4, .long (-1))], [], x_h0, 0, 0)) (c2 := (6, [(0, .long ((xs 1)).toInt64), (2, .long 0), (4, .long (-1))], [], x_h0, 0, 0)) rfl (fun h2 => ?_) (fun h2 => ?_)
    · have g2 := (x_lg_lt (C := 0) (by decide)).mp h2
      refine x_R.steps 1 (c' := (18, [(0, .long ((xs 1)).toInt64), (2, .long 0), (4, .long (-1))], [.int 0], x_h0, 0, 0)) rfl ?_
      refine x_R.ret (v := some (.int 0)) rfl ?_
      refine x_R.steps 0 (c' := (16, [(0, .ref 75), (1, .int (xs 1))], [.int 0], x_h0, 0, 0)) rfl ?_
      refine x_R.ret (v := some (.int 0)) rfl ?_
      refine x_R.steps 0 (c' := (5, [(0, .ref 75), (1, .int (xs 1))], [.int 0], x_h0, 0, 0)) rfl ?_
      refine x_R.steps 1 (c' := (8, [(0, .ref 75), (1, .int (xs 1))], [], x_h0, 0, 0)) rfl ?_
      refine x_R.steps 1 (c' := (10, [(0, .ref 75), (1, .int (xs 1))], [.int (-2)], x_h0, 0, 0)) rfl ?_
      refine x_R.ret (v := some (.int (-2))) rfl ?_
      refine x_R.steps 0 (c' := (1639, [(3, .int 0), (2, .ref 75), (1, .ref 0), (0, .ref x_scr)], [.int (-2), .int (-2)], x_h0, 98, 10728)) rfl ?_
      refine x_R.steps 1 (c' := (2370, [(3, .int 0), (2, .ref 75), (1, .ref 0), (0, .ref x_scr)], [], x_h0, 98, 10728)) rfl ?_
      refine x_R.steps 7 (c' := (24, [(3, .int 6), (2, .ref 75), (1, .ref 0), (0, .ref x_scr)], [.int 0, .int 6], x_h0, 98, 10728)) rfl ?_
      refine x_R.steps 1 (c' := (2376, [(3, .int 6), (2, .ref 75), (1, .ref 0), (0, .ref x_scr)], [], x_h0, 98, 10728)) rfl ?_
      refine x_R.steps 1 (c' := (2377, [(3, .int 6), (2, .ref 75), (1, .ref 0), (0, .ref x_scr)], [.int 1], x_h0, 98, 10728)) rfl ?_
      exact x_R.ret (v := some (.int 1)) rfl x_fin
    · have g2 := mt (x_lg_lt (C := 0) (by decide)).mpr h2
      exfalso; omega
  · have g1 := mt (x_i_lt (C := 0) (by decide)).mpr h1
    refine x_R.steps 3 (c' := (9, [(0, .ref 1), (1, .int (xs 1))], [.int 0, .int (xs 1)], x_h0, 0, 0)) rfl ?_
    refine x_R.ite (p := (0 : Int32) ≤ (xs 1)) (c1 := (16, [(0, .ref 1), (1, .int (xs 1))], [], x_h0, 0, 0)) (c2 := (12, [(0, .ref 1), (1, .int (xs 1))], [], x_h0, 0, 0)) rfl (fun h3 => ?_) (fun h3 => ?_)
    · have g3 := (x_i_ge (C := 0) (by decide)).mp h3
      refine x_R.steps 1 (c' := (17, [(0, .ref 1), (1, .int (xs 1))], [.int 0], x_h0, 0, 0)) rfl ?_
      refine x_R.ret (v := some (.int 0)) rfl ?_
      refine x_R.steps 0 (c' := (8, [(0, .ref 0), (1, .int (xs 1))], [.int 0], x_h0, 0, 0)) rfl ?_
      refine x_R.steps 1 (c' := (11, [(0, .ref 0), (1, .int (xs 1))], [], x_h0, 0, 0)) rfl ?_
      refine x_R.steps 1 (c' := (12, [(0, .ref 0), (1, .int (xs 1))], [.int 0], x_h0, 0, 0)) rfl ?_
      refine x_R.ret (v := some (.int 0)) rfl ?_
      refine x_R.steps 0 (c' := (5, [(0, .ref 0), (1, .int (xs 1))], [.int 0], x_h0, 0, 0)) rfl ?_
      refine x_R.steps 1 (c' := (8, [(0, .ref 0), (1, .int (xs 1))], [], x_h0, 0, 0)) rfl ?_
      refine x_R.steps 1 (c' := (9, [(0, .ref 0), (1, .int (xs 1))], [.int 0], x_h0, 0, 0)) rfl ?_
      refine x_R.ret (v := some (.int 0)) rfl ?_
      refine x_R.steps 0 (c' := (5, [(0, .ref 0), (1, .int (xs 1))], [.int 0], x_h0, 0, 0)) rfl ?_
      refine x_R.steps 1 (c' := (8, [(0, .ref 0), (1, .int (xs 1))], [], x_h0, 0, 0)) rfl ?_
      refine x_R.steps 1 (c' := (10, [(0, .ref 0), (1, .int (xs 1))], [.int (-2)], x_h0, 0, 0)) rfl ?_
      refine x_R.ret (v := some (.int (-2))) rfl ?_
      refine x_R.steps 0 (c' := (1630, [(3, .int 0), (2, .ref 75), (1, .ref 0), (0, .ref x_scr)], [.int (-2)], x_h0, 98, 10728)) rfl ?_
      refine x_R.steps 5 (c' := (1635, [(3, .int 0), (2, .ref 75), (1, .ref 0), (0, .ref x_scr)], [.int 1, .ref x_scr, .ref 75, .int (-2)], x_h0, 98, 10728)) rfl ?_
      refine x_R.steps 1 (c' := (1636, [(3, .int 0), (2, .ref 75), (1, .ref 0), (0, .ref x_scr)], [.int (xs 1), .ref 75, .int (-2)], x_h0, 98, 10728)) rfl ?_
      refine x_R.call (a := 322) (vs := [.ref 75, .int (xs 1)]) (rest := [.int (-2)]) (M' := M_cX12_prize) rfl rfl rfl ?_
      refine x_R.steps 2 (c' := (2, [(0, .ref 75), (1, .int (xs 1))], [.int (xs 1), .ref 75], x_h0, 0, 0)) rfl ?_
      refine x_R.call (a := 205) (vs := [.ref 75, .int (xs 1)]) (rest := []) (M' := M_cX12_isPlayer) rfl rfl rfl ?_
      refine x_R.steps 6 (c' := (9, [(0, .ref 75), (1, .int (xs 1))], [.int 6, .ref 76, .long 0, .long ((xs 1)).toInt64], x_h0, 0, 0)) rfl ?_
      refine x_R.steps 1 (c' := (10, [(0, .ref 75), (1, .int (xs 1))], [.int 0, .long 0, .long ((xs 1)).toInt64], x_h0, 0, 0)) rfl ?_
      refine x_R.steps 3 (c' := (13, [(0, .ref 75), (1, .int (xs 1))], [.long (-1), .long 0, .long ((xs 1)).toInt64], x_h0, 0, 0)) rfl ?_
      refine x_R.call (a := 196) (vs := [.long ((xs 1)).toInt64, .long 0, .long (-1)]) (rest := []) (M' := M_cX12_in) rfl rfl rfl ?_
      refine x_R.steps 3 (c' := (3, [(0, .long ((xs 1)).toInt64), (2, .long 0), (4, .long (-1))], [.int (lg_cmp ((xs 1)).toInt64 0)], x_h0, 0, 0)) rfl ?_
      refine x_R.ite (p := (lg_cmp ((xs 1)).toInt64 0) < (0 : Int32)) (c1 := (17, [(0, .long ((xs 1)).toInt64), (2, .long 0), (4, .long (-1))], [], x_h0, 0, 0)) (c2 := (6, [(0, .long ((xs 1)).toInt64), (2, .long 0), (4, .long (-1))], [], x_h0, 0, 0)) rfl (fun h4 => ?_) (fun h4 => ?_)
      · have g4 := (x_lg_lt (C := 0) (by decide)).mp h4
        exfalso; omega
      · have g4 := mt (x_lg_lt (C := 0) (by decide)).mpr h4
        refine x_R.steps 3 (c' := (10, [(0, .long ((xs 1)).toInt64), (2, .long 0), (4, .long (-1))], [.int (lg_cmp ((xs 1)).toInt64 (-1))], x_h0, 0, 0)) rfl ?_
        refine x_R.ite (p := (0 : Int32) < (lg_cmp ((xs 1)).toInt64 (-1))) (c1 := (17, [(0, .long ((xs 1)).toInt64), (2, .long 0), (4, .long (-1))], [], x_h0, 0, 0)) (c2 := (13, [(0, .long ((xs 1)).toInt64), (2, .long 0), (4, .long (-1))], [], x_h0, 0, 0)) rfl (fun h5 => ?_) (fun h5 => ?_)
        · have g5 := (x_lg_gt (C := -1) (by decide)).mp h5
          refine x_R.steps 1 (c' := (18, [(0, .long ((xs 1)).toInt64), (2, .long 0), (4, .long (-1))], [.int 0], x_h0, 0, 0)) rfl ?_
          refine x_R.ret (v := some (.int 0)) rfl ?_
          refine x_R.steps 0 (c' := (16, [(0, .ref 75), (1, .int (xs 1))], [.int 0], x_h0, 0, 0)) rfl ?_
          refine x_R.ret (v := some (.int 0)) rfl ?_
          refine x_R.steps 0 (c' := (5, [(0, .ref 75), (1, .int (xs 1))], [.int 0], x_h0, 0, 0)) rfl ?_
          refine x_R.steps 1 (c' := (8, [(0, .ref 75), (1, .int (xs 1))], [], x_h0, 0, 0)) rfl ?_
          refine x_R.steps 1 (c' := (10, [(0, .ref 75), (1, .int (xs 1))], [.int (-2)], x_h0, 0, 0)) rfl ?_
          refine x_R.ret (v := some (.int (-2))) rfl ?_
          refine x_R.steps 0 (c' := (1639, [(3, .int 0), (2, .ref 75), (1, .ref 0), (0, .ref x_scr)], [.int (-2), .int (-2)], x_h0, 98, 10728)) rfl ?_
          refine x_R.steps 1 (c' := (2370, [(3, .int 0), (2, .ref 75), (1, .ref 0), (0, .ref x_scr)], [], x_h0, 98, 10728)) rfl ?_
          refine x_R.steps 7 (c' := (24, [(3, .int 6), (2, .ref 75), (1, .ref 0), (0, .ref x_scr)], [.int 0, .int 6], x_h0, 98, 10728)) rfl ?_
          refine x_R.steps 1 (c' := (2376, [(3, .int 6), (2, .ref 75), (1, .ref 0), (0, .ref x_scr)], [], x_h0, 98, 10728)) rfl ?_
          refine x_R.steps 1 (c' := (2377, [(3, .int 6), (2, .ref 75), (1, .ref 0), (0, .ref x_scr)], [.int 1], x_h0, 98, 10728)) rfl ?_
          exact x_R.ret (v := some (.int 1)) rfl x_fin
        · have g5 := mt (x_lg_gt (C := -1) (by decide)).mpr h5
          exfalso; omega
    · have g3 := mt (x_i_ge (C := 0) (by decide)).mpr h3
      exfalso; omega
set_option maxRecDepth 100000 in
set_option maxHeartbeats 4000000 in
theorem x_c48_0 (xs : Nat → Int32)  : x_R x_mt (some (6, xs)) 13 M_law (1644, [(3, .int 0), (2, .ref 75), (1, .ref 0), (0, .ref x_scr)], [], x_h0, 98, 10728) x_P := by
  refine x_R.steps 5 (c' := (1649, [(3, .int 0), (2, .ref 75), (1, .ref 0), (0, .ref x_scr)], [.int 1, .ref x_scr, .ref 0], x_h0, 98, 10728)) rfl ?_
  refine x_R.steps 1 (c' := (1650, [(3, .int 0), (2, .ref 75), (1, .ref 0), (0, .ref x_scr)], [.int (xs 1), .ref 0], x_h0, 98, 10728)) rfl ?_
  refine x_R.call (a := 162) (vs := [.ref 0, .int (xs 1)]) (rest := []) (M' := M_cX11_counted) rfl rfl rfl ?_
  refine x_R.steps 2 (c' := (2, [(0, .ref 0), (1, .int (xs 1))], [.int (xs 1), .ref 0], x_h0, 0, 0)) rfl ?_
  refine x_R.call (a := 194) (vs := [.ref 0, .int (xs 1)]) (rest := []) (M' := M_cX11_whyNoBlows) rfl rfl rfl ?_
  refine x_R.steps 1 (c' := (1, [(0, .ref 0), (1, .int (xs 1))], [.int (xs 1)], x_h0, 0, 0)) rfl ?_
  refine x_R.call (a := 182) (vs := [.int (xs 1)]) (rest := []) (M' := M_cX11_isSlot) rfl rfl rfl ?_
  refine x_R.steps 1 (c' := (1, [(0, .int (xs 1))], [.int (xs 1)], x_h0, 0, 0)) rfl ?_
  refine x_R.ite (p := (xs 1) < (0 : Int32)) (c1 := (13, [(0, .int (xs 1))], [], x_h0, 0, 0)) (c2 := (4, [(0, .int (xs 1))], [], x_h0, 0, 0)) rfl (fun h1 => ?_) (fun h1 => ?_)
  · have g1 := (x_i_lt (C := 0) (by decide)).mp h1
    refine x_R.steps 1 (c' := (14, [(0, .int (xs 1))], [.int 0], x_h0, 0, 0)) rfl ?_
    refine x_R.ret (v := some (.int 0)) rfl ?_
    refine x_R.steps 0 (c' := (4, [(0, .ref 0), (1, .int (xs 1))], [.int 0], x_h0, 0, 0)) rfl ?_
    refine x_R.steps 1 (c' := (17, [(0, .ref 0), (1, .int (xs 1))], [], x_h0, 0, 0)) rfl ?_
    refine x_R.steps 1 (c' := (19, [(0, .ref 0), (1, .int (xs 1))], [.int (-2)], x_h0, 0, 0)) rfl ?_
    refine x_R.ret (v := some (.int (-2))) rfl ?_
    refine x_R.steps 0 (c' := (5, [(0, .ref 0), (1, .int (xs 1))], [.int (-2)], x_h0, 0, 0)) rfl ?_
    refine x_R.steps 2 (c' := (7, [(2, .int (-2)), (0, .ref 0), (1, .int (xs 1))], [.int (-2)], x_h0, 0, 0)) rfl ?_
    refine x_R.steps 1 (c' := (10, [(2, .int (-2)), (0, .ref 0), (1, .int (xs 1))], [], x_h0, 0, 0)) rfl ?_
    refine x_R.steps 1 (c' := (11, [(2, .int (-2)), (0, .ref 0), (1, .int (xs 1))], [.int (-2)], x_h0, 0, 0)) rfl ?_
    refine x_R.ret (v := some (.int (-2))) rfl ?_
    refine x_R.steps 0 (c' := (1653, [(3, .int 0), (2, .ref 75), (1, .ref 0), (0, .ref x_scr)], [.int (-2)], x_h0, 98, 10728)) rfl ?_
    refine x_R.steps 5 (c' := (1658, [(3, .int 0), (2, .ref 75), (1, .ref 0), (0, .ref x_scr)], [.int 1, .ref x_scr, .ref 75, .int (-2)], x_h0, 98, 10728)) rfl ?_
    refine x_R.steps 1 (c' := (1659, [(3, .int 0), (2, .ref 75), (1, .ref 0), (0, .ref x_scr)], [.int (xs 1), .ref 75, .int (-2)], x_h0, 98, 10728)) rfl ?_
    refine x_R.call (a := 326) (vs := [.ref 75, .int (xs 1)]) (rest := [.int (-2)]) (M' := M_cX12_counted) rfl rfl rfl ?_
    refine x_R.steps 2 (c' := (2, [(0, .ref 75), (1, .int (xs 1))], [.int (xs 1), .ref 75], x_h0, 0, 0)) rfl ?_
    refine x_R.call (a := 323) (vs := [.ref 75, .int (xs 1)]) (rest := []) (M' := M_cX12_asksBlows) rfl rfl rfl ?_
    refine x_R.steps 1 (c' := (1, [(0, .ref 75), (1, .int (xs 1))], [.int (xs 1)], x_h0, 0, 0)) rfl ?_
    refine x_R.call (a := 351) (vs := [.int (xs 1)]) (rest := []) (M' := M_cX12_isSlot) rfl rfl rfl ?_
    refine x_R.steps 4 (c' := (6, [(0, .int (xs 1))], [.long 3, .long 0, .long ((xs 1)).toInt64], x_h0, 0, 0)) rfl ?_
    refine x_R.call (a := 196) (vs := [.long ((xs 1)).toInt64, .long 0, .long 3]) (rest := []) (M' := M_cX12_in) rfl rfl rfl ?_
    refine x_R.steps 3 (c' := (3, [(0, .long ((xs 1)).toInt64), (2, .long 0), (4, .long 3)], [.int (lg_cmp ((xs 1)).toInt64 0)], x_h0, 0, 0)) rfl ?_
    refine x_R.ite (p := (lg_cmp ((xs 1)).toInt64 0) < (0 : Int32)) (c1 := (17, [(0, .long ((xs 1)).toInt64), (2, .long 0), (4, .long 3)], [], x_h0, 0, 0)) (c2 := (6, [(0, .long ((xs 1)).toInt64), (2, .long 0), (4, .long 3)], [], x_h0, 0, 0)) rfl (fun h2 => ?_) (fun h2 => ?_)
    · have g2 := (x_lg_lt (C := 0) (by decide)).mp h2
      refine x_R.steps 1 (c' := (18, [(0, .long ((xs 1)).toInt64), (2, .long 0), (4, .long 3)], [.int 0], x_h0, 0, 0)) rfl ?_
      refine x_R.ret (v := some (.int 0)) rfl ?_
      refine x_R.steps 0 (c' := (9, [(0, .int (xs 1))], [.int 0], x_h0, 0, 0)) rfl ?_
      refine x_R.ret (v := some (.int 0)) rfl ?_
      refine x_R.steps 0 (c' := (4, [(0, .ref 75), (1, .int (xs 1))], [.int 0], x_h0, 0, 0)) rfl ?_
      refine x_R.steps 1 (c' := (14, [(0, .ref 75), (1, .int (xs 1))], [], x_h0, 0, 0)) rfl ?_
      refine x_R.steps 1 (c' := (16, [(0, .ref 75), (1, .int (xs 1))], [.int (-2)], x_h0, 0, 0)) rfl ?_
      refine x_R.ret (v := some (.int (-2))) rfl ?_
      refine x_R.steps 0 (c' := (5, [(0, .ref 75), (1, .int (xs 1))], [.int (-2)], x_h0, 0, 0)) rfl ?_
      refine x_R.steps 2 (c' := (7, [(2, .int (-2)), (0, .ref 75), (1, .int (xs 1))], [.int (-2)], x_h0, 0, 0)) rfl ?_
      refine x_R.steps 1 (c' := (10, [(2, .int (-2)), (0, .ref 75), (1, .int (xs 1))], [], x_h0, 0, 0)) rfl ?_
      refine x_R.steps 1 (c' := (11, [(2, .int (-2)), (0, .ref 75), (1, .int (xs 1))], [.int (-2)], x_h0, 0, 0)) rfl ?_
      refine x_R.ret (v := some (.int (-2))) rfl ?_
      refine x_R.steps 0 (c' := (1662, [(3, .int 0), (2, .ref 75), (1, .ref 0), (0, .ref x_scr)], [.int (-2), .int (-2)], x_h0, 98, 10728)) rfl ?_
      refine x_R.steps 1 (c' := (2370, [(3, .int 0), (2, .ref 75), (1, .ref 0), (0, .ref x_scr)], [], x_h0, 98, 10728)) rfl ?_
      refine x_R.steps 7 (c' := (24, [(3, .int 6), (2, .ref 75), (1, .ref 0), (0, .ref x_scr)], [.int 0, .int 6], x_h0, 98, 10728)) rfl ?_
      refine x_R.steps 1 (c' := (2376, [(3, .int 6), (2, .ref 75), (1, .ref 0), (0, .ref x_scr)], [], x_h0, 98, 10728)) rfl ?_
      refine x_R.steps 1 (c' := (2377, [(3, .int 6), (2, .ref 75), (1, .ref 0), (0, .ref x_scr)], [.int 1], x_h0, 98, 10728)) rfl ?_
      exact x_R.ret (v := some (.int 1)) rfl x_fin
    · have g2 := mt (x_lg_lt (C := 0) (by decide)).mpr h2
      exfalso; omega
  · have g1 := mt (x_i_lt (C := 0) (by decide)).mpr h1
    refine x_R.steps 2 (c' := (6, [(0, .int (xs 1))], [.int 4, .int (xs 1)], x_h0, 0, 0)) rfl ?_
    refine x_R.ite (p := (4 : Int32) ≤ (xs 1)) (c1 := (13, [(0, .int (xs 1))], [], x_h0, 0, 0)) (c2 := (9, [(0, .int (xs 1))], [], x_h0, 0, 0)) rfl (fun h3 => ?_) (fun h3 => ?_)
    · have g3 := (x_i_ge (C := 4) (by decide)).mp h3
      refine x_R.steps 1 (c' := (14, [(0, .int (xs 1))], [.int 0], x_h0, 0, 0)) rfl ?_
      refine x_R.ret (v := some (.int 0)) rfl ?_
      refine x_R.steps 0 (c' := (4, [(0, .ref 0), (1, .int (xs 1))], [.int 0], x_h0, 0, 0)) rfl ?_
      refine x_R.steps 1 (c' := (17, [(0, .ref 0), (1, .int (xs 1))], [], x_h0, 0, 0)) rfl ?_
      refine x_R.steps 1 (c' := (19, [(0, .ref 0), (1, .int (xs 1))], [.int (-2)], x_h0, 0, 0)) rfl ?_
      refine x_R.ret (v := some (.int (-2))) rfl ?_
      refine x_R.steps 0 (c' := (5, [(0, .ref 0), (1, .int (xs 1))], [.int (-2)], x_h0, 0, 0)) rfl ?_
      refine x_R.steps 2 (c' := (7, [(2, .int (-2)), (0, .ref 0), (1, .int (xs 1))], [.int (-2)], x_h0, 0, 0)) rfl ?_
      refine x_R.steps 1 (c' := (10, [(2, .int (-2)), (0, .ref 0), (1, .int (xs 1))], [], x_h0, 0, 0)) rfl ?_
      refine x_R.steps 1 (c' := (11, [(2, .int (-2)), (0, .ref 0), (1, .int (xs 1))], [.int (-2)], x_h0, 0, 0)) rfl ?_
      refine x_R.ret (v := some (.int (-2))) rfl ?_
      refine x_R.steps 0 (c' := (1653, [(3, .int 0), (2, .ref 75), (1, .ref 0), (0, .ref x_scr)], [.int (-2)], x_h0, 98, 10728)) rfl ?_
      refine x_R.steps 5 (c' := (1658, [(3, .int 0), (2, .ref 75), (1, .ref 0), (0, .ref x_scr)], [.int 1, .ref x_scr, .ref 75, .int (-2)], x_h0, 98, 10728)) rfl ?_
      refine x_R.steps 1 (c' := (1659, [(3, .int 0), (2, .ref 75), (1, .ref 0), (0, .ref x_scr)], [.int (xs 1), .ref 75, .int (-2)], x_h0, 98, 10728)) rfl ?_
      refine x_R.call (a := 326) (vs := [.ref 75, .int (xs 1)]) (rest := [.int (-2)]) (M' := M_cX12_counted) rfl rfl rfl ?_
      refine x_R.steps 2 (c' := (2, [(0, .ref 75), (1, .int (xs 1))], [.int (xs 1), .ref 75], x_h0, 0, 0)) rfl ?_
      refine x_R.call (a := 323) (vs := [.ref 75, .int (xs 1)]) (rest := []) (M' := M_cX12_asksBlows) rfl rfl rfl ?_
      refine x_R.steps 1 (c' := (1, [(0, .ref 75), (1, .int (xs 1))], [.int (xs 1)], x_h0, 0, 0)) rfl ?_
      refine x_R.call (a := 351) (vs := [.int (xs 1)]) (rest := []) (M' := M_cX12_isSlot) rfl rfl rfl ?_
      refine x_R.steps 4 (c' := (6, [(0, .int (xs 1))], [.long 3, .long 0, .long ((xs 1)).toInt64], x_h0, 0, 0)) rfl ?_
      refine x_R.call (a := 196) (vs := [.long ((xs 1)).toInt64, .long 0, .long 3]) (rest := []) (M' := M_cX12_in) rfl rfl rfl ?_
      refine x_R.steps 3 (c' := (3, [(0, .long ((xs 1)).toInt64), (2, .long 0), (4, .long 3)], [.int (lg_cmp ((xs 1)).toInt64 0)], x_h0, 0, 0)) rfl ?_
      refine x_R.ite (p := (lg_cmp ((xs 1)).toInt64 0) < (0 : Int32)) (c1 := (17, [(0, .long ((xs 1)).toInt64), (2, .long 0), (4, .long 3)], [], x_h0, 0, 0)) (c2 := (6, [(0, .long ((xs 1)).toInt64), (2, .long 0), (4, .long 3)], [], x_h0, 0, 0)) rfl (fun h4 => ?_) (fun h4 => ?_)
      · have g4 := (x_lg_lt (C := 0) (by decide)).mp h4
        exfalso; omega
      · have g4 := mt (x_lg_lt (C := 0) (by decide)).mpr h4
        refine x_R.steps 3 (c' := (10, [(0, .long ((xs 1)).toInt64), (2, .long 0), (4, .long 3)], [.int (lg_cmp ((xs 1)).toInt64 3)], x_h0, 0, 0)) rfl ?_
        refine x_R.ite (p := (0 : Int32) < (lg_cmp ((xs 1)).toInt64 3)) (c1 := (17, [(0, .long ((xs 1)).toInt64), (2, .long 0), (4, .long 3)], [], x_h0, 0, 0)) (c2 := (13, [(0, .long ((xs 1)).toInt64), (2, .long 0), (4, .long 3)], [], x_h0, 0, 0)) rfl (fun h5 => ?_) (fun h5 => ?_)
        · have g5 := (x_lg_gt (C := 3) (by decide)).mp h5
          refine x_R.steps 1 (c' := (18, [(0, .long ((xs 1)).toInt64), (2, .long 0), (4, .long 3)], [.int 0], x_h0, 0, 0)) rfl ?_
          refine x_R.ret (v := some (.int 0)) rfl ?_
          refine x_R.steps 0 (c' := (9, [(0, .int (xs 1))], [.int 0], x_h0, 0, 0)) rfl ?_
          refine x_R.ret (v := some (.int 0)) rfl ?_
          refine x_R.steps 0 (c' := (4, [(0, .ref 75), (1, .int (xs 1))], [.int 0], x_h0, 0, 0)) rfl ?_
          refine x_R.steps 1 (c' := (14, [(0, .ref 75), (1, .int (xs 1))], [], x_h0, 0, 0)) rfl ?_
          refine x_R.steps 1 (c' := (16, [(0, .ref 75), (1, .int (xs 1))], [.int (-2)], x_h0, 0, 0)) rfl ?_
          refine x_R.ret (v := some (.int (-2))) rfl ?_
          refine x_R.steps 0 (c' := (5, [(0, .ref 75), (1, .int (xs 1))], [.int (-2)], x_h0, 0, 0)) rfl ?_
          refine x_R.steps 2 (c' := (7, [(2, .int (-2)), (0, .ref 75), (1, .int (xs 1))], [.int (-2)], x_h0, 0, 0)) rfl ?_
          refine x_R.steps 1 (c' := (10, [(2, .int (-2)), (0, .ref 75), (1, .int (xs 1))], [], x_h0, 0, 0)) rfl ?_
          refine x_R.steps 1 (c' := (11, [(2, .int (-2)), (0, .ref 75), (1, .int (xs 1))], [.int (-2)], x_h0, 0, 0)) rfl ?_
          refine x_R.ret (v := some (.int (-2))) rfl ?_
          refine x_R.steps 0 (c' := (1662, [(3, .int 0), (2, .ref 75), (1, .ref 0), (0, .ref x_scr)], [.int (-2), .int (-2)], x_h0, 98, 10728)) rfl ?_
          refine x_R.steps 1 (c' := (2370, [(3, .int 0), (2, .ref 75), (1, .ref 0), (0, .ref x_scr)], [], x_h0, 98, 10728)) rfl ?_
          refine x_R.steps 7 (c' := (24, [(3, .int 6), (2, .ref 75), (1, .ref 0), (0, .ref x_scr)], [.int 0, .int 6], x_h0, 98, 10728)) rfl ?_
          refine x_R.steps 1 (c' := (2376, [(3, .int 6), (2, .ref 75), (1, .ref 0), (0, .ref x_scr)], [], x_h0, 98, 10728)) rfl ?_
          refine x_R.steps 1 (c' := (2377, [(3, .int 6), (2, .ref 75), (1, .ref 0), (0, .ref x_scr)], [.int 1], x_h0, 98, 10728)) rfl ?_
          exact x_R.ret (v := some (.int 1)) rfl x_fin
        · have g5 := mt (x_lg_gt (C := 3) (by decide)).mpr h5
          exfalso; omega
    · have g3 := mt (x_i_ge (C := 4) (by decide)).mpr h3
      refine x_R.steps 2 (c' := (14, [(0, .int (xs 1))], [.int 1], x_h0, 0, 0)) rfl ?_
      refine x_R.ret (v := some (.int 1)) rfl ?_
      refine x_R.steps 0 (c' := (4, [(0, .ref 0), (1, .int (xs 1))], [.int 1], x_h0, 0, 0)) rfl ?_
      refine x_R.steps 1 (c' := (7, [(0, .ref 0), (1, .int (xs 1))], [], x_h0, 0, 0)) rfl ?_
      refine x_R.steps 2 (c' := (11, [(0, .ref 0), (1, .int (xs 1))], [.ref 1], x_h0, 0, 0)) rfl ?_
      refine x_R.call (a := 11) (vs := [.ref 1]) (rest := []) (M' := M_cX2_isTold) rfl rfl rfl ?_
      refine x_R.steps 2 (c' := (4, [(0, .ref 1)], [.int 0], x_h0, 0, 0)) rfl ?_
      refine x_R.steps 1 (c' := (11, [(0, .ref 1)], [], x_h0, 0, 0)) rfl ?_
      refine x_R.steps 1 (c' := (12, [(0, .ref 1)], [.int 0], x_h0, 0, 0)) rfl ?_
      refine x_R.ret (v := some (.int 0)) rfl ?_
      refine x_R.steps 0 (c' := (14, [(0, .ref 0), (1, .int (xs 1))], [.int 0], x_h0, 0, 0)) rfl ?_
      refine x_R.steps 1 (c' := (17, [(0, .ref 0), (1, .int (xs 1))], [], x_h0, 0, 0)) rfl ?_
      refine x_R.steps 1 (c' := (19, [(0, .ref 0), (1, .int (xs 1))], [.int (-2)], x_h0, 0, 0)) rfl ?_
      refine x_R.ret (v := some (.int (-2))) rfl ?_
      refine x_R.steps 0 (c' := (5, [(0, .ref 0), (1, .int (xs 1))], [.int (-2)], x_h0, 0, 0)) rfl ?_
      refine x_R.steps 2 (c' := (7, [(2, .int (-2)), (0, .ref 0), (1, .int (xs 1))], [.int (-2)], x_h0, 0, 0)) rfl ?_
      refine x_R.steps 1 (c' := (10, [(2, .int (-2)), (0, .ref 0), (1, .int (xs 1))], [], x_h0, 0, 0)) rfl ?_
      refine x_R.steps 1 (c' := (11, [(2, .int (-2)), (0, .ref 0), (1, .int (xs 1))], [.int (-2)], x_h0, 0, 0)) rfl ?_
      refine x_R.ret (v := some (.int (-2))) rfl ?_
      refine x_R.steps 0 (c' := (1653, [(3, .int 0), (2, .ref 75), (1, .ref 0), (0, .ref x_scr)], [.int (-2)], x_h0, 98, 10728)) rfl ?_
      refine x_R.steps 5 (c' := (1658, [(3, .int 0), (2, .ref 75), (1, .ref 0), (0, .ref x_scr)], [.int 1, .ref x_scr, .ref 75, .int (-2)], x_h0, 98, 10728)) rfl ?_
      refine x_R.steps 1 (c' := (1659, [(3, .int 0), (2, .ref 75), (1, .ref 0), (0, .ref x_scr)], [.int (xs 1), .ref 75, .int (-2)], x_h0, 98, 10728)) rfl ?_
      refine x_R.call (a := 326) (vs := [.ref 75, .int (xs 1)]) (rest := [.int (-2)]) (M' := M_cX12_counted) rfl rfl rfl ?_
      refine x_R.steps 2 (c' := (2, [(0, .ref 75), (1, .int (xs 1))], [.int (xs 1), .ref 75], x_h0, 0, 0)) rfl ?_
      refine x_R.call (a := 323) (vs := [.ref 75, .int (xs 1)]) (rest := []) (M' := M_cX12_asksBlows) rfl rfl rfl ?_
      refine x_R.steps 1 (c' := (1, [(0, .ref 75), (1, .int (xs 1))], [.int (xs 1)], x_h0, 0, 0)) rfl ?_
      refine x_R.call (a := 351) (vs := [.int (xs 1)]) (rest := []) (M' := M_cX12_isSlot) rfl rfl rfl ?_
      refine x_R.steps 4 (c' := (6, [(0, .int (xs 1))], [.long 3, .long 0, .long ((xs 1)).toInt64], x_h0, 0, 0)) rfl ?_
      refine x_R.call (a := 196) (vs := [.long ((xs 1)).toInt64, .long 0, .long 3]) (rest := []) (M' := M_cX12_in) rfl rfl rfl ?_
      refine x_R.steps 3 (c' := (3, [(0, .long ((xs 1)).toInt64), (2, .long 0), (4, .long 3)], [.int (lg_cmp ((xs 1)).toInt64 0)], x_h0, 0, 0)) rfl ?_
      refine x_R.ite (p := (lg_cmp ((xs 1)).toInt64 0) < (0 : Int32)) (c1 := (17, [(0, .long ((xs 1)).toInt64), (2, .long 0), (4, .long 3)], [], x_h0, 0, 0)) (c2 := (6, [(0, .long ((xs 1)).toInt64), (2, .long 0), (4, .long 3)], [], x_h0, 0, 0)) rfl (fun h6 => ?_) (fun h6 => ?_)
      · have g6 := (x_lg_lt (C := 0) (by decide)).mp h6
        exfalso; omega
      · have g6 := mt (x_lg_lt (C := 0) (by decide)).mpr h6
        refine x_R.steps 3 (c' := (10, [(0, .long ((xs 1)).toInt64), (2, .long 0), (4, .long 3)], [.int (lg_cmp ((xs 1)).toInt64 3)], x_h0, 0, 0)) rfl ?_
        refine x_R.ite (p := (0 : Int32) < (lg_cmp ((xs 1)).toInt64 3)) (c1 := (17, [(0, .long ((xs 1)).toInt64), (2, .long 0), (4, .long 3)], [], x_h0, 0, 0)) (c2 := (13, [(0, .long ((xs 1)).toInt64), (2, .long 0), (4, .long 3)], [], x_h0, 0, 0)) rfl (fun h7 => ?_) (fun h7 => ?_)
        · have g7 := (x_lg_gt (C := 3) (by decide)).mp h7
          exfalso; omega
        · have g7 := mt (x_lg_gt (C := 3) (by decide)).mpr h7
          refine x_R.steps 2 (c' := (18, [(0, .long ((xs 1)).toInt64), (2, .long 0), (4, .long 3)], [.int 1], x_h0, 0, 0)) rfl ?_
          refine x_R.ret (v := some (.int 1)) rfl ?_
          refine x_R.steps 0 (c' := (9, [(0, .int (xs 1))], [.int 1], x_h0, 0, 0)) rfl ?_
          refine x_R.ret (v := some (.int 1)) rfl ?_
          refine x_R.steps 0 (c' := (4, [(0, .ref 75), (1, .int (xs 1))], [.int 1], x_h0, 0, 0)) rfl ?_
          refine x_R.steps 1 (c' := (7, [(0, .ref 75), (1, .int (xs 1))], [], x_h0, 0, 0)) rfl ?_
          refine x_R.steps 1 (c' := (8, [(0, .ref 75), (1, .int (xs 1))], [.ref 75], x_h0, 0, 0)) rfl ?_
          refine x_R.call (a := 199) (vs := [.ref 75]) (rest := []) (M' := M_cX12_isBoard) rfl rfl rfl ?_
          refine x_R.steps 3 (c' := (5, [(0, .ref 75)], [.int 0, .ref 76], x_h0, 0, 0)) rfl ?_
          refine x_R.steps 1 (c' := (6, [(0, .ref 75)], [.int 0], x_h0, 0, 0)) rfl ?_
          refine x_R.steps 1 (c' := (13, [(0, .ref 75)], [], x_h0, 0, 0)) rfl ?_
          refine x_R.steps 1 (c' := (14, [(0, .ref 75)], [.int 0], x_h0, 0, 0)) rfl ?_
          refine x_R.ret (v := some (.int 0)) rfl ?_
          refine x_R.steps 0 (c' := (11, [(0, .ref 75), (1, .int (xs 1))], [.int 0], x_h0, 0, 0)) rfl ?_
          refine x_R.steps 1 (c' := (14, [(0, .ref 75), (1, .int (xs 1))], [], x_h0, 0, 0)) rfl ?_
          refine x_R.steps 1 (c' := (16, [(0, .ref 75), (1, .int (xs 1))], [.int (-2)], x_h0, 0, 0)) rfl ?_
          refine x_R.ret (v := some (.int (-2))) rfl ?_
          refine x_R.steps 0 (c' := (5, [(0, .ref 75), (1, .int (xs 1))], [.int (-2)], x_h0, 0, 0)) rfl ?_
          refine x_R.steps 2 (c' := (7, [(2, .int (-2)), (0, .ref 75), (1, .int (xs 1))], [.int (-2)], x_h0, 0, 0)) rfl ?_
          refine x_R.steps 1 (c' := (10, [(2, .int (-2)), (0, .ref 75), (1, .int (xs 1))], [], x_h0, 0, 0)) rfl ?_
          refine x_R.steps 1 (c' := (11, [(2, .int (-2)), (0, .ref 75), (1, .int (xs 1))], [.int (-2)], x_h0, 0, 0)) rfl ?_
          refine x_R.ret (v := some (.int (-2))) rfl ?_
          refine x_R.steps 0 (c' := (1662, [(3, .int 0), (2, .ref 75), (1, .ref 0), (0, .ref x_scr)], [.int (-2), .int (-2)], x_h0, 98, 10728)) rfl ?_
          refine x_R.steps 1 (c' := (2370, [(3, .int 0), (2, .ref 75), (1, .ref 0), (0, .ref x_scr)], [], x_h0, 98, 10728)) rfl ?_
          refine x_R.steps 7 (c' := (24, [(3, .int 6), (2, .ref 75), (1, .ref 0), (0, .ref x_scr)], [.int 0, .int 6], x_h0, 98, 10728)) rfl ?_
          refine x_R.steps 1 (c' := (2376, [(3, .int 6), (2, .ref 75), (1, .ref 0), (0, .ref x_scr)], [], x_h0, 98, 10728)) rfl ?_
          refine x_R.steps 1 (c' := (2377, [(3, .int 6), (2, .ref 75), (1, .ref 0), (0, .ref x_scr)], [.int 1], x_h0, 98, 10728)) rfl ?_
          exact x_R.ret (v := some (.int 1)) rfl x_fin
