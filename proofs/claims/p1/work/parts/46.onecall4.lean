set_option maxRecDepth 100000 in
set_option maxHeartbeats 4000000 in
theorem x_c49_0 (xs : Nat → Int32)  : x_R x_mt (some (6, xs)) 13 M_law (1667, [(3, .int 0), (2, .ref 75), (1, .ref 0), (0, .ref x_scr)], [], x_h0, 98, 10728) x_P := by
  refine x_R.steps 5 (c' := (1672, [(3, .int 0), (2, .ref 75), (1, .ref 0), (0, .ref x_scr)], [.int 1, .ref x_scr, .ref 0], x_h0, 98, 10728)) rfl ?_
  refine x_R.steps 1 (c' := (1673, [(3, .int 0), (2, .ref 75), (1, .ref 0), (0, .ref x_scr)], [.int (xs 1), .ref 0], x_h0, 98, 10728)) rfl ?_
  refine x_R.call (a := 163) (vs := [.ref 0, .int (xs 1)]) (rest := []) (M' := M_cX11_scored) rfl rfl rfl ?_
  refine x_R.steps 2 (c' := (2, [(0, .ref 0), (1, .int (xs 1))], [.int (xs 1), .ref 0], x_h0, 0, 0)) rfl ?_
  refine x_R.call (a := 194) (vs := [.ref 0, .int (xs 1)]) (rest := []) (M' := M_cX11_whyNoBlows) rfl rfl rfl ?_
  refine x_R.steps 1 (c' := (1, [(0, .ref 0), (1, .int (xs 1))], [.int (xs 1)], x_h0, 0, 0)) rfl ?_
  refine x_R.call (a := 182) (vs := [.int (xs 1)]) (rest := []) (M' := M_cX11_isSlot) rfl rfl rfl ?_
  refine x_R.steps 1 (c' := (1, [(0, .int (xs 1))], [.int (xs 1)], x_h0, 0, 0)) rfl ?_
  refine x_R.ite (p := (xs 1) < (0 : Int32)) (c1 := (13, [(0, .int (xs 1))], [], x_h0, 0, 0)) (c2 := (4, [(0, .int (xs 1))], [], x_h0, 0, 0)) rfl (fun h1 => ?_) (fun h1 => ?_)
  · have g1 := (x_i_lt (C := 0) (by decide)).mp h1
    refine x_R.steps 1 (c' := (14, [(0, .int (xs 1))], [.int 0], x_h0, 0, 0)) rfl ?_
    refine x_R.ret (v := some (.int 0)) rfl ?_
    refine x_R.steps 0 (c' := (4, [(0, .ref 0), (1, .int (xs 1))], [.int 0], x_h0, 0, 0)) rfl ?_
    refine x_R.steps 1 (c' := (17, [(0, .ref 0), (1, .int (xs 1))], [], x_h0, 0, 0)) rfl ?_
    refine x_R.steps 1 (c' := (19, [(0, .ref 0), (1, .int (xs 1))], [.int (-2)], x_h0, 0, 0)) rfl ?_
    refine x_R.ret (v := some (.int (-2))) rfl ?_
    refine x_R.steps 0 (c' := (5, [(0, .ref 0), (1, .int (xs 1))], [.int (-2)], x_h0, 0, 0)) rfl ?_
    refine x_R.steps 2 (c' := (7, [(2, .int (-2)), (0, .ref 0), (1, .int (xs 1))], [.int (-2)], x_h0, 0, 0)) rfl ?_
    refine x_R.steps 1 (c' := (10, [(2, .int (-2)), (0, .ref 0), (1, .int (xs 1))], [], x_h0, 0, 0)) rfl ?_
    refine x_R.steps 3 (c' := (15, [(2, .int (-2)), (0, .ref 0), (1, .int (xs 1))], [.int (-2000)], x_h0, 0, 0)) rfl ?_
    refine x_R.ret (v := some (.int (-2000))) rfl ?_
    refine x_R.steps 0 (c' := (1676, [(3, .int 0), (2, .ref 75), (1, .ref 0), (0, .ref x_scr)], [.int (-2000)], x_h0, 98, 10728)) rfl ?_
    refine x_R.steps 5 (c' := (1681, [(3, .int 0), (2, .ref 75), (1, .ref 0), (0, .ref x_scr)], [.int 1, .ref x_scr, .ref 75, .int (-2000)], x_h0, 98, 10728)) rfl ?_
    refine x_R.steps 1 (c' := (1682, [(3, .int 0), (2, .ref 75), (1, .ref 0), (0, .ref x_scr)], [.int (xs 1), .ref 75, .int (-2000)], x_h0, 98, 10728)) rfl ?_
    refine x_R.call (a := 327) (vs := [.ref 75, .int (xs 1)]) (rest := [.int (-2000)]) (M' := M_cX12_scored) rfl rfl rfl ?_
    refine x_R.steps 2 (c' := (2, [(0, .ref 75), (1, .int (xs 1))], [.int (xs 1), .ref 75], x_h0, 0, 0)) rfl ?_
    refine x_R.call (a := 323) (vs := [.ref 75, .int (xs 1)]) (rest := []) (M' := M_cX12_asksBlows) rfl rfl rfl ?_
    refine x_R.steps 1 (c' := (1, [(0, .ref 75), (1, .int (xs 1))], [.int (xs 1)], x_h0, 0, 0)) rfl ?_
    refine x_R.call (a := 351) (vs := [.int (xs 1)]) (rest := []) (M' := M_cX12_isSlot) rfl rfl rfl ?_
    refine x_R.steps 4 (c' := (6, [(0, .int (xs 1))], [.long 3, .long 0, .long ((xs 1)).toInt64], x_h0, 0, 0)) rfl ?_
    refine x_R.call (a := 196) (vs := [.long ((xs 1)).toInt64, .long 0, .long 3]) (rest := []) (M' := M_cX12_in) rfl rfl rfl ?_
    refine x_R.steps 3 (c' := (3, [(0, .long ((xs 1)).toInt64), (2, .long 0), (4, .long 3)], [.int (lg_cmp ((xs 1)).toInt64 0)], x_h0, 0, 0)) rfl ?_
    refine x_R.ite (p := (lg_cmp ((xs 1)).toInt64 0) < (0 : Int32)) (c1 := (17, [(0, .long ((xs 1)).toInt64), (2, .long 0), (4, .long 3)], [], x_h0, 0, 0)) (c2 := (6, [(0, .long ((xs 1)).toInt64), (2, .long 0), (4, .long 3)], [], x_h0, 0, 0)) rfl (fun h2 => ?_) (fun h2 => ?_)
    · have g2 := (x_lg_lt (C := 0) (by decide)).mp h2
      refine x_R.steps 1 (c' := (18, [(0, .long ((xs 1)).toInt64), (2, .long 0), (4, .long 3)], [.int 0], x_h0, 0, 0)) rfl ?_
      refine x_R.ret (v := some (.int 0)) rfl ?_
      refine x_R.steps 0 (c' := (9, [(0, .int (xs 1))], [.int 0], x_h0, 0, 0)) rfl ?_
      refine x_R.ret (v := some (.int 0)) rfl ?_
      refine x_R.steps 0 (c' := (4, [(0, .ref 75), (1, .int (xs 1))], [.int 0], x_h0, 0, 0)) rfl ?_
      refine x_R.steps 1 (c' := (14, [(0, .ref 75), (1, .int (xs 1))], [], x_h0, 0, 0)) rfl ?_
      refine x_R.steps 1 (c' := (16, [(0, .ref 75), (1, .int (xs 1))], [.int (-2)], x_h0, 0, 0)) rfl ?_
      refine x_R.ret (v := some (.int (-2))) rfl ?_
      refine x_R.steps 0 (c' := (5, [(0, .ref 75), (1, .int (xs 1))], [.int (-2)], x_h0, 0, 0)) rfl ?_
      refine x_R.steps 2 (c' := (7, [(2, .int (-2)), (0, .ref 75), (1, .int (xs 1))], [.int (-2)], x_h0, 0, 0)) rfl ?_
      refine x_R.steps 1 (c' := (10, [(2, .int (-2)), (0, .ref 75), (1, .int (xs 1))], [], x_h0, 0, 0)) rfl ?_
      refine x_R.steps 3 (c' := (15, [(2, .int (-2)), (0, .ref 75), (1, .int (xs 1))], [.int (-2000)], x_h0, 0, 0)) rfl ?_
      refine x_R.ret (v := some (.int (-2000))) rfl ?_
      refine x_R.steps 0 (c' := (1685, [(3, .int 0), (2, .ref 75), (1, .ref 0), (0, .ref x_scr)], [.int (-2000), .int (-2000)], x_h0, 98, 10728)) rfl ?_
      refine x_R.steps 1 (c' := (2370, [(3, .int 0), (2, .ref 75), (1, .ref 0), (0, .ref x_scr)], [], x_h0, 98, 10728)) rfl ?_
      refine x_R.steps 7 (c' := (24, [(3, .int 6), (2, .ref 75), (1, .ref 0), (0, .ref x_scr)], [.int 0, .int 6], x_h0, 98, 10728)) rfl ?_
      refine x_R.steps 1 (c' := (2376, [(3, .int 6), (2, .ref 75), (1, .ref 0), (0, .ref x_scr)], [], x_h0, 98, 10728)) rfl ?_
      refine x_R.steps 1 (c' := (2377, [(3, .int 6), (2, .ref 75), (1, .ref 0), (0, .ref x_scr)], [.int 1], x_h0, 98, 10728)) rfl ?_
      exact x_R.ret (v := some (.int 1)) rfl x_fin
    · have g2 := mt (x_lg_lt (C := 0) (by decide)).mpr h2
      exfalso; omega
  · have g1 := mt (x_i_lt (C := 0) (by decide)).mpr h1
    refine x_R.steps 2 (c' := (6, [(0, .int (xs 1))], [.int 4, .int (xs 1)], x_h0, 0, 0)) rfl ?_
    refine x_R.ite (p := (4 : Int32) ≤ (xs 1)) (c1 := (13, [(0, .int (xs 1))], [], x_h0, 0, 0)) (c2 := (9, [(0, .int (xs 1))], [], x_h0, 0, 0)) rfl (fun h3 => ?_) (fun h3 => ?_)
    · have g3 := (x_i_ge (C := 4) (by decide)).mp h3
      refine x_R.steps 1 (c' := (14, [(0, .int (xs 1))], [.int 0], x_h0, 0, 0)) rfl ?_
      refine x_R.ret (v := some (.int 0)) rfl ?_
      refine x_R.steps 0 (c' := (4, [(0, .ref 0), (1, .int (xs 1))], [.int 0], x_h0, 0, 0)) rfl ?_
      refine x_R.steps 1 (c' := (17, [(0, .ref 0), (1, .int (xs 1))], [], x_h0, 0, 0)) rfl ?_
      refine x_R.steps 1 (c' := (19, [(0, .ref 0), (1, .int (xs 1))], [.int (-2)], x_h0, 0, 0)) rfl ?_
      refine x_R.ret (v := some (.int (-2))) rfl ?_
      refine x_R.steps 0 (c' := (5, [(0, .ref 0), (1, .int (xs 1))], [.int (-2)], x_h0, 0, 0)) rfl ?_
      refine x_R.steps 2 (c' := (7, [(2, .int (-2)), (0, .ref 0), (1, .int (xs 1))], [.int (-2)], x_h0, 0, 0)) rfl ?_
      refine x_R.steps 1 (c' := (10, [(2, .int (-2)), (0, .ref 0), (1, .int (xs 1))], [], x_h0, 0, 0)) rfl ?_
      refine x_R.steps 3 (c' := (15, [(2, .int (-2)), (0, .ref 0), (1, .int (xs 1))], [.int (-2000)], x_h0, 0, 0)) rfl ?_
      refine x_R.ret (v := some (.int (-2000))) rfl ?_
      refine x_R.steps 0 (c' := (1676, [(3, .int 0), (2, .ref 75), (1, .ref 0), (0, .ref x_scr)], [.int (-2000)], x_h0, 98, 10728)) rfl ?_
      refine x_R.steps 5 (c' := (1681, [(3, .int 0), (2, .ref 75), (1, .ref 0), (0, .ref x_scr)], [.int 1, .ref x_scr, .ref 75, .int (-2000)], x_h0, 98, 10728)) rfl ?_
      refine x_R.steps 1 (c' := (1682, [(3, .int 0), (2, .ref 75), (1, .ref 0), (0, .ref x_scr)], [.int (xs 1), .ref 75, .int (-2000)], x_h0, 98, 10728)) rfl ?_
      refine x_R.call (a := 327) (vs := [.ref 75, .int (xs 1)]) (rest := [.int (-2000)]) (M' := M_cX12_scored) rfl rfl rfl ?_
      refine x_R.steps 2 (c' := (2, [(0, .ref 75), (1, .int (xs 1))], [.int (xs 1), .ref 75], x_h0, 0, 0)) rfl ?_
      refine x_R.call (a := 323) (vs := [.ref 75, .int (xs 1)]) (rest := []) (M' := M_cX12_asksBlows) rfl rfl rfl ?_
      refine x_R.steps 1 (c' := (1, [(0, .ref 75), (1, .int (xs 1))], [.int (xs 1)], x_h0, 0, 0)) rfl ?_
      refine x_R.call (a := 351) (vs := [.int (xs 1)]) (rest := []) (M' := M_cX12_isSlot) rfl rfl rfl ?_
      refine x_R.steps 4 (c' := (6, [(0, .int (xs 1))], [.long 3, .long 0, .long ((xs 1)).toInt64], x_h0, 0, 0)) rfl ?_
      refine x_R.call (a := 196) (vs := [.long ((xs 1)).toInt64, .long 0, .long 3]) (rest := []) (M' := M_cX12_in) rfl rfl rfl ?_
      refine x_R.steps 3 (c' := (3, [(0, .long ((xs 1)).toInt64), (2, .long 0), (4, .long 3)], [.int (lg_cmp ((xs 1)).toInt64 0)], x_h0, 0, 0)) rfl ?_
      refine x_R.ite (p := (lg_cmp ((xs 1)).toInt64 0) < (0 : Int32)) (c1 := (17, [(0, .long ((xs 1)).toInt64), (2, .long 0), (4, .long 3)], [], x_h0, 0, 0)) (c2 := (6, [(0, .long ((xs 1)).toInt64), (2, .long 0), (4, .long 3)], [], x_h0, 0, 0)) rfl (fun h4 => ?_) (fun h4 => ?_)
      · have g4 := (x_lg_lt (C := 0) (by decide)).mp h4
        exfalso; omega
      · have g4 := mt (x_lg_lt (C := 0) (by decide)).mpr h4
        refine x_R.steps 3 (c' := (10, [(0, .long ((xs 1)).toInt64), (2, .long 0), (4, .long 3)], [.int (lg_cmp ((xs 1)).toInt64 3)], x_h0, 0, 0)) rfl ?_
        refine x_R.ite (p := (0 : Int32) < (lg_cmp ((xs 1)).toInt64 3)) (c1 := (17, [(0, .long ((xs 1)).toInt64), (2, .long 0), (4, .long 3)], [], x_h0, 0, 0)) (c2 := (13, [(0, .long ((xs 1)).toInt64), (2, .long 0), (4, .long 3)], [], x_h0, 0, 0)) rfl (fun h5 => ?_) (fun h5 => ?_)
        · have g5 := (x_lg_gt (C := 3) (by decide)).mp h5
          refine x_R.steps 1 (c' := (18, [(0, .long ((xs 1)).toInt64), (2, .long 0), (4, .long 3)], [.int 0], x_h0, 0, 0)) rfl ?_
          refine x_R.ret (v := some (.int 0)) rfl ?_
          refine x_R.steps 0 (c' := (9, [(0, .int (xs 1))], [.int 0], x_h0, 0, 0)) rfl ?_
          refine x_R.ret (v := some (.int 0)) rfl ?_
          refine x_R.steps 0 (c' := (4, [(0, .ref 75), (1, .int (xs 1))], [.int 0], x_h0, 0, 0)) rfl ?_
          refine x_R.steps 1 (c' := (14, [(0, .ref 75), (1, .int (xs 1))], [], x_h0, 0, 0)) rfl ?_
          refine x_R.steps 1 (c' := (16, [(0, .ref 75), (1, .int (xs 1))], [.int (-2)], x_h0, 0, 0)) rfl ?_
          refine x_R.ret (v := some (.int (-2))) rfl ?_
          refine x_R.steps 0 (c' := (5, [(0, .ref 75), (1, .int (xs 1))], [.int (-2)], x_h0, 0, 0)) rfl ?_
          refine x_R.steps 2 (c' := (7, [(2, .int (-2)), (0, .ref 75), (1, .int (xs 1))], [.int (-2)], x_h0, 0, 0)) rfl ?_
          refine x_R.steps 1 (c' := (10, [(2, .int (-2)), (0, .ref 75), (1, .int (xs 1))], [], x_h0, 0, 0)) rfl ?_
          refine x_R.steps 3 (c' := (15, [(2, .int (-2)), (0, .ref 75), (1, .int (xs 1))], [.int (-2000)], x_h0, 0, 0)) rfl ?_
          refine x_R.ret (v := some (.int (-2000))) rfl ?_
          refine x_R.steps 0 (c' := (1685, [(3, .int 0), (2, .ref 75), (1, .ref 0), (0, .ref x_scr)], [.int (-2000), .int (-2000)], x_h0, 98, 10728)) rfl ?_
          refine x_R.steps 1 (c' := (2370, [(3, .int 0), (2, .ref 75), (1, .ref 0), (0, .ref x_scr)], [], x_h0, 98, 10728)) rfl ?_
          refine x_R.steps 7 (c' := (24, [(3, .int 6), (2, .ref 75), (1, .ref 0), (0, .ref x_scr)], [.int 0, .int 6], x_h0, 98, 10728)) rfl ?_
          refine x_R.steps 1 (c' := (2376, [(3, .int 6), (2, .ref 75), (1, .ref 0), (0, .ref x_scr)], [], x_h0, 98, 10728)) rfl ?_
          refine x_R.steps 1 (c' := (2377, [(3, .int 6), (2, .ref 75), (1, .ref 0), (0, .ref x_scr)], [.int 1], x_h0, 98, 10728)) rfl ?_
          exact x_R.ret (v := some (.int 1)) rfl x_fin
        · have g5 := mt (x_lg_gt (C := 3) (by decide)).mpr h5
          exfalso; omega
    · have g3 := mt (x_i_ge (C := 4) (by decide)).mpr h3
      refine x_R.steps 2 (c' := (14, [(0, .int (xs 1))], [.int 1], x_h0, 0, 0)) rfl ?_
      refine x_R.ret (v := some (.int 1)) rfl ?_
      refine x_R.steps 0 (c' := (4, [(0, .ref 0), (1, .int (xs 1))], [.int 1], x_h0, 0, 0)) rfl ?_
      refine x_R.steps 1 (c' := (7, [(0, .ref 0), (1, .int (xs 1))], [], x_h0, 0, 0)) rfl ?_
      refine x_R.steps 2 (c' := (11, [(0, .ref 0), (1, .int (xs 1))], [.ref 1], x_h0, 0, 0)) rfl ?_
      refine x_R.call (a := 11) (vs := [.ref 1]) (rest := []) (M' := M_cX2_isTold) rfl rfl rfl ?_
      refine x_R.steps 2 (c' := (4, [(0, .ref 1)], [.int 0], x_h0, 0, 0)) rfl ?_
      refine x_R.steps 1 (c' := (11, [(0, .ref 1)], [], x_h0, 0, 0)) rfl ?_
      refine x_R.steps 1 (c' := (12, [(0, .ref 1)], [.int 0], x_h0, 0, 0)) rfl ?_
      refine x_R.ret (v := some (.int 0)) rfl ?_
      refine x_R.steps 0 (c' := (14, [(0, .ref 0), (1, .int (xs 1))], [.int 0], x_h0, 0, 0)) rfl ?_
      refine x_R.steps 1 (c' := (17, [(0, .ref 0), (1, .int (xs 1))], [], x_h0, 0, 0)) rfl ?_
      refine x_R.steps 1 (c' := (19, [(0, .ref 0), (1, .int (xs 1))], [.int (-2)], x_h0, 0, 0)) rfl ?_
      refine x_R.ret (v := some (.int (-2))) rfl ?_
      refine x_R.steps 0 (c' := (5, [(0, .ref 0), (1, .int (xs 1))], [.int (-2)], x_h0, 0, 0)) rfl ?_
      refine x_R.steps 2 (c' := (7, [(2, .int (-2)), (0, .ref 0), (1, .int (xs 1))], [.int (-2)], x_h0, 0, 0)) rfl ?_
      refine x_R.steps 1 (c' := (10, [(2, .int (-2)), (0, .ref 0), (1, .int (xs 1))], [], x_h0, 0, 0)) rfl ?_
      refine x_R.steps 3 (c' := (15, [(2, .int (-2)), (0, .ref 0), (1, .int (xs 1))], [.int (-2000)], x_h0, 0, 0)) rfl ?_
      refine x_R.ret (v := some (.int (-2000))) rfl ?_
      refine x_R.steps 0 (c' := (1676, [(3, .int 0), (2, .ref 75), (1, .ref 0), (0, .ref x_scr)], [.int (-2000)], x_h0, 98, 10728)) rfl ?_
      refine x_R.steps 5 (c' := (1681, [(3, .int 0), (2, .ref 75), (1, .ref 0), (0, .ref x_scr)], [.int 1, .ref x_scr, .ref 75, .int (-2000)], x_h0, 98, 10728)) rfl ?_
      refine x_R.steps 1 (c' := (1682, [(3, .int 0), (2, .ref 75), (1, .ref 0), (0, .ref x_scr)], [.int (xs 1), .ref 75, .int (-2000)], x_h0, 98, 10728)) rfl ?_
      refine x_R.call (a := 327) (vs := [.ref 75, .int (xs 1)]) (rest := [.int (-2000)]) (M' := M_cX12_scored) rfl rfl rfl ?_
      refine x_R.steps 2 (c' := (2, [(0, .ref 75), (1, .int (xs 1))], [.int (xs 1), .ref 75], x_h0, 0, 0)) rfl ?_
      refine x_R.call (a := 323) (vs := [.ref 75, .int (xs 1)]) (rest := []) (M' := M_cX12_asksBlows) rfl rfl rfl ?_
      refine x_R.steps 1 (c' := (1, [(0, .ref 75), (1, .int (xs 1))], [.int (xs 1)], x_h0, 0, 0)) rfl ?_
      refine x_R.call (a := 351) (vs := [.int (xs 1)]) (rest := []) (M' := M_cX12_isSlot) rfl rfl rfl ?_
      refine x_R.steps 4 (c' := (6, [(0, .int (xs 1))], [.long 3, .long 0, .long ((xs 1)).toInt64], x_h0, 0, 0)) rfl ?_
      refine x_R.call (a := 196) (vs := [.long ((xs 1)).toInt64, .long 0, .long 3]) (rest := []) (M' := M_cX12_in) rfl rfl rfl ?_
      refine x_R.steps 3 (c' := (3, [(0, .long ((xs 1)).toInt64), (2, .long 0), (4, .long 3)], [.int (lg_cmp ((xs 1)).toInt64 0)], x_h0, 0, 0)) rfl ?_
      refine x_R.ite (p := (lg_cmp ((xs 1)).toInt64 0) < (0 : Int32)) (c1 := (17, [(0, .long ((xs 1)).toInt64), (2, .long 0), (4, .long 3)], [], x_h0, 0, 0)) (c2 := (6, [(0, .long ((xs 1)).toInt64), (2, .long 0), (4, .long 3)], [], x_h0, 0, 0)) rfl (fun h6 => ?_) (fun h6 => ?_)
      · have g6 := (x_lg_lt (C := 0) (by decide)).mp h6
        exfalso; omega
      · have g6 := mt (x_lg_lt (C := 0) (by decide)).mpr h6
        refine x_R.steps 3 (c' := (10, [(0, .long ((xs 1)).toInt64), (2, .long 0), (4, .long 3)], [.int (lg_cmp ((xs 1)).toInt64 3)], x_h0, 0, 0)) rfl ?_
        refine x_R.ite (p := (0 : Int32) < (lg_cmp ((xs 1)).toInt64 3)) (c1 := (17, [(0, .long ((xs 1)).toInt64), (2, .long 0), (4, .long 3)], [], x_h0, 0, 0)) (c2 := (13, [(0, .long ((xs 1)).toInt64), (2, .long 0), (4, .long 3)], [], x_h0, 0, 0)) rfl (fun h7 => ?_) (fun h7 => ?_)
        · have g7 := (x_lg_gt (C := 3) (by decide)).mp h7
          exfalso; omega
        · have g7 := mt (x_lg_gt (C := 3) (by decide)).mpr h7
          refine x_R.steps 2 (c' := (18, [(0, .long ((xs 1)).toInt64), (2, .long 0), (4, .long 3)], [.int 1], x_h0, 0, 0)) rfl ?_
          refine x_R.ret (v := some (.int 1)) rfl ?_
          refine x_R.steps 0 (c' := (9, [(0, .int (xs 1))], [.int 1], x_h0, 0, 0)) rfl ?_
          refine x_R.ret (v := some (.int 1)) rfl ?_
          refine x_R.steps 0 (c' := (4, [(0, .ref 75), (1, .int (xs 1))], [.int 1], x_h0, 0, 0)) rfl ?_
          refine x_R.steps 1 (c' := (7, [(0, .ref 75), (1, .int (xs 1))], [], x_h0, 0, 0)) rfl ?_
          refine x_R.steps 1 (c' := (8, [(0, .ref 75), (1, .int (xs 1))], [.ref 75], x_h0, 0, 0)) rfl ?_
          refine x_R.call (a := 199) (vs := [.ref 75]) (rest := []) (M' := M_cX12_isBoard) rfl rfl rfl ?_
          refine x_R.steps 3 (c' := (5, [(0, .ref 75)], [.int 0, .ref 76], x_h0, 0, 0)) rfl ?_
          refine x_R.steps 1 (c' := (6, [(0, .ref 75)], [.int 0], x_h0, 0, 0)) rfl ?_
          refine x_R.steps 1 (c' := (13, [(0, .ref 75)], [], x_h0, 0, 0)) rfl ?_
          refine x_R.steps 1 (c' := (14, [(0, .ref 75)], [.int 0], x_h0, 0, 0)) rfl ?_
          refine x_R.ret (v := some (.int 0)) rfl ?_
          refine x_R.steps 0 (c' := (11, [(0, .ref 75), (1, .int (xs 1))], [.int 0], x_h0, 0, 0)) rfl ?_
          refine x_R.steps 1 (c' := (14, [(0, .ref 75), (1, .int (xs 1))], [], x_h0, 0, 0)) rfl ?_
          refine x_R.steps 1 (c' := (16, [(0, .ref 75), (1, .int (xs 1))], [.int (-2)], x_h0, 0, 0)) rfl ?_
          refine x_R.ret (v := some (.int (-2))) rfl ?_
          refine x_R.steps 0 (c' := (5, [(0, .ref 75), (1, .int (xs 1))], [.int (-2)], x_h0, 0, 0)) rfl ?_
          refine x_R.steps 2 (c' := (7, [(2, .int (-2)), (0, .ref 75), (1, .int (xs 1))], [.int (-2)], x_h0, 0, 0)) rfl ?_
          refine x_R.steps 1 (c' := (10, [(2, .int (-2)), (0, .ref 75), (1, .int (xs 1))], [], x_h0, 0, 0)) rfl ?_
          refine x_R.steps 3 (c' := (15, [(2, .int (-2)), (0, .ref 75), (1, .int (xs 1))], [.int (-2000)], x_h0, 0, 0)) rfl ?_
          refine x_R.ret (v := some (.int (-2000))) rfl ?_
          refine x_R.steps 0 (c' := (1685, [(3, .int 0), (2, .ref 75), (1, .ref 0), (0, .ref x_scr)], [.int (-2000), .int (-2000)], x_h0, 98, 10728)) rfl ?_
          refine x_R.steps 1 (c' := (2370, [(3, .int 0), (2, .ref 75), (1, .ref 0), (0, .ref x_scr)], [], x_h0, 98, 10728)) rfl ?_
          refine x_R.steps 7 (c' := (24, [(3, .int 6), (2, .ref 75), (1, .ref 0), (0, .ref x_scr)], [.int 0, .int 6], x_h0, 98, 10728)) rfl ?_
          refine x_R.steps 1 (c' := (2376, [(3, .int 6), (2, .ref 75), (1, .ref 0), (0, .ref x_scr)], [], x_h0, 98, 10728)) rfl ?_
          refine x_R.steps 1 (c' := (2377, [(3, .int 6), (2, .ref 75), (1, .ref 0), (0, .ref x_scr)], [.int 1], x_h0, 98, 10728)) rfl ?_
          exact x_R.ret (v := some (.int 1)) rfl x_fin
set_option maxRecDepth 100000 in
set_option maxHeartbeats 4000000 in
theorem x_c50_0 (xs : Nat → Int32)  : x_R x_mt (some (6, xs)) 13 M_law (1690, [(3, .int 0), (2, .ref 75), (1, .ref 0), (0, .ref x_scr)], [], x_h0, 98, 10728) x_P := by
  refine x_R.steps 5 (c' := (1695, [(3, .int 0), (2, .ref 75), (1, .ref 0), (0, .ref x_scr)], [.int 1, .ref x_scr, .ref 0], x_h0, 98, 10728)) rfl ?_
  refine x_R.steps 1 (c' := (1696, [(3, .int 0), (2, .ref 75), (1, .ref 0), (0, .ref x_scr)], [.int (xs 1), .ref 0], x_h0, 98, 10728)) rfl ?_
  refine x_R.steps 4 (c' := (1700, [(3, .int 0), (2, .ref 75), (1, .ref 0), (0, .ref x_scr)], [.int 2, .ref x_scr, .int (xs 1), .ref 0], x_h0, 98, 10728)) rfl ?_
  refine x_R.steps 1 (c' := (1701, [(3, .int 0), (2, .ref 75), (1, .ref 0), (0, .ref x_scr)], [.int (xs 2), .int (xs 1), .ref 0], x_h0, 98, 10728)) rfl ?_
  refine x_R.call (a := 164) (vs := [.ref 0, .int (xs 1), .int (xs 2)]) (rest := []) (M' := M_cX11_early) rfl rfl rfl ?_
  refine x_R.steps 1 (c' := (1, [(0, .ref 0), (1, .int (xs 1)), (2, .int (xs 2))], [.int (xs 2)], x_h0, 0, 0)) rfl ?_
  refine x_R.ite (p := (xs 2) < (0 : Int32)) (c1 := (10, [(0, .ref 0), (1, .int (xs 1)), (2, .int (xs 2))], [], x_h0, 0, 0)) (c2 := (4, [(0, .ref 0), (1, .int (xs 1)), (2, .int (xs 2))], [], x_h0, 0, 0)) rfl (fun h1 => ?_) (fun h1 => ?_)
  · have g1 := (x_i_lt (C := 0) (by decide)).mp h1
    refine x_R.steps 1 (c' := (12, [(0, .ref 0), (1, .int (xs 1)), (2, .int (xs 2))], [.int (-2)], x_h0, 0, 0)) rfl ?_
    refine x_R.ret (v := some (.int (-2))) rfl ?_
    refine x_R.steps 0 (c' := (1704, [(3, .int 0), (2, .ref 75), (1, .ref 0), (0, .ref x_scr)], [.int (-2)], x_h0, 98, 10728)) rfl ?_
    refine x_R.steps 5 (c' := (1709, [(3, .int 0), (2, .ref 75), (1, .ref 0), (0, .ref x_scr)], [.int 1, .ref x_scr, .ref 75, .int (-2)], x_h0, 98, 10728)) rfl ?_
    refine x_R.steps 1 (c' := (1710, [(3, .int 0), (2, .ref 75), (1, .ref 0), (0, .ref x_scr)], [.int (xs 1), .ref 75, .int (-2)], x_h0, 98, 10728)) rfl ?_
    refine x_R.steps 4 (c' := (1714, [(3, .int 0), (2, .ref 75), (1, .ref 0), (0, .ref x_scr)], [.int 2, .ref x_scr, .int (xs 1), .ref 75, .int (-2)], x_h0, 98, 10728)) rfl ?_
    refine x_R.steps 1 (c' := (1715, [(3, .int 0), (2, .ref 75), (1, .ref 0), (0, .ref x_scr)], [.int (xs 2), .int (xs 1), .ref 75, .int (-2)], x_h0, 98, 10728)) rfl ?_
    refine x_R.call (a := 328) (vs := [.ref 75, .int (xs 1), .int (xs 2)]) (rest := [.int (-2)]) (M' := M_cX12_early) rfl rfl rfl ?_
    refine x_R.steps 4 (c' := (6, [(0, .ref 75), (1, .int (xs 1)), (2, .int (xs 2))], [.long 20, .long 0, .long ((xs 2)).toInt64], x_h0, 0, 0)) rfl ?_
    refine x_R.call (a := 196) (vs := [.long ((xs 2)).toInt64, .long 0, .long 20]) (rest := []) (M' := M_cX12_in) rfl rfl rfl ?_
    refine x_R.steps 3 (c' := (3, [(0, .long ((xs 2)).toInt64), (2, .long 0), (4, .long 20)], [.int (lg_cmp ((xs 2)).toInt64 0)], x_h0, 0, 0)) rfl ?_
    refine x_R.ite (p := (lg_cmp ((xs 2)).toInt64 0) < (0 : Int32)) (c1 := (17, [(0, .long ((xs 2)).toInt64), (2, .long 0), (4, .long 20)], [], x_h0, 0, 0)) (c2 := (6, [(0, .long ((xs 2)).toInt64), (2, .long 0), (4, .long 20)], [], x_h0, 0, 0)) rfl (fun h2 => ?_) (fun h2 => ?_)
    · have g2 := (x_lg_lt (C := 0) (by decide)).mp h2
      refine x_R.steps 1 (c' := (18, [(0, .long ((xs 2)).toInt64), (2, .long 0), (4, .long 20)], [.int 0], x_h0, 0, 0)) rfl ?_
      refine x_R.ret (v := some (.int 0)) rfl ?_
      refine x_R.steps 0 (c' := (9, [(0, .ref 75), (1, .int (xs 1)), (2, .int (xs 2))], [.int 0], x_h0, 0, 0)) rfl ?_
      refine x_R.steps 1 (c' := (12, [(0, .ref 75), (1, .int (xs 1)), (2, .int (xs 2))], [], x_h0, 0, 0)) rfl ?_
      refine x_R.steps 1 (c' := (14, [(0, .ref 75), (1, .int (xs 1)), (2, .int (xs 2))], [.int (-2)], x_h0, 0, 0)) rfl ?_
      refine x_R.ret (v := some (.int (-2))) rfl ?_
      refine x_R.steps 0 (c' := (1718, [(3, .int 0), (2, .ref 75), (1, .ref 0), (0, .ref x_scr)], [.int (-2), .int (-2)], x_h0, 98, 10728)) rfl ?_
      refine x_R.steps 1 (c' := (2370, [(3, .int 0), (2, .ref 75), (1, .ref 0), (0, .ref x_scr)], [], x_h0, 98, 10728)) rfl ?_
      refine x_R.steps 7 (c' := (24, [(3, .int 6), (2, .ref 75), (1, .ref 0), (0, .ref x_scr)], [.int 0, .int 6], x_h0, 98, 10728)) rfl ?_
      refine x_R.steps 1 (c' := (2376, [(3, .int 6), (2, .ref 75), (1, .ref 0), (0, .ref x_scr)], [], x_h0, 98, 10728)) rfl ?_
      refine x_R.steps 1 (c' := (2377, [(3, .int 6), (2, .ref 75), (1, .ref 0), (0, .ref x_scr)], [.int 1], x_h0, 98, 10728)) rfl ?_
      exact x_R.ret (v := some (.int 1)) rfl x_fin
    · have g2 := mt (x_lg_lt (C := 0) (by decide)).mpr h2
      exfalso; omega
  · have g1 := mt (x_i_lt (C := 0) (by decide)).mpr h1
    refine x_R.steps 2 (c' := (7, [(0, .ref 0), (1, .int (xs 1)), (2, .int (xs 2))], [.int 20, .int (xs 2)], x_h0, 0, 0)) rfl ?_
    refine x_R.ite (p := (xs 2) ≤ (20 : Int32)) (c1 := (13, [(0, .ref 0), (1, .int (xs 1)), (2, .int (xs 2))], [], x_h0, 0, 0)) (c2 := (10, [(0, .ref 0), (1, .int (xs 1)), (2, .int (xs 2))], [], x_h0, 0, 0)) rfl (fun h3 => ?_) (fun h3 => ?_)
    · have g3 := (x_i_le (C := 20) (by decide)).mp h3
      refine x_R.steps 2 (c' := (15, [(0, .ref 0), (1, .int (xs 1)), (2, .int (xs 2))], [.int (xs 1), .ref 0], x_h0, 0, 0)) rfl ?_
      refine x_R.call (a := 194) (vs := [.ref 0, .int (xs 1)]) (rest := []) (M' := M_cX11_whyNoBlows) rfl rfl rfl ?_
      refine x_R.steps 1 (c' := (1, [(0, .ref 0), (1, .int (xs 1))], [.int (xs 1)], x_h0, 0, 0)) rfl ?_
      refine x_R.call (a := 182) (vs := [.int (xs 1)]) (rest := []) (M' := M_cX11_isSlot) rfl rfl rfl ?_
      refine x_R.steps 1 (c' := (1, [(0, .int (xs 1))], [.int (xs 1)], x_h0, 0, 0)) rfl ?_
      refine x_R.ite (p := (xs 1) < (0 : Int32)) (c1 := (13, [(0, .int (xs 1))], [], x_h0, 0, 0)) (c2 := (4, [(0, .int (xs 1))], [], x_h0, 0, 0)) rfl (fun h4 => ?_) (fun h4 => ?_)
      · have g4 := (x_i_lt (C := 0) (by decide)).mp h4
        refine x_R.steps 1 (c' := (14, [(0, .int (xs 1))], [.int 0], x_h0, 0, 0)) rfl ?_
        refine x_R.ret (v := some (.int 0)) rfl ?_
        refine x_R.steps 0 (c' := (4, [(0, .ref 0), (1, .int (xs 1))], [.int 0], x_h0, 0, 0)) rfl ?_
        refine x_R.steps 1 (c' := (17, [(0, .ref 0), (1, .int (xs 1))], [], x_h0, 0, 0)) rfl ?_
        refine x_R.steps 1 (c' := (19, [(0, .ref 0), (1, .int (xs 1))], [.int (-2)], x_h0, 0, 0)) rfl ?_
        refine x_R.ret (v := some (.int (-2))) rfl ?_
        refine x_R.steps 0 (c' := (18, [(0, .ref 0), (1, .int (xs 1)), (2, .int (xs 2))], [.int (-2)], x_h0, 0, 0)) rfl ?_
        refine x_R.steps 2 (c' := (20, [(3, .int (-2)), (0, .ref 0), (1, .int (xs 1)), (2, .int (xs 2))], [.int (-2)], x_h0, 0, 0)) rfl ?_
        refine x_R.steps 1 (c' := (23, [(3, .int (-2)), (0, .ref 0), (1, .int (xs 1)), (2, .int (xs 2))], [], x_h0, 0, 0)) rfl ?_
        refine x_R.steps 1 (c' := (24, [(3, .int (-2)), (0, .ref 0), (1, .int (xs 1)), (2, .int (xs 2))], [.int (-2)], x_h0, 0, 0)) rfl ?_
        refine x_R.ret (v := some (.int (-2))) rfl ?_
        refine x_R.steps 0 (c' := (1704, [(3, .int 0), (2, .ref 75), (1, .ref 0), (0, .ref x_scr)], [.int (-2)], x_h0, 98, 10728)) rfl ?_
        refine x_R.steps 5 (c' := (1709, [(3, .int 0), (2, .ref 75), (1, .ref 0), (0, .ref x_scr)], [.int 1, .ref x_scr, .ref 75, .int (-2)], x_h0, 98, 10728)) rfl ?_
        refine x_R.steps 1 (c' := (1710, [(3, .int 0), (2, .ref 75), (1, .ref 0), (0, .ref x_scr)], [.int (xs 1), .ref 75, .int (-2)], x_h0, 98, 10728)) rfl ?_
        refine x_R.steps 4 (c' := (1714, [(3, .int 0), (2, .ref 75), (1, .ref 0), (0, .ref x_scr)], [.int 2, .ref x_scr, .int (xs 1), .ref 75, .int (-2)], x_h0, 98, 10728)) rfl ?_
        refine x_R.steps 1 (c' := (1715, [(3, .int 0), (2, .ref 75), (1, .ref 0), (0, .ref x_scr)], [.int (xs 2), .int (xs 1), .ref 75, .int (-2)], x_h0, 98, 10728)) rfl ?_
        refine x_R.call (a := 328) (vs := [.ref 75, .int (xs 1), .int (xs 2)]) (rest := [.int (-2)]) (M' := M_cX12_early) rfl rfl rfl ?_
        refine x_R.steps 4 (c' := (6, [(0, .ref 75), (1, .int (xs 1)), (2, .int (xs 2))], [.long 20, .long 0, .long ((xs 2)).toInt64], x_h0, 0, 0)) rfl ?_
        refine x_R.call (a := 196) (vs := [.long ((xs 2)).toInt64, .long 0, .long 20]) (rest := []) (M' := M_cX12_in) rfl rfl rfl ?_
        refine x_R.steps 3 (c' := (3, [(0, .long ((xs 2)).toInt64), (2, .long 0), (4, .long 20)], [.int (lg_cmp ((xs 2)).toInt64 0)], x_h0, 0, 0)) rfl ?_
        refine x_R.ite (p := (lg_cmp ((xs 2)).toInt64 0) < (0 : Int32)) (c1 := (17, [(0, .long ((xs 2)).toInt64), (2, .long 0), (4, .long 20)], [], x_h0, 0, 0)) (c2 := (6, [(0, .long ((xs 2)).toInt64), (2, .long 0), (4, .long 20)], [], x_h0, 0, 0)) rfl (fun h5 => ?_) (fun h5 => ?_)
        · have g5 := (x_lg_lt (C := 0) (by decide)).mp h5
          exfalso; omega
        · have g5 := mt (x_lg_lt (C := 0) (by decide)).mpr h5
          refine x_R.steps 3 (c' := (10, [(0, .long ((xs 2)).toInt64), (2, .long 0), (4, .long 20)], [.int (lg_cmp ((xs 2)).toInt64 20)], x_h0, 0, 0)) rfl ?_
          refine x_R.ite (p := (0 : Int32) < (lg_cmp ((xs 2)).toInt64 20)) (c1 := (17, [(0, .long ((xs 2)).toInt64), (2, .long 0), (4, .long 20)], [], x_h0, 0, 0)) (c2 := (13, [(0, .long ((xs 2)).toInt64), (2, .long 0), (4, .long 20)], [], x_h0, 0, 0)) rfl (fun h6 => ?_) (fun h6 => ?_)
          · have g6 := (x_lg_gt (C := 20) (by decide)).mp h6
            exfalso; omega
          · have g6 := mt (x_lg_gt (C := 20) (by decide)).mpr h6
            refine x_R.steps 2 (c' := (18, [(0, .long ((xs 2)).toInt64), (2, .long 0), (4, .long 20)], [.int 1], x_h0, 0, 0)) rfl ?_
            refine x_R.ret (v := some (.int 1)) rfl ?_
            refine x_R.steps 0 (c' := (9, [(0, .ref 75), (1, .int (xs 1)), (2, .int (xs 2))], [.int 1], x_h0, 0, 0)) rfl ?_
            refine x_R.steps 1 (c' := (15, [(0, .ref 75), (1, .int (xs 1)), (2, .int (xs 2))], [], x_h0, 0, 0)) rfl ?_
            refine x_R.steps 2 (c' := (17, [(0, .ref 75), (1, .int (xs 1)), (2, .int (xs 2))], [.int (xs 1), .ref 75], x_h0, 0, 0)) rfl ?_
            refine x_R.call (a := 323) (vs := [.ref 75, .int (xs 1)]) (rest := []) (M' := M_cX12_asksBlows) rfl rfl rfl ?_
            refine x_R.steps 1 (c' := (1, [(0, .ref 75), (1, .int (xs 1))], [.int (xs 1)], x_h0, 0, 0)) rfl ?_
            refine x_R.call (a := 351) (vs := [.int (xs 1)]) (rest := []) (M' := M_cX12_isSlot) rfl rfl rfl ?_
            refine x_R.steps 4 (c' := (6, [(0, .int (xs 1))], [.long 3, .long 0, .long ((xs 1)).toInt64], x_h0, 0, 0)) rfl ?_
            refine x_R.call (a := 196) (vs := [.long ((xs 1)).toInt64, .long 0, .long 3]) (rest := []) (M' := M_cX12_in) rfl rfl rfl ?_
            refine x_R.steps 3 (c' := (3, [(0, .long ((xs 1)).toInt64), (2, .long 0), (4, .long 3)], [.int (lg_cmp ((xs 1)).toInt64 0)], x_h0, 0, 0)) rfl ?_
            refine x_R.ite (p := (lg_cmp ((xs 1)).toInt64 0) < (0 : Int32)) (c1 := (17, [(0, .long ((xs 1)).toInt64), (2, .long 0), (4, .long 3)], [], x_h0, 0, 0)) (c2 := (6, [(0, .long ((xs 1)).toInt64), (2, .long 0), (4, .long 3)], [], x_h0, 0, 0)) rfl (fun h7 => ?_) (fun h7 => ?_)
            · have g7 := (x_lg_lt (C := 0) (by decide)).mp h7
              refine x_R.steps 1 (c' := (18, [(0, .long ((xs 1)).toInt64), (2, .long 0), (4, .long 3)], [.int 0], x_h0, 0, 0)) rfl ?_
              refine x_R.ret (v := some (.int 0)) rfl ?_
              refine x_R.steps 0 (c' := (9, [(0, .int (xs 1))], [.int 0], x_h0, 0, 0)) rfl ?_
              refine x_R.ret (v := some (.int 0)) rfl ?_
              refine x_R.steps 0 (c' := (4, [(0, .ref 75), (1, .int (xs 1))], [.int 0], x_h0, 0, 0)) rfl ?_
              refine x_R.steps 1 (c' := (14, [(0, .ref 75), (1, .int (xs 1))], [], x_h0, 0, 0)) rfl ?_
              refine x_R.steps 1 (c' := (16, [(0, .ref 75), (1, .int (xs 1))], [.int (-2)], x_h0, 0, 0)) rfl ?_
              refine x_R.ret (v := some (.int (-2))) rfl ?_
              refine x_R.steps 0 (c' := (20, [(0, .ref 75), (1, .int (xs 1)), (2, .int (xs 2))], [.int (-2)], x_h0, 0, 0)) rfl ?_
              refine x_R.steps 2 (c' := (22, [(3, .int (-2)), (0, .ref 75), (1, .int (xs 1)), (2, .int (xs 2))], [.int (-2)], x_h0, 0, 0)) rfl ?_
              refine x_R.steps 1 (c' := (25, [(3, .int (-2)), (0, .ref 75), (1, .int (xs 1)), (2, .int (xs 2))], [], x_h0, 0, 0)) rfl ?_
              refine x_R.steps 1 (c' := (26, [(3, .int (-2)), (0, .ref 75), (1, .int (xs 1)), (2, .int (xs 2))], [.int (-2)], x_h0, 0, 0)) rfl ?_
              refine x_R.ret (v := some (.int (-2))) rfl ?_
              refine x_R.steps 0 (c' := (1718, [(3, .int 0), (2, .ref 75), (1, .ref 0), (0, .ref x_scr)], [.int (-2), .int (-2)], x_h0, 98, 10728)) rfl ?_
              refine x_R.steps 1 (c' := (2370, [(3, .int 0), (2, .ref 75), (1, .ref 0), (0, .ref x_scr)], [], x_h0, 98, 10728)) rfl ?_
              refine x_R.steps 7 (c' := (24, [(3, .int 6), (2, .ref 75), (1, .ref 0), (0, .ref x_scr)], [.int 0, .int 6], x_h0, 98, 10728)) rfl ?_
              refine x_R.steps 1 (c' := (2376, [(3, .int 6), (2, .ref 75), (1, .ref 0), (0, .ref x_scr)], [], x_h0, 98, 10728)) rfl ?_
              refine x_R.steps 1 (c' := (2377, [(3, .int 6), (2, .ref 75), (1, .ref 0), (0, .ref x_scr)], [.int 1], x_h0, 98, 10728)) rfl ?_
              exact x_R.ret (v := some (.int 1)) rfl x_fin
            · have g7 := mt (x_lg_lt (C := 0) (by decide)).mpr h7
              exfalso; omega
      · have g4 := mt (x_i_lt (C := 0) (by decide)).mpr h4
        refine x_R.steps 2 (c' := (6, [(0, .int (xs 1))], [.int 4, .int (xs 1)], x_h0, 0, 0)) rfl ?_
        refine x_R.ite (p := (4 : Int32) ≤ (xs 1)) (c1 := (13, [(0, .int (xs 1))], [], x_h0, 0, 0)) (c2 := (9, [(0, .int (xs 1))], [], x_h0, 0, 0)) rfl (fun h8 => ?_) (fun h8 => ?_)
        · have g8 := (x_i_ge (C := 4) (by decide)).mp h8
          refine x_R.steps 1 (c' := (14, [(0, .int (xs 1))], [.int 0], x_h0, 0, 0)) rfl ?_
          refine x_R.ret (v := some (.int 0)) rfl ?_
          refine x_R.steps 0 (c' := (4, [(0, .ref 0), (1, .int (xs 1))], [.int 0], x_h0, 0, 0)) rfl ?_
          refine x_R.steps 1 (c' := (17, [(0, .ref 0), (1, .int (xs 1))], [], x_h0, 0, 0)) rfl ?_
          refine x_R.steps 1 (c' := (19, [(0, .ref 0), (1, .int (xs 1))], [.int (-2)], x_h0, 0, 0)) rfl ?_
          refine x_R.ret (v := some (.int (-2))) rfl ?_
          refine x_R.steps 0 (c' := (18, [(0, .ref 0), (1, .int (xs 1)), (2, .int (xs 2))], [.int (-2)], x_h0, 0, 0)) rfl ?_
          refine x_R.steps 2 (c' := (20, [(3, .int (-2)), (0, .ref 0), (1, .int (xs 1)), (2, .int (xs 2))], [.int (-2)], x_h0, 0, 0)) rfl ?_
          refine x_R.steps 1 (c' := (23, [(3, .int (-2)), (0, .ref 0), (1, .int (xs 1)), (2, .int (xs 2))], [], x_h0, 0, 0)) rfl ?_
          refine x_R.steps 1 (c' := (24, [(3, .int (-2)), (0, .ref 0), (1, .int (xs 1)), (2, .int (xs 2))], [.int (-2)], x_h0, 0, 0)) rfl ?_
          refine x_R.ret (v := some (.int (-2))) rfl ?_
          refine x_R.steps 0 (c' := (1704, [(3, .int 0), (2, .ref 75), (1, .ref 0), (0, .ref x_scr)], [.int (-2)], x_h0, 98, 10728)) rfl ?_
          refine x_R.steps 5 (c' := (1709, [(3, .int 0), (2, .ref 75), (1, .ref 0), (0, .ref x_scr)], [.int 1, .ref x_scr, .ref 75, .int (-2)], x_h0, 98, 10728)) rfl ?_
          refine x_R.steps 1 (c' := (1710, [(3, .int 0), (2, .ref 75), (1, .ref 0), (0, .ref x_scr)], [.int (xs 1), .ref 75, .int (-2)], x_h0, 98, 10728)) rfl ?_
          refine x_R.steps 4 (c' := (1714, [(3, .int 0), (2, .ref 75), (1, .ref 0), (0, .ref x_scr)], [.int 2, .ref x_scr, .int (xs 1), .ref 75, .int (-2)], x_h0, 98, 10728)) rfl ?_
          refine x_R.steps 1 (c' := (1715, [(3, .int 0), (2, .ref 75), (1, .ref 0), (0, .ref x_scr)], [.int (xs 2), .int (xs 1), .ref 75, .int (-2)], x_h0, 98, 10728)) rfl ?_
          refine x_R.call (a := 328) (vs := [.ref 75, .int (xs 1), .int (xs 2)]) (rest := [.int (-2)]) (M' := M_cX12_early) rfl rfl rfl ?_
          refine x_R.steps 4 (c' := (6, [(0, .ref 75), (1, .int (xs 1)), (2, .int (xs 2))], [.long 20, .long 0, .long ((xs 2)).toInt64], x_h0, 0, 0)) rfl ?_
          refine x_R.call (a := 196) (vs := [.long ((xs 2)).toInt64, .long 0, .long 20]) (rest := []) (M' := M_cX12_in) rfl rfl rfl ?_
          refine x_R.steps 3 (c' := (3, [(0, .long ((xs 2)).toInt64), (2, .long 0), (4, .long 20)], [.int (lg_cmp ((xs 2)).toInt64 0)], x_h0, 0, 0)) rfl ?_
          refine x_R.ite (p := (lg_cmp ((xs 2)).toInt64 0) < (0 : Int32)) (c1 := (17, [(0, .long ((xs 2)).toInt64), (2, .long 0), (4, .long 20)], [], x_h0, 0, 0)) (c2 := (6, [(0, .long ((xs 2)).toInt64), (2, .long 0), (4, .long 20)], [], x_h0, 0, 0)) rfl (fun h9 => ?_) (fun h9 => ?_)
          · have g9 := (x_lg_lt (C := 0) (by decide)).mp h9
            exfalso; omega
          · have g9 := mt (x_lg_lt (C := 0) (by decide)).mpr h9
            refine x_R.steps 3 (c' := (10, [(0, .long ((xs 2)).toInt64), (2, .long 0), (4, .long 20)], [.int (lg_cmp ((xs 2)).toInt64 20)], x_h0, 0, 0)) rfl ?_
            refine x_R.ite (p := (0 : Int32) < (lg_cmp ((xs 2)).toInt64 20)) (c1 := (17, [(0, .long ((xs 2)).toInt64), (2, .long 0), (4, .long 20)], [], x_h0, 0, 0)) (c2 := (13, [(0, .long ((xs 2)).toInt64), (2, .long 0), (4, .long 20)], [], x_h0, 0, 0)) rfl (fun h10 => ?_) (fun h10 => ?_)
            · have g10 := (x_lg_gt (C := 20) (by decide)).mp h10
              exfalso; omega
            · have g10 := mt (x_lg_gt (C := 20) (by decide)).mpr h10
              refine x_R.steps 2 (c' := (18, [(0, .long ((xs 2)).toInt64), (2, .long 0), (4, .long 20)], [.int 1], x_h0, 0, 0)) rfl ?_
              refine x_R.ret (v := some (.int 1)) rfl ?_
              refine x_R.steps 0 (c' := (9, [(0, .ref 75), (1, .int (xs 1)), (2, .int (xs 2))], [.int 1], x_h0, 0, 0)) rfl ?_
              refine x_R.steps 1 (c' := (15, [(0, .ref 75), (1, .int (xs 1)), (2, .int (xs 2))], [], x_h0, 0, 0)) rfl ?_
              refine x_R.steps 2 (c' := (17, [(0, .ref 75), (1, .int (xs 1)), (2, .int (xs 2))], [.int (xs 1), .ref 75], x_h0, 0, 0)) rfl ?_
              refine x_R.call (a := 323) (vs := [.ref 75, .int (xs 1)]) (rest := []) (M' := M_cX12_asksBlows) rfl rfl rfl ?_
              refine x_R.steps 1 (c' := (1, [(0, .ref 75), (1, .int (xs 1))], [.int (xs 1)], x_h0, 0, 0)) rfl ?_
              refine x_R.call (a := 351) (vs := [.int (xs 1)]) (rest := []) (M' := M_cX12_isSlot) rfl rfl rfl ?_
              refine x_R.steps 4 (c' := (6, [(0, .int (xs 1))], [.long 3, .long 0, .long ((xs 1)).toInt64], x_h0, 0, 0)) rfl ?_
              refine x_R.call (a := 196) (vs := [.long ((xs 1)).toInt64, .long 0, .long 3]) (rest := []) (M' := M_cX12_in) rfl rfl rfl ?_
              refine x_R.steps 3 (c' := (3, [(0, .long ((xs 1)).toInt64), (2, .long 0), (4, .long 3)], [.int (lg_cmp ((xs 1)).toInt64 0)], x_h0, 0, 0)) rfl ?_
              refine x_R.ite (p := (lg_cmp ((xs 1)).toInt64 0) < (0 : Int32)) (c1 := (17, [(0, .long ((xs 1)).toInt64), (2, .long 0), (4, .long 3)], [], x_h0, 0, 0)) (c2 := (6, [(0, .long ((xs 1)).toInt64), (2, .long 0), (4, .long 3)], [], x_h0, 0, 0)) rfl (fun h11 => ?_) (fun h11 => ?_)
              · have g11 := (x_lg_lt (C := 0) (by decide)).mp h11
                exfalso; omega
              · have g11 := mt (x_lg_lt (C := 0) (by decide)).mpr h11
                refine x_R.steps 3 (c' := (10, [(0, .long ((xs 1)).toInt64), (2, .long 0), (4, .long 3)], [.int (lg_cmp ((xs 1)).toInt64 3)], x_h0, 0, 0)) rfl ?_
                refine x_R.ite (p := (0 : Int32) < (lg_cmp ((xs 1)).toInt64 3)) (c1 := (17, [(0, .long ((xs 1)).toInt64), (2, .long 0), (4, .long 3)], [], x_h0, 0, 0)) (c2 := (13, [(0, .long ((xs 1)).toInt64), (2, .long 0), (4, .long 3)], [], x_h0, 0, 0)) rfl (fun h12 => ?_) (fun h12 => ?_)
                · have g12 := (x_lg_gt (C := 3) (by decide)).mp h12
                  refine x_R.steps 1 (c' := (18, [(0, .long ((xs 1)).toInt64), (2, .long 0), (4, .long 3)], [.int 0], x_h0, 0, 0)) rfl ?_
                  refine x_R.ret (v := some (.int 0)) rfl ?_
                  refine x_R.steps 0 (c' := (9, [(0, .int (xs 1))], [.int 0], x_h0, 0, 0)) rfl ?_
                  refine x_R.ret (v := some (.int 0)) rfl ?_
                  refine x_R.steps 0 (c' := (4, [(0, .ref 75), (1, .int (xs 1))], [.int 0], x_h0, 0, 0)) rfl ?_
                  refine x_R.steps 1 (c' := (14, [(0, .ref 75), (1, .int (xs 1))], [], x_h0, 0, 0)) rfl ?_
                  refine x_R.steps 1 (c' := (16, [(0, .ref 75), (1, .int (xs 1))], [.int (-2)], x_h0, 0, 0)) rfl ?_
                  refine x_R.ret (v := some (.int (-2))) rfl ?_
                  refine x_R.steps 0 (c' := (20, [(0, .ref 75), (1, .int (xs 1)), (2, .int (xs 2))], [.int (-2)], x_h0, 0, 0)) rfl ?_
                  refine x_R.steps 2 (c' := (22, [(3, .int (-2)), (0, .ref 75), (1, .int (xs 1)), (2, .int (xs 2))], [.int (-2)], x_h0, 0, 0)) rfl ?_
                  refine x_R.steps 1 (c' := (25, [(3, .int (-2)), (0, .ref 75), (1, .int (xs 1)), (2, .int (xs 2))], [], x_h0, 0, 0)) rfl ?_
                  refine x_R.steps 1 (c' := (26, [(3, .int (-2)), (0, .ref 75), (1, .int (xs 1)), (2, .int (xs 2))], [.int (-2)], x_h0, 0, 0)) rfl ?_
                  refine x_R.ret (v := some (.int (-2))) rfl ?_
                  refine x_R.steps 0 (c' := (1718, [(3, .int 0), (2, .ref 75), (1, .ref 0), (0, .ref x_scr)], [.int (-2), .int (-2)], x_h0, 98, 10728)) rfl ?_
                  refine x_R.steps 1 (c' := (2370, [(3, .int 0), (2, .ref 75), (1, .ref 0), (0, .ref x_scr)], [], x_h0, 98, 10728)) rfl ?_
                  refine x_R.steps 7 (c' := (24, [(3, .int 6), (2, .ref 75), (1, .ref 0), (0, .ref x_scr)], [.int 0, .int 6], x_h0, 98, 10728)) rfl ?_
                  refine x_R.steps 1 (c' := (2376, [(3, .int 6), (2, .ref 75), (1, .ref 0), (0, .ref x_scr)], [], x_h0, 98, 10728)) rfl ?_
                  refine x_R.steps 1 (c' := (2377, [(3, .int 6), (2, .ref 75), (1, .ref 0), (0, .ref x_scr)], [.int 1], x_h0, 98, 10728)) rfl ?_
                  exact x_R.ret (v := some (.int 1)) rfl x_fin
                · have g12 := mt (x_lg_gt (C := 3) (by decide)).mpr h12
                  exfalso; omega
        · have g8 := mt (x_i_ge (C := 4) (by decide)).mpr h8
          refine x_R.steps 2 (c' := (14, [(0, .int (xs 1))], [.int 1], x_h0, 0, 0)) rfl ?_
          refine x_R.ret (v := some (.int 1)) rfl ?_
          refine x_R.steps 0 (c' := (4, [(0, .ref 0), (1, .int (xs 1))], [.int 1], x_h0, 0, 0)) rfl ?_
          refine x_R.steps 1 (c' := (7, [(0, .ref 0), (1, .int (xs 1))], [], x_h0, 0, 0)) rfl ?_
          refine x_R.steps 2 (c' := (11, [(0, .ref 0), (1, .int (xs 1))], [.ref 1], x_h0, 0, 0)) rfl ?_
          refine x_R.call (a := 11) (vs := [.ref 1]) (rest := []) (M' := M_cX2_isTold) rfl rfl rfl ?_
          refine x_R.steps 2 (c' := (4, [(0, .ref 1)], [.int 0], x_h0, 0, 0)) rfl ?_
          refine x_R.steps 1 (c' := (11, [(0, .ref 1)], [], x_h0, 0, 0)) rfl ?_
          refine x_R.steps 1 (c' := (12, [(0, .ref 1)], [.int 0], x_h0, 0, 0)) rfl ?_
          refine x_R.ret (v := some (.int 0)) rfl ?_
          refine x_R.steps 0 (c' := (14, [(0, .ref 0), (1, .int (xs 1))], [.int 0], x_h0, 0, 0)) rfl ?_
          refine x_R.steps 1 (c' := (17, [(0, .ref 0), (1, .int (xs 1))], [], x_h0, 0, 0)) rfl ?_
          refine x_R.steps 1 (c' := (19, [(0, .ref 0), (1, .int (xs 1))], [.int (-2)], x_h0, 0, 0)) rfl ?_
          refine x_R.ret (v := some (.int (-2))) rfl ?_
          refine x_R.steps 0 (c' := (18, [(0, .ref 0), (1, .int (xs 1)), (2, .int (xs 2))], [.int (-2)], x_h0, 0, 0)) rfl ?_
          refine x_R.steps 2 (c' := (20, [(3, .int (-2)), (0, .ref 0), (1, .int (xs 1)), (2, .int (xs 2))], [.int (-2)], x_h0, 0, 0)) rfl ?_
          refine x_R.steps 1 (c' := (23, [(3, .int (-2)), (0, .ref 0), (1, .int (xs 1)), (2, .int (xs 2))], [], x_h0, 0, 0)) rfl ?_
          refine x_R.steps 1 (c' := (24, [(3, .int (-2)), (0, .ref 0), (1, .int (xs 1)), (2, .int (xs 2))], [.int (-2)], x_h0, 0, 0)) rfl ?_
          refine x_R.ret (v := some (.int (-2))) rfl ?_
          refine x_R.steps 0 (c' := (1704, [(3, .int 0), (2, .ref 75), (1, .ref 0), (0, .ref x_scr)], [.int (-2)], x_h0, 98, 10728)) rfl ?_
          refine x_R.steps 5 (c' := (1709, [(3, .int 0), (2, .ref 75), (1, .ref 0), (0, .ref x_scr)], [.int 1, .ref x_scr, .ref 75, .int (-2)], x_h0, 98, 10728)) rfl ?_
          refine x_R.steps 1 (c' := (1710, [(3, .int 0), (2, .ref 75), (1, .ref 0), (0, .ref x_scr)], [.int (xs 1), .ref 75, .int (-2)], x_h0, 98, 10728)) rfl ?_
          refine x_R.steps 4 (c' := (1714, [(3, .int 0), (2, .ref 75), (1, .ref 0), (0, .ref x_scr)], [.int 2, .ref x_scr, .int (xs 1), .ref 75, .int (-2)], x_h0, 98, 10728)) rfl ?_
          refine x_R.steps 1 (c' := (1715, [(3, .int 0), (2, .ref 75), (1, .ref 0), (0, .ref x_scr)], [.int (xs 2), .int (xs 1), .ref 75, .int (-2)], x_h0, 98, 10728)) rfl ?_
          refine x_R.call (a := 328) (vs := [.ref 75, .int (xs 1), .int (xs 2)]) (rest := [.int (-2)]) (M' := M_cX12_early) rfl rfl rfl ?_
          refine x_R.steps 4 (c' := (6, [(0, .ref 75), (1, .int (xs 1)), (2, .int (xs 2))], [.long 20, .long 0, .long ((xs 2)).toInt64], x_h0, 0, 0)) rfl ?_
          refine x_R.call (a := 196) (vs := [.long ((xs 2)).toInt64, .long 0, .long 20]) (rest := []) (M' := M_cX12_in) rfl rfl rfl ?_
          refine x_R.steps 3 (c' := (3, [(0, .long ((xs 2)).toInt64), (2, .long 0), (4, .long 20)], [.int (lg_cmp ((xs 2)).toInt64 0)], x_h0, 0, 0)) rfl ?_
          refine x_R.ite (p := (lg_cmp ((xs 2)).toInt64 0) < (0 : Int32)) (c1 := (17, [(0, .long ((xs 2)).toInt64), (2, .long 0), (4, .long 20)], [], x_h0, 0, 0)) (c2 := (6, [(0, .long ((xs 2)).toInt64), (2, .long 0), (4, .long 20)], [], x_h0, 0, 0)) rfl (fun h13 => ?_) (fun h13 => ?_)
          · have g13 := (x_lg_lt (C := 0) (by decide)).mp h13
            exfalso; omega
          · have g13 := mt (x_lg_lt (C := 0) (by decide)).mpr h13
            refine x_R.steps 3 (c' := (10, [(0, .long ((xs 2)).toInt64), (2, .long 0), (4, .long 20)], [.int (lg_cmp ((xs 2)).toInt64 20)], x_h0, 0, 0)) rfl ?_
            refine x_R.ite (p := (0 : Int32) < (lg_cmp ((xs 2)).toInt64 20)) (c1 := (17, [(0, .long ((xs 2)).toInt64), (2, .long 0), (4, .long 20)], [], x_h0, 0, 0)) (c2 := (13, [(0, .long ((xs 2)).toInt64), (2, .long 0), (4, .long 20)], [], x_h0, 0, 0)) rfl (fun h14 => ?_) (fun h14 => ?_)
            · have g14 := (x_lg_gt (C := 20) (by decide)).mp h14
              exfalso; omega
            · have g14 := mt (x_lg_gt (C := 20) (by decide)).mpr h14
              refine x_R.steps 2 (c' := (18, [(0, .long ((xs 2)).toInt64), (2, .long 0), (4, .long 20)], [.int 1], x_h0, 0, 0)) rfl ?_
              refine x_R.ret (v := some (.int 1)) rfl ?_
              refine x_R.steps 0 (c' := (9, [(0, .ref 75), (1, .int (xs 1)), (2, .int (xs 2))], [.int 1], x_h0, 0, 0)) rfl ?_
              refine x_R.steps 1 (c' := (15, [(0, .ref 75), (1, .int (xs 1)), (2, .int (xs 2))], [], x_h0, 0, 0)) rfl ?_
              refine x_R.steps 2 (c' := (17, [(0, .ref 75), (1, .int (xs 1)), (2, .int (xs 2))], [.int (xs 1), .ref 75], x_h0, 0, 0)) rfl ?_
              refine x_R.call (a := 323) (vs := [.ref 75, .int (xs 1)]) (rest := []) (M' := M_cX12_asksBlows) rfl rfl rfl ?_
              refine x_R.steps 1 (c' := (1, [(0, .ref 75), (1, .int (xs 1))], [.int (xs 1)], x_h0, 0, 0)) rfl ?_
              refine x_R.call (a := 351) (vs := [.int (xs 1)]) (rest := []) (M' := M_cX12_isSlot) rfl rfl rfl ?_
              refine x_R.steps 4 (c' := (6, [(0, .int (xs 1))], [.long 3, .long 0, .long ((xs 1)).toInt64], x_h0, 0, 0)) rfl ?_
              refine x_R.call (a := 196) (vs := [.long ((xs 1)).toInt64, .long 0, .long 3]) (rest := []) (M' := M_cX12_in) rfl rfl rfl ?_
              refine x_R.steps 3 (c' := (3, [(0, .long ((xs 1)).toInt64), (2, .long 0), (4, .long 3)], [.int (lg_cmp ((xs 1)).toInt64 0)], x_h0, 0, 0)) rfl ?_
              refine x_R.ite (p := (lg_cmp ((xs 1)).toInt64 0) < (0 : Int32)) (c1 := (17, [(0, .long ((xs 1)).toInt64), (2, .long 0), (4, .long 3)], [], x_h0, 0, 0)) (c2 := (6, [(0, .long ((xs 1)).toInt64), (2, .long 0), (4, .long 3)], [], x_h0, 0, 0)) rfl (fun h15 => ?_) (fun h15 => ?_)
              · have g15 := (x_lg_lt (C := 0) (by decide)).mp h15
                exfalso; omega
              · have g15 := mt (x_lg_lt (C := 0) (by decide)).mpr h15
                refine x_R.steps 3 (c' := (10, [(0, .long ((xs 1)).toInt64), (2, .long 0), (4, .long 3)], [.int (lg_cmp ((xs 1)).toInt64 3)], x_h0, 0, 0)) rfl ?_
                refine x_R.ite (p := (0 : Int32) < (lg_cmp ((xs 1)).toInt64 3)) (c1 := (17, [(0, .long ((xs 1)).toInt64), (2, .long 0), (4, .long 3)], [], x_h0, 0, 0)) (c2 := (13, [(0, .long ((xs 1)).toInt64), (2, .long 0), (4, .long 3)], [], x_h0, 0, 0)) rfl (fun h16 => ?_) (fun h16 => ?_)
                · have g16 := (x_lg_gt (C := 3) (by decide)).mp h16
                  exfalso; omega
                · have g16 := mt (x_lg_gt (C := 3) (by decide)).mpr h16
                  refine x_R.steps 2 (c' := (18, [(0, .long ((xs 1)).toInt64), (2, .long 0), (4, .long 3)], [.int 1], x_h0, 0, 0)) rfl ?_
                  refine x_R.ret (v := some (.int 1)) rfl ?_
                  refine x_R.steps 0 (c' := (9, [(0, .int (xs 1))], [.int 1], x_h0, 0, 0)) rfl ?_
                  refine x_R.ret (v := some (.int 1)) rfl ?_
                  refine x_R.steps 0 (c' := (4, [(0, .ref 75), (1, .int (xs 1))], [.int 1], x_h0, 0, 0)) rfl ?_
                  refine x_R.steps 1 (c' := (7, [(0, .ref 75), (1, .int (xs 1))], [], x_h0, 0, 0)) rfl ?_
                  refine x_R.steps 1 (c' := (8, [(0, .ref 75), (1, .int (xs 1))], [.ref 75], x_h0, 0, 0)) rfl ?_
                  refine x_R.call (a := 199) (vs := [.ref 75]) (rest := []) (M' := M_cX12_isBoard) rfl rfl rfl ?_
                  refine x_R.steps 3 (c' := (5, [(0, .ref 75)], [.int 0, .ref 76], x_h0, 0, 0)) rfl ?_
                  refine x_R.steps 1 (c' := (6, [(0, .ref 75)], [.int 0], x_h0, 0, 0)) rfl ?_
                  refine x_R.steps 1 (c' := (13, [(0, .ref 75)], [], x_h0, 0, 0)) rfl ?_
                  refine x_R.steps 1 (c' := (14, [(0, .ref 75)], [.int 0], x_h0, 0, 0)) rfl ?_
                  refine x_R.ret (v := some (.int 0)) rfl ?_
                  refine x_R.steps 0 (c' := (11, [(0, .ref 75), (1, .int (xs 1))], [.int 0], x_h0, 0, 0)) rfl ?_
                  refine x_R.steps 1 (c' := (14, [(0, .ref 75), (1, .int (xs 1))], [], x_h0, 0, 0)) rfl ?_
                  refine x_R.steps 1 (c' := (16, [(0, .ref 75), (1, .int (xs 1))], [.int (-2)], x_h0, 0, 0)) rfl ?_
                  refine x_R.ret (v := some (.int (-2))) rfl ?_
                  refine x_R.steps 0 (c' := (20, [(0, .ref 75), (1, .int (xs 1)), (2, .int (xs 2))], [.int (-2)], x_h0, 0, 0)) rfl ?_
                  refine x_R.steps 2 (c' := (22, [(3, .int (-2)), (0, .ref 75), (1, .int (xs 1)), (2, .int (xs 2))], [.int (-2)], x_h0, 0, 0)) rfl ?_
                  refine x_R.steps 1 (c' := (25, [(3, .int (-2)), (0, .ref 75), (1, .int (xs 1)), (2, .int (xs 2))], [], x_h0, 0, 0)) rfl ?_
                  refine x_R.steps 1 (c' := (26, [(3, .int (-2)), (0, .ref 75), (1, .int (xs 1)), (2, .int (xs 2))], [.int (-2)], x_h0, 0, 0)) rfl ?_
                  refine x_R.ret (v := some (.int (-2))) rfl ?_
                  refine x_R.steps 0 (c' := (1718, [(3, .int 0), (2, .ref 75), (1, .ref 0), (0, .ref x_scr)], [.int (-2), .int (-2)], x_h0, 98, 10728)) rfl ?_
                  refine x_R.steps 1 (c' := (2370, [(3, .int 0), (2, .ref 75), (1, .ref 0), (0, .ref x_scr)], [], x_h0, 98, 10728)) rfl ?_
                  refine x_R.steps 7 (c' := (24, [(3, .int 6), (2, .ref 75), (1, .ref 0), (0, .ref x_scr)], [.int 0, .int 6], x_h0, 98, 10728)) rfl ?_
                  refine x_R.steps 1 (c' := (2376, [(3, .int 6), (2, .ref 75), (1, .ref 0), (0, .ref x_scr)], [], x_h0, 98, 10728)) rfl ?_
                  refine x_R.steps 1 (c' := (2377, [(3, .int 6), (2, .ref 75), (1, .ref 0), (0, .ref x_scr)], [.int 1], x_h0, 98, 10728)) rfl ?_
                  exact x_R.ret (v := some (.int 1)) rfl x_fin
    · have g3 := mt (x_i_le (C := 20) (by decide)).mpr h3
      refine x_R.steps 1 (c' := (12, [(0, .ref 0), (1, .int (xs 1)), (2, .int (xs 2))], [.int (-2)], x_h0, 0, 0)) rfl ?_
      refine x_R.ret (v := some (.int (-2))) rfl ?_
      refine x_R.steps 0 (c' := (1704, [(3, .int 0), (2, .ref 75), (1, .ref 0), (0, .ref x_scr)], [.int (-2)], x_h0, 98, 10728)) rfl ?_
      refine x_R.steps 5 (c' := (1709, [(3, .int 0), (2, .ref 75), (1, .ref 0), (0, .ref x_scr)], [.int 1, .ref x_scr, .ref 75, .int (-2)], x_h0, 98, 10728)) rfl ?_
      refine x_R.steps 1 (c' := (1710, [(3, .int 0), (2, .ref 75), (1, .ref 0), (0, .ref x_scr)], [.int (xs 1), .ref 75, .int (-2)], x_h0, 98, 10728)) rfl ?_
      refine x_R.steps 4 (c' := (1714, [(3, .int 0), (2, .ref 75), (1, .ref 0), (0, .ref x_scr)], [.int 2, .ref x_scr, .int (xs 1), .ref 75, .int (-2)], x_h0, 98, 10728)) rfl ?_
      refine x_R.steps 1 (c' := (1715, [(3, .int 0), (2, .ref 75), (1, .ref 0), (0, .ref x_scr)], [.int (xs 2), .int (xs 1), .ref 75, .int (-2)], x_h0, 98, 10728)) rfl ?_
      refine x_R.call (a := 328) (vs := [.ref 75, .int (xs 1), .int (xs 2)]) (rest := [.int (-2)]) (M' := M_cX12_early) rfl rfl rfl ?_
      refine x_R.steps 4 (c' := (6, [(0, .ref 75), (1, .int (xs 1)), (2, .int (xs 2))], [.long 20, .long 0, .long ((xs 2)).toInt64], x_h0, 0, 0)) rfl ?_
      refine x_R.call (a := 196) (vs := [.long ((xs 2)).toInt64, .long 0, .long 20]) (rest := []) (M' := M_cX12_in) rfl rfl rfl ?_
      refine x_R.steps 3 (c' := (3, [(0, .long ((xs 2)).toInt64), (2, .long 0), (4, .long 20)], [.int (lg_cmp ((xs 2)).toInt64 0)], x_h0, 0, 0)) rfl ?_
      refine x_R.ite (p := (lg_cmp ((xs 2)).toInt64 0) < (0 : Int32)) (c1 := (17, [(0, .long ((xs 2)).toInt64), (2, .long 0), (4, .long 20)], [], x_h0, 0, 0)) (c2 := (6, [(0, .long ((xs 2)).toInt64), (2, .long 0), (4, .long 20)], [], x_h0, 0, 0)) rfl (fun h17 => ?_) (fun h17 => ?_)
      · have g17 := (x_lg_lt (C := 0) (by decide)).mp h17
        exfalso; omega
      · have g17 := mt (x_lg_lt (C := 0) (by decide)).mpr h17
        refine x_R.steps 3 (c' := (10, [(0, .long ((xs 2)).toInt64), (2, .long 0), (4, .long 20)], [.int (lg_cmp ((xs 2)).toInt64 20)], x_h0, 0, 0)) rfl ?_
        refine x_R.ite (p := (0 : Int32) < (lg_cmp ((xs 2)).toInt64 20)) (c1 := (17, [(0, .long ((xs 2)).toInt64), (2, .long 0), (4, .long 20)], [], x_h0, 0, 0)) (c2 := (13, [(0, .long ((xs 2)).toInt64), (2, .long 0), (4, .long 20)], [], x_h0, 0, 0)) rfl (fun h18 => ?_) (fun h18 => ?_)
        · have g18 := (x_lg_gt (C := 20) (by decide)).mp h18
          refine x_R.steps 1 (c' := (18, [(0, .long ((xs 2)).toInt64), (2, .long 0), (4, .long 20)], [.int 0], x_h0, 0, 0)) rfl ?_
          refine x_R.ret (v := some (.int 0)) rfl ?_
          refine x_R.steps 0 (c' := (9, [(0, .ref 75), (1, .int (xs 1)), (2, .int (xs 2))], [.int 0], x_h0, 0, 0)) rfl ?_
          refine x_R.steps 1 (c' := (12, [(0, .ref 75), (1, .int (xs 1)), (2, .int (xs 2))], [], x_h0, 0, 0)) rfl ?_
          refine x_R.steps 1 (c' := (14, [(0, .ref 75), (1, .int (xs 1)), (2, .int (xs 2))], [.int (-2)], x_h0, 0, 0)) rfl ?_
          refine x_R.ret (v := some (.int (-2))) rfl ?_
          refine x_R.steps 0 (c' := (1718, [(3, .int 0), (2, .ref 75), (1, .ref 0), (0, .ref x_scr)], [.int (-2), .int (-2)], x_h0, 98, 10728)) rfl ?_
          refine x_R.steps 1 (c' := (2370, [(3, .int 0), (2, .ref 75), (1, .ref 0), (0, .ref x_scr)], [], x_h0, 98, 10728)) rfl ?_
          refine x_R.steps 7 (c' := (24, [(3, .int 6), (2, .ref 75), (1, .ref 0), (0, .ref x_scr)], [.int 0, .int 6], x_h0, 98, 10728)) rfl ?_
          refine x_R.steps 1 (c' := (2376, [(3, .int 6), (2, .ref 75), (1, .ref 0), (0, .ref x_scr)], [], x_h0, 98, 10728)) rfl ?_
          refine x_R.steps 1 (c' := (2377, [(3, .int 6), (2, .ref 75), (1, .ref 0), (0, .ref x_scr)], [.int 1], x_h0, 98, 10728)) rfl ?_
          exact x_R.ret (v := some (.int 1)) rfl x_fin
        · have g18 := mt (x_lg_gt (C := 20) (by decide)).mpr h18
          exfalso; omega
set_option maxRecDepth 100000 in
set_option maxHeartbeats 4000000 in
theorem x_c51_0 (xs : Nat → Int32)  : x_R x_mt (some (6, xs)) 13 M_law (1723, [(3, .int 0), (2, .ref 75), (1, .ref 0), (0, .ref x_scr)], [], x_h0, 98, 10728) x_P := by
  refine x_R.steps 5 (c' := (1728, [(3, .int 0), (2, .ref 75), (1, .ref 0), (0, .ref x_scr)], [.int 1, .ref x_scr, .ref 0], x_h0, 98, 10728)) rfl ?_
  refine x_R.steps 1 (c' := (1729, [(3, .int 0), (2, .ref 75), (1, .ref 0), (0, .ref x_scr)], [.int (xs 1), .ref 0], x_h0, 98, 10728)) rfl ?_
  refine x_R.call (a := 165) (vs := [.ref 0, .int (xs 1)]) (rest := []) (M' := M_cX11_often) rfl rfl rfl ?_
  refine x_R.steps 3 (c' := (5, [(0, .ref 0), (1, .int (xs 1))], [.int (xs 1), .ref 1], x_h0, 0, 0)) rfl ?_
  refine x_R.call (a := 13) (vs := [.ref 1, .int (xs 1)]) (rest := []) (M' := M_cX2_isHole) rfl rfl rfl ?_
  refine x_R.steps 1 (c' := (1, [(0, .ref 1), (1, .int (xs 1))], [.int (xs 1)], x_h0, 0, 0)) rfl ?_
  refine x_R.ite (p := (xs 1) < (0 : Int32)) (c1 := (16, [(0, .ref 1), (1, .int (xs 1))], [], x_h0, 0, 0)) (c2 := (4, [(0, .ref 1), (1, .int (xs 1))], [], x_h0, 0, 0)) rfl (fun h1 => ?_) (fun h1 => ?_)
  · have g1 := (x_i_lt (C := 0) (by decide)).mp h1
    refine x_R.steps 1 (c' := (17, [(0, .ref 1), (1, .int (xs 1))], [.int 0], x_h0, 0, 0)) rfl ?_
    refine x_R.ret (v := some (.int 0)) rfl ?_
    refine x_R.steps 0 (c' := (8, [(0, .ref 0), (1, .int (xs 1))], [.int 0], x_h0, 0, 0)) rfl ?_
    refine x_R.steps 1 (c' := (25, [(0, .ref 0), (1, .int (xs 1))], [], x_h0, 0, 0)) rfl ?_
    refine x_R.steps 1 (c' := (27, [(0, .ref 0), (1, .int (xs 1))], [.int (-2)], x_h0, 0, 0)) rfl ?_
    refine x_R.ret (v := some (.int (-2))) rfl ?_
    refine x_R.steps 0 (c' := (1732, [(3, .int 0), (2, .ref 75), (1, .ref 0), (0, .ref x_scr)], [.int (-2)], x_h0, 98, 10728)) rfl ?_
    refine x_R.steps 5 (c' := (1737, [(3, .int 0), (2, .ref 75), (1, .ref 0), (0, .ref x_scr)], [.int 1, .ref x_scr, .ref 75, .int (-2)], x_h0, 98, 10728)) rfl ?_
    refine x_R.steps 1 (c' := (1738, [(3, .int 0), (2, .ref 75), (1, .ref 0), (0, .ref x_scr)], [.int (xs 1), .ref 75, .int (-2)], x_h0, 98, 10728)) rfl ?_
    refine x_R.call (a := 330) (vs := [.ref 75, .int (xs 1)]) (rest := [.int (-2)]) (M' := M_cX12_often) rfl rfl rfl ?_
    refine x_R.steps 3 (c' := (3, [(0, .ref 75), (1, .int (xs 1))], [.long ((xs 1)).toInt64, .ref 75], x_h0, 0, 0)) rfl ?_
    refine x_R.call (a := 201) (vs := [.ref 75, .long ((xs 1)).toInt64]) (rest := []) (M' := M_cX12_isHole) rfl rfl rfl ?_
    refine x_R.steps 3 (c' := (3, [(0, .ref 75), (1, .long ((xs 1)).toInt64)], [.ref 75, .long 0, .long ((xs 1)).toInt64], x_h0, 0, 0)) rfl ?_
    refine x_R.call (a := 200) (vs := [.ref 75]) (rest := [.long 0, .long ((xs 1)).toInt64]) (M' := M_cX12_holes) rfl rfl rfl ?_
    refine x_R.steps 3 (c' := (5, [(0, .ref 75)], [.int 0, .ref 76], x_h0, 0, 0)) rfl ?_
    refine x_R.steps 1 (c' := (6, [(0, .ref 75)], [.int 0], x_h0, 0, 0)) rfl ?_
    refine x_R.steps 3 (c' := (11, [(0, .ref 75)], [.int 1, .ref 76, .int 0], x_h0, 0, 0)) rfl ?_
    refine x_R.steps 1 (c' := (12, [(0, .ref 75)], [.int 0, .int 0], x_h0, 0, 0)) rfl ?_
    refine x_R.steps 1 (c' := (13, [(0, .ref 75)], [.int 0], x_h0, 0, 0)) rfl ?_
    refine x_R.ret (v := some (.int 0)) rfl ?_
    refine x_R.steps 0 (c' := (6, [(0, .ref 75), (1, .long ((xs 1)).toInt64)], [.int 0, .long 0, .long ((xs 1)).toInt64], x_h0, 0, 0)) rfl ?_
    refine x_R.steps 3 (c' := (9, [(0, .ref 75), (1, .long ((xs 1)).toInt64)], [.long (-1), .long 0, .long ((xs 1)).toInt64], x_h0, 0, 0)) rfl ?_
    refine x_R.call (a := 196) (vs := [.long ((xs 1)).toInt64, .long 0, .long (-1)]) (rest := []) (M' := M_cX12_in) rfl rfl rfl ?_
    refine x_R.steps 3 (c' := (3, [(0, .long ((xs 1)).toInt64), (2, .long 0), (4, .long (-1))], [.int (lg_cmp ((xs 1)).toInt64 0)], x_h0, 0, 0)) rfl ?_
    refine x_R.ite (p := (lg_cmp ((xs 1)).toInt64 0) < (0 : Int32)) (c1 := (17, [(0, .long ((xs 1)).toInt64), (2, .long 0), (4, .long (-1))], [], x_h0, 0, 0)) (c2 := (6, [(0, .long ((xs 1)).toInt64), (2, .long 0), (4, .long (-1))], [], x_h0, 0, 0)) rfl (fun h2 => ?_) (fun h2 => ?_)
    · have g2 := (x_lg_lt (C := 0) (by decide)).mp h2
      refine x_R.steps 1 (c' := (18, [(0, .long ((xs 1)).toInt64), (2, .long 0), (4, .long (-1))], [.int 0], x_h0, 0, 0)) rfl ?_
      refine x_R.ret (v := some (.int 0)) rfl ?_
      refine x_R.steps 0 (c' := (12, [(0, .ref 75), (1, .long ((xs 1)).toInt64)], [.int 0], x_h0, 0, 0)) rfl ?_
      refine x_R.ret (v := some (.int 0)) rfl ?_
      refine x_R.steps 0 (c' := (6, [(0, .ref 75), (1, .int (xs 1))], [.int 0], x_h0, 0, 0)) rfl ?_
      refine x_R.steps 1 (c' := (17, [(0, .ref 75), (1, .int (xs 1))], [], x_h0, 0, 0)) rfl ?_
      refine x_R.steps 1 (c' := (19, [(0, .ref 75), (1, .int (xs 1))], [.int (-2)], x_h0, 0, 0)) rfl ?_
      refine x_R.ret (v := some (.int (-2))) rfl ?_
      refine x_R.steps 0 (c' := (1741, [(3, .int 0), (2, .ref 75), (1, .ref 0), (0, .ref x_scr)], [.int (-2), .int (-2)], x_h0, 98, 10728)) rfl ?_
      refine x_R.steps 1 (c' := (2370, [(3, .int 0), (2, .ref 75), (1, .ref 0), (0, .ref x_scr)], [], x_h0, 98, 10728)) rfl ?_
      refine x_R.steps 7 (c' := (24, [(3, .int 6), (2, .ref 75), (1, .ref 0), (0, .ref x_scr)], [.int 0, .int 6], x_h0, 98, 10728)) rfl ?_
      refine x_R.steps 1 (c' := (2376, [(3, .int 6), (2, .ref 75), (1, .ref 0), (0, .ref x_scr)], [], x_h0, 98, 10728)) rfl ?_
      refine x_R.steps 1 (c' := (2377, [(3, .int 6), (2, .ref 75), (1, .ref 0), (0, .ref x_scr)], [.int 1], x_h0, 98, 10728)) rfl ?_
      exact x_R.ret (v := some (.int 1)) rfl x_fin
    · have g2 := mt (x_lg_lt (C := 0) (by decide)).mpr h2
      exfalso; omega
  · have g1 := mt (x_i_lt (C := 0) (by decide)).mpr h1
    refine x_R.steps 2 (c' := (6, [(0, .ref 1), (1, .int (xs 1))], [.ref 1, .int (xs 1)], x_h0, 0, 0)) rfl ?_
    refine x_R.call (a := 12) (vs := [.ref 1]) (rest := [.int (xs 1)]) (M' := M_cX2_holes) rfl rfl rfl ?_
    refine x_R.steps 5 (c' := (9, [(0, .ref 1)], [.int 0], x_h0, 0, 0)) rfl ?_
    refine x_R.ret (v := some (.int 0)) rfl ?_
    refine x_R.steps 0 (c' := (9, [(0, .ref 1), (1, .int (xs 1))], [.int 0, .int (xs 1)], x_h0, 0, 0)) rfl ?_
    refine x_R.ite (p := (0 : Int32) ≤ (xs 1)) (c1 := (16, [(0, .ref 1), (1, .int (xs 1))], [], x_h0, 0, 0)) (c2 := (12, [(0, .ref 1), (1, .int (xs 1))], [], x_h0, 0, 0)) rfl (fun h3 => ?_) (fun h3 => ?_)
    · have g3 := (x_i_ge (C := 0) (by decide)).mp h3
      refine x_R.steps 1 (c' := (17, [(0, .ref 1), (1, .int (xs 1))], [.int 0], x_h0, 0, 0)) rfl ?_
      refine x_R.ret (v := some (.int 0)) rfl ?_
      refine x_R.steps 0 (c' := (8, [(0, .ref 0), (1, .int (xs 1))], [.int 0], x_h0, 0, 0)) rfl ?_
      refine x_R.steps 1 (c' := (25, [(0, .ref 0), (1, .int (xs 1))], [], x_h0, 0, 0)) rfl ?_
      refine x_R.steps 1 (c' := (27, [(0, .ref 0), (1, .int (xs 1))], [.int (-2)], x_h0, 0, 0)) rfl ?_
      refine x_R.ret (v := some (.int (-2))) rfl ?_
      refine x_R.steps 0 (c' := (1732, [(3, .int 0), (2, .ref 75), (1, .ref 0), (0, .ref x_scr)], [.int (-2)], x_h0, 98, 10728)) rfl ?_
      refine x_R.steps 5 (c' := (1737, [(3, .int 0), (2, .ref 75), (1, .ref 0), (0, .ref x_scr)], [.int 1, .ref x_scr, .ref 75, .int (-2)], x_h0, 98, 10728)) rfl ?_
      refine x_R.steps 1 (c' := (1738, [(3, .int 0), (2, .ref 75), (1, .ref 0), (0, .ref x_scr)], [.int (xs 1), .ref 75, .int (-2)], x_h0, 98, 10728)) rfl ?_
      refine x_R.call (a := 330) (vs := [.ref 75, .int (xs 1)]) (rest := [.int (-2)]) (M' := M_cX12_often) rfl rfl rfl ?_
      refine x_R.steps 3 (c' := (3, [(0, .ref 75), (1, .int (xs 1))], [.long ((xs 1)).toInt64, .ref 75], x_h0, 0, 0)) rfl ?_
      refine x_R.call (a := 201) (vs := [.ref 75, .long ((xs 1)).toInt64]) (rest := []) (M' := M_cX12_isHole) rfl rfl rfl ?_
      refine x_R.steps 3 (c' := (3, [(0, .ref 75), (1, .long ((xs 1)).toInt64)], [.ref 75, .long 0, .long ((xs 1)).toInt64], x_h0, 0, 0)) rfl ?_
      refine x_R.call (a := 200) (vs := [.ref 75]) (rest := [.long 0, .long ((xs 1)).toInt64]) (M' := M_cX12_holes) rfl rfl rfl ?_
      refine x_R.steps 3 (c' := (5, [(0, .ref 75)], [.int 0, .ref 76], x_h0, 0, 0)) rfl ?_
      refine x_R.steps 1 (c' := (6, [(0, .ref 75)], [.int 0], x_h0, 0, 0)) rfl ?_
      refine x_R.steps 3 (c' := (11, [(0, .ref 75)], [.int 1, .ref 76, .int 0], x_h0, 0, 0)) rfl ?_
      refine x_R.steps 1 (c' := (12, [(0, .ref 75)], [.int 0, .int 0], x_h0, 0, 0)) rfl ?_
      refine x_R.steps 1 (c' := (13, [(0, .ref 75)], [.int 0], x_h0, 0, 0)) rfl ?_
      refine x_R.ret (v := some (.int 0)) rfl ?_
      refine x_R.steps 0 (c' := (6, [(0, .ref 75), (1, .long ((xs 1)).toInt64)], [.int 0, .long 0, .long ((xs 1)).toInt64], x_h0, 0, 0)) rfl ?_
      refine x_R.steps 3 (c' := (9, [(0, .ref 75), (1, .long ((xs 1)).toInt64)], [.long (-1), .long 0, .long ((xs 1)).toInt64], x_h0, 0, 0)) rfl ?_
      refine x_R.call (a := 196) (vs := [.long ((xs 1)).toInt64, .long 0, .long (-1)]) (rest := []) (M' := M_cX12_in) rfl rfl rfl ?_
      refine x_R.steps 3 (c' := (3, [(0, .long ((xs 1)).toInt64), (2, .long 0), (4, .long (-1))], [.int (lg_cmp ((xs 1)).toInt64 0)], x_h0, 0, 0)) rfl ?_
      refine x_R.ite (p := (lg_cmp ((xs 1)).toInt64 0) < (0 : Int32)) (c1 := (17, [(0, .long ((xs 1)).toInt64), (2, .long 0), (4, .long (-1))], [], x_h0, 0, 0)) (c2 := (6, [(0, .long ((xs 1)).toInt64), (2, .long 0), (4, .long (-1))], [], x_h0, 0, 0)) rfl (fun h4 => ?_) (fun h4 => ?_)
      · have g4 := (x_lg_lt (C := 0) (by decide)).mp h4
        exfalso; omega
      · have g4 := mt (x_lg_lt (C := 0) (by decide)).mpr h4
        refine x_R.steps 3 (c' := (10, [(0, .long ((xs 1)).toInt64), (2, .long 0), (4, .long (-1))], [.int (lg_cmp ((xs 1)).toInt64 (-1))], x_h0, 0, 0)) rfl ?_
        refine x_R.ite (p := (0 : Int32) < (lg_cmp ((xs 1)).toInt64 (-1))) (c1 := (17, [(0, .long ((xs 1)).toInt64), (2, .long 0), (4, .long (-1))], [], x_h0, 0, 0)) (c2 := (13, [(0, .long ((xs 1)).toInt64), (2, .long 0), (4, .long (-1))], [], x_h0, 0, 0)) rfl (fun h5 => ?_) (fun h5 => ?_)
        · have g5 := (x_lg_gt (C := -1) (by decide)).mp h5
          refine x_R.steps 1 (c' := (18, [(0, .long ((xs 1)).toInt64), (2, .long 0), (4, .long (-1))], [.int 0], x_h0, 0, 0)) rfl ?_
          refine x_R.ret (v := some (.int 0)) rfl ?_
          refine x_R.steps 0 (c' := (12, [(0, .ref 75), (1, .long ((xs 1)).toInt64)], [.int 0], x_h0, 0, 0)) rfl ?_
          refine x_R.ret (v := some (.int 0)) rfl ?_
          refine x_R.steps 0 (c' := (6, [(0, .ref 75), (1, .int (xs 1))], [.int 0], x_h0, 0, 0)) rfl ?_
          refine x_R.steps 1 (c' := (17, [(0, .ref 75), (1, .int (xs 1))], [], x_h0, 0, 0)) rfl ?_
          refine x_R.steps 1 (c' := (19, [(0, .ref 75), (1, .int (xs 1))], [.int (-2)], x_h0, 0, 0)) rfl ?_
          refine x_R.ret (v := some (.int (-2))) rfl ?_
          refine x_R.steps 0 (c' := (1741, [(3, .int 0), (2, .ref 75), (1, .ref 0), (0, .ref x_scr)], [.int (-2), .int (-2)], x_h0, 98, 10728)) rfl ?_
          refine x_R.steps 1 (c' := (2370, [(3, .int 0), (2, .ref 75), (1, .ref 0), (0, .ref x_scr)], [], x_h0, 98, 10728)) rfl ?_
          refine x_R.steps 7 (c' := (24, [(3, .int 6), (2, .ref 75), (1, .ref 0), (0, .ref x_scr)], [.int 0, .int 6], x_h0, 98, 10728)) rfl ?_
          refine x_R.steps 1 (c' := (2376, [(3, .int 6), (2, .ref 75), (1, .ref 0), (0, .ref x_scr)], [], x_h0, 98, 10728)) rfl ?_
          refine x_R.steps 1 (c' := (2377, [(3, .int 6), (2, .ref 75), (1, .ref 0), (0, .ref x_scr)], [.int 1], x_h0, 98, 10728)) rfl ?_
          exact x_R.ret (v := some (.int 1)) rfl x_fin
        · have g5 := mt (x_lg_gt (C := -1) (by decide)).mpr h5
          exfalso; omega
    · have g3 := mt (x_i_ge (C := 0) (by decide)).mpr h3
      exfalso; omega
set_option maxRecDepth 100000 in
set_option maxHeartbeats 4000000 in
theorem x_c52_0 (xs : Nat → Int32)  : x_R x_mt (some (6, xs)) 13 M_law (1746, [(3, .int 0), (2, .ref 75), (1, .ref 0), (0, .ref x_scr)], [], x_h0, 98, 10728) x_P := by
  refine x_R.steps 1 (c' := (1747, [(3, .int 0), (2, .ref 75), (1, .ref 0), (0, .ref x_scr)], [.ref 0], x_h0, 98, 10728)) rfl ?_
  refine x_R.call (a := 166) (vs := [.ref 0]) (rest := []) (M' := M_cX11_balance) rfl rfl rfl ?_
  refine x_R.steps 2 (c' := (4, [(0, .ref 0)], [.ref 1], x_h0, 0, 0)) rfl ?_
  refine x_R.call (a := 11) (vs := [.ref 1]) (rest := []) (M' := M_cX2_isTold) rfl rfl rfl ?_
  refine x_R.steps 2 (c' := (4, [(0, .ref 1)], [.int 0], x_h0, 0, 0)) rfl ?_
  refine x_R.steps 1 (c' := (11, [(0, .ref 1)], [], x_h0, 0, 0)) rfl ?_
  refine x_R.steps 1 (c' := (12, [(0, .ref 1)], [.int 0], x_h0, 0, 0)) rfl ?_
  refine x_R.ret (v := some (.int 0)) rfl ?_
  refine x_R.steps 0 (c' := (7, [(0, .ref 0)], [.int 0], x_h0, 0, 0)) rfl ?_
  refine x_R.steps 1 (c' := (10, [(0, .ref 0)], [], x_h0, 0, 0)) rfl ?_
  refine x_R.steps 1 (c' := (12, [(0, .ref 0)], [.int (-2)], x_h0, 0, 0)) rfl ?_
  refine x_R.ret (v := some (.int (-2))) rfl ?_
  refine x_R.steps 0 (c' := (1750, [(3, .int 0), (2, .ref 75), (1, .ref 0), (0, .ref x_scr)], [.int (-2)], x_h0, 98, 10728)) rfl ?_
  refine x_R.steps 1 (c' := (1751, [(3, .int 0), (2, .ref 75), (1, .ref 0), (0, .ref x_scr)], [.ref 75, .int (-2)], x_h0, 98, 10728)) rfl ?_
  refine x_R.call (a := 331) (vs := [.ref 75]) (rest := [.int (-2)]) (M' := M_cX12_balance) rfl rfl rfl ?_
  refine x_R.steps 1 (c' := (1, [(0, .ref 75)], [.ref 75], x_h0, 0, 0)) rfl ?_
  refine x_R.call (a := 199) (vs := [.ref 75]) (rest := []) (M' := M_cX12_isBoard) rfl rfl rfl ?_
  refine x_R.steps 3 (c' := (5, [(0, .ref 75)], [.int 0, .ref 76], x_h0, 0, 0)) rfl ?_
  refine x_R.steps 1 (c' := (6, [(0, .ref 75)], [.int 0], x_h0, 0, 0)) rfl ?_
  refine x_R.steps 1 (c' := (13, [(0, .ref 75)], [], x_h0, 0, 0)) rfl ?_
  refine x_R.steps 1 (c' := (14, [(0, .ref 75)], [.int 0], x_h0, 0, 0)) rfl ?_
  refine x_R.ret (v := some (.int 0)) rfl ?_
  refine x_R.steps 0 (c' := (4, [(0, .ref 75)], [.int 0], x_h0, 0, 0)) rfl ?_
  refine x_R.steps 1 (c' := (7, [(0, .ref 75)], [], x_h0, 0, 0)) rfl ?_
  refine x_R.steps 1 (c' := (9, [(0, .ref 75)], [.int (-2)], x_h0, 0, 0)) rfl ?_
  refine x_R.ret (v := some (.int (-2))) rfl ?_
  refine x_R.steps 0 (c' := (1754, [(3, .int 0), (2, .ref 75), (1, .ref 0), (0, .ref x_scr)], [.int (-2), .int (-2)], x_h0, 98, 10728)) rfl ?_
  refine x_R.steps 1 (c' := (2370, [(3, .int 0), (2, .ref 75), (1, .ref 0), (0, .ref x_scr)], [], x_h0, 98, 10728)) rfl ?_
  refine x_R.steps 7 (c' := (24, [(3, .int 6), (2, .ref 75), (1, .ref 0), (0, .ref x_scr)], [.int 0, .int 6], x_h0, 98, 10728)) rfl ?_
  refine x_R.steps 1 (c' := (2376, [(3, .int 6), (2, .ref 75), (1, .ref 0), (0, .ref x_scr)], [], x_h0, 98, 10728)) rfl ?_
  refine x_R.steps 1 (c' := (2377, [(3, .int 6), (2, .ref 75), (1, .ref 0), (0, .ref x_scr)], [.int 1], x_h0, 98, 10728)) rfl ?_
  exact x_R.ret (v := some (.int 1)) rfl x_fin
set_option maxRecDepth 100000 in
set_option maxHeartbeats 4000000 in
theorem x_c53_0 (xs : Nat → Int32)  : x_R x_mt (some (6, xs)) 13 M_law (1759, [(3, .int 0), (2, .ref 75), (1, .ref 0), (0, .ref x_scr)], [], x_h0, 98, 10728) x_P := by
  refine x_R.steps 1 (c' := (1760, [(3, .int 0), (2, .ref 75), (1, .ref 0), (0, .ref x_scr)], [.ref 0], x_h0, 98, 10728)) rfl ?_
  refine x_R.call (a := 167) (vs := [.ref 0]) (rest := []) (M' := M_cX11_path) rfl rfl rfl ?_
  refine x_R.steps 2 (c' := (4, [(0, .ref 0)], [.ref 1], x_h0, 0, 0)) rfl ?_
  refine x_R.call (a := 11) (vs := [.ref 1]) (rest := []) (M' := M_cX2_isTold) rfl rfl rfl ?_
  refine x_R.steps 2 (c' := (4, [(0, .ref 1)], [.int 0], x_h0, 0, 0)) rfl ?_
  refine x_R.steps 1 (c' := (11, [(0, .ref 1)], [], x_h0, 0, 0)) rfl ?_
  refine x_R.steps 1 (c' := (12, [(0, .ref 1)], [.int 0], x_h0, 0, 0)) rfl ?_
  refine x_R.ret (v := some (.int 0)) rfl ?_
  refine x_R.steps 0 (c' := (7, [(0, .ref 0)], [.int 0], x_h0, 0, 0)) rfl ?_
  refine x_R.steps 1 (c' := (20, [(0, .ref 0)], [], x_h0, 0, 0)) rfl ?_
  refine x_R.steps 1 (c' := (22, [(0, .ref 0)], [.int (-2)], x_h0, 0, 0)) rfl ?_
  refine x_R.ret (v := some (.int (-2))) rfl ?_
  refine x_R.steps 0 (c' := (1763, [(3, .int 0), (2, .ref 75), (1, .ref 0), (0, .ref x_scr)], [.int (-2)], x_h0, 98, 10728)) rfl ?_
  refine x_R.steps 1 (c' := (1764, [(3, .int 0), (2, .ref 75), (1, .ref 0), (0, .ref x_scr)], [.ref 75, .int (-2)], x_h0, 98, 10728)) rfl ?_
  refine x_R.call (a := 333) (vs := [.ref 75]) (rest := [.int (-2)]) (M' := M_cX12_path) rfl rfl rfl ?_
  refine x_R.steps 1 (c' := (1, [(0, .ref 75)], [.ref 75], x_h0, 0, 0)) rfl ?_
  refine x_R.call (a := 199) (vs := [.ref 75]) (rest := []) (M' := M_cX12_isBoard) rfl rfl rfl ?_
  refine x_R.steps 3 (c' := (5, [(0, .ref 75)], [.int 0, .ref 76], x_h0, 0, 0)) rfl ?_
  refine x_R.steps 1 (c' := (6, [(0, .ref 75)], [.int 0], x_h0, 0, 0)) rfl ?_
  refine x_R.steps 1 (c' := (13, [(0, .ref 75)], [], x_h0, 0, 0)) rfl ?_
  refine x_R.steps 1 (c' := (14, [(0, .ref 75)], [.int 0], x_h0, 0, 0)) rfl ?_
  refine x_R.ret (v := some (.int 0)) rfl ?_
  refine x_R.steps 0 (c' := (4, [(0, .ref 75)], [.int 0], x_h0, 0, 0)) rfl ?_
  refine x_R.steps 1 (c' := (14, [(0, .ref 75)], [], x_h0, 0, 0)) rfl ?_
  refine x_R.steps 1 (c' := (16, [(0, .ref 75)], [.int (-2)], x_h0, 0, 0)) rfl ?_
  refine x_R.ret (v := some (.int (-2))) rfl ?_
  refine x_R.steps 0 (c' := (1767, [(3, .int 0), (2, .ref 75), (1, .ref 0), (0, .ref x_scr)], [.int (-2), .int (-2)], x_h0, 98, 10728)) rfl ?_
  refine x_R.steps 1 (c' := (2370, [(3, .int 0), (2, .ref 75), (1, .ref 0), (0, .ref x_scr)], [], x_h0, 98, 10728)) rfl ?_
  refine x_R.steps 7 (c' := (24, [(3, .int 6), (2, .ref 75), (1, .ref 0), (0, .ref x_scr)], [.int 0, .int 6], x_h0, 98, 10728)) rfl ?_
  refine x_R.steps 1 (c' := (2376, [(3, .int 6), (2, .ref 75), (1, .ref 0), (0, .ref x_scr)], [], x_h0, 98, 10728)) rfl ?_
  refine x_R.steps 1 (c' := (2377, [(3, .int 6), (2, .ref 75), (1, .ref 0), (0, .ref x_scr)], [.int 1], x_h0, 98, 10728)) rfl ?_
  exact x_R.ret (v := some (.int 1)) rfl x_fin
set_option maxRecDepth 100000 in
set_option maxHeartbeats 4000000 in
theorem x_c54_0 (xs : Nat → Int32)  : x_R x_mt (some (6, xs)) 13 M_law (1772, [(3, .int 0), (2, .ref 75), (1, .ref 0), (0, .ref x_scr)], [], x_h0, 98, 10728) x_P := by
  refine x_R.steps 5 (c' := (1777, [(3, .int 0), (2, .ref 75), (1, .ref 0), (0, .ref x_scr)], [.int 1, .ref x_scr, .ref 0], x_h0, 98, 10728)) rfl ?_
  refine x_R.steps 1 (c' := (1778, [(3, .int 0), (2, .ref 75), (1, .ref 0), (0, .ref x_scr)], [.int (xs 1), .ref 0], x_h0, 98, 10728)) rfl ?_
  refine x_R.call (a := 168) (vs := [.ref 0, .int (xs 1)]) (rest := []) (M' := M_cX11_better) rfl rfl rfl ?_
  refine x_R.steps 2 (c' := (4, [(0, .ref 0), (1, .int (xs 1))], [.ref 1], x_h0, 0, 0)) rfl ?_
  refine x_R.call (a := 11) (vs := [.ref 1]) (rest := []) (M' := M_cX2_isTold) rfl rfl rfl ?_
  refine x_R.steps 2 (c' := (4, [(0, .ref 1)], [.int 0], x_h0, 0, 0)) rfl ?_
  refine x_R.steps 1 (c' := (11, [(0, .ref 1)], [], x_h0, 0, 0)) rfl ?_
  refine x_R.steps 1 (c' := (12, [(0, .ref 1)], [.int 0], x_h0, 0, 0)) rfl ?_
  refine x_R.ret (v := some (.int 0)) rfl ?_
  refine x_R.steps 0 (c' := (7, [(0, .ref 0), (1, .int (xs 1))], [.int 0], x_h0, 0, 0)) rfl ?_
  refine x_R.steps 1 (c' := (19, [(0, .ref 0), (1, .int (xs 1))], [], x_h0, 0, 0)) rfl ?_
  refine x_R.steps 1 (c' := (21, [(0, .ref 0), (1, .int (xs 1))], [.int (-2)], x_h0, 0, 0)) rfl ?_
  refine x_R.ret (v := some (.int (-2))) rfl ?_
  refine x_R.steps 0 (c' := (1781, [(3, .int 0), (2, .ref 75), (1, .ref 0), (0, .ref x_scr)], [.int (-2)], x_h0, 98, 10728)) rfl ?_
  refine x_R.steps 5 (c' := (1786, [(3, .int 0), (2, .ref 75), (1, .ref 0), (0, .ref x_scr)], [.int 1, .ref x_scr, .ref 75, .int (-2)], x_h0, 98, 10728)) rfl ?_
  refine x_R.steps 1 (c' := (1787, [(3, .int 0), (2, .ref 75), (1, .ref 0), (0, .ref x_scr)], [.int (xs 1), .ref 75, .int (-2)], x_h0, 98, 10728)) rfl ?_
  refine x_R.call (a := 335) (vs := [.ref 75, .int (xs 1)]) (rest := [.int (-2)]) (M' := M_cX12_better) rfl rfl rfl ?_
  refine x_R.steps 1 (c' := (1, [(0, .ref 75), (1, .int (xs 1))], [.ref 75], x_h0, 0, 0)) rfl ?_
  refine x_R.call (a := 199) (vs := [.ref 75]) (rest := []) (M' := M_cX12_isBoard) rfl rfl rfl ?_
  refine x_R.steps 3 (c' := (5, [(0, .ref 75)], [.int 0, .ref 76], x_h0, 0, 0)) rfl ?_
  refine x_R.steps 1 (c' := (6, [(0, .ref 75)], [.int 0], x_h0, 0, 0)) rfl ?_
  refine x_R.steps 1 (c' := (13, [(0, .ref 75)], [], x_h0, 0, 0)) rfl ?_
  refine x_R.steps 1 (c' := (14, [(0, .ref 75)], [.int 0], x_h0, 0, 0)) rfl ?_
  refine x_R.ret (v := some (.int 0)) rfl ?_
  refine x_R.steps 0 (c' := (4, [(0, .ref 75), (1, .int (xs 1))], [.int 0], x_h0, 0, 0)) rfl ?_
  refine x_R.steps 1 (c' := (17, [(0, .ref 75), (1, .int (xs 1))], [], x_h0, 0, 0)) rfl ?_
  refine x_R.steps 1 (c' := (19, [(0, .ref 75), (1, .int (xs 1))], [.int (-2)], x_h0, 0, 0)) rfl ?_
  refine x_R.ret (v := some (.int (-2))) rfl ?_
  refine x_R.steps 0 (c' := (1790, [(3, .int 0), (2, .ref 75), (1, .ref 0), (0, .ref x_scr)], [.int (-2), .int (-2)], x_h0, 98, 10728)) rfl ?_
  refine x_R.steps 1 (c' := (2370, [(3, .int 0), (2, .ref 75), (1, .ref 0), (0, .ref x_scr)], [], x_h0, 98, 10728)) rfl ?_
  refine x_R.steps 7 (c' := (24, [(3, .int 6), (2, .ref 75), (1, .ref 0), (0, .ref x_scr)], [.int 0, .int 6], x_h0, 98, 10728)) rfl ?_
  refine x_R.steps 1 (c' := (2376, [(3, .int 6), (2, .ref 75), (1, .ref 0), (0, .ref x_scr)], [], x_h0, 98, 10728)) rfl ?_
  refine x_R.steps 1 (c' := (2377, [(3, .int 6), (2, .ref 75), (1, .ref 0), (0, .ref x_scr)], [.int 1], x_h0, 98, 10728)) rfl ?_
  exact x_R.ret (v := some (.int 1)) rfl x_fin
set_option maxRecDepth 100000 in
set_option maxHeartbeats 4000000 in
theorem x_c55_0 (xs : Nat → Int32)  : x_R x_mt (some (6, xs)) 13 M_law (1795, [(3, .int 0), (2, .ref 75), (1, .ref 0), (0, .ref x_scr)], [], x_h0, 98, 10728) x_P := by
  refine x_R.steps 5 (c' := (1800, [(3, .int 0), (2, .ref 75), (1, .ref 0), (0, .ref x_scr)], [.int 1, .ref x_scr, .ref 0], x_h0, 98, 10728)) rfl ?_
  refine x_R.steps 1 (c' := (1801, [(3, .int 0), (2, .ref 75), (1, .ref 0), (0, .ref x_scr)], [.int (xs 1), .ref 0], x_h0, 98, 10728)) rfl ?_
  refine x_R.steps 4 (c' := (1805, [(3, .int 0), (2, .ref 75), (1, .ref 0), (0, .ref x_scr)], [.int 2, .ref x_scr, .int (xs 1), .ref 0], x_h0, 98, 10728)) rfl ?_
  refine x_R.steps 1 (c' := (1806, [(3, .int 0), (2, .ref 75), (1, .ref 0), (0, .ref x_scr)], [.int (xs 2), .int (xs 1), .ref 0], x_h0, 98, 10728)) rfl ?_
  refine x_R.call (a := 169) (vs := [.ref 0, .int (xs 1), .int (xs 2)]) (rest := []) (M' := M_cX11_swap) rfl rfl rfl ?_
  refine x_R.steps 4 (c' := (8, [(0, .ref 0), (1, .int (xs 1)), (2, .int (xs 2))], [.int (xs 1), .ref 5], x_h0, 0, 0)) rfl ?_
  refine x_R.call (a := 31) (vs := [.ref 5, .int (xs 1)]) (rest := []) (M' := M_cX3_has) rfl rfl rfl ?_
  refine x_R.steps 1 (c' := (1, [(0, .ref 5), (1, .int (xs 1))], [.int (xs 1)], x_h0, 0, 0)) rfl ?_
  refine x_R.ite (p := (xs 1) < (0 : Int32)) (c1 := (16, [(0, .ref 5), (1, .int (xs 1))], [], x_h0, 0, 0)) (c2 := (4, [(0, .ref 5), (1, .int (xs 1))], [], x_h0, 0, 0)) rfl (fun h1 => ?_) (fun h1 => ?_)
  · have g1 := (x_i_lt (C := 0) (by decide)).mp h1
    refine x_R.steps 1 (c' := (17, [(0, .ref 5), (1, .int (xs 1))], [.int 0], x_h0, 0, 0)) rfl ?_
    refine x_R.ret (v := some (.int 0)) rfl ?_
    refine x_R.steps 0 (c' := (11, [(0, .ref 0), (1, .int (xs 1)), (2, .int (xs 2))], [.int 0], x_h0, 0, 0)) rfl ?_
    refine x_R.steps 1 (c' := (28, [(0, .ref 0), (1, .int (xs 1)), (2, .int (xs 2))], [], x_h0, 0, 0)) rfl ?_
    refine x_R.steps 1 (c' := (30, [(0, .ref 0), (1, .int (xs 1)), (2, .int (xs 2))], [.int (-2)], x_h0, 0, 0)) rfl ?_
    refine x_R.ret (v := some (.int (-2))) rfl ?_
    refine x_R.steps 0 (c' := (1809, [(3, .int 0), (2, .ref 75), (1, .ref 0), (0, .ref x_scr)], [.int (-2)], x_h0, 98, 10728)) rfl ?_
    refine x_R.steps 5 (c' := (1814, [(3, .int 0), (2, .ref 75), (1, .ref 0), (0, .ref x_scr)], [.int 1, .ref x_scr, .ref 75, .int (-2)], x_h0, 98, 10728)) rfl ?_
    refine x_R.steps 1 (c' := (1815, [(3, .int 0), (2, .ref 75), (1, .ref 0), (0, .ref x_scr)], [.int (xs 1), .ref 75, .int (-2)], x_h0, 98, 10728)) rfl ?_
    refine x_R.steps 4 (c' := (1819, [(3, .int 0), (2, .ref 75), (1, .ref 0), (0, .ref x_scr)], [.int 2, .ref x_scr, .int (xs 1), .ref 75, .int (-2)], x_h0, 98, 10728)) rfl ?_
    refine x_R.steps 1 (c' := (1820, [(3, .int 0), (2, .ref 75), (1, .ref 0), (0, .ref x_scr)], [.int (xs 2), .int (xs 1), .ref 75, .int (-2)], x_h0, 98, 10728)) rfl ?_
    refine x_R.call (a := 336) (vs := [.ref 75, .int (xs 1), .int (xs 2)]) (rest := [.int (-2)]) (M' := M_cX12_swap) rfl rfl rfl ?_
    refine x_R.steps 2 (c' := (2, [(0, .ref 75), (1, .int (xs 1)), (2, .int (xs 2))], [.int (xs 1), .ref 75], x_h0, 0, 0)) rfl ?_
    refine x_R.call (a := 204) (vs := [.ref 75, .int (xs 1)]) (rest := []) (M' := M_cX12_isComing) rfl rfl rfl ?_
    refine x_R.steps 6 (c' := (8, [(0, .ref 75), (1, .int (xs 1))], [.int 5, .ref 76, .long 0, .long ((xs 1)).toInt64], x_h0, 0, 0)) rfl ?_
    refine x_R.steps 1 (c' := (9, [(0, .ref 75), (1, .int (xs 1))], [.int 0, .long 0, .long ((xs 1)).toInt64], x_h0, 0, 0)) rfl ?_
    refine x_R.steps 3 (c' := (12, [(0, .ref 75), (1, .int (xs 1))], [.long (-1), .long 0, .long ((xs 1)).toInt64], x_h0, 0, 0)) rfl ?_
    refine x_R.call (a := 196) (vs := [.long ((xs 1)).toInt64, .long 0, .long (-1)]) (rest := []) (M' := M_cX12_in) rfl rfl rfl ?_
    refine x_R.steps 3 (c' := (3, [(0, .long ((xs 1)).toInt64), (2, .long 0), (4, .long (-1))], [.int (lg_cmp ((xs 1)).toInt64 0)], x_h0, 0, 0)) rfl ?_
    refine x_R.ite (p := (lg_cmp ((xs 1)).toInt64 0) < (0 : Int32)) (c1 := (17, [(0, .long ((xs 1)).toInt64), (2, .long 0), (4, .long (-1))], [], x_h0, 0, 0)) (c2 := (6, [(0, .long ((xs 1)).toInt64), (2, .long 0), (4, .long (-1))], [], x_h0, 0, 0)) rfl (fun h2 => ?_) (fun h2 => ?_)
    · have g2 := (x_lg_lt (C := 0) (by decide)).mp h2
      refine x_R.steps 1 (c' := (18, [(0, .long ((xs 1)).toInt64), (2, .long 0), (4, .long (-1))], [.int 0], x_h0, 0, 0)) rfl ?_
      refine x_R.ret (v := some (.int 0)) rfl ?_
      refine x_R.steps 0 (c' := (15, [(0, .ref 75), (1, .int (xs 1))], [.int 0], x_h0, 0, 0)) rfl ?_
      refine x_R.ret (v := some (.int 0)) rfl ?_
      refine x_R.steps 0 (c' := (5, [(0, .ref 75), (1, .int (xs 1)), (2, .int (xs 2))], [.int 0], x_h0, 0, 0)) rfl ?_
      refine x_R.steps 1 (c' := (16, [(0, .ref 75), (1, .int (xs 1)), (2, .int (xs 2))], [], x_h0, 0, 0)) rfl ?_
      refine x_R.steps 1 (c' := (18, [(0, .ref 75), (1, .int (xs 1)), (2, .int (xs 2))], [.int (-2)], x_h0, 0, 0)) rfl ?_
      refine x_R.ret (v := some (.int (-2))) rfl ?_
      refine x_R.steps 0 (c' := (1823, [(3, .int 0), (2, .ref 75), (1, .ref 0), (0, .ref x_scr)], [.int (-2), .int (-2)], x_h0, 98, 10728)) rfl ?_
      refine x_R.steps 1 (c' := (2370, [(3, .int 0), (2, .ref 75), (1, .ref 0), (0, .ref x_scr)], [], x_h0, 98, 10728)) rfl ?_
      refine x_R.steps 7 (c' := (24, [(3, .int 6), (2, .ref 75), (1, .ref 0), (0, .ref x_scr)], [.int 0, .int 6], x_h0, 98, 10728)) rfl ?_
      refine x_R.steps 1 (c' := (2376, [(3, .int 6), (2, .ref 75), (1, .ref 0), (0, .ref x_scr)], [], x_h0, 98, 10728)) rfl ?_
      refine x_R.steps 1 (c' := (2377, [(3, .int 6), (2, .ref 75), (1, .ref 0), (0, .ref x_scr)], [.int 1], x_h0, 98, 10728)) rfl ?_
      exact x_R.ret (v := some (.int 1)) rfl x_fin
    · have g2 := mt (x_lg_lt (C := 0) (by decide)).mpr h2
      exfalso; omega
  · have g1 := mt (x_i_lt (C := 0) (by decide)).mpr h1
    refine x_R.steps 3 (c' := (9, [(0, .ref 5), (1, .int (xs 1))], [.int 0, .int (xs 1)], x_h0, 0, 0)) rfl ?_
    refine x_R.ite (p := (0 : Int32) ≤ (xs 1)) (c1 := (16, [(0, .ref 5), (1, .int (xs 1))], [], x_h0, 0, 0)) (c2 := (12, [(0, .ref 5), (1, .int (xs 1))], [], x_h0, 0, 0)) rfl (fun h3 => ?_) (fun h3 => ?_)
    · have g3 := (x_i_ge (C := 0) (by decide)).mp h3
      refine x_R.steps 1 (c' := (17, [(0, .ref 5), (1, .int (xs 1))], [.int 0], x_h0, 0, 0)) rfl ?_
      refine x_R.ret (v := some (.int 0)) rfl ?_
      refine x_R.steps 0 (c' := (11, [(0, .ref 0), (1, .int (xs 1)), (2, .int (xs 2))], [.int 0], x_h0, 0, 0)) rfl ?_
      refine x_R.steps 1 (c' := (28, [(0, .ref 0), (1, .int (xs 1)), (2, .int (xs 2))], [], x_h0, 0, 0)) rfl ?_
      refine x_R.steps 1 (c' := (30, [(0, .ref 0), (1, .int (xs 1)), (2, .int (xs 2))], [.int (-2)], x_h0, 0, 0)) rfl ?_
      refine x_R.ret (v := some (.int (-2))) rfl ?_
      refine x_R.steps 0 (c' := (1809, [(3, .int 0), (2, .ref 75), (1, .ref 0), (0, .ref x_scr)], [.int (-2)], x_h0, 98, 10728)) rfl ?_
      refine x_R.steps 5 (c' := (1814, [(3, .int 0), (2, .ref 75), (1, .ref 0), (0, .ref x_scr)], [.int 1, .ref x_scr, .ref 75, .int (-2)], x_h0, 98, 10728)) rfl ?_
      refine x_R.steps 1 (c' := (1815, [(3, .int 0), (2, .ref 75), (1, .ref 0), (0, .ref x_scr)], [.int (xs 1), .ref 75, .int (-2)], x_h0, 98, 10728)) rfl ?_
      refine x_R.steps 4 (c' := (1819, [(3, .int 0), (2, .ref 75), (1, .ref 0), (0, .ref x_scr)], [.int 2, .ref x_scr, .int (xs 1), .ref 75, .int (-2)], x_h0, 98, 10728)) rfl ?_
      refine x_R.steps 1 (c' := (1820, [(3, .int 0), (2, .ref 75), (1, .ref 0), (0, .ref x_scr)], [.int (xs 2), .int (xs 1), .ref 75, .int (-2)], x_h0, 98, 10728)) rfl ?_
      refine x_R.call (a := 336) (vs := [.ref 75, .int (xs 1), .int (xs 2)]) (rest := [.int (-2)]) (M' := M_cX12_swap) rfl rfl rfl ?_
      refine x_R.steps 2 (c' := (2, [(0, .ref 75), (1, .int (xs 1)), (2, .int (xs 2))], [.int (xs 1), .ref 75], x_h0, 0, 0)) rfl ?_
      refine x_R.call (a := 204) (vs := [.ref 75, .int (xs 1)]) (rest := []) (M' := M_cX12_isComing) rfl rfl rfl ?_
      refine x_R.steps 6 (c' := (8, [(0, .ref 75), (1, .int (xs 1))], [.int 5, .ref 76, .long 0, .long ((xs 1)).toInt64], x_h0, 0, 0)) rfl ?_
      refine x_R.steps 1 (c' := (9, [(0, .ref 75), (1, .int (xs 1))], [.int 0, .long 0, .long ((xs 1)).toInt64], x_h0, 0, 0)) rfl ?_
      refine x_R.steps 3 (c' := (12, [(0, .ref 75), (1, .int (xs 1))], [.long (-1), .long 0, .long ((xs 1)).toInt64], x_h0, 0, 0)) rfl ?_
      refine x_R.call (a := 196) (vs := [.long ((xs 1)).toInt64, .long 0, .long (-1)]) (rest := []) (M' := M_cX12_in) rfl rfl rfl ?_
      refine x_R.steps 3 (c' := (3, [(0, .long ((xs 1)).toInt64), (2, .long 0), (4, .long (-1))], [.int (lg_cmp ((xs 1)).toInt64 0)], x_h0, 0, 0)) rfl ?_
      refine x_R.ite (p := (lg_cmp ((xs 1)).toInt64 0) < (0 : Int32)) (c1 := (17, [(0, .long ((xs 1)).toInt64), (2, .long 0), (4, .long (-1))], [], x_h0, 0, 0)) (c2 := (6, [(0, .long ((xs 1)).toInt64), (2, .long 0), (4, .long (-1))], [], x_h0, 0, 0)) rfl (fun h4 => ?_) (fun h4 => ?_)
      · have g4 := (x_lg_lt (C := 0) (by decide)).mp h4
        exfalso; omega
      · have g4 := mt (x_lg_lt (C := 0) (by decide)).mpr h4
        refine x_R.steps 3 (c' := (10, [(0, .long ((xs 1)).toInt64), (2, .long 0), (4, .long (-1))], [.int (lg_cmp ((xs 1)).toInt64 (-1))], x_h0, 0, 0)) rfl ?_
        refine x_R.ite (p := (0 : Int32) < (lg_cmp ((xs 1)).toInt64 (-1))) (c1 := (17, [(0, .long ((xs 1)).toInt64), (2, .long 0), (4, .long (-1))], [], x_h0, 0, 0)) (c2 := (13, [(0, .long ((xs 1)).toInt64), (2, .long 0), (4, .long (-1))], [], x_h0, 0, 0)) rfl (fun h5 => ?_) (fun h5 => ?_)
        · have g5 := (x_lg_gt (C := -1) (by decide)).mp h5
          refine x_R.steps 1 (c' := (18, [(0, .long ((xs 1)).toInt64), (2, .long 0), (4, .long (-1))], [.int 0], x_h0, 0, 0)) rfl ?_
          refine x_R.ret (v := some (.int 0)) rfl ?_
          refine x_R.steps 0 (c' := (15, [(0, .ref 75), (1, .int (xs 1))], [.int 0], x_h0, 0, 0)) rfl ?_
          refine x_R.ret (v := some (.int 0)) rfl ?_
          refine x_R.steps 0 (c' := (5, [(0, .ref 75), (1, .int (xs 1)), (2, .int (xs 2))], [.int 0], x_h0, 0, 0)) rfl ?_
          refine x_R.steps 1 (c' := (16, [(0, .ref 75), (1, .int (xs 1)), (2, .int (xs 2))], [], x_h0, 0, 0)) rfl ?_
          refine x_R.steps 1 (c' := (18, [(0, .ref 75), (1, .int (xs 1)), (2, .int (xs 2))], [.int (-2)], x_h0, 0, 0)) rfl ?_
          refine x_R.ret (v := some (.int (-2))) rfl ?_
          refine x_R.steps 0 (c' := (1823, [(3, .int 0), (2, .ref 75), (1, .ref 0), (0, .ref x_scr)], [.int (-2), .int (-2)], x_h0, 98, 10728)) rfl ?_
          refine x_R.steps 1 (c' := (2370, [(3, .int 0), (2, .ref 75), (1, .ref 0), (0, .ref x_scr)], [], x_h0, 98, 10728)) rfl ?_
          refine x_R.steps 7 (c' := (24, [(3, .int 6), (2, .ref 75), (1, .ref 0), (0, .ref x_scr)], [.int 0, .int 6], x_h0, 98, 10728)) rfl ?_
          refine x_R.steps 1 (c' := (2376, [(3, .int 6), (2, .ref 75), (1, .ref 0), (0, .ref x_scr)], [], x_h0, 98, 10728)) rfl ?_
          refine x_R.steps 1 (c' := (2377, [(3, .int 6), (2, .ref 75), (1, .ref 0), (0, .ref x_scr)], [.int 1], x_h0, 98, 10728)) rfl ?_
          exact x_R.ret (v := some (.int 1)) rfl x_fin
        · have g5 := mt (x_lg_gt (C := -1) (by decide)).mpr h5
          exfalso; omega
    · have g3 := mt (x_i_ge (C := 0) (by decide)).mpr h3
      exfalso; omega
set_option maxRecDepth 100000 in
set_option maxHeartbeats 4000000 in
theorem x_c56_0 (xs : Nat → Int32)  : x_R x_mt (some (6, xs)) 13 M_law (1828, [(3, .int 0), (2, .ref 75), (1, .ref 0), (0, .ref x_scr)], [], x_h0, 98, 10728) x_P := by
  refine x_R.steps 5 (c' := (1833, [(3, .int 0), (2, .ref 75), (1, .ref 0), (0, .ref x_scr)], [.int 1, .ref x_scr, .ref 0], x_h0, 98, 10728)) rfl ?_
  refine x_R.steps 1 (c' := (1834, [(3, .int 0), (2, .ref 75), (1, .ref 0), (0, .ref x_scr)], [.int (xs 1), .ref 0], x_h0, 98, 10728)) rfl ?_
  refine x_R.steps 4 (c' := (1838, [(3, .int 0), (2, .ref 75), (1, .ref 0), (0, .ref x_scr)], [.int 2, .ref x_scr, .int (xs 1), .ref 0], x_h0, 98, 10728)) rfl ?_
  refine x_R.steps 1 (c' := (1839, [(3, .int 0), (2, .ref 75), (1, .ref 0), (0, .ref x_scr)], [.int (xs 2), .int (xs 1), .ref 0], x_h0, 98, 10728)) rfl ?_
  refine x_R.call (a := 170) (vs := [.ref 0, .int (xs 1), .int (xs 2)]) (rest := []) (M' := M_cX11_paint) rfl rfl rfl ?_
  refine x_R.steps 4 (c' := (8, [(0, .ref 0), (1, .int (xs 1)), (2, .int (xs 2))], [.int (xs 1), .ref 5], x_h0, 0, 0)) rfl ?_
  refine x_R.call (a := 31) (vs := [.ref 5, .int (xs 1)]) (rest := []) (M' := M_cX3_has) rfl rfl rfl ?_
  refine x_R.steps 1 (c' := (1, [(0, .ref 5), (1, .int (xs 1))], [.int (xs 1)], x_h0, 0, 0)) rfl ?_
  refine x_R.ite (p := (xs 1) < (0 : Int32)) (c1 := (16, [(0, .ref 5), (1, .int (xs 1))], [], x_h0, 0, 0)) (c2 := (4, [(0, .ref 5), (1, .int (xs 1))], [], x_h0, 0, 0)) rfl (fun h1 => ?_) (fun h1 => ?_)
  · have g1 := (x_i_lt (C := 0) (by decide)).mp h1
    refine x_R.steps 1 (c' := (17, [(0, .ref 5), (1, .int (xs 1))], [.int 0], x_h0, 0, 0)) rfl ?_
    refine x_R.ret (v := some (.int 0)) rfl ?_
    refine x_R.steps 0 (c' := (11, [(0, .ref 0), (1, .int (xs 1)), (2, .int (xs 2))], [.int 0], x_h0, 0, 0)) rfl ?_
    refine x_R.steps 1 (c' := (39, [(0, .ref 0), (1, .int (xs 1)), (2, .int (xs 2))], [], x_h0, 0, 0)) rfl ?_
    refine x_R.steps 1 (c' := (41, [(0, .ref 0), (1, .int (xs 1)), (2, .int (xs 2))], [.int (-2)], x_h0, 0, 0)) rfl ?_
    refine x_R.ret (v := some (.int (-2))) rfl ?_
    refine x_R.steps 0 (c' := (1842, [(3, .int 0), (2, .ref 75), (1, .ref 0), (0, .ref x_scr)], [.int (-2)], x_h0, 98, 10728)) rfl ?_
    refine x_R.steps 5 (c' := (1847, [(3, .int 0), (2, .ref 75), (1, .ref 0), (0, .ref x_scr)], [.int 1, .ref x_scr, .ref 75, .int (-2)], x_h0, 98, 10728)) rfl ?_
    refine x_R.steps 1 (c' := (1848, [(3, .int 0), (2, .ref 75), (1, .ref 0), (0, .ref x_scr)], [.int (xs 1), .ref 75, .int (-2)], x_h0, 98, 10728)) rfl ?_
    refine x_R.steps 4 (c' := (1852, [(3, .int 0), (2, .ref 75), (1, .ref 0), (0, .ref x_scr)], [.int 2, .ref x_scr, .int (xs 1), .ref 75, .int (-2)], x_h0, 98, 10728)) rfl ?_
    refine x_R.steps 1 (c' := (1853, [(3, .int 0), (2, .ref 75), (1, .ref 0), (0, .ref x_scr)], [.int (xs 2), .int (xs 1), .ref 75, .int (-2)], x_h0, 98, 10728)) rfl ?_
    refine x_R.call (a := 337) (vs := [.ref 75, .int (xs 1), .int (xs 2)]) (rest := [.int (-2)]) (M' := M_cX12_paint) rfl rfl rfl ?_
    refine x_R.steps 2 (c' := (2, [(0, .ref 75), (1, .int (xs 1)), (2, .int (xs 2))], [.int (xs 1), .ref 75], x_h0, 0, 0)) rfl ?_
    refine x_R.call (a := 204) (vs := [.ref 75, .int (xs 1)]) (rest := []) (M' := M_cX12_isComing) rfl rfl rfl ?_
    refine x_R.steps 6 (c' := (8, [(0, .ref 75), (1, .int (xs 1))], [.int 5, .ref 76, .long 0, .long ((xs 1)).toInt64], x_h0, 0, 0)) rfl ?_
    refine x_R.steps 1 (c' := (9, [(0, .ref 75), (1, .int (xs 1))], [.int 0, .long 0, .long ((xs 1)).toInt64], x_h0, 0, 0)) rfl ?_
    refine x_R.steps 3 (c' := (12, [(0, .ref 75), (1, .int (xs 1))], [.long (-1), .long 0, .long ((xs 1)).toInt64], x_h0, 0, 0)) rfl ?_
    refine x_R.call (a := 196) (vs := [.long ((xs 1)).toInt64, .long 0, .long (-1)]) (rest := []) (M' := M_cX12_in) rfl rfl rfl ?_
    refine x_R.steps 3 (c' := (3, [(0, .long ((xs 1)).toInt64), (2, .long 0), (4, .long (-1))], [.int (lg_cmp ((xs 1)).toInt64 0)], x_h0, 0, 0)) rfl ?_
    refine x_R.ite (p := (lg_cmp ((xs 1)).toInt64 0) < (0 : Int32)) (c1 := (17, [(0, .long ((xs 1)).toInt64), (2, .long 0), (4, .long (-1))], [], x_h0, 0, 0)) (c2 := (6, [(0, .long ((xs 1)).toInt64), (2, .long 0), (4, .long (-1))], [], x_h0, 0, 0)) rfl (fun h2 => ?_) (fun h2 => ?_)
    · have g2 := (x_lg_lt (C := 0) (by decide)).mp h2
      refine x_R.steps 1 (c' := (18, [(0, .long ((xs 1)).toInt64), (2, .long 0), (4, .long (-1))], [.int 0], x_h0, 0, 0)) rfl ?_
      refine x_R.ret (v := some (.int 0)) rfl ?_
      refine x_R.steps 0 (c' := (15, [(0, .ref 75), (1, .int (xs 1))], [.int 0], x_h0, 0, 0)) rfl ?_
      refine x_R.ret (v := some (.int 0)) rfl ?_
      refine x_R.steps 0 (c' := (5, [(0, .ref 75), (1, .int (xs 1)), (2, .int (xs 2))], [.int 0], x_h0, 0, 0)) rfl ?_
      refine x_R.steps 1 (c' := (28, [(0, .ref 75), (1, .int (xs 1)), (2, .int (xs 2))], [], x_h0, 0, 0)) rfl ?_
      refine x_R.steps 1 (c' := (30, [(0, .ref 75), (1, .int (xs 1)), (2, .int (xs 2))], [.int (-2)], x_h0, 0, 0)) rfl ?_
      refine x_R.ret (v := some (.int (-2))) rfl ?_
      refine x_R.steps 0 (c' := (1856, [(3, .int 0), (2, .ref 75), (1, .ref 0), (0, .ref x_scr)], [.int (-2), .int (-2)], x_h0, 98, 10728)) rfl ?_
      refine x_R.steps 1 (c' := (2370, [(3, .int 0), (2, .ref 75), (1, .ref 0), (0, .ref x_scr)], [], x_h0, 98, 10728)) rfl ?_
      refine x_R.steps 7 (c' := (24, [(3, .int 6), (2, .ref 75), (1, .ref 0), (0, .ref x_scr)], [.int 0, .int 6], x_h0, 98, 10728)) rfl ?_
      refine x_R.steps 1 (c' := (2376, [(3, .int 6), (2, .ref 75), (1, .ref 0), (0, .ref x_scr)], [], x_h0, 98, 10728)) rfl ?_
      refine x_R.steps 1 (c' := (2377, [(3, .int 6), (2, .ref 75), (1, .ref 0), (0, .ref x_scr)], [.int 1], x_h0, 98, 10728)) rfl ?_
      exact x_R.ret (v := some (.int 1)) rfl x_fin
    · have g2 := mt (x_lg_lt (C := 0) (by decide)).mpr h2
      exfalso; omega
  · have g1 := mt (x_i_lt (C := 0) (by decide)).mpr h1
    refine x_R.steps 3 (c' := (9, [(0, .ref 5), (1, .int (xs 1))], [.int 0, .int (xs 1)], x_h0, 0, 0)) rfl ?_
    refine x_R.ite (p := (0 : Int32) ≤ (xs 1)) (c1 := (16, [(0, .ref 5), (1, .int (xs 1))], [], x_h0, 0, 0)) (c2 := (12, [(0, .ref 5), (1, .int (xs 1))], [], x_h0, 0, 0)) rfl (fun h3 => ?_) (fun h3 => ?_)
    · have g3 := (x_i_ge (C := 0) (by decide)).mp h3
      refine x_R.steps 1 (c' := (17, [(0, .ref 5), (1, .int (xs 1))], [.int 0], x_h0, 0, 0)) rfl ?_
      refine x_R.ret (v := some (.int 0)) rfl ?_
      refine x_R.steps 0 (c' := (11, [(0, .ref 0), (1, .int (xs 1)), (2, .int (xs 2))], [.int 0], x_h0, 0, 0)) rfl ?_
      refine x_R.steps 1 (c' := (39, [(0, .ref 0), (1, .int (xs 1)), (2, .int (xs 2))], [], x_h0, 0, 0)) rfl ?_
      refine x_R.steps 1 (c' := (41, [(0, .ref 0), (1, .int (xs 1)), (2, .int (xs 2))], [.int (-2)], x_h0, 0, 0)) rfl ?_
      refine x_R.ret (v := some (.int (-2))) rfl ?_
      refine x_R.steps 0 (c' := (1842, [(3, .int 0), (2, .ref 75), (1, .ref 0), (0, .ref x_scr)], [.int (-2)], x_h0, 98, 10728)) rfl ?_
      refine x_R.steps 5 (c' := (1847, [(3, .int 0), (2, .ref 75), (1, .ref 0), (0, .ref x_scr)], [.int 1, .ref x_scr, .ref 75, .int (-2)], x_h0, 98, 10728)) rfl ?_
      refine x_R.steps 1 (c' := (1848, [(3, .int 0), (2, .ref 75), (1, .ref 0), (0, .ref x_scr)], [.int (xs 1), .ref 75, .int (-2)], x_h0, 98, 10728)) rfl ?_
      refine x_R.steps 4 (c' := (1852, [(3, .int 0), (2, .ref 75), (1, .ref 0), (0, .ref x_scr)], [.int 2, .ref x_scr, .int (xs 1), .ref 75, .int (-2)], x_h0, 98, 10728)) rfl ?_
      refine x_R.steps 1 (c' := (1853, [(3, .int 0), (2, .ref 75), (1, .ref 0), (0, .ref x_scr)], [.int (xs 2), .int (xs 1), .ref 75, .int (-2)], x_h0, 98, 10728)) rfl ?_
      refine x_R.call (a := 337) (vs := [.ref 75, .int (xs 1), .int (xs 2)]) (rest := [.int (-2)]) (M' := M_cX12_paint) rfl rfl rfl ?_
      refine x_R.steps 2 (c' := (2, [(0, .ref 75), (1, .int (xs 1)), (2, .int (xs 2))], [.int (xs 1), .ref 75], x_h0, 0, 0)) rfl ?_
      refine x_R.call (a := 204) (vs := [.ref 75, .int (xs 1)]) (rest := []) (M' := M_cX12_isComing) rfl rfl rfl ?_
      refine x_R.steps 6 (c' := (8, [(0, .ref 75), (1, .int (xs 1))], [.int 5, .ref 76, .long 0, .long ((xs 1)).toInt64], x_h0, 0, 0)) rfl ?_
      refine x_R.steps 1 (c' := (9, [(0, .ref 75), (1, .int (xs 1))], [.int 0, .long 0, .long ((xs 1)).toInt64], x_h0, 0, 0)) rfl ?_
      refine x_R.steps 3 (c' := (12, [(0, .ref 75), (1, .int (xs 1))], [.long (-1), .long 0, .long ((xs 1)).toInt64], x_h0, 0, 0)) rfl ?_
      refine x_R.call (a := 196) (vs := [.long ((xs 1)).toInt64, .long 0, .long (-1)]) (rest := []) (M' := M_cX12_in) rfl rfl rfl ?_
      refine x_R.steps 3 (c' := (3, [(0, .long ((xs 1)).toInt64), (2, .long 0), (4, .long (-1))], [.int (lg_cmp ((xs 1)).toInt64 0)], x_h0, 0, 0)) rfl ?_
      refine x_R.ite (p := (lg_cmp ((xs 1)).toInt64 0) < (0 : Int32)) (c1 := (17, [(0, .long ((xs 1)).toInt64), (2, .long 0), (4, .long (-1))], [], x_h0, 0, 0)) (c2 := (6, [(0, .long ((xs 1)).toInt64), (2, .long 0), (4, .long (-1))], [], x_h0, 0, 0)) rfl (fun h4 => ?_) (fun h4 => ?_)
      · have g4 := (x_lg_lt (C := 0) (by decide)).mp h4
        exfalso; omega
      · have g4 := mt (x_lg_lt (C := 0) (by decide)).mpr h4
        refine x_R.steps 3 (c' := (10, [(0, .long ((xs 1)).toInt64), (2, .long 0), (4, .long (-1))], [.int (lg_cmp ((xs 1)).toInt64 (-1))], x_h0, 0, 0)) rfl ?_
        refine x_R.ite (p := (0 : Int32) < (lg_cmp ((xs 1)).toInt64 (-1))) (c1 := (17, [(0, .long ((xs 1)).toInt64), (2, .long 0), (4, .long (-1))], [], x_h0, 0, 0)) (c2 := (13, [(0, .long ((xs 1)).toInt64), (2, .long 0), (4, .long (-1))], [], x_h0, 0, 0)) rfl (fun h5 => ?_) (fun h5 => ?_)
        · have g5 := (x_lg_gt (C := -1) (by decide)).mp h5
          refine x_R.steps 1 (c' := (18, [(0, .long ((xs 1)).toInt64), (2, .long 0), (4, .long (-1))], [.int 0], x_h0, 0, 0)) rfl ?_
          refine x_R.ret (v := some (.int 0)) rfl ?_
          refine x_R.steps 0 (c' := (15, [(0, .ref 75), (1, .int (xs 1))], [.int 0], x_h0, 0, 0)) rfl ?_
          refine x_R.ret (v := some (.int 0)) rfl ?_
          refine x_R.steps 0 (c' := (5, [(0, .ref 75), (1, .int (xs 1)), (2, .int (xs 2))], [.int 0], x_h0, 0, 0)) rfl ?_
          refine x_R.steps 1 (c' := (28, [(0, .ref 75), (1, .int (xs 1)), (2, .int (xs 2))], [], x_h0, 0, 0)) rfl ?_
          refine x_R.steps 1 (c' := (30, [(0, .ref 75), (1, .int (xs 1)), (2, .int (xs 2))], [.int (-2)], x_h0, 0, 0)) rfl ?_
          refine x_R.ret (v := some (.int (-2))) rfl ?_
          refine x_R.steps 0 (c' := (1856, [(3, .int 0), (2, .ref 75), (1, .ref 0), (0, .ref x_scr)], [.int (-2), .int (-2)], x_h0, 98, 10728)) rfl ?_
          refine x_R.steps 1 (c' := (2370, [(3, .int 0), (2, .ref 75), (1, .ref 0), (0, .ref x_scr)], [], x_h0, 98, 10728)) rfl ?_
          refine x_R.steps 7 (c' := (24, [(3, .int 6), (2, .ref 75), (1, .ref 0), (0, .ref x_scr)], [.int 0, .int 6], x_h0, 98, 10728)) rfl ?_
          refine x_R.steps 1 (c' := (2376, [(3, .int 6), (2, .ref 75), (1, .ref 0), (0, .ref x_scr)], [], x_h0, 98, 10728)) rfl ?_
          refine x_R.steps 1 (c' := (2377, [(3, .int 6), (2, .ref 75), (1, .ref 0), (0, .ref x_scr)], [.int 1], x_h0, 98, 10728)) rfl ?_
          exact x_R.ret (v := some (.int 1)) rfl x_fin
        · have g5 := mt (x_lg_gt (C := -1) (by decide)).mpr h5
          exfalso; omega
    · have g3 := mt (x_i_ge (C := 0) (by decide)).mpr h3
      exfalso; omega
set_option maxRecDepth 100000 in
set_option maxHeartbeats 4000000 in
theorem x_c57_0 (xs : Nat → Int32)  : x_R x_mt (some (6, xs)) 13 M_law (1861, [(3, .int 0), (2, .ref 75), (1, .ref 0), (0, .ref x_scr)], [], x_h0, 98, 10728) x_P := by
  refine x_R.steps 5 (c' := (1866, [(3, .int 0), (2, .ref 75), (1, .ref 0), (0, .ref x_scr)], [.int 1, .ref x_scr, .ref 0], x_h0, 98, 10728)) rfl ?_
  refine x_R.steps 1 (c' := (1867, [(3, .int 0), (2, .ref 75), (1, .ref 0), (0, .ref x_scr)], [.int (xs 1), .ref 0], x_h0, 98, 10728)) rfl ?_
  refine x_R.call (a := 171) (vs := [.ref 0, .int (xs 1)]) (rest := []) (M' := M_cX11_turn) rfl rfl rfl ?_
  refine x_R.steps 4 (c' := (8, [(0, .ref 0), (1, .int (xs 1))], [.int (xs 1), .ref 5], x_h0, 0, 0)) rfl ?_
  refine x_R.call (a := 31) (vs := [.ref 5, .int (xs 1)]) (rest := []) (M' := M_cX3_has) rfl rfl rfl ?_
  refine x_R.steps 1 (c' := (1, [(0, .ref 5), (1, .int (xs 1))], [.int (xs 1)], x_h0, 0, 0)) rfl ?_
  refine x_R.ite (p := (xs 1) < (0 : Int32)) (c1 := (16, [(0, .ref 5), (1, .int (xs 1))], [], x_h0, 0, 0)) (c2 := (4, [(0, .ref 5), (1, .int (xs 1))], [], x_h0, 0, 0)) rfl (fun h1 => ?_) (fun h1 => ?_)
  · have g1 := (x_i_lt (C := 0) (by decide)).mp h1
    refine x_R.steps 1 (c' := (17, [(0, .ref 5), (1, .int (xs 1))], [.int 0], x_h0, 0, 0)) rfl ?_
    refine x_R.ret (v := some (.int 0)) rfl ?_
    refine x_R.steps 0 (c' := (11, [(0, .ref 0), (1, .int (xs 1))], [.int 0], x_h0, 0, 0)) rfl ?_
    refine x_R.steps 1 (c' := (14, [(0, .ref 0), (1, .int (xs 1))], [], x_h0, 0, 0)) rfl ?_
    refine x_R.steps 1 (c' := (16, [(0, .ref 0), (1, .int (xs 1))], [.int (-2)], x_h0, 0, 0)) rfl ?_
    refine x_R.ret (v := some (.int (-2))) rfl ?_
    refine x_R.steps 0 (c' := (1870, [(3, .int 0), (2, .ref 75), (1, .ref 0), (0, .ref x_scr)], [.int (-2)], x_h0, 98, 10728)) rfl ?_
    refine x_R.steps 5 (c' := (1875, [(3, .int 0), (2, .ref 75), (1, .ref 0), (0, .ref x_scr)], [.int 1, .ref x_scr, .ref 75, .int (-2)], x_h0, 98, 10728)) rfl ?_
    refine x_R.steps 1 (c' := (1876, [(3, .int 0), (2, .ref 75), (1, .ref 0), (0, .ref x_scr)], [.int (xs 1), .ref 75, .int (-2)], x_h0, 98, 10728)) rfl ?_
    refine x_R.call (a := 338) (vs := [.ref 75, .int (xs 1)]) (rest := [.int (-2)]) (M' := M_cX12_turn) rfl rfl rfl ?_
    refine x_R.steps 2 (c' := (2, [(0, .ref 75), (1, .int (xs 1))], [.int (xs 1), .ref 75], x_h0, 0, 0)) rfl ?_
    refine x_R.call (a := 204) (vs := [.ref 75, .int (xs 1)]) (rest := []) (M' := M_cX12_isComing) rfl rfl rfl ?_
    refine x_R.steps 6 (c' := (8, [(0, .ref 75), (1, .int (xs 1))], [.int 5, .ref 76, .long 0, .long ((xs 1)).toInt64], x_h0, 0, 0)) rfl ?_
    refine x_R.steps 1 (c' := (9, [(0, .ref 75), (1, .int (xs 1))], [.int 0, .long 0, .long ((xs 1)).toInt64], x_h0, 0, 0)) rfl ?_
    refine x_R.steps 3 (c' := (12, [(0, .ref 75), (1, .int (xs 1))], [.long (-1), .long 0, .long ((xs 1)).toInt64], x_h0, 0, 0)) rfl ?_
    refine x_R.call (a := 196) (vs := [.long ((xs 1)).toInt64, .long 0, .long (-1)]) (rest := []) (M' := M_cX12_in) rfl rfl rfl ?_
    refine x_R.steps 3 (c' := (3, [(0, .long ((xs 1)).toInt64), (2, .long 0), (4, .long (-1))], [.int (lg_cmp ((xs 1)).toInt64 0)], x_h0, 0, 0)) rfl ?_
    refine x_R.ite (p := (lg_cmp ((xs 1)).toInt64 0) < (0 : Int32)) (c1 := (17, [(0, .long ((xs 1)).toInt64), (2, .long 0), (4, .long (-1))], [], x_h0, 0, 0)) (c2 := (6, [(0, .long ((xs 1)).toInt64), (2, .long 0), (4, .long (-1))], [], x_h0, 0, 0)) rfl (fun h2 => ?_) (fun h2 => ?_)
    · have g2 := (x_lg_lt (C := 0) (by decide)).mp h2
      refine x_R.steps 1 (c' := (18, [(0, .long ((xs 1)).toInt64), (2, .long 0), (4, .long (-1))], [.int 0], x_h0, 0, 0)) rfl ?_
      refine x_R.ret (v := some (.int 0)) rfl ?_
      refine x_R.steps 0 (c' := (15, [(0, .ref 75), (1, .int (xs 1))], [.int 0], x_h0, 0, 0)) rfl ?_
      refine x_R.ret (v := some (.int 0)) rfl ?_
      refine x_R.steps 0 (c' := (5, [(0, .ref 75), (1, .int (xs 1))], [.int 0], x_h0, 0, 0)) rfl ?_
      refine x_R.steps 1 (c' := (8, [(0, .ref 75), (1, .int (xs 1))], [], x_h0, 0, 0)) rfl ?_
      refine x_R.steps 1 (c' := (10, [(0, .ref 75), (1, .int (xs 1))], [.int (-2)], x_h0, 0, 0)) rfl ?_
      refine x_R.ret (v := some (.int (-2))) rfl ?_
      refine x_R.steps 0 (c' := (1879, [(3, .int 0), (2, .ref 75), (1, .ref 0), (0, .ref x_scr)], [.int (-2), .int (-2)], x_h0, 98, 10728)) rfl ?_
      refine x_R.steps 1 (c' := (2370, [(3, .int 0), (2, .ref 75), (1, .ref 0), (0, .ref x_scr)], [], x_h0, 98, 10728)) rfl ?_
      refine x_R.steps 7 (c' := (24, [(3, .int 6), (2, .ref 75), (1, .ref 0), (0, .ref x_scr)], [.int 0, .int 6], x_h0, 98, 10728)) rfl ?_
      refine x_R.steps 1 (c' := (2376, [(3, .int 6), (2, .ref 75), (1, .ref 0), (0, .ref x_scr)], [], x_h0, 98, 10728)) rfl ?_
      refine x_R.steps 1 (c' := (2377, [(3, .int 6), (2, .ref 75), (1, .ref 0), (0, .ref x_scr)], [.int 1], x_h0, 98, 10728)) rfl ?_
      exact x_R.ret (v := some (.int 1)) rfl x_fin
    · have g2 := mt (x_lg_lt (C := 0) (by decide)).mpr h2
      exfalso; omega
  · have g1 := mt (x_i_lt (C := 0) (by decide)).mpr h1
    refine x_R.steps 3 (c' := (9, [(0, .ref 5), (1, .int (xs 1))], [.int 0, .int (xs 1)], x_h0, 0, 0)) rfl ?_
    refine x_R.ite (p := (0 : Int32) ≤ (xs 1)) (c1 := (16, [(0, .ref 5), (1, .int (xs 1))], [], x_h0, 0, 0)) (c2 := (12, [(0, .ref 5), (1, .int (xs 1))], [], x_h0, 0, 0)) rfl (fun h3 => ?_) (fun h3 => ?_)
    · have g3 := (x_i_ge (C := 0) (by decide)).mp h3
      refine x_R.steps 1 (c' := (17, [(0, .ref 5), (1, .int (xs 1))], [.int 0], x_h0, 0, 0)) rfl ?_
      refine x_R.ret (v := some (.int 0)) rfl ?_
      refine x_R.steps 0 (c' := (11, [(0, .ref 0), (1, .int (xs 1))], [.int 0], x_h0, 0, 0)) rfl ?_
      refine x_R.steps 1 (c' := (14, [(0, .ref 0), (1, .int (xs 1))], [], x_h0, 0, 0)) rfl ?_
      refine x_R.steps 1 (c' := (16, [(0, .ref 0), (1, .int (xs 1))], [.int (-2)], x_h0, 0, 0)) rfl ?_
      refine x_R.ret (v := some (.int (-2))) rfl ?_
      refine x_R.steps 0 (c' := (1870, [(3, .int 0), (2, .ref 75), (1, .ref 0), (0, .ref x_scr)], [.int (-2)], x_h0, 98, 10728)) rfl ?_
      refine x_R.steps 5 (c' := (1875, [(3, .int 0), (2, .ref 75), (1, .ref 0), (0, .ref x_scr)], [.int 1, .ref x_scr, .ref 75, .int (-2)], x_h0, 98, 10728)) rfl ?_
      refine x_R.steps 1 (c' := (1876, [(3, .int 0), (2, .ref 75), (1, .ref 0), (0, .ref x_scr)], [.int (xs 1), .ref 75, .int (-2)], x_h0, 98, 10728)) rfl ?_
      refine x_R.call (a := 338) (vs := [.ref 75, .int (xs 1)]) (rest := [.int (-2)]) (M' := M_cX12_turn) rfl rfl rfl ?_
      refine x_R.steps 2 (c' := (2, [(0, .ref 75), (1, .int (xs 1))], [.int (xs 1), .ref 75], x_h0, 0, 0)) rfl ?_
      refine x_R.call (a := 204) (vs := [.ref 75, .int (xs 1)]) (rest := []) (M' := M_cX12_isComing) rfl rfl rfl ?_
      refine x_R.steps 6 (c' := (8, [(0, .ref 75), (1, .int (xs 1))], [.int 5, .ref 76, .long 0, .long ((xs 1)).toInt64], x_h0, 0, 0)) rfl ?_
      refine x_R.steps 1 (c' := (9, [(0, .ref 75), (1, .int (xs 1))], [.int 0, .long 0, .long ((xs 1)).toInt64], x_h0, 0, 0)) rfl ?_
      refine x_R.steps 3 (c' := (12, [(0, .ref 75), (1, .int (xs 1))], [.long (-1), .long 0, .long ((xs 1)).toInt64], x_h0, 0, 0)) rfl ?_
      refine x_R.call (a := 196) (vs := [.long ((xs 1)).toInt64, .long 0, .long (-1)]) (rest := []) (M' := M_cX12_in) rfl rfl rfl ?_
      refine x_R.steps 3 (c' := (3, [(0, .long ((xs 1)).toInt64), (2, .long 0), (4, .long (-1))], [.int (lg_cmp ((xs 1)).toInt64 0)], x_h0, 0, 0)) rfl ?_
      refine x_R.ite (p := (lg_cmp ((xs 1)).toInt64 0) < (0 : Int32)) (c1 := (17, [(0, .long ((xs 1)).toInt64), (2, .long 0), (4, .long (-1))], [], x_h0, 0, 0)) (c2 := (6, [(0, .long ((xs 1)).toInt64), (2, .long 0), (4, .long (-1))], [], x_h0, 0, 0)) rfl (fun h4 => ?_) (fun h4 => ?_)
      · have g4 := (x_lg_lt (C := 0) (by decide)).mp h4
        exfalso; omega
      · have g4 := mt (x_lg_lt (C := 0) (by decide)).mpr h4
        refine x_R.steps 3 (c' := (10, [(0, .long ((xs 1)).toInt64), (2, .long 0), (4, .long (-1))], [.int (lg_cmp ((xs 1)).toInt64 (-1))], x_h0, 0, 0)) rfl ?_
        refine x_R.ite (p := (0 : Int32) < (lg_cmp ((xs 1)).toInt64 (-1))) (c1 := (17, [(0, .long ((xs 1)).toInt64), (2, .long 0), (4, .long (-1))], [], x_h0, 0, 0)) (c2 := (13, [(0, .long ((xs 1)).toInt64), (2, .long 0), (4, .long (-1))], [], x_h0, 0, 0)) rfl (fun h5 => ?_) (fun h5 => ?_)
        · have g5 := (x_lg_gt (C := -1) (by decide)).mp h5
          refine x_R.steps 1 (c' := (18, [(0, .long ((xs 1)).toInt64), (2, .long 0), (4, .long (-1))], [.int 0], x_h0, 0, 0)) rfl ?_
          refine x_R.ret (v := some (.int 0)) rfl ?_
          refine x_R.steps 0 (c' := (15, [(0, .ref 75), (1, .int (xs 1))], [.int 0], x_h0, 0, 0)) rfl ?_
          refine x_R.ret (v := some (.int 0)) rfl ?_
          refine x_R.steps 0 (c' := (5, [(0, .ref 75), (1, .int (xs 1))], [.int 0], x_h0, 0, 0)) rfl ?_
          refine x_R.steps 1 (c' := (8, [(0, .ref 75), (1, .int (xs 1))], [], x_h0, 0, 0)) rfl ?_
          refine x_R.steps 1 (c' := (10, [(0, .ref 75), (1, .int (xs 1))], [.int (-2)], x_h0, 0, 0)) rfl ?_
          refine x_R.ret (v := some (.int (-2))) rfl ?_
          refine x_R.steps 0 (c' := (1879, [(3, .int 0), (2, .ref 75), (1, .ref 0), (0, .ref x_scr)], [.int (-2), .int (-2)], x_h0, 98, 10728)) rfl ?_
          refine x_R.steps 1 (c' := (2370, [(3, .int 0), (2, .ref 75), (1, .ref 0), (0, .ref x_scr)], [], x_h0, 98, 10728)) rfl ?_
          refine x_R.steps 7 (c' := (24, [(3, .int 6), (2, .ref 75), (1, .ref 0), (0, .ref x_scr)], [.int 0, .int 6], x_h0, 98, 10728)) rfl ?_
          refine x_R.steps 1 (c' := (2376, [(3, .int 6), (2, .ref 75), (1, .ref 0), (0, .ref x_scr)], [], x_h0, 98, 10728)) rfl ?_
          refine x_R.steps 1 (c' := (2377, [(3, .int 6), (2, .ref 75), (1, .ref 0), (0, .ref x_scr)], [.int 1], x_h0, 98, 10728)) rfl ?_
          exact x_R.ret (v := some (.int 1)) rfl x_fin
        · have g5 := mt (x_lg_gt (C := -1) (by decide)).mpr h5
          exfalso; omega
    · have g3 := mt (x_i_ge (C := 0) (by decide)).mpr h3
      exfalso; omega
set_option maxRecDepth 100000 in
set_option maxHeartbeats 4000000 in
theorem x_c58_0 (xs : Nat → Int32)  : x_R x_mt (some (6, xs)) 13 M_law (1884, [(3, .int 0), (2, .ref 75), (1, .ref 0), (0, .ref x_scr)], [], x_h0, 98, 10728) x_P := by
  refine x_R.steps 5 (c' := (1889, [(3, .int 0), (2, .ref 75), (1, .ref 0), (0, .ref x_scr)], [.int 1, .ref x_scr, .ref 0], x_h0, 98, 10728)) rfl ?_
  refine x_R.steps 1 (c' := (1890, [(3, .int 0), (2, .ref 75), (1, .ref 0), (0, .ref x_scr)], [.int (xs 1), .ref 0], x_h0, 98, 10728)) rfl ?_
  refine x_R.call (a := 139) (vs := [.ref 0, .int (xs 1)]) (rest := []) (M' := M_cX11_lucky) rfl rfl rfl ?_
  refine x_R.steps 3 (c' := (5, [(0, .ref 0), (1, .int (xs 1))], [.int (xs 1), .ref 1], x_h0, 0, 0)) rfl ?_
  refine x_R.call (a := 15) (vs := [.ref 1, .int (xs 1)]) (rest := []) (M' := M_cX2_isPlayer) rfl rfl rfl ?_
  refine x_R.steps 1 (c' := (1, [(0, .ref 1), (1, .int (xs 1))], [.int (xs 1)], x_h0, 0, 0)) rfl ?_
  refine x_R.ite (p := (xs 1) < (0 : Int32)) (c1 := (16, [(0, .ref 1), (1, .int (xs 1))], [], x_h0, 0, 0)) (c2 := (4, [(0, .ref 1), (1, .int (xs 1))], [], x_h0, 0, 0)) rfl (fun h1 => ?_) (fun h1 => ?_)
  · have g1 := (x_i_lt (C := 0) (by decide)).mp h1
    refine x_R.steps 1 (c' := (17, [(0, .ref 1), (1, .int (xs 1))], [.int 0], x_h0, 0, 0)) rfl ?_
    refine x_R.ret (v := some (.int 0)) rfl ?_
    refine x_R.steps 0 (c' := (8, [(0, .ref 0), (1, .int (xs 1))], [.int 0], x_h0, 0, 0)) rfl ?_
    refine x_R.steps 1 (c' := (11, [(0, .ref 0), (1, .int (xs 1))], [], x_h0, 0, 0)) rfl ?_
    refine x_R.steps 1 (c' := (13, [(0, .ref 0), (1, .int (xs 1))], [.int (-2)], x_h0, 0, 0)) rfl ?_
    refine x_R.ret (v := some (.int (-2))) rfl ?_
    refine x_R.steps 0 (c' := (1893, [(3, .int 0), (2, .ref 75), (1, .ref 0), (0, .ref x_scr)], [.int (-2)], x_h0, 98, 10728)) rfl ?_
    refine x_R.steps 5 (c' := (1898, [(3, .int 0), (2, .ref 75), (1, .ref 0), (0, .ref x_scr)], [.int 1, .ref x_scr, .ref 75, .int (-2)], x_h0, 98, 10728)) rfl ?_
    refine x_R.steps 1 (c' := (1899, [(3, .int 0), (2, .ref 75), (1, .ref 0), (0, .ref x_scr)], [.int (xs 1), .ref 75, .int (-2)], x_h0, 98, 10728)) rfl ?_
    refine x_R.call (a := 339) (vs := [.ref 75, .int (xs 1)]) (rest := [.int (-2)]) (M' := M_cX12_lucky) rfl rfl rfl ?_
    refine x_R.steps 2 (c' := (2, [(0, .ref 75), (1, .int (xs 1))], [.int (xs 1), .ref 75], x_h0, 0, 0)) rfl ?_
    refine x_R.call (a := 205) (vs := [.ref 75, .int (xs 1)]) (rest := []) (M' := M_cX12_isPlayer) rfl rfl rfl ?_
    refine x_R.steps 6 (c' := (9, [(0, .ref 75), (1, .int (xs 1))], [.int 6, .ref 76, .long 0, .long ((xs 1)).toInt64], x_h0, 0, 0)) rfl ?_
    refine x_R.steps 1 (c' := (10, [(0, .ref 75), (1, .int (xs 1))], [.int 0, .long 0, .long ((xs 1)).toInt64], x_h0, 0, 0)) rfl ?_
    refine x_R.steps 3 (c' := (13, [(0, .ref 75), (1, .int (xs 1))], [.long (-1), .long 0, .long ((xs 1)).toInt64], x_h0, 0, 0)) rfl ?_
    refine x_R.call (a := 196) (vs := [.long ((xs 1)).toInt64, .long 0, .long (-1)]) (rest := []) (M' := M_cX12_in) rfl rfl rfl ?_
    refine x_R.steps 3 (c' := (3, [(0, .long ((xs 1)).toInt64), (2, .long 0), (4, .long (-1))], [.int (lg_cmp ((xs 1)).toInt64 0)], x_h0, 0, 0)) rfl ?_
    refine x_R.ite (p := (lg_cmp ((xs 1)).toInt64 0) < (0 : Int32)) (c1 := (17, [(0, .long ((xs 1)).toInt64), (2, .long 0), (4, .long (-1))], [], x_h0, 0, 0)) (c2 := (6, [(0, .long ((xs 1)).toInt64), (2, .long 0), (4, .long (-1))], [], x_h0, 0, 0)) rfl (fun h2 => ?_) (fun h2 => ?_)
    · have g2 := (x_lg_lt (C := 0) (by decide)).mp h2
      refine x_R.steps 1 (c' := (18, [(0, .long ((xs 1)).toInt64), (2, .long 0), (4, .long (-1))], [.int 0], x_h0, 0, 0)) rfl ?_
      refine x_R.ret (v := some (.int 0)) rfl ?_
      refine x_R.steps 0 (c' := (16, [(0, .ref 75), (1, .int (xs 1))], [.int 0], x_h0, 0, 0)) rfl ?_
      refine x_R.ret (v := some (.int 0)) rfl ?_
      refine x_R.steps 0 (c' := (5, [(0, .ref 75), (1, .int (xs 1))], [.int 0], x_h0, 0, 0)) rfl ?_
      refine x_R.steps 1 (c' := (8, [(0, .ref 75), (1, .int (xs 1))], [], x_h0, 0, 0)) rfl ?_
      refine x_R.steps 1 (c' := (10, [(0, .ref 75), (1, .int (xs 1))], [.int (-2)], x_h0, 0, 0)) rfl ?_
      refine x_R.ret (v := some (.int (-2))) rfl ?_
      refine x_R.steps 0 (c' := (1902, [(3, .int 0), (2, .ref 75), (1, .ref 0), (0, .ref x_scr)], [.int (-2), .int (-2)], x_h0, 98, 10728)) rfl ?_
      refine x_R.steps 1 (c' := (2370, [(3, .int 0), (2, .ref 75), (1, .ref 0), (0, .ref x_scr)], [], x_h0, 98, 10728)) rfl ?_
      refine x_R.steps 7 (c' := (24, [(3, .int 6), (2, .ref 75), (1, .ref 0), (0, .ref x_scr)], [.int 0, .int 6], x_h0, 98, 10728)) rfl ?_
      refine x_R.steps 1 (c' := (2376, [(3, .int 6), (2, .ref 75), (1, .ref 0), (0, .ref x_scr)], [], x_h0, 98, 10728)) rfl ?_
      refine x_R.steps 1 (c' := (2377, [(3, .int 6), (2, .ref 75), (1, .ref 0), (0, .ref x_scr)], [.int 1], x_h0, 98, 10728)) rfl ?_
      exact x_R.ret (v := some (.int 1)) rfl x_fin
    · have g2 := mt (x_lg_lt (C := 0) (by decide)).mpr h2
      exfalso; omega
  · have g1 := mt (x_i_lt (C := 0) (by decide)).mpr h1
    refine x_R.steps 3 (c' := (9, [(0, .ref 1), (1, .int (xs 1))], [.int 0, .int (xs 1)], x_h0, 0, 0)) rfl ?_
    refine x_R.ite (p := (0 : Int32) ≤ (xs 1)) (c1 := (16, [(0, .ref 1), (1, .int (xs 1))], [], x_h0, 0, 0)) (c2 := (12, [(0, .ref 1), (1, .int (xs 1))], [], x_h0, 0, 0)) rfl (fun h3 => ?_) (fun h3 => ?_)
    · have g3 := (x_i_ge (C := 0) (by decide)).mp h3
      refine x_R.steps 1 (c' := (17, [(0, .ref 1), (1, .int (xs 1))], [.int 0], x_h0, 0, 0)) rfl ?_
      refine x_R.ret (v := some (.int 0)) rfl ?_
      refine x_R.steps 0 (c' := (8, [(0, .ref 0), (1, .int (xs 1))], [.int 0], x_h0, 0, 0)) rfl ?_
      refine x_R.steps 1 (c' := (11, [(0, .ref 0), (1, .int (xs 1))], [], x_h0, 0, 0)) rfl ?_
      refine x_R.steps 1 (c' := (13, [(0, .ref 0), (1, .int (xs 1))], [.int (-2)], x_h0, 0, 0)) rfl ?_
      refine x_R.ret (v := some (.int (-2))) rfl ?_
      refine x_R.steps 0 (c' := (1893, [(3, .int 0), (2, .ref 75), (1, .ref 0), (0, .ref x_scr)], [.int (-2)], x_h0, 98, 10728)) rfl ?_
      refine x_R.steps 5 (c' := (1898, [(3, .int 0), (2, .ref 75), (1, .ref 0), (0, .ref x_scr)], [.int 1, .ref x_scr, .ref 75, .int (-2)], x_h0, 98, 10728)) rfl ?_
      refine x_R.steps 1 (c' := (1899, [(3, .int 0), (2, .ref 75), (1, .ref 0), (0, .ref x_scr)], [.int (xs 1), .ref 75, .int (-2)], x_h0, 98, 10728)) rfl ?_
      refine x_R.call (a := 339) (vs := [.ref 75, .int (xs 1)]) (rest := [.int (-2)]) (M' := M_cX12_lucky) rfl rfl rfl ?_
      refine x_R.steps 2 (c' := (2, [(0, .ref 75), (1, .int (xs 1))], [.int (xs 1), .ref 75], x_h0, 0, 0)) rfl ?_
      refine x_R.call (a := 205) (vs := [.ref 75, .int (xs 1)]) (rest := []) (M' := M_cX12_isPlayer) rfl rfl rfl ?_
      refine x_R.steps 6 (c' := (9, [(0, .ref 75), (1, .int (xs 1))], [.int 6, .ref 76, .long 0, .long ((xs 1)).toInt64], x_h0, 0, 0)) rfl ?_
      refine x_R.steps 1 (c' := (10, [(0, .ref 75), (1, .int (xs 1))], [.int 0, .long 0, .long ((xs 1)).toInt64], x_h0, 0, 0)) rfl ?_
      refine x_R.steps 3 (c' := (13, [(0, .ref 75), (1, .int (xs 1))], [.long (-1), .long 0, .long ((xs 1)).toInt64], x_h0, 0, 0)) rfl ?_
      refine x_R.call (a := 196) (vs := [.long ((xs 1)).toInt64, .long 0, .long (-1)]) (rest := []) (M' := M_cX12_in) rfl rfl rfl ?_
      refine x_R.steps 3 (c' := (3, [(0, .long ((xs 1)).toInt64), (2, .long 0), (4, .long (-1))], [.int (lg_cmp ((xs 1)).toInt64 0)], x_h0, 0, 0)) rfl ?_
      refine x_R.ite (p := (lg_cmp ((xs 1)).toInt64 0) < (0 : Int32)) (c1 := (17, [(0, .long ((xs 1)).toInt64), (2, .long 0), (4, .long (-1))], [], x_h0, 0, 0)) (c2 := (6, [(0, .long ((xs 1)).toInt64), (2, .long 0), (4, .long (-1))], [], x_h0, 0, 0)) rfl (fun h4 => ?_) (fun h4 => ?_)
      · have g4 := (x_lg_lt (C := 0) (by decide)).mp h4
        exfalso; omega
      · have g4 := mt (x_lg_lt (C := 0) (by decide)).mpr h4
        refine x_R.steps 3 (c' := (10, [(0, .long ((xs 1)).toInt64), (2, .long 0), (4, .long (-1))], [.int (lg_cmp ((xs 1)).toInt64 (-1))], x_h0, 0, 0)) rfl ?_
        refine x_R.ite (p := (0 : Int32) < (lg_cmp ((xs 1)).toInt64 (-1))) (c1 := (17, [(0, .long ((xs 1)).toInt64), (2, .long 0), (4, .long (-1))], [], x_h0, 0, 0)) (c2 := (13, [(0, .long ((xs 1)).toInt64), (2, .long 0), (4, .long (-1))], [], x_h0, 0, 0)) rfl (fun h5 => ?_) (fun h5 => ?_)
        · have g5 := (x_lg_gt (C := -1) (by decide)).mp h5
          refine x_R.steps 1 (c' := (18, [(0, .long ((xs 1)).toInt64), (2, .long 0), (4, .long (-1))], [.int 0], x_h0, 0, 0)) rfl ?_
          refine x_R.ret (v := some (.int 0)) rfl ?_
          refine x_R.steps 0 (c' := (16, [(0, .ref 75), (1, .int (xs 1))], [.int 0], x_h0, 0, 0)) rfl ?_
          refine x_R.ret (v := some (.int 0)) rfl ?_
          refine x_R.steps 0 (c' := (5, [(0, .ref 75), (1, .int (xs 1))], [.int 0], x_h0, 0, 0)) rfl ?_
          refine x_R.steps 1 (c' := (8, [(0, .ref 75), (1, .int (xs 1))], [], x_h0, 0, 0)) rfl ?_
          refine x_R.steps 1 (c' := (10, [(0, .ref 75), (1, .int (xs 1))], [.int (-2)], x_h0, 0, 0)) rfl ?_
          refine x_R.ret (v := some (.int (-2))) rfl ?_
          refine x_R.steps 0 (c' := (1902, [(3, .int 0), (2, .ref 75), (1, .ref 0), (0, .ref x_scr)], [.int (-2), .int (-2)], x_h0, 98, 10728)) rfl ?_
          refine x_R.steps 1 (c' := (2370, [(3, .int 0), (2, .ref 75), (1, .ref 0), (0, .ref x_scr)], [], x_h0, 98, 10728)) rfl ?_
          refine x_R.steps 7 (c' := (24, [(3, .int 6), (2, .ref 75), (1, .ref 0), (0, .ref x_scr)], [.int 0, .int 6], x_h0, 98, 10728)) rfl ?_
          refine x_R.steps 1 (c' := (2376, [(3, .int 6), (2, .ref 75), (1, .ref 0), (0, .ref x_scr)], [], x_h0, 98, 10728)) rfl ?_
          refine x_R.steps 1 (c' := (2377, [(3, .int 6), (2, .ref 75), (1, .ref 0), (0, .ref x_scr)], [.int 1], x_h0, 98, 10728)) rfl ?_
          exact x_R.ret (v := some (.int 1)) rfl x_fin
        · have g5 := mt (x_lg_gt (C := -1) (by decide)).mpr h5
          exfalso; omega
    · have g3 := mt (x_i_ge (C := 0) (by decide)).mpr h3
      exfalso; omega
set_option maxRecDepth 100000 in
set_option maxHeartbeats 4000000 in
theorem x_c59_0 (xs : Nat → Int32)  : x_R x_mt (some (6, xs)) 13 M_law (1907, [(3, .int 0), (2, .ref 75), (1, .ref 0), (0, .ref x_scr)], [], x_h0, 98, 10728) x_P := by
  refine x_R.steps 5 (c' := (1912, [(3, .int 0), (2, .ref 75), (1, .ref 0), (0, .ref x_scr)], [.int 1, .ref x_scr, .ref 0], x_h0, 98, 10728)) rfl ?_
  refine x_R.steps 1 (c' := (1913, [(3, .int 0), (2, .ref 75), (1, .ref 0), (0, .ref x_scr)], [.int (xs 1), .ref 0], x_h0, 98, 10728)) rfl ?_
  refine x_R.steps 4 (c' := (1917, [(3, .int 0), (2, .ref 75), (1, .ref 0), (0, .ref x_scr)], [.int 2, .ref x_scr, .int (xs 1), .ref 0], x_h0, 98, 10728)) rfl ?_
  refine x_R.steps 1 (c' := (1918, [(3, .int 0), (2, .ref 75), (1, .ref 0), (0, .ref x_scr)], [.int (xs 2), .int (xs 1), .ref 0], x_h0, 98, 10728)) rfl ?_
  refine x_R.call (a := 172) (vs := [.ref 0, .int (xs 1), .int (xs 2)]) (rest := []) (M' := M_cX11_shut) rfl rfl rfl ?_
  refine x_R.steps 3 (c' := (5, [(0, .ref 0), (1, .int (xs 1)), (2, .int (xs 2))], [.int (xs 1), .ref 1], x_h0, 0, 0)) rfl ?_
  refine x_R.call (a := 13) (vs := [.ref 1, .int (xs 1)]) (rest := []) (M' := M_cX2_isHole) rfl rfl rfl ?_
  refine x_R.steps 1 (c' := (1, [(0, .ref 1), (1, .int (xs 1))], [.int (xs 1)], x_h0, 0, 0)) rfl ?_
  refine x_R.ite (p := (xs 1) < (0 : Int32)) (c1 := (16, [(0, .ref 1), (1, .int (xs 1))], [], x_h0, 0, 0)) (c2 := (4, [(0, .ref 1), (1, .int (xs 1))], [], x_h0, 0, 0)) rfl (fun h1 => ?_) (fun h1 => ?_)
  · have g1 := (x_i_lt (C := 0) (by decide)).mp h1
    refine x_R.steps 1 (c' := (17, [(0, .ref 1), (1, .int (xs 1))], [.int 0], x_h0, 0, 0)) rfl ?_
    refine x_R.ret (v := some (.int 0)) rfl ?_
    refine x_R.steps 0 (c' := (8, [(0, .ref 0), (1, .int (xs 1)), (2, .int (xs 2))], [.int 0], x_h0, 0, 0)) rfl ?_
    refine x_R.steps 1 (c' := (34, [(0, .ref 0), (1, .int (xs 1)), (2, .int (xs 2))], [], x_h0, 0, 0)) rfl ?_
    refine x_R.steps 1 (c' := (36, [(0, .ref 0), (1, .int (xs 1)), (2, .int (xs 2))], [.int (-2)], x_h0, 0, 0)) rfl ?_
    refine x_R.ret (v := some (.int (-2))) rfl ?_
    refine x_R.steps 0 (c' := (1921, [(3, .int 0), (2, .ref 75), (1, .ref 0), (0, .ref x_scr)], [.int (-2)], x_h0, 98, 10728)) rfl ?_
    refine x_R.steps 5 (c' := (1926, [(3, .int 0), (2, .ref 75), (1, .ref 0), (0, .ref x_scr)], [.int 1, .ref x_scr, .ref 75, .int (-2)], x_h0, 98, 10728)) rfl ?_
    refine x_R.steps 1 (c' := (1927, [(3, .int 0), (2, .ref 75), (1, .ref 0), (0, .ref x_scr)], [.int (xs 1), .ref 75, .int (-2)], x_h0, 98, 10728)) rfl ?_
    refine x_R.steps 4 (c' := (1931, [(3, .int 0), (2, .ref 75), (1, .ref 0), (0, .ref x_scr)], [.int 2, .ref x_scr, .int (xs 1), .ref 75, .int (-2)], x_h0, 98, 10728)) rfl ?_
    refine x_R.steps 1 (c' := (1932, [(3, .int 0), (2, .ref 75), (1, .ref 0), (0, .ref x_scr)], [.int (xs 2), .int (xs 1), .ref 75, .int (-2)], x_h0, 98, 10728)) rfl ?_
    refine x_R.call (a := 340) (vs := [.ref 75, .int (xs 1), .int (xs 2)]) (rest := [.int (-2)]) (M' := M_cX12_shut) rfl rfl rfl ?_
    refine x_R.steps 3 (c' := (3, [(0, .ref 75), (1, .int (xs 1)), (2, .int (xs 2))], [.long ((xs 1)).toInt64, .ref 75], x_h0, 0, 0)) rfl ?_
    refine x_R.call (a := 201) (vs := [.ref 75, .long ((xs 1)).toInt64]) (rest := []) (M' := M_cX12_isHole) rfl rfl rfl ?_
    refine x_R.steps 3 (c' := (3, [(0, .ref 75), (1, .long ((xs 1)).toInt64)], [.ref 75, .long 0, .long ((xs 1)).toInt64], x_h0, 0, 0)) rfl ?_
    refine x_R.call (a := 200) (vs := [.ref 75]) (rest := [.long 0, .long ((xs 1)).toInt64]) (M' := M_cX12_holes) rfl rfl rfl ?_
    refine x_R.steps 3 (c' := (5, [(0, .ref 75)], [.int 0, .ref 76], x_h0, 0, 0)) rfl ?_
    refine x_R.steps 1 (c' := (6, [(0, .ref 75)], [.int 0], x_h0, 0, 0)) rfl ?_
    refine x_R.steps 3 (c' := (11, [(0, .ref 75)], [.int 1, .ref 76, .int 0], x_h0, 0, 0)) rfl ?_
    refine x_R.steps 1 (c' := (12, [(0, .ref 75)], [.int 0, .int 0], x_h0, 0, 0)) rfl ?_
    refine x_R.steps 1 (c' := (13, [(0, .ref 75)], [.int 0], x_h0, 0, 0)) rfl ?_
    refine x_R.ret (v := some (.int 0)) rfl ?_
    refine x_R.steps 0 (c' := (6, [(0, .ref 75), (1, .long ((xs 1)).toInt64)], [.int 0, .long 0, .long ((xs 1)).toInt64], x_h0, 0, 0)) rfl ?_
    refine x_R.steps 3 (c' := (9, [(0, .ref 75), (1, .long ((xs 1)).toInt64)], [.long (-1), .long 0, .long ((xs 1)).toInt64], x_h0, 0, 0)) rfl ?_
    refine x_R.call (a := 196) (vs := [.long ((xs 1)).toInt64, .long 0, .long (-1)]) (rest := []) (M' := M_cX12_in) rfl rfl rfl ?_
    refine x_R.steps 3 (c' := (3, [(0, .long ((xs 1)).toInt64), (2, .long 0), (4, .long (-1))], [.int (lg_cmp ((xs 1)).toInt64 0)], x_h0, 0, 0)) rfl ?_
    refine x_R.ite (p := (lg_cmp ((xs 1)).toInt64 0) < (0 : Int32)) (c1 := (17, [(0, .long ((xs 1)).toInt64), (2, .long 0), (4, .long (-1))], [], x_h0, 0, 0)) (c2 := (6, [(0, .long ((xs 1)).toInt64), (2, .long 0), (4, .long (-1))], [], x_h0, 0, 0)) rfl (fun h2 => ?_) (fun h2 => ?_)
    · have g2 := (x_lg_lt (C := 0) (by decide)).mp h2
      refine x_R.steps 1 (c' := (18, [(0, .long ((xs 1)).toInt64), (2, .long 0), (4, .long (-1))], [.int 0], x_h0, 0, 0)) rfl ?_
      refine x_R.ret (v := some (.int 0)) rfl ?_
      refine x_R.steps 0 (c' := (12, [(0, .ref 75), (1, .long ((xs 1)).toInt64)], [.int 0], x_h0, 0, 0)) rfl ?_
      refine x_R.ret (v := some (.int 0)) rfl ?_
      refine x_R.steps 0 (c' := (6, [(0, .ref 75), (1, .int (xs 1)), (2, .int (xs 2))], [.int 0], x_h0, 0, 0)) rfl ?_
      refine x_R.steps 1 (c' := (27, [(0, .ref 75), (1, .int (xs 1)), (2, .int (xs 2))], [], x_h0, 0, 0)) rfl ?_
      refine x_R.steps 1 (c' := (29, [(0, .ref 75), (1, .int (xs 1)), (2, .int (xs 2))], [.int (-2)], x_h0, 0, 0)) rfl ?_
      refine x_R.ret (v := some (.int (-2))) rfl ?_
      refine x_R.steps 0 (c' := (1935, [(3, .int 0), (2, .ref 75), (1, .ref 0), (0, .ref x_scr)], [.int (-2), .int (-2)], x_h0, 98, 10728)) rfl ?_
      refine x_R.steps 1 (c' := (2370, [(3, .int 0), (2, .ref 75), (1, .ref 0), (0, .ref x_scr)], [], x_h0, 98, 10728)) rfl ?_
      refine x_R.steps 7 (c' := (24, [(3, .int 6), (2, .ref 75), (1, .ref 0), (0, .ref x_scr)], [.int 0, .int 6], x_h0, 98, 10728)) rfl ?_
      refine x_R.steps 1 (c' := (2376, [(3, .int 6), (2, .ref 75), (1, .ref 0), (0, .ref x_scr)], [], x_h0, 98, 10728)) rfl ?_
      refine x_R.steps 1 (c' := (2377, [(3, .int 6), (2, .ref 75), (1, .ref 0), (0, .ref x_scr)], [.int 1], x_h0, 98, 10728)) rfl ?_
      exact x_R.ret (v := some (.int 1)) rfl x_fin
    · have g2 := mt (x_lg_lt (C := 0) (by decide)).mpr h2
      exfalso; omega
  · have g1 := mt (x_i_lt (C := 0) (by decide)).mpr h1
    refine x_R.steps 2 (c' := (6, [(0, .ref 1), (1, .int (xs 1))], [.ref 1, .int (xs 1)], x_h0, 0, 0)) rfl ?_
    refine x_R.call (a := 12) (vs := [.ref 1]) (rest := [.int (xs 1)]) (M' := M_cX2_holes) rfl rfl rfl ?_
    refine x_R.steps 5 (c' := (9, [(0, .ref 1)], [.int 0], x_h0, 0, 0)) rfl ?_
    refine x_R.ret (v := some (.int 0)) rfl ?_
    refine x_R.steps 0 (c' := (9, [(0, .ref 1), (1, .int (xs 1))], [.int 0, .int (xs 1)], x_h0, 0, 0)) rfl ?_
    refine x_R.ite (p := (0 : Int32) ≤ (xs 1)) (c1 := (16, [(0, .ref 1), (1, .int (xs 1))], [], x_h0, 0, 0)) (c2 := (12, [(0, .ref 1), (1, .int (xs 1))], [], x_h0, 0, 0)) rfl (fun h3 => ?_) (fun h3 => ?_)
    · have g3 := (x_i_ge (C := 0) (by decide)).mp h3
      refine x_R.steps 1 (c' := (17, [(0, .ref 1), (1, .int (xs 1))], [.int 0], x_h0, 0, 0)) rfl ?_
      refine x_R.ret (v := some (.int 0)) rfl ?_
      refine x_R.steps 0 (c' := (8, [(0, .ref 0), (1, .int (xs 1)), (2, .int (xs 2))], [.int 0], x_h0, 0, 0)) rfl ?_
      refine x_R.steps 1 (c' := (34, [(0, .ref 0), (1, .int (xs 1)), (2, .int (xs 2))], [], x_h0, 0, 0)) rfl ?_
      refine x_R.steps 1 (c' := (36, [(0, .ref 0), (1, .int (xs 1)), (2, .int (xs 2))], [.int (-2)], x_h0, 0, 0)) rfl ?_
      refine x_R.ret (v := some (.int (-2))) rfl ?_
      refine x_R.steps 0 (c' := (1921, [(3, .int 0), (2, .ref 75), (1, .ref 0), (0, .ref x_scr)], [.int (-2)], x_h0, 98, 10728)) rfl ?_
      refine x_R.steps 5 (c' := (1926, [(3, .int 0), (2, .ref 75), (1, .ref 0), (0, .ref x_scr)], [.int 1, .ref x_scr, .ref 75, .int (-2)], x_h0, 98, 10728)) rfl ?_
      refine x_R.steps 1 (c' := (1927, [(3, .int 0), (2, .ref 75), (1, .ref 0), (0, .ref x_scr)], [.int (xs 1), .ref 75, .int (-2)], x_h0, 98, 10728)) rfl ?_
      refine x_R.steps 4 (c' := (1931, [(3, .int 0), (2, .ref 75), (1, .ref 0), (0, .ref x_scr)], [.int 2, .ref x_scr, .int (xs 1), .ref 75, .int (-2)], x_h0, 98, 10728)) rfl ?_
      refine x_R.steps 1 (c' := (1932, [(3, .int 0), (2, .ref 75), (1, .ref 0), (0, .ref x_scr)], [.int (xs 2), .int (xs 1), .ref 75, .int (-2)], x_h0, 98, 10728)) rfl ?_
      refine x_R.call (a := 340) (vs := [.ref 75, .int (xs 1), .int (xs 2)]) (rest := [.int (-2)]) (M' := M_cX12_shut) rfl rfl rfl ?_
      refine x_R.steps 3 (c' := (3, [(0, .ref 75), (1, .int (xs 1)), (2, .int (xs 2))], [.long ((xs 1)).toInt64, .ref 75], x_h0, 0, 0)) rfl ?_
      refine x_R.call (a := 201) (vs := [.ref 75, .long ((xs 1)).toInt64]) (rest := []) (M' := M_cX12_isHole) rfl rfl rfl ?_
      refine x_R.steps 3 (c' := (3, [(0, .ref 75), (1, .long ((xs 1)).toInt64)], [.ref 75, .long 0, .long ((xs 1)).toInt64], x_h0, 0, 0)) rfl ?_
      refine x_R.call (a := 200) (vs := [.ref 75]) (rest := [.long 0, .long ((xs 1)).toInt64]) (M' := M_cX12_holes) rfl rfl rfl ?_
      refine x_R.steps 3 (c' := (5, [(0, .ref 75)], [.int 0, .ref 76], x_h0, 0, 0)) rfl ?_
      refine x_R.steps 1 (c' := (6, [(0, .ref 75)], [.int 0], x_h0, 0, 0)) rfl ?_
      refine x_R.steps 3 (c' := (11, [(0, .ref 75)], [.int 1, .ref 76, .int 0], x_h0, 0, 0)) rfl ?_
      refine x_R.steps 1 (c' := (12, [(0, .ref 75)], [.int 0, .int 0], x_h0, 0, 0)) rfl ?_
      refine x_R.steps 1 (c' := (13, [(0, .ref 75)], [.int 0], x_h0, 0, 0)) rfl ?_
      refine x_R.ret (v := some (.int 0)) rfl ?_
      refine x_R.steps 0 (c' := (6, [(0, .ref 75), (1, .long ((xs 1)).toInt64)], [.int 0, .long 0, .long ((xs 1)).toInt64], x_h0, 0, 0)) rfl ?_
      refine x_R.steps 3 (c' := (9, [(0, .ref 75), (1, .long ((xs 1)).toInt64)], [.long (-1), .long 0, .long ((xs 1)).toInt64], x_h0, 0, 0)) rfl ?_
      refine x_R.call (a := 196) (vs := [.long ((xs 1)).toInt64, .long 0, .long (-1)]) (rest := []) (M' := M_cX12_in) rfl rfl rfl ?_
      refine x_R.steps 3 (c' := (3, [(0, .long ((xs 1)).toInt64), (2, .long 0), (4, .long (-1))], [.int (lg_cmp ((xs 1)).toInt64 0)], x_h0, 0, 0)) rfl ?_
      refine x_R.ite (p := (lg_cmp ((xs 1)).toInt64 0) < (0 : Int32)) (c1 := (17, [(0, .long ((xs 1)).toInt64), (2, .long 0), (4, .long (-1))], [], x_h0, 0, 0)) (c2 := (6, [(0, .long ((xs 1)).toInt64), (2, .long 0), (4, .long (-1))], [], x_h0, 0, 0)) rfl (fun h4 => ?_) (fun h4 => ?_)
      · have g4 := (x_lg_lt (C := 0) (by decide)).mp h4
        exfalso; omega
      · have g4 := mt (x_lg_lt (C := 0) (by decide)).mpr h4
        refine x_R.steps 3 (c' := (10, [(0, .long ((xs 1)).toInt64), (2, .long 0), (4, .long (-1))], [.int (lg_cmp ((xs 1)).toInt64 (-1))], x_h0, 0, 0)) rfl ?_
        refine x_R.ite (p := (0 : Int32) < (lg_cmp ((xs 1)).toInt64 (-1))) (c1 := (17, [(0, .long ((xs 1)).toInt64), (2, .long 0), (4, .long (-1))], [], x_h0, 0, 0)) (c2 := (13, [(0, .long ((xs 1)).toInt64), (2, .long 0), (4, .long (-1))], [], x_h0, 0, 0)) rfl (fun h5 => ?_) (fun h5 => ?_)
        · have g5 := (x_lg_gt (C := -1) (by decide)).mp h5
          refine x_R.steps 1 (c' := (18, [(0, .long ((xs 1)).toInt64), (2, .long 0), (4, .long (-1))], [.int 0], x_h0, 0, 0)) rfl ?_
          refine x_R.ret (v := some (.int 0)) rfl ?_
          refine x_R.steps 0 (c' := (12, [(0, .ref 75), (1, .long ((xs 1)).toInt64)], [.int 0], x_h0, 0, 0)) rfl ?_
          refine x_R.ret (v := some (.int 0)) rfl ?_
          refine x_R.steps 0 (c' := (6, [(0, .ref 75), (1, .int (xs 1)), (2, .int (xs 2))], [.int 0], x_h0, 0, 0)) rfl ?_
          refine x_R.steps 1 (c' := (27, [(0, .ref 75), (1, .int (xs 1)), (2, .int (xs 2))], [], x_h0, 0, 0)) rfl ?_
          refine x_R.steps 1 (c' := (29, [(0, .ref 75), (1, .int (xs 1)), (2, .int (xs 2))], [.int (-2)], x_h0, 0, 0)) rfl ?_
          refine x_R.ret (v := some (.int (-2))) rfl ?_
          refine x_R.steps 0 (c' := (1935, [(3, .int 0), (2, .ref 75), (1, .ref 0), (0, .ref x_scr)], [.int (-2), .int (-2)], x_h0, 98, 10728)) rfl ?_
          refine x_R.steps 1 (c' := (2370, [(3, .int 0), (2, .ref 75), (1, .ref 0), (0, .ref x_scr)], [], x_h0, 98, 10728)) rfl ?_
          refine x_R.steps 7 (c' := (24, [(3, .int 6), (2, .ref 75), (1, .ref 0), (0, .ref x_scr)], [.int 0, .int 6], x_h0, 98, 10728)) rfl ?_
          refine x_R.steps 1 (c' := (2376, [(3, .int 6), (2, .ref 75), (1, .ref 0), (0, .ref x_scr)], [], x_h0, 98, 10728)) rfl ?_
          refine x_R.steps 1 (c' := (2377, [(3, .int 6), (2, .ref 75), (1, .ref 0), (0, .ref x_scr)], [.int 1], x_h0, 98, 10728)) rfl ?_
          exact x_R.ret (v := some (.int 1)) rfl x_fin
        · have g5 := mt (x_lg_gt (C := -1) (by decide)).mpr h5
          exfalso; omega
    · have g3 := mt (x_i_ge (C := 0) (by decide)).mpr h3
      exfalso; omega
set_option maxRecDepth 100000 in
set_option maxHeartbeats 4000000 in
theorem x_c60_0 (xs : Nat → Int32)  : x_R x_mt (some (6, xs)) 13 M_law (1940, [(3, .int 0), (2, .ref 75), (1, .ref 0), (0, .ref x_scr)], [], x_h0, 98, 10728) x_P := by
  refine x_R.steps 5 (c' := (1945, [(3, .int 0), (2, .ref 75), (1, .ref 0), (0, .ref x_scr)], [.int 1, .ref x_scr, .ref 0], x_h0, 98, 10728)) rfl ?_
  refine x_R.steps 1 (c' := (1946, [(3, .int 0), (2, .ref 75), (1, .ref 0), (0, .ref x_scr)], [.int (xs 1), .ref 0], x_h0, 98, 10728)) rfl ?_
  refine x_R.steps 4 (c' := (1950, [(3, .int 0), (2, .ref 75), (1, .ref 0), (0, .ref x_scr)], [.int 2, .ref x_scr, .int (xs 1), .ref 0], x_h0, 98, 10728)) rfl ?_
  refine x_R.steps 1 (c' := (1951, [(3, .int 0), (2, .ref 75), (1, .ref 0), (0, .ref x_scr)], [.int (xs 2), .int (xs 1), .ref 0], x_h0, 98, 10728)) rfl ?_
  refine x_R.steps 4 (c' := (1955, [(3, .int 0), (2, .ref 75), (1, .ref 0), (0, .ref x_scr)], [.int 3, .ref x_scr, .int (xs 2), .int (xs 1), .ref 0], x_h0, 98, 10728)) rfl ?_
  refine x_R.steps 1 (c' := (1956, [(3, .int 0), (2, .ref 75), (1, .ref 0), (0, .ref x_scr)], [.int (xs 3), .int (xs 2), .int (xs 1), .ref 0], x_h0, 98, 10728)) rfl ?_
  refine x_R.call (a := 173) (vs := [.ref 0, .int (xs 1), .int (xs 2), .int (xs 3)]) (rest := []) (M' := M_cX11_train) rfl rfl rfl ?_
  refine x_R.steps 3 (c' := (5, [(0, .ref 0), (1, .int (xs 1)), (2, .int (xs 2)), (3, .int (xs 3))], [.int (xs 1), .ref 1], x_h0, 0, 0)) rfl ?_
  refine x_R.call (a := 15) (vs := [.ref 1, .int (xs 1)]) (rest := []) (M' := M_cX2_isPlayer) rfl rfl rfl ?_
  refine x_R.steps 1 (c' := (1, [(0, .ref 1), (1, .int (xs 1))], [.int (xs 1)], x_h0, 0, 0)) rfl ?_
  refine x_R.ite (p := (xs 1) < (0 : Int32)) (c1 := (16, [(0, .ref 1), (1, .int (xs 1))], [], x_h0, 0, 0)) (c2 := (4, [(0, .ref 1), (1, .int (xs 1))], [], x_h0, 0, 0)) rfl (fun h1 => ?_) (fun h1 => ?_)
  · have g1 := (x_i_lt (C := 0) (by decide)).mp h1
    refine x_R.steps 1 (c' := (17, [(0, .ref 1), (1, .int (xs 1))], [.int 0], x_h0, 0, 0)) rfl ?_
    refine x_R.ret (v := some (.int 0)) rfl ?_
    refine x_R.steps 0 (c' := (8, [(0, .ref 0), (1, .int (xs 1)), (2, .int (xs 2)), (3, .int (xs 3))], [.int 0], x_h0, 0, 0)) rfl ?_
    refine x_R.steps 1 (c' := (23, [(0, .ref 0), (1, .int (xs 1)), (2, .int (xs 2)), (3, .int (xs 3))], [], x_h0, 0, 0)) rfl ?_
    refine x_R.steps 1 (c' := (25, [(0, .ref 0), (1, .int (xs 1)), (2, .int (xs 2)), (3, .int (xs 3))], [.int (-2)], x_h0, 0, 0)) rfl ?_
    refine x_R.ret (v := some (.int (-2))) rfl ?_
    refine x_R.steps 0 (c' := (1959, [(3, .int 0), (2, .ref 75), (1, .ref 0), (0, .ref x_scr)], [.int (-2)], x_h0, 98, 10728)) rfl ?_
    refine x_R.steps 5 (c' := (1964, [(3, .int 0), (2, .ref 75), (1, .ref 0), (0, .ref x_scr)], [.int 1, .ref x_scr, .ref 75, .int (-2)], x_h0, 98, 10728)) rfl ?_
    refine x_R.steps 1 (c' := (1965, [(3, .int 0), (2, .ref 75), (1, .ref 0), (0, .ref x_scr)], [.int (xs 1), .ref 75, .int (-2)], x_h0, 98, 10728)) rfl ?_
    refine x_R.steps 4 (c' := (1969, [(3, .int 0), (2, .ref 75), (1, .ref 0), (0, .ref x_scr)], [.int 2, .ref x_scr, .int (xs 1), .ref 75, .int (-2)], x_h0, 98, 10728)) rfl ?_
    refine x_R.steps 1 (c' := (1970, [(3, .int 0), (2, .ref 75), (1, .ref 0), (0, .ref x_scr)], [.int (xs 2), .int (xs 1), .ref 75, .int (-2)], x_h0, 98, 10728)) rfl ?_
    refine x_R.steps 4 (c' := (1974, [(3, .int 0), (2, .ref 75), (1, .ref 0), (0, .ref x_scr)], [.int 3, .ref x_scr, .int (xs 2), .int (xs 1), .ref 75, .int (-2)], x_h0, 98, 10728)) rfl ?_
    refine x_R.steps 1 (c' := (1975, [(3, .int 0), (2, .ref 75), (1, .ref 0), (0, .ref x_scr)], [.int (xs 3), .int (xs 2), .int (xs 1), .ref 75, .int (-2)], x_h0, 98, 10728)) rfl ?_
    refine x_R.call (a := 341) (vs := [.ref 75, .int (xs 1), .int (xs 2), .int (xs 3)]) (rest := [.int (-2)]) (M' := M_cX12_train) rfl rfl rfl ?_
    refine x_R.steps 2 (c' := (2, [(0, .ref 75), (1, .int (xs 1)), (2, .int (xs 2)), (3, .int (xs 3))], [.int (xs 1), .ref 75], x_h0, 0, 0)) rfl ?_
    refine x_R.call (a := 205) (vs := [.ref 75, .int (xs 1)]) (rest := []) (M' := M_cX12_isPlayer) rfl rfl rfl ?_
    refine x_R.steps 6 (c' := (9, [(0, .ref 75), (1, .int (xs 1))], [.int 6, .ref 76, .long 0, .long ((xs 1)).toInt64], x_h0, 0, 0)) rfl ?_
    refine x_R.steps 1 (c' := (10, [(0, .ref 75), (1, .int (xs 1))], [.int 0, .long 0, .long ((xs 1)).toInt64], x_h0, 0, 0)) rfl ?_
    refine x_R.steps 3 (c' := (13, [(0, .ref 75), (1, .int (xs 1))], [.long (-1), .long 0, .long ((xs 1)).toInt64], x_h0, 0, 0)) rfl ?_
    refine x_R.call (a := 196) (vs := [.long ((xs 1)).toInt64, .long 0, .long (-1)]) (rest := []) (M' := M_cX12_in) rfl rfl rfl ?_
    refine x_R.steps 3 (c' := (3, [(0, .long ((xs 1)).toInt64), (2, .long 0), (4, .long (-1))], [.int (lg_cmp ((xs 1)).toInt64 0)], x_h0, 0, 0)) rfl ?_
    refine x_R.ite (p := (lg_cmp ((xs 1)).toInt64 0) < (0 : Int32)) (c1 := (17, [(0, .long ((xs 1)).toInt64), (2, .long 0), (4, .long (-1))], [], x_h0, 0, 0)) (c2 := (6, [(0, .long ((xs 1)).toInt64), (2, .long 0), (4, .long (-1))], [], x_h0, 0, 0)) rfl (fun h2 => ?_) (fun h2 => ?_)
    · have g2 := (x_lg_lt (C := 0) (by decide)).mp h2
      refine x_R.steps 1 (c' := (18, [(0, .long ((xs 1)).toInt64), (2, .long 0), (4, .long (-1))], [.int 0], x_h0, 0, 0)) rfl ?_
      refine x_R.ret (v := some (.int 0)) rfl ?_
      refine x_R.steps 0 (c' := (16, [(0, .ref 75), (1, .int (xs 1))], [.int 0], x_h0, 0, 0)) rfl ?_
      refine x_R.ret (v := some (.int 0)) rfl ?_
      refine x_R.steps 0 (c' := (5, [(0, .ref 75), (1, .int (xs 1)), (2, .int (xs 2)), (3, .int (xs 3))], [.int 0], x_h0, 0, 0)) rfl ?_
      refine x_R.steps 1 (c' := (8, [(0, .ref 75), (1, .int (xs 1)), (2, .int (xs 2)), (3, .int (xs 3))], [], x_h0, 0, 0)) rfl ?_
      refine x_R.steps 1 (c' := (10, [(0, .ref 75), (1, .int (xs 1)), (2, .int (xs 2)), (3, .int (xs 3))], [.int (-2)], x_h0, 0, 0)) rfl ?_
      refine x_R.ret (v := some (.int (-2))) rfl ?_
      refine x_R.steps 0 (c' := (1978, [(3, .int 0), (2, .ref 75), (1, .ref 0), (0, .ref x_scr)], [.int (-2), .int (-2)], x_h0, 98, 10728)) rfl ?_
      refine x_R.steps 1 (c' := (2370, [(3, .int 0), (2, .ref 75), (1, .ref 0), (0, .ref x_scr)], [], x_h0, 98, 10728)) rfl ?_
      refine x_R.steps 7 (c' := (24, [(3, .int 6), (2, .ref 75), (1, .ref 0), (0, .ref x_scr)], [.int 0, .int 6], x_h0, 98, 10728)) rfl ?_
      refine x_R.steps 1 (c' := (2376, [(3, .int 6), (2, .ref 75), (1, .ref 0), (0, .ref x_scr)], [], x_h0, 98, 10728)) rfl ?_
      refine x_R.steps 1 (c' := (2377, [(3, .int 6), (2, .ref 75), (1, .ref 0), (0, .ref x_scr)], [.int 1], x_h0, 98, 10728)) rfl ?_
      exact x_R.ret (v := some (.int 1)) rfl x_fin
    · have g2 := mt (x_lg_lt (C := 0) (by decide)).mpr h2
      exfalso; omega
  · have g1 := mt (x_i_lt (C := 0) (by decide)).mpr h1
    refine x_R.steps 3 (c' := (9, [(0, .ref 1), (1, .int (xs 1))], [.int 0, .int (xs 1)], x_h0, 0, 0)) rfl ?_
    refine x_R.ite (p := (0 : Int32) ≤ (xs 1)) (c1 := (16, [(0, .ref 1), (1, .int (xs 1))], [], x_h0, 0, 0)) (c2 := (12, [(0, .ref 1), (1, .int (xs 1))], [], x_h0, 0, 0)) rfl (fun h3 => ?_) (fun h3 => ?_)
    · have g3 := (x_i_ge (C := 0) (by decide)).mp h3
      refine x_R.steps 1 (c' := (17, [(0, .ref 1), (1, .int (xs 1))], [.int 0], x_h0, 0, 0)) rfl ?_
      refine x_R.ret (v := some (.int 0)) rfl ?_
      refine x_R.steps 0 (c' := (8, [(0, .ref 0), (1, .int (xs 1)), (2, .int (xs 2)), (3, .int (xs 3))], [.int 0], x_h0, 0, 0)) rfl ?_
      refine x_R.steps 1 (c' := (23, [(0, .ref 0), (1, .int (xs 1)), (2, .int (xs 2)), (3, .int (xs 3))], [], x_h0, 0, 0)) rfl ?_
      refine x_R.steps 1 (c' := (25, [(0, .ref 0), (1, .int (xs 1)), (2, .int (xs 2)), (3, .int (xs 3))], [.int (-2)], x_h0, 0, 0)) rfl ?_
      refine x_R.ret (v := some (.int (-2))) rfl ?_
      refine x_R.steps 0 (c' := (1959, [(3, .int 0), (2, .ref 75), (1, .ref 0), (0, .ref x_scr)], [.int (-2)], x_h0, 98, 10728)) rfl ?_
      refine x_R.steps 5 (c' := (1964, [(3, .int 0), (2, .ref 75), (1, .ref 0), (0, .ref x_scr)], [.int 1, .ref x_scr, .ref 75, .int (-2)], x_h0, 98, 10728)) rfl ?_
      refine x_R.steps 1 (c' := (1965, [(3, .int 0), (2, .ref 75), (1, .ref 0), (0, .ref x_scr)], [.int (xs 1), .ref 75, .int (-2)], x_h0, 98, 10728)) rfl ?_
      refine x_R.steps 4 (c' := (1969, [(3, .int 0), (2, .ref 75), (1, .ref 0), (0, .ref x_scr)], [.int 2, .ref x_scr, .int (xs 1), .ref 75, .int (-2)], x_h0, 98, 10728)) rfl ?_
      refine x_R.steps 1 (c' := (1970, [(3, .int 0), (2, .ref 75), (1, .ref 0), (0, .ref x_scr)], [.int (xs 2), .int (xs 1), .ref 75, .int (-2)], x_h0, 98, 10728)) rfl ?_
      refine x_R.steps 4 (c' := (1974, [(3, .int 0), (2, .ref 75), (1, .ref 0), (0, .ref x_scr)], [.int 3, .ref x_scr, .int (xs 2), .int (xs 1), .ref 75, .int (-2)], x_h0, 98, 10728)) rfl ?_
      refine x_R.steps 1 (c' := (1975, [(3, .int 0), (2, .ref 75), (1, .ref 0), (0, .ref x_scr)], [.int (xs 3), .int (xs 2), .int (xs 1), .ref 75, .int (-2)], x_h0, 98, 10728)) rfl ?_
      refine x_R.call (a := 341) (vs := [.ref 75, .int (xs 1), .int (xs 2), .int (xs 3)]) (rest := [.int (-2)]) (M' := M_cX12_train) rfl rfl rfl ?_
      refine x_R.steps 2 (c' := (2, [(0, .ref 75), (1, .int (xs 1)), (2, .int (xs 2)), (3, .int (xs 3))], [.int (xs 1), .ref 75], x_h0, 0, 0)) rfl ?_
      refine x_R.call (a := 205) (vs := [.ref 75, .int (xs 1)]) (rest := []) (M' := M_cX12_isPlayer) rfl rfl rfl ?_
      refine x_R.steps 6 (c' := (9, [(0, .ref 75), (1, .int (xs 1))], [.int 6, .ref 76, .long 0, .long ((xs 1)).toInt64], x_h0, 0, 0)) rfl ?_
      refine x_R.steps 1 (c' := (10, [(0, .ref 75), (1, .int (xs 1))], [.int 0, .long 0, .long ((xs 1)).toInt64], x_h0, 0, 0)) rfl ?_
      refine x_R.steps 3 (c' := (13, [(0, .ref 75), (1, .int (xs 1))], [.long (-1), .long 0, .long ((xs 1)).toInt64], x_h0, 0, 0)) rfl ?_
      refine x_R.call (a := 196) (vs := [.long ((xs 1)).toInt64, .long 0, .long (-1)]) (rest := []) (M' := M_cX12_in) rfl rfl rfl ?_
      refine x_R.steps 3 (c' := (3, [(0, .long ((xs 1)).toInt64), (2, .long 0), (4, .long (-1))], [.int (lg_cmp ((xs 1)).toInt64 0)], x_h0, 0, 0)) rfl ?_
      refine x_R.ite (p := (lg_cmp ((xs 1)).toInt64 0) < (0 : Int32)) (c1 := (17, [(0, .long ((xs 1)).toInt64), (2, .long 0), (4, .long (-1))], [], x_h0, 0, 0)) (c2 := (6, [(0, .long ((xs 1)).toInt64), (2, .long 0), (4, .long (-1))], [], x_h0, 0, 0)) rfl (fun h4 => ?_) (fun h4 => ?_)
      · have g4 := (x_lg_lt (C := 0) (by decide)).mp h4
        exfalso; omega
      · have g4 := mt (x_lg_lt (C := 0) (by decide)).mpr h4
        refine x_R.steps 3 (c' := (10, [(0, .long ((xs 1)).toInt64), (2, .long 0), (4, .long (-1))], [.int (lg_cmp ((xs 1)).toInt64 (-1))], x_h0, 0, 0)) rfl ?_
        refine x_R.ite (p := (0 : Int32) < (lg_cmp ((xs 1)).toInt64 (-1))) (c1 := (17, [(0, .long ((xs 1)).toInt64), (2, .long 0), (4, .long (-1))], [], x_h0, 0, 0)) (c2 := (13, [(0, .long ((xs 1)).toInt64), (2, .long 0), (4, .long (-1))], [], x_h0, 0, 0)) rfl (fun h5 => ?_) (fun h5 => ?_)
        · have g5 := (x_lg_gt (C := -1) (by decide)).mp h5
          refine x_R.steps 1 (c' := (18, [(0, .long ((xs 1)).toInt64), (2, .long 0), (4, .long (-1))], [.int 0], x_h0, 0, 0)) rfl ?_
          refine x_R.ret (v := some (.int 0)) rfl ?_
          refine x_R.steps 0 (c' := (16, [(0, .ref 75), (1, .int (xs 1))], [.int 0], x_h0, 0, 0)) rfl ?_
          refine x_R.ret (v := some (.int 0)) rfl ?_
          refine x_R.steps 0 (c' := (5, [(0, .ref 75), (1, .int (xs 1)), (2, .int (xs 2)), (3, .int (xs 3))], [.int 0], x_h0, 0, 0)) rfl ?_
          refine x_R.steps 1 (c' := (8, [(0, .ref 75), (1, .int (xs 1)), (2, .int (xs 2)), (3, .int (xs 3))], [], x_h0, 0, 0)) rfl ?_
          refine x_R.steps 1 (c' := (10, [(0, .ref 75), (1, .int (xs 1)), (2, .int (xs 2)), (3, .int (xs 3))], [.int (-2)], x_h0, 0, 0)) rfl ?_
          refine x_R.ret (v := some (.int (-2))) rfl ?_
          refine x_R.steps 0 (c' := (1978, [(3, .int 0), (2, .ref 75), (1, .ref 0), (0, .ref x_scr)], [.int (-2), .int (-2)], x_h0, 98, 10728)) rfl ?_
          refine x_R.steps 1 (c' := (2370, [(3, .int 0), (2, .ref 75), (1, .ref 0), (0, .ref x_scr)], [], x_h0, 98, 10728)) rfl ?_
          refine x_R.steps 7 (c' := (24, [(3, .int 6), (2, .ref 75), (1, .ref 0), (0, .ref x_scr)], [.int 0, .int 6], x_h0, 98, 10728)) rfl ?_
          refine x_R.steps 1 (c' := (2376, [(3, .int 6), (2, .ref 75), (1, .ref 0), (0, .ref x_scr)], [], x_h0, 98, 10728)) rfl ?_
          refine x_R.steps 1 (c' := (2377, [(3, .int 6), (2, .ref 75), (1, .ref 0), (0, .ref x_scr)], [.int 1], x_h0, 98, 10728)) rfl ?_
          exact x_R.ret (v := some (.int 1)) rfl x_fin
        · have g5 := mt (x_lg_gt (C := -1) (by decide)).mpr h5
          exfalso; omega
    · have g3 := mt (x_i_ge (C := 0) (by decide)).mpr h3
      exfalso; omega
set_option maxRecDepth 100000 in
set_option maxHeartbeats 4000000 in
theorem x_c61_0 (xs : Nat → Int32)  : x_R x_mt (some (6, xs)) 13 M_law (1983, [(3, .int 0), (2, .ref 75), (1, .ref 0), (0, .ref x_scr)], [], x_h0, 98, 10728) x_P := by
  refine x_R.steps 5 (c' := (1988, [(3, .int 0), (2, .ref 75), (1, .ref 0), (0, .ref x_scr)], [.int 1, .ref x_scr, .ref 0], x_h0, 98, 10728)) rfl ?_
  refine x_R.steps 1 (c' := (1989, [(3, .int 0), (2, .ref 75), (1, .ref 0), (0, .ref x_scr)], [.int (xs 1), .ref 0], x_h0, 98, 10728)) rfl ?_
  refine x_R.steps 4 (c' := (1993, [(3, .int 0), (2, .ref 75), (1, .ref 0), (0, .ref x_scr)], [.int 2, .ref x_scr, .int (xs 1), .ref 0], x_h0, 98, 10728)) rfl ?_
  refine x_R.steps 1 (c' := (1994, [(3, .int 0), (2, .ref 75), (1, .ref 0), (0, .ref x_scr)], [.int (xs 2), .int (xs 1), .ref 0], x_h0, 98, 10728)) rfl ?_
  refine x_R.steps 4 (c' := (1998, [(3, .int 0), (2, .ref 75), (1, .ref 0), (0, .ref x_scr)], [.int 3, .ref x_scr, .int (xs 2), .int (xs 1), .ref 0], x_h0, 98, 10728)) rfl ?_
  refine x_R.steps 1 (c' := (1999, [(3, .int 0), (2, .ref 75), (1, .ref 0), (0, .ref x_scr)], [.int (xs 3), .int (xs 2), .int (xs 1), .ref 0], x_h0, 98, 10728)) rfl ?_
  refine x_R.call (a := 174) (vs := [.ref 0, .int (xs 1), .int (xs 2), .int (xs 3)]) (rest := []) (M' := M_cX11_drawn) rfl rfl rfl ?_
  refine x_R.steps 2 (c' := (4, [(0, .ref 0), (1, .int (xs 1)), (2, .int (xs 2)), (3, .int (xs 3))], [.ref 1], x_h0, 0, 0)) rfl ?_
  refine x_R.call (a := 11) (vs := [.ref 1]) (rest := []) (M' := M_cX2_isTold) rfl rfl rfl ?_
  refine x_R.steps 2 (c' := (4, [(0, .ref 1)], [.int 0], x_h0, 0, 0)) rfl ?_
  refine x_R.steps 1 (c' := (11, [(0, .ref 1)], [], x_h0, 0, 0)) rfl ?_
  refine x_R.steps 1 (c' := (12, [(0, .ref 1)], [.int 0], x_h0, 0, 0)) rfl ?_
  refine x_R.ret (v := some (.int 0)) rfl ?_
  refine x_R.steps 0 (c' := (7, [(0, .ref 0), (1, .int (xs 1)), (2, .int (xs 2)), (3, .int (xs 3))], [.int 0], x_h0, 0, 0)) rfl ?_
  refine x_R.steps 1 (c' := (24, [(0, .ref 0), (1, .int (xs 1)), (2, .int (xs 2)), (3, .int (xs 3))], [], x_h0, 0, 0)) rfl ?_
  refine x_R.steps 1 (c' := (26, [(0, .ref 0), (1, .int (xs 1)), (2, .int (xs 2)), (3, .int (xs 3))], [.int (-2)], x_h0, 0, 0)) rfl ?_
  refine x_R.ret (v := some (.int (-2))) rfl ?_
  refine x_R.steps 0 (c' := (2002, [(3, .int 0), (2, .ref 75), (1, .ref 0), (0, .ref x_scr)], [.int (-2)], x_h0, 98, 10728)) rfl ?_
  refine x_R.steps 5 (c' := (2007, [(3, .int 0), (2, .ref 75), (1, .ref 0), (0, .ref x_scr)], [.int 1, .ref x_scr, .ref 75, .int (-2)], x_h0, 98, 10728)) rfl ?_
  refine x_R.steps 1 (c' := (2008, [(3, .int 0), (2, .ref 75), (1, .ref 0), (0, .ref x_scr)], [.int (xs 1), .ref 75, .int (-2)], x_h0, 98, 10728)) rfl ?_
  refine x_R.steps 4 (c' := (2012, [(3, .int 0), (2, .ref 75), (1, .ref 0), (0, .ref x_scr)], [.int 2, .ref x_scr, .int (xs 1), .ref 75, .int (-2)], x_h0, 98, 10728)) rfl ?_
  refine x_R.steps 1 (c' := (2013, [(3, .int 0), (2, .ref 75), (1, .ref 0), (0, .ref x_scr)], [.int (xs 2), .int (xs 1), .ref 75, .int (-2)], x_h0, 98, 10728)) rfl ?_
  refine x_R.steps 4 (c' := (2017, [(3, .int 0), (2, .ref 75), (1, .ref 0), (0, .ref x_scr)], [.int 3, .ref x_scr, .int (xs 2), .int (xs 1), .ref 75, .int (-2)], x_h0, 98, 10728)) rfl ?_
  refine x_R.steps 1 (c' := (2018, [(3, .int 0), (2, .ref 75), (1, .ref 0), (0, .ref x_scr)], [.int (xs 3), .int (xs 2), .int (xs 1), .ref 75, .int (-2)], x_h0, 98, 10728)) rfl ?_
  refine x_R.call (a := 346) (vs := [.ref 75, .int (xs 1), .int (xs 2), .int (xs 3)]) (rest := [.int (-2)]) (M' := M_cX12_drawn) rfl rfl rfl ?_
  refine x_R.steps 1 (c' := (1, [(0, .ref 75), (1, .int (xs 1)), (2, .int (xs 2)), (3, .int (xs 3))], [.ref 75], x_h0, 0, 0)) rfl ?_
  refine x_R.call (a := 199) (vs := [.ref 75]) (rest := []) (M' := M_cX12_isBoard) rfl rfl rfl ?_
  refine x_R.steps 3 (c' := (5, [(0, .ref 75)], [.int 0, .ref 76], x_h0, 0, 0)) rfl ?_
  refine x_R.steps 1 (c' := (6, [(0, .ref 75)], [.int 0], x_h0, 0, 0)) rfl ?_
  refine x_R.steps 1 (c' := (13, [(0, .ref 75)], [], x_h0, 0, 0)) rfl ?_
  refine x_R.steps 1 (c' := (14, [(0, .ref 75)], [.int 0], x_h0, 0, 0)) rfl ?_
  refine x_R.ret (v := some (.int 0)) rfl ?_
  refine x_R.steps 0 (c' := (4, [(0, .ref 75), (1, .int (xs 1)), (2, .int (xs 2)), (3, .int (xs 3))], [.int 0], x_h0, 0, 0)) rfl ?_
  refine x_R.steps 1 (c' := (21, [(0, .ref 75), (1, .int (xs 1)), (2, .int (xs 2)), (3, .int (xs 3))], [], x_h0, 0, 0)) rfl ?_
  refine x_R.steps 1 (c' := (23, [(0, .ref 75), (1, .int (xs 1)), (2, .int (xs 2)), (3, .int (xs 3))], [.int (-2)], x_h0, 0, 0)) rfl ?_
  refine x_R.ret (v := some (.int (-2))) rfl ?_
  refine x_R.steps 0 (c' := (2021, [(3, .int 0), (2, .ref 75), (1, .ref 0), (0, .ref x_scr)], [.int (-2), .int (-2)], x_h0, 98, 10728)) rfl ?_
  refine x_R.steps 1 (c' := (2370, [(3, .int 0), (2, .ref 75), (1, .ref 0), (0, .ref x_scr)], [], x_h0, 98, 10728)) rfl ?_
  refine x_R.steps 7 (c' := (24, [(3, .int 6), (2, .ref 75), (1, .ref 0), (0, .ref x_scr)], [.int 0, .int 6], x_h0, 98, 10728)) rfl ?_
  refine x_R.steps 1 (c' := (2376, [(3, .int 6), (2, .ref 75), (1, .ref 0), (0, .ref x_scr)], [], x_h0, 98, 10728)) rfl ?_
  refine x_R.steps 1 (c' := (2377, [(3, .int 6), (2, .ref 75), (1, .ref 0), (0, .ref x_scr)], [.int 1], x_h0, 98, 10728)) rfl ?_
  exact x_R.ret (v := some (.int 1)) rfl x_fin
set_option maxRecDepth 100000 in
set_option maxHeartbeats 4000000 in
theorem x_c62_0 (xs : Nat → Int32)  : x_R x_mt (some (6, xs)) 13 M_law (2026, [(3, .int 0), (2, .ref 75), (1, .ref 0), (0, .ref x_scr)], [], x_h0, 98, 10728) x_P := by
  refine x_R.steps 5 (c' := (2031, [(3, .int 0), (2, .ref 75), (1, .ref 0), (0, .ref x_scr)], [.int 1, .ref x_scr, .ref 0], x_h0, 98, 10728)) rfl ?_
  refine x_R.steps 1 (c' := (2032, [(3, .int 0), (2, .ref 75), (1, .ref 0), (0, .ref x_scr)], [.int (xs 1), .ref 0], x_h0, 98, 10728)) rfl ?_
  refine x_R.steps 4 (c' := (2036, [(3, .int 0), (2, .ref 75), (1, .ref 0), (0, .ref x_scr)], [.int 2, .ref x_scr, .int (xs 1), .ref 0], x_h0, 98, 10728)) rfl ?_
  refine x_R.steps 1 (c' := (2037, [(3, .int 0), (2, .ref 75), (1, .ref 0), (0, .ref x_scr)], [.int (xs 2), .int (xs 1), .ref 0], x_h0, 98, 10728)) rfl ?_
  refine x_R.steps 4 (c' := (2041, [(3, .int 0), (2, .ref 75), (1, .ref 0), (0, .ref x_scr)], [.int 3, .ref x_scr, .int (xs 2), .int (xs 1), .ref 0], x_h0, 98, 10728)) rfl ?_
  refine x_R.steps 1 (c' := (2042, [(3, .int 0), (2, .ref 75), (1, .ref 0), (0, .ref x_scr)], [.int (xs 3), .int (xs 2), .int (xs 1), .ref 0], x_h0, 98, 10728)) rfl ?_
  refine x_R.call (a := 175) (vs := [.ref 0, .int (xs 1), .int (xs 2), .int (xs 3)]) (rest := []) (M' := M_cX11_night) rfl rfl rfl ?_
  refine x_R.steps 5 (c' := (5, [(0, .ref 0), (1, .int (xs 1)), (2, .int (xs 2)), (3, .int (xs 3))], [.int (xs 3), .int (xs 2), .int 1, .int (xs 1), .ref 0], x_h0, 0, 0)) rfl ?_
  refine x_R.call (a := 176) (vs := [.ref 0, .int (xs 1), .int 1, .int (xs 2), .int (xs 3)]) (rest := []) (M' := M_cX11_years) rfl rfl rfl ?_
  refine x_R.steps 1 (c' := (1, [(0, .ref 0), (1, .int (xs 1)), (2, .int 1), (3, .int (xs 2)), (4, .int (xs 3))], [.int (xs 1)], x_h0, 0, 0)) rfl ?_
  refine x_R.call (a := 184) (vs := [.int (xs 1)]) (rest := []) (M' := M_cX11_isSeed) rfl rfl rfl ?_
  refine x_R.steps 1 (c' := (1, [(0, .int (xs 1))], [.int (xs 1)], x_h0, 0, 0)) rfl ?_
  refine x_R.ite (p := (xs 1) < (0 : Int32)) (c1 := (15, [(0, .int (xs 1))], [], x_h0, 0, 0)) (c2 := (4, [(0, .int (xs 1))], [], x_h0, 0, 0)) rfl (fun h1 => ?_) (fun h1 => ?_)
  · have g1 := (x_i_lt (C := 0) (by decide)).mp h1
    refine x_R.steps 1 (c' := (16, [(0, .int (xs 1))], [.int 0], x_h0, 0, 0)) rfl ?_
    refine x_R.ret (v := some (.int 0)) rfl ?_
    refine x_R.steps 0 (c' := (4, [(0, .ref 0), (1, .int (xs 1)), (2, .int 1), (3, .int (xs 2)), (4, .int (xs 3))], [.int 0], x_h0, 0, 0)) rfl ?_
    refine x_R.steps 1 (c' := (37, [(0, .ref 0), (1, .int (xs 1)), (2, .int 1), (3, .int (xs 2)), (4, .int (xs 3))], [], x_h0, 0, 0)) rfl ?_
    refine x_R.steps 1 (c' := (39, [(0, .ref 0), (1, .int (xs 1)), (2, .int 1), (3, .int (xs 2)), (4, .int (xs 3))], [.int (-2)], x_h0, 0, 0)) rfl ?_
    refine x_R.ret (v := some (.int (-2))) rfl ?_
    refine x_R.steps 0 (c' := (8, [(0, .ref 0), (1, .int (xs 1)), (2, .int (xs 2)), (3, .int (xs 3))], [.int (-2)], x_h0, 0, 0)) rfl ?_
    refine x_R.ret (v := some (.int (-2))) rfl ?_
    refine x_R.steps 0 (c' := (2045, [(3, .int 0), (2, .ref 75), (1, .ref 0), (0, .ref x_scr)], [.int (-2)], x_h0, 98, 10728)) rfl ?_
    refine x_R.steps 5 (c' := (2050, [(3, .int 0), (2, .ref 75), (1, .ref 0), (0, .ref x_scr)], [.int 1, .ref x_scr, .ref 75, .int (-2)], x_h0, 98, 10728)) rfl ?_
    refine x_R.steps 1 (c' := (2051, [(3, .int 0), (2, .ref 75), (1, .ref 0), (0, .ref x_scr)], [.int (xs 1), .ref 75, .int (-2)], x_h0, 98, 10728)) rfl ?_
    refine x_R.steps 4 (c' := (2055, [(3, .int 0), (2, .ref 75), (1, .ref 0), (0, .ref x_scr)], [.int 2, .ref x_scr, .int (xs 1), .ref 75, .int (-2)], x_h0, 98, 10728)) rfl ?_
    refine x_R.steps 1 (c' := (2056, [(3, .int 0), (2, .ref 75), (1, .ref 0), (0, .ref x_scr)], [.int (xs 2), .int (xs 1), .ref 75, .int (-2)], x_h0, 98, 10728)) rfl ?_
    refine x_R.steps 4 (c' := (2060, [(3, .int 0), (2, .ref 75), (1, .ref 0), (0, .ref x_scr)], [.int 3, .ref x_scr, .int (xs 2), .int (xs 1), .ref 75, .int (-2)], x_h0, 98, 10728)) rfl ?_
    refine x_R.steps 1 (c' := (2061, [(3, .int 0), (2, .ref 75), (1, .ref 0), (0, .ref x_scr)], [.int (xs 3), .int (xs 2), .int (xs 1), .ref 75, .int (-2)], x_h0, 98, 10728)) rfl ?_
    refine x_R.call (a := 348) (vs := [.ref 75, .int (xs 1), .int (xs 2), .int (xs 3)]) (rest := [.int (-2)]) (M' := M_cX12_night) rfl rfl rfl ?_
    refine x_R.steps 1 (c' := (1, [(0, .ref 75), (1, .int (xs 1)), (2, .int (xs 2)), (3, .int (xs 3))], [.int (xs 1)], x_h0, 0, 0)) rfl ?_
    refine x_R.call (a := 345) (vs := [.int (xs 1)]) (rest := []) (M' := M_cX12_isSeed) rfl rfl rfl ?_
    refine x_R.steps 4 (c' := (6, [(0, .int (xs 1))], [.long 2000000000, .long 0, .long ((xs 1)).toInt64], x_h0, 0, 0)) rfl ?_
    refine x_R.call (a := 196) (vs := [.long ((xs 1)).toInt64, .long 0, .long 2000000000]) (rest := []) (M' := M_cX12_in) rfl rfl rfl ?_
    refine x_R.steps 3 (c' := (3, [(0, .long ((xs 1)).toInt64), (2, .long 0), (4, .long 2000000000)], [.int (lg_cmp ((xs 1)).toInt64 0)], x_h0, 0, 0)) rfl ?_
    refine x_R.ite (p := (lg_cmp ((xs 1)).toInt64 0) < (0 : Int32)) (c1 := (17, [(0, .long ((xs 1)).toInt64), (2, .long 0), (4, .long 2000000000)], [], x_h0, 0, 0)) (c2 := (6, [(0, .long ((xs 1)).toInt64), (2, .long 0), (4, .long 2000000000)], [], x_h0, 0, 0)) rfl (fun h2 => ?_) (fun h2 => ?_)
    · have g2 := (x_lg_lt (C := 0) (by decide)).mp h2
      refine x_R.steps 1 (c' := (18, [(0, .long ((xs 1)).toInt64), (2, .long 0), (4, .long 2000000000)], [.int 0], x_h0, 0, 0)) rfl ?_
      refine x_R.ret (v := some (.int 0)) rfl ?_
      refine x_R.steps 0 (c' := (9, [(0, .int (xs 1))], [.int 0], x_h0, 0, 0)) rfl ?_
      refine x_R.ret (v := some (.int 0)) rfl ?_
      refine x_R.steps 0 (c' := (4, [(0, .ref 75), (1, .int (xs 1)), (2, .int (xs 2)), (3, .int (xs 3))], [.int 0], x_h0, 0, 0)) rfl ?_
      refine x_R.steps 1 (c' := (33, [(0, .ref 75), (1, .int (xs 1)), (2, .int (xs 2)), (3, .int (xs 3))], [], x_h0, 0, 0)) rfl ?_
      refine x_R.steps 1 (c' := (35, [(0, .ref 75), (1, .int (xs 1)), (2, .int (xs 2)), (3, .int (xs 3))], [.int (-2)], x_h0, 0, 0)) rfl ?_
      refine x_R.ret (v := some (.int (-2))) rfl ?_
      refine x_R.steps 0 (c' := (2064, [(3, .int 0), (2, .ref 75), (1, .ref 0), (0, .ref x_scr)], [.int (-2), .int (-2)], x_h0, 98, 10728)) rfl ?_
      refine x_R.steps 1 (c' := (2370, [(3, .int 0), (2, .ref 75), (1, .ref 0), (0, .ref x_scr)], [], x_h0, 98, 10728)) rfl ?_
      refine x_R.steps 7 (c' := (24, [(3, .int 6), (2, .ref 75), (1, .ref 0), (0, .ref x_scr)], [.int 0, .int 6], x_h0, 98, 10728)) rfl ?_
      refine x_R.steps 1 (c' := (2376, [(3, .int 6), (2, .ref 75), (1, .ref 0), (0, .ref x_scr)], [], x_h0, 98, 10728)) rfl ?_
      refine x_R.steps 1 (c' := (2377, [(3, .int 6), (2, .ref 75), (1, .ref 0), (0, .ref x_scr)], [.int 1], x_h0, 98, 10728)) rfl ?_
      exact x_R.ret (v := some (.int 1)) rfl x_fin
    · have g2 := mt (x_lg_lt (C := 0) (by decide)).mpr h2
      exfalso; omega
  · have g1 := mt (x_i_lt (C := 0) (by decide)).mpr h1
    refine x_R.steps 2 (c' := (8, [(0, .int (xs 1))], [.int 2000000000, .int (xs 1)], x_h0, 0, 0)) rfl ?_
    refine x_R.ite (p := (2000000000 : Int32) < (xs 1)) (c1 := (15, [(0, .int (xs 1))], [], x_h0, 0, 0)) (c2 := (11, [(0, .int (xs 1))], [], x_h0, 0, 0)) rfl (fun h3 => ?_) (fun h3 => ?_)
    · have g3 := (x_i_gt (C := 2000000000) (by decide)).mp h3
      refine x_R.steps 1 (c' := (16, [(0, .int (xs 1))], [.int 0], x_h0, 0, 0)) rfl ?_
      refine x_R.ret (v := some (.int 0)) rfl ?_
      refine x_R.steps 0 (c' := (4, [(0, .ref 0), (1, .int (xs 1)), (2, .int 1), (3, .int (xs 2)), (4, .int (xs 3))], [.int 0], x_h0, 0, 0)) rfl ?_
      refine x_R.steps 1 (c' := (37, [(0, .ref 0), (1, .int (xs 1)), (2, .int 1), (3, .int (xs 2)), (4, .int (xs 3))], [], x_h0, 0, 0)) rfl ?_
      refine x_R.steps 1 (c' := (39, [(0, .ref 0), (1, .int (xs 1)), (2, .int 1), (3, .int (xs 2)), (4, .int (xs 3))], [.int (-2)], x_h0, 0, 0)) rfl ?_
      refine x_R.ret (v := some (.int (-2))) rfl ?_
      refine x_R.steps 0 (c' := (8, [(0, .ref 0), (1, .int (xs 1)), (2, .int (xs 2)), (3, .int (xs 3))], [.int (-2)], x_h0, 0, 0)) rfl ?_
      refine x_R.ret (v := some (.int (-2))) rfl ?_
      refine x_R.steps 0 (c' := (2045, [(3, .int 0), (2, .ref 75), (1, .ref 0), (0, .ref x_scr)], [.int (-2)], x_h0, 98, 10728)) rfl ?_
      refine x_R.steps 5 (c' := (2050, [(3, .int 0), (2, .ref 75), (1, .ref 0), (0, .ref x_scr)], [.int 1, .ref x_scr, .ref 75, .int (-2)], x_h0, 98, 10728)) rfl ?_
      refine x_R.steps 1 (c' := (2051, [(3, .int 0), (2, .ref 75), (1, .ref 0), (0, .ref x_scr)], [.int (xs 1), .ref 75, .int (-2)], x_h0, 98, 10728)) rfl ?_
      refine x_R.steps 4 (c' := (2055, [(3, .int 0), (2, .ref 75), (1, .ref 0), (0, .ref x_scr)], [.int 2, .ref x_scr, .int (xs 1), .ref 75, .int (-2)], x_h0, 98, 10728)) rfl ?_
      refine x_R.steps 1 (c' := (2056, [(3, .int 0), (2, .ref 75), (1, .ref 0), (0, .ref x_scr)], [.int (xs 2), .int (xs 1), .ref 75, .int (-2)], x_h0, 98, 10728)) rfl ?_
      refine x_R.steps 4 (c' := (2060, [(3, .int 0), (2, .ref 75), (1, .ref 0), (0, .ref x_scr)], [.int 3, .ref x_scr, .int (xs 2), .int (xs 1), .ref 75, .int (-2)], x_h0, 98, 10728)) rfl ?_
      refine x_R.steps 1 (c' := (2061, [(3, .int 0), (2, .ref 75), (1, .ref 0), (0, .ref x_scr)], [.int (xs 3), .int (xs 2), .int (xs 1), .ref 75, .int (-2)], x_h0, 98, 10728)) rfl ?_
      refine x_R.call (a := 348) (vs := [.ref 75, .int (xs 1), .int (xs 2), .int (xs 3)]) (rest := [.int (-2)]) (M' := M_cX12_night) rfl rfl rfl ?_
      refine x_R.steps 1 (c' := (1, [(0, .ref 75), (1, .int (xs 1)), (2, .int (xs 2)), (3, .int (xs 3))], [.int (xs 1)], x_h0, 0, 0)) rfl ?_
      refine x_R.call (a := 345) (vs := [.int (xs 1)]) (rest := []) (M' := M_cX12_isSeed) rfl rfl rfl ?_
      refine x_R.steps 4 (c' := (6, [(0, .int (xs 1))], [.long 2000000000, .long 0, .long ((xs 1)).toInt64], x_h0, 0, 0)) rfl ?_
      refine x_R.call (a := 196) (vs := [.long ((xs 1)).toInt64, .long 0, .long 2000000000]) (rest := []) (M' := M_cX12_in) rfl rfl rfl ?_
      refine x_R.steps 3 (c' := (3, [(0, .long ((xs 1)).toInt64), (2, .long 0), (4, .long 2000000000)], [.int (lg_cmp ((xs 1)).toInt64 0)], x_h0, 0, 0)) rfl ?_
      refine x_R.ite (p := (lg_cmp ((xs 1)).toInt64 0) < (0 : Int32)) (c1 := (17, [(0, .long ((xs 1)).toInt64), (2, .long 0), (4, .long 2000000000)], [], x_h0, 0, 0)) (c2 := (6, [(0, .long ((xs 1)).toInt64), (2, .long 0), (4, .long 2000000000)], [], x_h0, 0, 0)) rfl (fun h4 => ?_) (fun h4 => ?_)
      · have g4 := (x_lg_lt (C := 0) (by decide)).mp h4
        exfalso; omega
      · have g4 := mt (x_lg_lt (C := 0) (by decide)).mpr h4
        refine x_R.steps 3 (c' := (10, [(0, .long ((xs 1)).toInt64), (2, .long 0), (4, .long 2000000000)], [.int (lg_cmp ((xs 1)).toInt64 2000000000)], x_h0, 0, 0)) rfl ?_
        refine x_R.ite (p := (0 : Int32) < (lg_cmp ((xs 1)).toInt64 2000000000)) (c1 := (17, [(0, .long ((xs 1)).toInt64), (2, .long 0), (4, .long 2000000000)], [], x_h0, 0, 0)) (c2 := (13, [(0, .long ((xs 1)).toInt64), (2, .long 0), (4, .long 2000000000)], [], x_h0, 0, 0)) rfl (fun h5 => ?_) (fun h5 => ?_)
        · have g5 := (x_lg_gt (C := 2000000000) (by decide)).mp h5
          refine x_R.steps 1 (c' := (18, [(0, .long ((xs 1)).toInt64), (2, .long 0), (4, .long 2000000000)], [.int 0], x_h0, 0, 0)) rfl ?_
          refine x_R.ret (v := some (.int 0)) rfl ?_
          refine x_R.steps 0 (c' := (9, [(0, .int (xs 1))], [.int 0], x_h0, 0, 0)) rfl ?_
          refine x_R.ret (v := some (.int 0)) rfl ?_
          refine x_R.steps 0 (c' := (4, [(0, .ref 75), (1, .int (xs 1)), (2, .int (xs 2)), (3, .int (xs 3))], [.int 0], x_h0, 0, 0)) rfl ?_
          refine x_R.steps 1 (c' := (33, [(0, .ref 75), (1, .int (xs 1)), (2, .int (xs 2)), (3, .int (xs 3))], [], x_h0, 0, 0)) rfl ?_
          refine x_R.steps 1 (c' := (35, [(0, .ref 75), (1, .int (xs 1)), (2, .int (xs 2)), (3, .int (xs 3))], [.int (-2)], x_h0, 0, 0)) rfl ?_
          refine x_R.ret (v := some (.int (-2))) rfl ?_
          refine x_R.steps 0 (c' := (2064, [(3, .int 0), (2, .ref 75), (1, .ref 0), (0, .ref x_scr)], [.int (-2), .int (-2)], x_h0, 98, 10728)) rfl ?_
          refine x_R.steps 1 (c' := (2370, [(3, .int 0), (2, .ref 75), (1, .ref 0), (0, .ref x_scr)], [], x_h0, 98, 10728)) rfl ?_
          refine x_R.steps 7 (c' := (24, [(3, .int 6), (2, .ref 75), (1, .ref 0), (0, .ref x_scr)], [.int 0, .int 6], x_h0, 98, 10728)) rfl ?_
          refine x_R.steps 1 (c' := (2376, [(3, .int 6), (2, .ref 75), (1, .ref 0), (0, .ref x_scr)], [], x_h0, 98, 10728)) rfl ?_
          refine x_R.steps 1 (c' := (2377, [(3, .int 6), (2, .ref 75), (1, .ref 0), (0, .ref x_scr)], [.int 1], x_h0, 98, 10728)) rfl ?_
          exact x_R.ret (v := some (.int 1)) rfl x_fin
        · have g5 := mt (x_lg_gt (C := 2000000000) (by decide)).mpr h5
          exfalso; omega
    · have g3 := mt (x_i_gt (C := 2000000000) (by decide)).mpr h3
      refine x_R.steps 2 (c' := (16, [(0, .int (xs 1))], [.int 1], x_h0, 0, 0)) rfl ?_
      refine x_R.ret (v := some (.int 1)) rfl ?_
      refine x_R.steps 0 (c' := (4, [(0, .ref 0), (1, .int (xs 1)), (2, .int 1), (3, .int (xs 2)), (4, .int (xs 3))], [.int 1], x_h0, 0, 0)) rfl ?_
      refine x_R.steps 1 (c' := (7, [(0, .ref 0), (1, .int (xs 1)), (2, .int 1), (3, .int (xs 2)), (4, .int (xs 3))], [], x_h0, 0, 0)) rfl ?_
      refine x_R.steps 2 (c' := (9, [(0, .ref 0), (1, .int (xs 1)), (2, .int 1), (3, .int (xs 2)), (4, .int (xs 3))], [.int 1, .int 1], x_h0, 0, 0)) rfl ?_
      refine x_R.steps 1 (c' := (12, [(0, .ref 0), (1, .int (xs 1)), (2, .int 1), (3, .int (xs 2)), (4, .int (xs 3))], [], x_h0, 0, 0)) rfl ?_
      refine x_R.steps 2 (c' := (15, [(0, .ref 0), (1, .int (xs 1)), (2, .int 1), (3, .int (xs 2)), (4, .int (xs 3))], [.int 20, .int 1], x_h0, 0, 0)) rfl ?_
      refine x_R.steps 1 (c' := (18, [(0, .ref 0), (1, .int (xs 1)), (2, .int 1), (3, .int (xs 2)), (4, .int (xs 3))], [], x_h0, 0, 0)) rfl ?_
      refine x_R.steps 1 (c' := (19, [(0, .ref 0), (1, .int (xs 1)), (2, .int 1), (3, .int (xs 2)), (4, .int (xs 3))], [.int (xs 2)], x_h0, 0, 0)) rfl ?_
      refine x_R.call (a := 183) (vs := [.int (xs 2)]) (rest := []) (M' := M_cX11_isLaw) rfl rfl rfl ?_
      refine x_R.steps 1 (c' := (1, [(0, .int (xs 2))], [.int (xs 2)], x_h0, 0, 0)) rfl ?_
      refine x_R.ite (p := (xs 2) < (0 : Int32)) (c1 := (13, [(0, .int (xs 2))], [], x_h0, 0, 0)) (c2 := (4, [(0, .int (xs 2))], [], x_h0, 0, 0)) rfl (fun h6 => ?_) (fun h6 => ?_)
      · have g6 := (x_i_lt (C := 0) (by decide)).mp h6
        refine x_R.steps 1 (c' := (14, [(0, .int (xs 2))], [.int 0], x_h0, 0, 0)) rfl ?_
        refine x_R.ret (v := some (.int 0)) rfl ?_
        refine x_R.steps 0 (c' := (22, [(0, .ref 0), (1, .int (xs 1)), (2, .int 1), (3, .int (xs 2)), (4, .int (xs 3))], [.int 0], x_h0, 0, 0)) rfl ?_
        refine x_R.steps 1 (c' := (37, [(0, .ref 0), (1, .int (xs 1)), (2, .int 1), (3, .int (xs 2)), (4, .int (xs 3))], [], x_h0, 0, 0)) rfl ?_
        refine x_R.steps 1 (c' := (39, [(0, .ref 0), (1, .int (xs 1)), (2, .int 1), (3, .int (xs 2)), (4, .int (xs 3))], [.int (-2)], x_h0, 0, 0)) rfl ?_
        refine x_R.ret (v := some (.int (-2))) rfl ?_
        refine x_R.steps 0 (c' := (8, [(0, .ref 0), (1, .int (xs 1)), (2, .int (xs 2)), (3, .int (xs 3))], [.int (-2)], x_h0, 0, 0)) rfl ?_
        refine x_R.ret (v := some (.int (-2))) rfl ?_
        refine x_R.steps 0 (c' := (2045, [(3, .int 0), (2, .ref 75), (1, .ref 0), (0, .ref x_scr)], [.int (-2)], x_h0, 98, 10728)) rfl ?_
        refine x_R.steps 5 (c' := (2050, [(3, .int 0), (2, .ref 75), (1, .ref 0), (0, .ref x_scr)], [.int 1, .ref x_scr, .ref 75, .int (-2)], x_h0, 98, 10728)) rfl ?_
        refine x_R.steps 1 (c' := (2051, [(3, .int 0), (2, .ref 75), (1, .ref 0), (0, .ref x_scr)], [.int (xs 1), .ref 75, .int (-2)], x_h0, 98, 10728)) rfl ?_
        refine x_R.steps 4 (c' := (2055, [(3, .int 0), (2, .ref 75), (1, .ref 0), (0, .ref x_scr)], [.int 2, .ref x_scr, .int (xs 1), .ref 75, .int (-2)], x_h0, 98, 10728)) rfl ?_
        refine x_R.steps 1 (c' := (2056, [(3, .int 0), (2, .ref 75), (1, .ref 0), (0, .ref x_scr)], [.int (xs 2), .int (xs 1), .ref 75, .int (-2)], x_h0, 98, 10728)) rfl ?_
        refine x_R.steps 4 (c' := (2060, [(3, .int 0), (2, .ref 75), (1, .ref 0), (0, .ref x_scr)], [.int 3, .ref x_scr, .int (xs 2), .int (xs 1), .ref 75, .int (-2)], x_h0, 98, 10728)) rfl ?_
        refine x_R.steps 1 (c' := (2061, [(3, .int 0), (2, .ref 75), (1, .ref 0), (0, .ref x_scr)], [.int (xs 3), .int (xs 2), .int (xs 1), .ref 75, .int (-2)], x_h0, 98, 10728)) rfl ?_
        refine x_R.call (a := 348) (vs := [.ref 75, .int (xs 1), .int (xs 2), .int (xs 3)]) (rest := [.int (-2)]) (M' := M_cX12_night) rfl rfl rfl ?_
        refine x_R.steps 1 (c' := (1, [(0, .ref 75), (1, .int (xs 1)), (2, .int (xs 2)), (3, .int (xs 3))], [.int (xs 1)], x_h0, 0, 0)) rfl ?_
        refine x_R.call (a := 345) (vs := [.int (xs 1)]) (rest := []) (M' := M_cX12_isSeed) rfl rfl rfl ?_
        refine x_R.steps 4 (c' := (6, [(0, .int (xs 1))], [.long 2000000000, .long 0, .long ((xs 1)).toInt64], x_h0, 0, 0)) rfl ?_
        refine x_R.call (a := 196) (vs := [.long ((xs 1)).toInt64, .long 0, .long 2000000000]) (rest := []) (M' := M_cX12_in) rfl rfl rfl ?_
        refine x_R.steps 3 (c' := (3, [(0, .long ((xs 1)).toInt64), (2, .long 0), (4, .long 2000000000)], [.int (lg_cmp ((xs 1)).toInt64 0)], x_h0, 0, 0)) rfl ?_
        refine x_R.ite (p := (lg_cmp ((xs 1)).toInt64 0) < (0 : Int32)) (c1 := (17, [(0, .long ((xs 1)).toInt64), (2, .long 0), (4, .long 2000000000)], [], x_h0, 0, 0)) (c2 := (6, [(0, .long ((xs 1)).toInt64), (2, .long 0), (4, .long 2000000000)], [], x_h0, 0, 0)) rfl (fun h7 => ?_) (fun h7 => ?_)
        · have g7 := (x_lg_lt (C := 0) (by decide)).mp h7
          exfalso; omega
        · have g7 := mt (x_lg_lt (C := 0) (by decide)).mpr h7
          refine x_R.steps 3 (c' := (10, [(0, .long ((xs 1)).toInt64), (2, .long 0), (4, .long 2000000000)], [.int (lg_cmp ((xs 1)).toInt64 2000000000)], x_h0, 0, 0)) rfl ?_
          refine x_R.ite (p := (0 : Int32) < (lg_cmp ((xs 1)).toInt64 2000000000)) (c1 := (17, [(0, .long ((xs 1)).toInt64), (2, .long 0), (4, .long 2000000000)], [], x_h0, 0, 0)) (c2 := (13, [(0, .long ((xs 1)).toInt64), (2, .long 0), (4, .long 2000000000)], [], x_h0, 0, 0)) rfl (fun h8 => ?_) (fun h8 => ?_)
          · have g8 := (x_lg_gt (C := 2000000000) (by decide)).mp h8
            exfalso; omega
          · have g8 := mt (x_lg_gt (C := 2000000000) (by decide)).mpr h8
            refine x_R.steps 2 (c' := (18, [(0, .long ((xs 1)).toInt64), (2, .long 0), (4, .long 2000000000)], [.int 1], x_h0, 0, 0)) rfl ?_
            refine x_R.ret (v := some (.int 1)) rfl ?_
            refine x_R.steps 0 (c' := (9, [(0, .int (xs 1))], [.int 1], x_h0, 0, 0)) rfl ?_
            refine x_R.ret (v := some (.int 1)) rfl ?_
            refine x_R.steps 0 (c' := (4, [(0, .ref 75), (1, .int (xs 1)), (2, .int (xs 2)), (3, .int (xs 3))], [.int 1], x_h0, 0, 0)) rfl ?_
            refine x_R.steps 1 (c' := (7, [(0, .ref 75), (1, .int (xs 1)), (2, .int (xs 2)), (3, .int (xs 3))], [], x_h0, 0, 0)) rfl ?_
            refine x_R.steps 1 (c' := (8, [(0, .ref 75), (1, .int (xs 1)), (2, .int (xs 2)), (3, .int (xs 3))], [.int (xs 2)], x_h0, 0, 0)) rfl ?_
            refine x_R.call (a := 289) (vs := [.int (xs 2)]) (rest := []) (M' := M_cX12_isLaw) rfl rfl rfl ?_
            refine x_R.steps 4 (c' := (6, [(0, .int (xs 2))], [.long 3, .long 0, .long ((xs 2)).toInt64], x_h0, 0, 0)) rfl ?_
            refine x_R.call (a := 196) (vs := [.long ((xs 2)).toInt64, .long 0, .long 3]) (rest := []) (M' := M_cX12_in) rfl rfl rfl ?_
            refine x_R.steps 3 (c' := (3, [(0, .long ((xs 2)).toInt64), (2, .long 0), (4, .long 3)], [.int (lg_cmp ((xs 2)).toInt64 0)], x_h0, 0, 0)) rfl ?_
            refine x_R.ite (p := (lg_cmp ((xs 2)).toInt64 0) < (0 : Int32)) (c1 := (17, [(0, .long ((xs 2)).toInt64), (2, .long 0), (4, .long 3)], [], x_h0, 0, 0)) (c2 := (6, [(0, .long ((xs 2)).toInt64), (2, .long 0), (4, .long 3)], [], x_h0, 0, 0)) rfl (fun h9 => ?_) (fun h9 => ?_)
            · have g9 := (x_lg_lt (C := 0) (by decide)).mp h9
              refine x_R.steps 1 (c' := (18, [(0, .long ((xs 2)).toInt64), (2, .long 0), (4, .long 3)], [.int 0], x_h0, 0, 0)) rfl ?_
              refine x_R.ret (v := some (.int 0)) rfl ?_
              refine x_R.steps 0 (c' := (9, [(0, .int (xs 2))], [.int 0], x_h0, 0, 0)) rfl ?_
              refine x_R.ret (v := some (.int 0)) rfl ?_
              refine x_R.steps 0 (c' := (11, [(0, .ref 75), (1, .int (xs 1)), (2, .int (xs 2)), (3, .int (xs 3))], [.int 0], x_h0, 0, 0)) rfl ?_
              refine x_R.steps 1 (c' := (33, [(0, .ref 75), (1, .int (xs 1)), (2, .int (xs 2)), (3, .int (xs 3))], [], x_h0, 0, 0)) rfl ?_
              refine x_R.steps 1 (c' := (35, [(0, .ref 75), (1, .int (xs 1)), (2, .int (xs 2)), (3, .int (xs 3))], [.int (-2)], x_h0, 0, 0)) rfl ?_
              refine x_R.ret (v := some (.int (-2))) rfl ?_
              refine x_R.steps 0 (c' := (2064, [(3, .int 0), (2, .ref 75), (1, .ref 0), (0, .ref x_scr)], [.int (-2), .int (-2)], x_h0, 98, 10728)) rfl ?_
              refine x_R.steps 1 (c' := (2370, [(3, .int 0), (2, .ref 75), (1, .ref 0), (0, .ref x_scr)], [], x_h0, 98, 10728)) rfl ?_
              refine x_R.steps 7 (c' := (24, [(3, .int 6), (2, .ref 75), (1, .ref 0), (0, .ref x_scr)], [.int 0, .int 6], x_h0, 98, 10728)) rfl ?_
              refine x_R.steps 1 (c' := (2376, [(3, .int 6), (2, .ref 75), (1, .ref 0), (0, .ref x_scr)], [], x_h0, 98, 10728)) rfl ?_
              refine x_R.steps 1 (c' := (2377, [(3, .int 6), (2, .ref 75), (1, .ref 0), (0, .ref x_scr)], [.int 1], x_h0, 98, 10728)) rfl ?_
              exact x_R.ret (v := some (.int 1)) rfl x_fin
            · have g9 := mt (x_lg_lt (C := 0) (by decide)).mpr h9
              exfalso; omega
      · have g6 := mt (x_i_lt (C := 0) (by decide)).mpr h6
        refine x_R.steps 2 (c' := (6, [(0, .int (xs 2))], [.int 4, .int (xs 2)], x_h0, 0, 0)) rfl ?_
        refine x_R.ite (p := (4 : Int32) ≤ (xs 2)) (c1 := (13, [(0, .int (xs 2))], [], x_h0, 0, 0)) (c2 := (9, [(0, .int (xs 2))], [], x_h0, 0, 0)) rfl (fun h10 => ?_) (fun h10 => ?_)
        · have g10 := (x_i_ge (C := 4) (by decide)).mp h10
          refine x_R.steps 1 (c' := (14, [(0, .int (xs 2))], [.int 0], x_h0, 0, 0)) rfl ?_
          refine x_R.ret (v := some (.int 0)) rfl ?_
          refine x_R.steps 0 (c' := (22, [(0, .ref 0), (1, .int (xs 1)), (2, .int 1), (3, .int (xs 2)), (4, .int (xs 3))], [.int 0], x_h0, 0, 0)) rfl ?_
          refine x_R.steps 1 (c' := (37, [(0, .ref 0), (1, .int (xs 1)), (2, .int 1), (3, .int (xs 2)), (4, .int (xs 3))], [], x_h0, 0, 0)) rfl ?_
          refine x_R.steps 1 (c' := (39, [(0, .ref 0), (1, .int (xs 1)), (2, .int 1), (3, .int (xs 2)), (4, .int (xs 3))], [.int (-2)], x_h0, 0, 0)) rfl ?_
          refine x_R.ret (v := some (.int (-2))) rfl ?_
          refine x_R.steps 0 (c' := (8, [(0, .ref 0), (1, .int (xs 1)), (2, .int (xs 2)), (3, .int (xs 3))], [.int (-2)], x_h0, 0, 0)) rfl ?_
          refine x_R.ret (v := some (.int (-2))) rfl ?_
          refine x_R.steps 0 (c' := (2045, [(3, .int 0), (2, .ref 75), (1, .ref 0), (0, .ref x_scr)], [.int (-2)], x_h0, 98, 10728)) rfl ?_
          refine x_R.steps 5 (c' := (2050, [(3, .int 0), (2, .ref 75), (1, .ref 0), (0, .ref x_scr)], [.int 1, .ref x_scr, .ref 75, .int (-2)], x_h0, 98, 10728)) rfl ?_
          refine x_R.steps 1 (c' := (2051, [(3, .int 0), (2, .ref 75), (1, .ref 0), (0, .ref x_scr)], [.int (xs 1), .ref 75, .int (-2)], x_h0, 98, 10728)) rfl ?_
          refine x_R.steps 4 (c' := (2055, [(3, .int 0), (2, .ref 75), (1, .ref 0), (0, .ref x_scr)], [.int 2, .ref x_scr, .int (xs 1), .ref 75, .int (-2)], x_h0, 98, 10728)) rfl ?_
          refine x_R.steps 1 (c' := (2056, [(3, .int 0), (2, .ref 75), (1, .ref 0), (0, .ref x_scr)], [.int (xs 2), .int (xs 1), .ref 75, .int (-2)], x_h0, 98, 10728)) rfl ?_
          refine x_R.steps 4 (c' := (2060, [(3, .int 0), (2, .ref 75), (1, .ref 0), (0, .ref x_scr)], [.int 3, .ref x_scr, .int (xs 2), .int (xs 1), .ref 75, .int (-2)], x_h0, 98, 10728)) rfl ?_
          refine x_R.steps 1 (c' := (2061, [(3, .int 0), (2, .ref 75), (1, .ref 0), (0, .ref x_scr)], [.int (xs 3), .int (xs 2), .int (xs 1), .ref 75, .int (-2)], x_h0, 98, 10728)) rfl ?_
          refine x_R.call (a := 348) (vs := [.ref 75, .int (xs 1), .int (xs 2), .int (xs 3)]) (rest := [.int (-2)]) (M' := M_cX12_night) rfl rfl rfl ?_
          refine x_R.steps 1 (c' := (1, [(0, .ref 75), (1, .int (xs 1)), (2, .int (xs 2)), (3, .int (xs 3))], [.int (xs 1)], x_h0, 0, 0)) rfl ?_
          refine x_R.call (a := 345) (vs := [.int (xs 1)]) (rest := []) (M' := M_cX12_isSeed) rfl rfl rfl ?_
          refine x_R.steps 4 (c' := (6, [(0, .int (xs 1))], [.long 2000000000, .long 0, .long ((xs 1)).toInt64], x_h0, 0, 0)) rfl ?_
          refine x_R.call (a := 196) (vs := [.long ((xs 1)).toInt64, .long 0, .long 2000000000]) (rest := []) (M' := M_cX12_in) rfl rfl rfl ?_
          refine x_R.steps 3 (c' := (3, [(0, .long ((xs 1)).toInt64), (2, .long 0), (4, .long 2000000000)], [.int (lg_cmp ((xs 1)).toInt64 0)], x_h0, 0, 0)) rfl ?_
          refine x_R.ite (p := (lg_cmp ((xs 1)).toInt64 0) < (0 : Int32)) (c1 := (17, [(0, .long ((xs 1)).toInt64), (2, .long 0), (4, .long 2000000000)], [], x_h0, 0, 0)) (c2 := (6, [(0, .long ((xs 1)).toInt64), (2, .long 0), (4, .long 2000000000)], [], x_h0, 0, 0)) rfl (fun h11 => ?_) (fun h11 => ?_)
          · have g11 := (x_lg_lt (C := 0) (by decide)).mp h11
            exfalso; omega
          · have g11 := mt (x_lg_lt (C := 0) (by decide)).mpr h11
            refine x_R.steps 3 (c' := (10, [(0, .long ((xs 1)).toInt64), (2, .long 0), (4, .long 2000000000)], [.int (lg_cmp ((xs 1)).toInt64 2000000000)], x_h0, 0, 0)) rfl ?_
            refine x_R.ite (p := (0 : Int32) < (lg_cmp ((xs 1)).toInt64 2000000000)) (c1 := (17, [(0, .long ((xs 1)).toInt64), (2, .long 0), (4, .long 2000000000)], [], x_h0, 0, 0)) (c2 := (13, [(0, .long ((xs 1)).toInt64), (2, .long 0), (4, .long 2000000000)], [], x_h0, 0, 0)) rfl (fun h12 => ?_) (fun h12 => ?_)
            · have g12 := (x_lg_gt (C := 2000000000) (by decide)).mp h12
              exfalso; omega
            · have g12 := mt (x_lg_gt (C := 2000000000) (by decide)).mpr h12
              refine x_R.steps 2 (c' := (18, [(0, .long ((xs 1)).toInt64), (2, .long 0), (4, .long 2000000000)], [.int 1], x_h0, 0, 0)) rfl ?_
              refine x_R.ret (v := some (.int 1)) rfl ?_
              refine x_R.steps 0 (c' := (9, [(0, .int (xs 1))], [.int 1], x_h0, 0, 0)) rfl ?_
              refine x_R.ret (v := some (.int 1)) rfl ?_
              refine x_R.steps 0 (c' := (4, [(0, .ref 75), (1, .int (xs 1)), (2, .int (xs 2)), (3, .int (xs 3))], [.int 1], x_h0, 0, 0)) rfl ?_
              refine x_R.steps 1 (c' := (7, [(0, .ref 75), (1, .int (xs 1)), (2, .int (xs 2)), (3, .int (xs 3))], [], x_h0, 0, 0)) rfl ?_
              refine x_R.steps 1 (c' := (8, [(0, .ref 75), (1, .int (xs 1)), (2, .int (xs 2)), (3, .int (xs 3))], [.int (xs 2)], x_h0, 0, 0)) rfl ?_
              refine x_R.call (a := 289) (vs := [.int (xs 2)]) (rest := []) (M' := M_cX12_isLaw) rfl rfl rfl ?_
              refine x_R.steps 4 (c' := (6, [(0, .int (xs 2))], [.long 3, .long 0, .long ((xs 2)).toInt64], x_h0, 0, 0)) rfl ?_
              refine x_R.call (a := 196) (vs := [.long ((xs 2)).toInt64, .long 0, .long 3]) (rest := []) (M' := M_cX12_in) rfl rfl rfl ?_
              refine x_R.steps 3 (c' := (3, [(0, .long ((xs 2)).toInt64), (2, .long 0), (4, .long 3)], [.int (lg_cmp ((xs 2)).toInt64 0)], x_h0, 0, 0)) rfl ?_
              refine x_R.ite (p := (lg_cmp ((xs 2)).toInt64 0) < (0 : Int32)) (c1 := (17, [(0, .long ((xs 2)).toInt64), (2, .long 0), (4, .long 3)], [], x_h0, 0, 0)) (c2 := (6, [(0, .long ((xs 2)).toInt64), (2, .long 0), (4, .long 3)], [], x_h0, 0, 0)) rfl (fun h13 => ?_) (fun h13 => ?_)
              · have g13 := (x_lg_lt (C := 0) (by decide)).mp h13
                exfalso; omega
              · have g13 := mt (x_lg_lt (C := 0) (by decide)).mpr h13
                refine x_R.steps 3 (c' := (10, [(0, .long ((xs 2)).toInt64), (2, .long 0), (4, .long 3)], [.int (lg_cmp ((xs 2)).toInt64 3)], x_h0, 0, 0)) rfl ?_
                refine x_R.ite (p := (0 : Int32) < (lg_cmp ((xs 2)).toInt64 3)) (c1 := (17, [(0, .long ((xs 2)).toInt64), (2, .long 0), (4, .long 3)], [], x_h0, 0, 0)) (c2 := (13, [(0, .long ((xs 2)).toInt64), (2, .long 0), (4, .long 3)], [], x_h0, 0, 0)) rfl (fun h14 => ?_) (fun h14 => ?_)
                · have g14 := (x_lg_gt (C := 3) (by decide)).mp h14
                  refine x_R.steps 1 (c' := (18, [(0, .long ((xs 2)).toInt64), (2, .long 0), (4, .long 3)], [.int 0], x_h0, 0, 0)) rfl ?_
                  refine x_R.ret (v := some (.int 0)) rfl ?_
                  refine x_R.steps 0 (c' := (9, [(0, .int (xs 2))], [.int 0], x_h0, 0, 0)) rfl ?_
                  refine x_R.ret (v := some (.int 0)) rfl ?_
                  refine x_R.steps 0 (c' := (11, [(0, .ref 75), (1, .int (xs 1)), (2, .int (xs 2)), (3, .int (xs 3))], [.int 0], x_h0, 0, 0)) rfl ?_
                  refine x_R.steps 1 (c' := (33, [(0, .ref 75), (1, .int (xs 1)), (2, .int (xs 2)), (3, .int (xs 3))], [], x_h0, 0, 0)) rfl ?_
                  refine x_R.steps 1 (c' := (35, [(0, .ref 75), (1, .int (xs 1)), (2, .int (xs 2)), (3, .int (xs 3))], [.int (-2)], x_h0, 0, 0)) rfl ?_
                  refine x_R.ret (v := some (.int (-2))) rfl ?_
                  refine x_R.steps 0 (c' := (2064, [(3, .int 0), (2, .ref 75), (1, .ref 0), (0, .ref x_scr)], [.int (-2), .int (-2)], x_h0, 98, 10728)) rfl ?_
                  refine x_R.steps 1 (c' := (2370, [(3, .int 0), (2, .ref 75), (1, .ref 0), (0, .ref x_scr)], [], x_h0, 98, 10728)) rfl ?_
                  refine x_R.steps 7 (c' := (24, [(3, .int 6), (2, .ref 75), (1, .ref 0), (0, .ref x_scr)], [.int 0, .int 6], x_h0, 98, 10728)) rfl ?_
                  refine x_R.steps 1 (c' := (2376, [(3, .int 6), (2, .ref 75), (1, .ref 0), (0, .ref x_scr)], [], x_h0, 98, 10728)) rfl ?_
                  refine x_R.steps 1 (c' := (2377, [(3, .int 6), (2, .ref 75), (1, .ref 0), (0, .ref x_scr)], [.int 1], x_h0, 98, 10728)) rfl ?_
                  exact x_R.ret (v := some (.int 1)) rfl x_fin
                · have g14 := mt (x_lg_gt (C := 3) (by decide)).mpr h14
                  exfalso; omega
        · have g10 := mt (x_i_ge (C := 4) (by decide)).mpr h10
          refine x_R.steps 2 (c' := (14, [(0, .int (xs 2))], [.int 1], x_h0, 0, 0)) rfl ?_
          refine x_R.ret (v := some (.int 1)) rfl ?_
          refine x_R.steps 0 (c' := (22, [(0, .ref 0), (1, .int (xs 1)), (2, .int 1), (3, .int (xs 2)), (4, .int (xs 3))], [.int 1], x_h0, 0, 0)) rfl ?_
          refine x_R.steps 1 (c' := (25, [(0, .ref 0), (1, .int (xs 1)), (2, .int 1), (3, .int (xs 2)), (4, .int (xs 3))], [], x_h0, 0, 0)) rfl ?_
          refine x_R.steps 3 (c' := (31, [(0, .ref 0), (1, .int (xs 1)), (2, .int 1), (3, .int (xs 2)), (4, .int (xs 3))], [.int (xs 3), .ref 1], x_h0, 0, 0)) rfl ?_
          refine x_R.call (a := 15) (vs := [.ref 1, .int (xs 3)]) (rest := []) (M' := M_cX2_isPlayer) rfl rfl rfl ?_
          refine x_R.steps 1 (c' := (1, [(0, .ref 1), (1, .int (xs 3))], [.int (xs 3)], x_h0, 0, 0)) rfl ?_
          refine x_R.ite (p := (xs 3) < (0 : Int32)) (c1 := (16, [(0, .ref 1), (1, .int (xs 3))], [], x_h0, 0, 0)) (c2 := (4, [(0, .ref 1), (1, .int (xs 3))], [], x_h0, 0, 0)) rfl (fun h15 => ?_) (fun h15 => ?_)
          · have g15 := (x_i_lt (C := 0) (by decide)).mp h15
            refine x_R.steps 1 (c' := (17, [(0, .ref 1), (1, .int (xs 3))], [.int 0], x_h0, 0, 0)) rfl ?_
            refine x_R.ret (v := some (.int 0)) rfl ?_
            refine x_R.steps 0 (c' := (34, [(0, .ref 0), (1, .int (xs 1)), (2, .int 1), (3, .int (xs 2)), (4, .int (xs 3))], [.int 0], x_h0, 0, 0)) rfl ?_
            refine x_R.steps 1 (c' := (37, [(0, .ref 0), (1, .int (xs 1)), (2, .int 1), (3, .int (xs 2)), (4, .int (xs 3))], [], x_h0, 0, 0)) rfl ?_
            refine x_R.steps 1 (c' := (39, [(0, .ref 0), (1, .int (xs 1)), (2, .int 1), (3, .int (xs 2)), (4, .int (xs 3))], [.int (-2)], x_h0, 0, 0)) rfl ?_
            refine x_R.ret (v := some (.int (-2))) rfl ?_
            refine x_R.steps 0 (c' := (8, [(0, .ref 0), (1, .int (xs 1)), (2, .int (xs 2)), (3, .int (xs 3))], [.int (-2)], x_h0, 0, 0)) rfl ?_
            refine x_R.ret (v := some (.int (-2))) rfl ?_
            refine x_R.steps 0 (c' := (2045, [(3, .int 0), (2, .ref 75), (1, .ref 0), (0, .ref x_scr)], [.int (-2)], x_h0, 98, 10728)) rfl ?_
            refine x_R.steps 5 (c' := (2050, [(3, .int 0), (2, .ref 75), (1, .ref 0), (0, .ref x_scr)], [.int 1, .ref x_scr, .ref 75, .int (-2)], x_h0, 98, 10728)) rfl ?_
            refine x_R.steps 1 (c' := (2051, [(3, .int 0), (2, .ref 75), (1, .ref 0), (0, .ref x_scr)], [.int (xs 1), .ref 75, .int (-2)], x_h0, 98, 10728)) rfl ?_
            refine x_R.steps 4 (c' := (2055, [(3, .int 0), (2, .ref 75), (1, .ref 0), (0, .ref x_scr)], [.int 2, .ref x_scr, .int (xs 1), .ref 75, .int (-2)], x_h0, 98, 10728)) rfl ?_
            refine x_R.steps 1 (c' := (2056, [(3, .int 0), (2, .ref 75), (1, .ref 0), (0, .ref x_scr)], [.int (xs 2), .int (xs 1), .ref 75, .int (-2)], x_h0, 98, 10728)) rfl ?_
            refine x_R.steps 4 (c' := (2060, [(3, .int 0), (2, .ref 75), (1, .ref 0), (0, .ref x_scr)], [.int 3, .ref x_scr, .int (xs 2), .int (xs 1), .ref 75, .int (-2)], x_h0, 98, 10728)) rfl ?_
            refine x_R.steps 1 (c' := (2061, [(3, .int 0), (2, .ref 75), (1, .ref 0), (0, .ref x_scr)], [.int (xs 3), .int (xs 2), .int (xs 1), .ref 75, .int (-2)], x_h0, 98, 10728)) rfl ?_
            refine x_R.call (a := 348) (vs := [.ref 75, .int (xs 1), .int (xs 2), .int (xs 3)]) (rest := [.int (-2)]) (M' := M_cX12_night) rfl rfl rfl ?_
            refine x_R.steps 1 (c' := (1, [(0, .ref 75), (1, .int (xs 1)), (2, .int (xs 2)), (3, .int (xs 3))], [.int (xs 1)], x_h0, 0, 0)) rfl ?_
            refine x_R.call (a := 345) (vs := [.int (xs 1)]) (rest := []) (M' := M_cX12_isSeed) rfl rfl rfl ?_
            refine x_R.steps 4 (c' := (6, [(0, .int (xs 1))], [.long 2000000000, .long 0, .long ((xs 1)).toInt64], x_h0, 0, 0)) rfl ?_
            refine x_R.call (a := 196) (vs := [.long ((xs 1)).toInt64, .long 0, .long 2000000000]) (rest := []) (M' := M_cX12_in) rfl rfl rfl ?_
            refine x_R.steps 3 (c' := (3, [(0, .long ((xs 1)).toInt64), (2, .long 0), (4, .long 2000000000)], [.int (lg_cmp ((xs 1)).toInt64 0)], x_h0, 0, 0)) rfl ?_
            refine x_R.ite (p := (lg_cmp ((xs 1)).toInt64 0) < (0 : Int32)) (c1 := (17, [(0, .long ((xs 1)).toInt64), (2, .long 0), (4, .long 2000000000)], [], x_h0, 0, 0)) (c2 := (6, [(0, .long ((xs 1)).toInt64), (2, .long 0), (4, .long 2000000000)], [], x_h0, 0, 0)) rfl (fun h16 => ?_) (fun h16 => ?_)
            · have g16 := (x_lg_lt (C := 0) (by decide)).mp h16
              exfalso; omega
            · have g16 := mt (x_lg_lt (C := 0) (by decide)).mpr h16
              refine x_R.steps 3 (c' := (10, [(0, .long ((xs 1)).toInt64), (2, .long 0), (4, .long 2000000000)], [.int (lg_cmp ((xs 1)).toInt64 2000000000)], x_h0, 0, 0)) rfl ?_
              refine x_R.ite (p := (0 : Int32) < (lg_cmp ((xs 1)).toInt64 2000000000)) (c1 := (17, [(0, .long ((xs 1)).toInt64), (2, .long 0), (4, .long 2000000000)], [], x_h0, 0, 0)) (c2 := (13, [(0, .long ((xs 1)).toInt64), (2, .long 0), (4, .long 2000000000)], [], x_h0, 0, 0)) rfl (fun h17 => ?_) (fun h17 => ?_)
              · have g17 := (x_lg_gt (C := 2000000000) (by decide)).mp h17
                exfalso; omega
              · have g17 := mt (x_lg_gt (C := 2000000000) (by decide)).mpr h17
                refine x_R.steps 2 (c' := (18, [(0, .long ((xs 1)).toInt64), (2, .long 0), (4, .long 2000000000)], [.int 1], x_h0, 0, 0)) rfl ?_
                refine x_R.ret (v := some (.int 1)) rfl ?_
                refine x_R.steps 0 (c' := (9, [(0, .int (xs 1))], [.int 1], x_h0, 0, 0)) rfl ?_
                refine x_R.ret (v := some (.int 1)) rfl ?_
                refine x_R.steps 0 (c' := (4, [(0, .ref 75), (1, .int (xs 1)), (2, .int (xs 2)), (3, .int (xs 3))], [.int 1], x_h0, 0, 0)) rfl ?_
                refine x_R.steps 1 (c' := (7, [(0, .ref 75), (1, .int (xs 1)), (2, .int (xs 2)), (3, .int (xs 3))], [], x_h0, 0, 0)) rfl ?_
                refine x_R.steps 1 (c' := (8, [(0, .ref 75), (1, .int (xs 1)), (2, .int (xs 2)), (3, .int (xs 3))], [.int (xs 2)], x_h0, 0, 0)) rfl ?_
                refine x_R.call (a := 289) (vs := [.int (xs 2)]) (rest := []) (M' := M_cX12_isLaw) rfl rfl rfl ?_
                refine x_R.steps 4 (c' := (6, [(0, .int (xs 2))], [.long 3, .long 0, .long ((xs 2)).toInt64], x_h0, 0, 0)) rfl ?_
                refine x_R.call (a := 196) (vs := [.long ((xs 2)).toInt64, .long 0, .long 3]) (rest := []) (M' := M_cX12_in) rfl rfl rfl ?_
                refine x_R.steps 3 (c' := (3, [(0, .long ((xs 2)).toInt64), (2, .long 0), (4, .long 3)], [.int (lg_cmp ((xs 2)).toInt64 0)], x_h0, 0, 0)) rfl ?_
                refine x_R.ite (p := (lg_cmp ((xs 2)).toInt64 0) < (0 : Int32)) (c1 := (17, [(0, .long ((xs 2)).toInt64), (2, .long 0), (4, .long 3)], [], x_h0, 0, 0)) (c2 := (6, [(0, .long ((xs 2)).toInt64), (2, .long 0), (4, .long 3)], [], x_h0, 0, 0)) rfl (fun h18 => ?_) (fun h18 => ?_)
                · have g18 := (x_lg_lt (C := 0) (by decide)).mp h18
                  exfalso; omega
                · have g18 := mt (x_lg_lt (C := 0) (by decide)).mpr h18
                  refine x_R.steps 3 (c' := (10, [(0, .long ((xs 2)).toInt64), (2, .long 0), (4, .long 3)], [.int (lg_cmp ((xs 2)).toInt64 3)], x_h0, 0, 0)) rfl ?_
                  refine x_R.ite (p := (0 : Int32) < (lg_cmp ((xs 2)).toInt64 3)) (c1 := (17, [(0, .long ((xs 2)).toInt64), (2, .long 0), (4, .long 3)], [], x_h0, 0, 0)) (c2 := (13, [(0, .long ((xs 2)).toInt64), (2, .long 0), (4, .long 3)], [], x_h0, 0, 0)) rfl (fun h19 => ?_) (fun h19 => ?_)
                  · have g19 := (x_lg_gt (C := 3) (by decide)).mp h19
                    exfalso; omega
                  · have g19 := mt (x_lg_gt (C := 3) (by decide)).mpr h19
                    refine x_R.steps 2 (c' := (18, [(0, .long ((xs 2)).toInt64), (2, .long 0), (4, .long 3)], [.int 1], x_h0, 0, 0)) rfl ?_
                    refine x_R.ret (v := some (.int 1)) rfl ?_
                    refine x_R.steps 0 (c' := (9, [(0, .int (xs 2))], [.int 1], x_h0, 0, 0)) rfl ?_
                    refine x_R.ret (v := some (.int 1)) rfl ?_
                    refine x_R.steps 0 (c' := (11, [(0, .ref 75), (1, .int (xs 1)), (2, .int (xs 2)), (3, .int (xs 3))], [.int 1], x_h0, 0, 0)) rfl ?_
                    refine x_R.steps 1 (c' := (14, [(0, .ref 75), (1, .int (xs 1)), (2, .int (xs 2)), (3, .int (xs 3))], [], x_h0, 0, 0)) rfl ?_
                    refine x_R.steps 2 (c' := (16, [(0, .ref 75), (1, .int (xs 1)), (2, .int (xs 2)), (3, .int (xs 3))], [.int (xs 3), .ref 75], x_h0, 0, 0)) rfl ?_
                    refine x_R.call (a := 205) (vs := [.ref 75, .int (xs 3)]) (rest := []) (M' := M_cX12_isPlayer) rfl rfl rfl ?_
                    refine x_R.steps 6 (c' := (9, [(0, .ref 75), (1, .int (xs 3))], [.int 6, .ref 76, .long 0, .long ((xs 3)).toInt64], x_h0, 0, 0)) rfl ?_
                    refine x_R.steps 1 (c' := (10, [(0, .ref 75), (1, .int (xs 3))], [.int 0, .long 0, .long ((xs 3)).toInt64], x_h0, 0, 0)) rfl ?_
                    refine x_R.steps 3 (c' := (13, [(0, .ref 75), (1, .int (xs 3))], [.long (-1), .long 0, .long ((xs 3)).toInt64], x_h0, 0, 0)) rfl ?_
                    refine x_R.call (a := 196) (vs := [.long ((xs 3)).toInt64, .long 0, .long (-1)]) (rest := []) (M' := M_cX12_in) rfl rfl rfl ?_
                    refine x_R.steps 3 (c' := (3, [(0, .long ((xs 3)).toInt64), (2, .long 0), (4, .long (-1))], [.int (lg_cmp ((xs 3)).toInt64 0)], x_h0, 0, 0)) rfl ?_
                    refine x_R.ite (p := (lg_cmp ((xs 3)).toInt64 0) < (0 : Int32)) (c1 := (17, [(0, .long ((xs 3)).toInt64), (2, .long 0), (4, .long (-1))], [], x_h0, 0, 0)) (c2 := (6, [(0, .long ((xs 3)).toInt64), (2, .long 0), (4, .long (-1))], [], x_h0, 0, 0)) rfl (fun h20 => ?_) (fun h20 => ?_)
                    · have g20 := (x_lg_lt (C := 0) (by decide)).mp h20
                      refine x_R.steps 1 (c' := (18, [(0, .long ((xs 3)).toInt64), (2, .long 0), (4, .long (-1))], [.int 0], x_h0, 0, 0)) rfl ?_
                      refine x_R.ret (v := some (.int 0)) rfl ?_
                      refine x_R.steps 0 (c' := (16, [(0, .ref 75), (1, .int (xs 3))], [.int 0], x_h0, 0, 0)) rfl ?_
                      refine x_R.ret (v := some (.int 0)) rfl ?_
                      refine x_R.steps 0 (c' := (19, [(0, .ref 75), (1, .int (xs 1)), (2, .int (xs 2)), (3, .int (xs 3))], [.int 0], x_h0, 0, 0)) rfl ?_
                      refine x_R.steps 1 (c' := (33, [(0, .ref 75), (1, .int (xs 1)), (2, .int (xs 2)), (3, .int (xs 3))], [], x_h0, 0, 0)) rfl ?_
                      refine x_R.steps 1 (c' := (35, [(0, .ref 75), (1, .int (xs 1)), (2, .int (xs 2)), (3, .int (xs 3))], [.int (-2)], x_h0, 0, 0)) rfl ?_
                      refine x_R.ret (v := some (.int (-2))) rfl ?_
                      refine x_R.steps 0 (c' := (2064, [(3, .int 0), (2, .ref 75), (1, .ref 0), (0, .ref x_scr)], [.int (-2), .int (-2)], x_h0, 98, 10728)) rfl ?_
                      refine x_R.steps 1 (c' := (2370, [(3, .int 0), (2, .ref 75), (1, .ref 0), (0, .ref x_scr)], [], x_h0, 98, 10728)) rfl ?_
                      refine x_R.steps 7 (c' := (24, [(3, .int 6), (2, .ref 75), (1, .ref 0), (0, .ref x_scr)], [.int 0, .int 6], x_h0, 98, 10728)) rfl ?_
                      refine x_R.steps 1 (c' := (2376, [(3, .int 6), (2, .ref 75), (1, .ref 0), (0, .ref x_scr)], [], x_h0, 98, 10728)) rfl ?_
                      refine x_R.steps 1 (c' := (2377, [(3, .int 6), (2, .ref 75), (1, .ref 0), (0, .ref x_scr)], [.int 1], x_h0, 98, 10728)) rfl ?_
                      exact x_R.ret (v := some (.int 1)) rfl x_fin
                    · have g20 := mt (x_lg_lt (C := 0) (by decide)).mpr h20
                      exfalso; omega
          · have g15 := mt (x_i_lt (C := 0) (by decide)).mpr h15
            refine x_R.steps 3 (c' := (9, [(0, .ref 1), (1, .int (xs 3))], [.int 0, .int (xs 3)], x_h0, 0, 0)) rfl ?_
            refine x_R.ite (p := (0 : Int32) ≤ (xs 3)) (c1 := (16, [(0, .ref 1), (1, .int (xs 3))], [], x_h0, 0, 0)) (c2 := (12, [(0, .ref 1), (1, .int (xs 3))], [], x_h0, 0, 0)) rfl (fun h21 => ?_) (fun h21 => ?_)
            · have g21 := (x_i_ge (C := 0) (by decide)).mp h21
              refine x_R.steps 1 (c' := (17, [(0, .ref 1), (1, .int (xs 3))], [.int 0], x_h0, 0, 0)) rfl ?_
              refine x_R.ret (v := some (.int 0)) rfl ?_
              refine x_R.steps 0 (c' := (34, [(0, .ref 0), (1, .int (xs 1)), (2, .int 1), (3, .int (xs 2)), (4, .int (xs 3))], [.int 0], x_h0, 0, 0)) rfl ?_
              refine x_R.steps 1 (c' := (37, [(0, .ref 0), (1, .int (xs 1)), (2, .int 1), (3, .int (xs 2)), (4, .int (xs 3))], [], x_h0, 0, 0)) rfl ?_
              refine x_R.steps 1 (c' := (39, [(0, .ref 0), (1, .int (xs 1)), (2, .int 1), (3, .int (xs 2)), (4, .int (xs 3))], [.int (-2)], x_h0, 0, 0)) rfl ?_
              refine x_R.ret (v := some (.int (-2))) rfl ?_
              refine x_R.steps 0 (c' := (8, [(0, .ref 0), (1, .int (xs 1)), (2, .int (xs 2)), (3, .int (xs 3))], [.int (-2)], x_h0, 0, 0)) rfl ?_
              refine x_R.ret (v := some (.int (-2))) rfl ?_
              refine x_R.steps 0 (c' := (2045, [(3, .int 0), (2, .ref 75), (1, .ref 0), (0, .ref x_scr)], [.int (-2)], x_h0, 98, 10728)) rfl ?_
              refine x_R.steps 5 (c' := (2050, [(3, .int 0), (2, .ref 75), (1, .ref 0), (0, .ref x_scr)], [.int 1, .ref x_scr, .ref 75, .int (-2)], x_h0, 98, 10728)) rfl ?_
              refine x_R.steps 1 (c' := (2051, [(3, .int 0), (2, .ref 75), (1, .ref 0), (0, .ref x_scr)], [.int (xs 1), .ref 75, .int (-2)], x_h0, 98, 10728)) rfl ?_
              refine x_R.steps 4 (c' := (2055, [(3, .int 0), (2, .ref 75), (1, .ref 0), (0, .ref x_scr)], [.int 2, .ref x_scr, .int (xs 1), .ref 75, .int (-2)], x_h0, 98, 10728)) rfl ?_
              refine x_R.steps 1 (c' := (2056, [(3, .int 0), (2, .ref 75), (1, .ref 0), (0, .ref x_scr)], [.int (xs 2), .int (xs 1), .ref 75, .int (-2)], x_h0, 98, 10728)) rfl ?_
              refine x_R.steps 4 (c' := (2060, [(3, .int 0), (2, .ref 75), (1, .ref 0), (0, .ref x_scr)], [.int 3, .ref x_scr, .int (xs 2), .int (xs 1), .ref 75, .int (-2)], x_h0, 98, 10728)) rfl ?_
              refine x_R.steps 1 (c' := (2061, [(3, .int 0), (2, .ref 75), (1, .ref 0), (0, .ref x_scr)], [.int (xs 3), .int (xs 2), .int (xs 1), .ref 75, .int (-2)], x_h0, 98, 10728)) rfl ?_
              refine x_R.call (a := 348) (vs := [.ref 75, .int (xs 1), .int (xs 2), .int (xs 3)]) (rest := [.int (-2)]) (M' := M_cX12_night) rfl rfl rfl ?_
              refine x_R.steps 1 (c' := (1, [(0, .ref 75), (1, .int (xs 1)), (2, .int (xs 2)), (3, .int (xs 3))], [.int (xs 1)], x_h0, 0, 0)) rfl ?_
              refine x_R.call (a := 345) (vs := [.int (xs 1)]) (rest := []) (M' := M_cX12_isSeed) rfl rfl rfl ?_
              refine x_R.steps 4 (c' := (6, [(0, .int (xs 1))], [.long 2000000000, .long 0, .long ((xs 1)).toInt64], x_h0, 0, 0)) rfl ?_
              refine x_R.call (a := 196) (vs := [.long ((xs 1)).toInt64, .long 0, .long 2000000000]) (rest := []) (M' := M_cX12_in) rfl rfl rfl ?_
              refine x_R.steps 3 (c' := (3, [(0, .long ((xs 1)).toInt64), (2, .long 0), (4, .long 2000000000)], [.int (lg_cmp ((xs 1)).toInt64 0)], x_h0, 0, 0)) rfl ?_
              refine x_R.ite (p := (lg_cmp ((xs 1)).toInt64 0) < (0 : Int32)) (c1 := (17, [(0, .long ((xs 1)).toInt64), (2, .long 0), (4, .long 2000000000)], [], x_h0, 0, 0)) (c2 := (6, [(0, .long ((xs 1)).toInt64), (2, .long 0), (4, .long 2000000000)], [], x_h0, 0, 0)) rfl (fun h22 => ?_) (fun h22 => ?_)
              · have g22 := (x_lg_lt (C := 0) (by decide)).mp h22
                exfalso; omega
              · have g22 := mt (x_lg_lt (C := 0) (by decide)).mpr h22
                refine x_R.steps 3 (c' := (10, [(0, .long ((xs 1)).toInt64), (2, .long 0), (4, .long 2000000000)], [.int (lg_cmp ((xs 1)).toInt64 2000000000)], x_h0, 0, 0)) rfl ?_
                refine x_R.ite (p := (0 : Int32) < (lg_cmp ((xs 1)).toInt64 2000000000)) (c1 := (17, [(0, .long ((xs 1)).toInt64), (2, .long 0), (4, .long 2000000000)], [], x_h0, 0, 0)) (c2 := (13, [(0, .long ((xs 1)).toInt64), (2, .long 0), (4, .long 2000000000)], [], x_h0, 0, 0)) rfl (fun h23 => ?_) (fun h23 => ?_)
                · have g23 := (x_lg_gt (C := 2000000000) (by decide)).mp h23
                  exfalso; omega
                · have g23 := mt (x_lg_gt (C := 2000000000) (by decide)).mpr h23
                  refine x_R.steps 2 (c' := (18, [(0, .long ((xs 1)).toInt64), (2, .long 0), (4, .long 2000000000)], [.int 1], x_h0, 0, 0)) rfl ?_
                  refine x_R.ret (v := some (.int 1)) rfl ?_
                  refine x_R.steps 0 (c' := (9, [(0, .int (xs 1))], [.int 1], x_h0, 0, 0)) rfl ?_
                  refine x_R.ret (v := some (.int 1)) rfl ?_
                  refine x_R.steps 0 (c' := (4, [(0, .ref 75), (1, .int (xs 1)), (2, .int (xs 2)), (3, .int (xs 3))], [.int 1], x_h0, 0, 0)) rfl ?_
                  refine x_R.steps 1 (c' := (7, [(0, .ref 75), (1, .int (xs 1)), (2, .int (xs 2)), (3, .int (xs 3))], [], x_h0, 0, 0)) rfl ?_
                  refine x_R.steps 1 (c' := (8, [(0, .ref 75), (1, .int (xs 1)), (2, .int (xs 2)), (3, .int (xs 3))], [.int (xs 2)], x_h0, 0, 0)) rfl ?_
                  refine x_R.call (a := 289) (vs := [.int (xs 2)]) (rest := []) (M' := M_cX12_isLaw) rfl rfl rfl ?_
                  refine x_R.steps 4 (c' := (6, [(0, .int (xs 2))], [.long 3, .long 0, .long ((xs 2)).toInt64], x_h0, 0, 0)) rfl ?_
                  refine x_R.call (a := 196) (vs := [.long ((xs 2)).toInt64, .long 0, .long 3]) (rest := []) (M' := M_cX12_in) rfl rfl rfl ?_
                  refine x_R.steps 3 (c' := (3, [(0, .long ((xs 2)).toInt64), (2, .long 0), (4, .long 3)], [.int (lg_cmp ((xs 2)).toInt64 0)], x_h0, 0, 0)) rfl ?_
                  refine x_R.ite (p := (lg_cmp ((xs 2)).toInt64 0) < (0 : Int32)) (c1 := (17, [(0, .long ((xs 2)).toInt64), (2, .long 0), (4, .long 3)], [], x_h0, 0, 0)) (c2 := (6, [(0, .long ((xs 2)).toInt64), (2, .long 0), (4, .long 3)], [], x_h0, 0, 0)) rfl (fun h24 => ?_) (fun h24 => ?_)
                  · have g24 := (x_lg_lt (C := 0) (by decide)).mp h24
                    exfalso; omega
                  · have g24 := mt (x_lg_lt (C := 0) (by decide)).mpr h24
                    refine x_R.steps 3 (c' := (10, [(0, .long ((xs 2)).toInt64), (2, .long 0), (4, .long 3)], [.int (lg_cmp ((xs 2)).toInt64 3)], x_h0, 0, 0)) rfl ?_
                    refine x_R.ite (p := (0 : Int32) < (lg_cmp ((xs 2)).toInt64 3)) (c1 := (17, [(0, .long ((xs 2)).toInt64), (2, .long 0), (4, .long 3)], [], x_h0, 0, 0)) (c2 := (13, [(0, .long ((xs 2)).toInt64), (2, .long 0), (4, .long 3)], [], x_h0, 0, 0)) rfl (fun h25 => ?_) (fun h25 => ?_)
                    · have g25 := (x_lg_gt (C := 3) (by decide)).mp h25
                      exfalso; omega
                    · have g25 := mt (x_lg_gt (C := 3) (by decide)).mpr h25
                      refine x_R.steps 2 (c' := (18, [(0, .long ((xs 2)).toInt64), (2, .long 0), (4, .long 3)], [.int 1], x_h0, 0, 0)) rfl ?_
                      refine x_R.ret (v := some (.int 1)) rfl ?_
                      refine x_R.steps 0 (c' := (9, [(0, .int (xs 2))], [.int 1], x_h0, 0, 0)) rfl ?_
                      refine x_R.ret (v := some (.int 1)) rfl ?_
                      refine x_R.steps 0 (c' := (11, [(0, .ref 75), (1, .int (xs 1)), (2, .int (xs 2)), (3, .int (xs 3))], [.int 1], x_h0, 0, 0)) rfl ?_
                      refine x_R.steps 1 (c' := (14, [(0, .ref 75), (1, .int (xs 1)), (2, .int (xs 2)), (3, .int (xs 3))], [], x_h0, 0, 0)) rfl ?_
                      refine x_R.steps 2 (c' := (16, [(0, .ref 75), (1, .int (xs 1)), (2, .int (xs 2)), (3, .int (xs 3))], [.int (xs 3), .ref 75], x_h0, 0, 0)) rfl ?_
                      refine x_R.call (a := 205) (vs := [.ref 75, .int (xs 3)]) (rest := []) (M' := M_cX12_isPlayer) rfl rfl rfl ?_
                      refine x_R.steps 6 (c' := (9, [(0, .ref 75), (1, .int (xs 3))], [.int 6, .ref 76, .long 0, .long ((xs 3)).toInt64], x_h0, 0, 0)) rfl ?_
                      refine x_R.steps 1 (c' := (10, [(0, .ref 75), (1, .int (xs 3))], [.int 0, .long 0, .long ((xs 3)).toInt64], x_h0, 0, 0)) rfl ?_
                      refine x_R.steps 3 (c' := (13, [(0, .ref 75), (1, .int (xs 3))], [.long (-1), .long 0, .long ((xs 3)).toInt64], x_h0, 0, 0)) rfl ?_
                      refine x_R.call (a := 196) (vs := [.long ((xs 3)).toInt64, .long 0, .long (-1)]) (rest := []) (M' := M_cX12_in) rfl rfl rfl ?_
                      refine x_R.steps 3 (c' := (3, [(0, .long ((xs 3)).toInt64), (2, .long 0), (4, .long (-1))], [.int (lg_cmp ((xs 3)).toInt64 0)], x_h0, 0, 0)) rfl ?_
                      refine x_R.ite (p := (lg_cmp ((xs 3)).toInt64 0) < (0 : Int32)) (c1 := (17, [(0, .long ((xs 3)).toInt64), (2, .long 0), (4, .long (-1))], [], x_h0, 0, 0)) (c2 := (6, [(0, .long ((xs 3)).toInt64), (2, .long 0), (4, .long (-1))], [], x_h0, 0, 0)) rfl (fun h26 => ?_) (fun h26 => ?_)
                      · have g26 := (x_lg_lt (C := 0) (by decide)).mp h26
                        exfalso; omega
                      · have g26 := mt (x_lg_lt (C := 0) (by decide)).mpr h26
                        refine x_R.steps 3 (c' := (10, [(0, .long ((xs 3)).toInt64), (2, .long 0), (4, .long (-1))], [.int (lg_cmp ((xs 3)).toInt64 (-1))], x_h0, 0, 0)) rfl ?_
                        refine x_R.ite (p := (0 : Int32) < (lg_cmp ((xs 3)).toInt64 (-1))) (c1 := (17, [(0, .long ((xs 3)).toInt64), (2, .long 0), (4, .long (-1))], [], x_h0, 0, 0)) (c2 := (13, [(0, .long ((xs 3)).toInt64), (2, .long 0), (4, .long (-1))], [], x_h0, 0, 0)) rfl (fun h27 => ?_) (fun h27 => ?_)
                        · have g27 := (x_lg_gt (C := -1) (by decide)).mp h27
                          refine x_R.steps 1 (c' := (18, [(0, .long ((xs 3)).toInt64), (2, .long 0), (4, .long (-1))], [.int 0], x_h0, 0, 0)) rfl ?_
                          refine x_R.ret (v := some (.int 0)) rfl ?_
                          refine x_R.steps 0 (c' := (16, [(0, .ref 75), (1, .int (xs 3))], [.int 0], x_h0, 0, 0)) rfl ?_
                          refine x_R.ret (v := some (.int 0)) rfl ?_
                          refine x_R.steps 0 (c' := (19, [(0, .ref 75), (1, .int (xs 1)), (2, .int (xs 2)), (3, .int (xs 3))], [.int 0], x_h0, 0, 0)) rfl ?_
                          refine x_R.steps 1 (c' := (33, [(0, .ref 75), (1, .int (xs 1)), (2, .int (xs 2)), (3, .int (xs 3))], [], x_h0, 0, 0)) rfl ?_
                          refine x_R.steps 1 (c' := (35, [(0, .ref 75), (1, .int (xs 1)), (2, .int (xs 2)), (3, .int (xs 3))], [.int (-2)], x_h0, 0, 0)) rfl ?_
                          refine x_R.ret (v := some (.int (-2))) rfl ?_
                          refine x_R.steps 0 (c' := (2064, [(3, .int 0), (2, .ref 75), (1, .ref 0), (0, .ref x_scr)], [.int (-2), .int (-2)], x_h0, 98, 10728)) rfl ?_
                          refine x_R.steps 1 (c' := (2370, [(3, .int 0), (2, .ref 75), (1, .ref 0), (0, .ref x_scr)], [], x_h0, 98, 10728)) rfl ?_
                          refine x_R.steps 7 (c' := (24, [(3, .int 6), (2, .ref 75), (1, .ref 0), (0, .ref x_scr)], [.int 0, .int 6], x_h0, 98, 10728)) rfl ?_
                          refine x_R.steps 1 (c' := (2376, [(3, .int 6), (2, .ref 75), (1, .ref 0), (0, .ref x_scr)], [], x_h0, 98, 10728)) rfl ?_
                          refine x_R.steps 1 (c' := (2377, [(3, .int 6), (2, .ref 75), (1, .ref 0), (0, .ref x_scr)], [.int 1], x_h0, 98, 10728)) rfl ?_
                          exact x_R.ret (v := some (.int 1)) rfl x_fin
                        · have g27 := mt (x_lg_gt (C := -1) (by decide)).mpr h27
                          exfalso; omega
            · have g21 := mt (x_i_ge (C := 0) (by decide)).mpr h21
              exfalso; omega
