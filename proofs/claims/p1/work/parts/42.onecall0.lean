set_option maxRecDepth 100000 in
set_option maxHeartbeats 4000000 in
theorem x_c1_0 (xs : Nat → Int32)  : x_R x_mt (some (6, xs)) 13 M_law (391, [(3, .int 0), (2, .ref 75), (1, .ref 0), (0, .ref x_scr)], [], x_h0, 98, 10728) x_P := by
  refine x_R.steps 5 (c' := (396, [(3, .int 0), (2, .ref 75), (1, .ref 0), (0, .ref x_scr)], [.int 1, .ref x_scr, .ref 0], x_h0, 98, 10728)) rfl ?_
  refine x_R.steps 1 (c' := (397, [(3, .int 0), (2, .ref 75), (1, .ref 0), (0, .ref x_scr)], [.int (xs 1), .ref 0], x_h0, 98, 10728)) rfl ?_
  refine x_R.call (a := 113) (vs := [.ref 0, .int (xs 1)]) (rest := []) (M' := M_cX11_end) rfl rfl rfl ?_
  refine x_R.steps 1 (c' := (1, [(0, .ref 0), (1, .int (xs 1))], [.int (xs 1)], x_h0, 0, 0)) rfl ?_
  refine x_R.ite (p := (xs 1) < (0 : Int32)) (c1 := (18, [(0, .ref 0), (1, .int (xs 1))], [], x_h0, 0, 0)) (c2 := (4, [(0, .ref 0), (1, .int (xs 1))], [], x_h0, 0, 0)) rfl (fun h1 => ?_) (fun h1 => ?_)
  · have g1 := (x_i_lt (C := 0) (by decide)).mp h1
    refine x_R.steps 1 (c' := (19, [(0, .ref 0), (1, .int (xs 1))], [.int (-1)], x_h0, 0, 0)) rfl ?_
    refine x_R.ret (v := some (.int (-1))) rfl ?_
    refine x_R.steps 0 (c' := (400, [(3, .int 0), (2, .ref 75), (1, .ref 0), (0, .ref x_scr)], [.int (-1)], x_h0, 98, 10728)) rfl ?_
    refine x_R.steps 5 (c' := (405, [(3, .int 0), (2, .ref 75), (1, .ref 0), (0, .ref x_scr)], [.int 1, .ref x_scr, .ref 75, .int (-1)], x_h0, 98, 10728)) rfl ?_
    refine x_R.steps 1 (c' := (406, [(3, .int 0), (2, .ref 75), (1, .ref 0), (0, .ref x_scr)], [.int (xs 1), .ref 75, .int (-1)], x_h0, 98, 10728)) rfl ?_
    refine x_R.call (a := 209) (vs := [.ref 75, .int (xs 1)]) (rest := [.int (-1)]) (M' := M_cX12_end) rfl rfl rfl ?_
    refine x_R.steps 6 (c' := (8, [(0, .ref 75), (1, .int (xs 1))], [.long 0, .long 0, .long ((xs 1)).toInt64], x_h0, 0, 0)) rfl ?_
    refine x_R.call (a := 196) (vs := [.long ((xs 1)).toInt64, .long 0, .long 0]) (rest := []) (M' := M_cX12_in) rfl rfl rfl ?_
    refine x_R.steps 3 (c' := (3, [(0, .long ((xs 1)).toInt64), (2, .long 0), (4, .long 0)], [.int (lg_cmp ((xs 1)).toInt64 0)], x_h0, 0, 0)) rfl ?_
    refine x_R.ite (p := (lg_cmp ((xs 1)).toInt64 0) < (0 : Int32)) (c1 := (17, [(0, .long ((xs 1)).toInt64), (2, .long 0), (4, .long 0)], [], x_h0, 0, 0)) (c2 := (6, [(0, .long ((xs 1)).toInt64), (2, .long 0), (4, .long 0)], [], x_h0, 0, 0)) rfl (fun h2 => ?_) (fun h2 => ?_)
    · have g2 := (x_lg_lt (C := 0) (by decide)).mp h2
      refine x_R.steps 1 (c' := (18, [(0, .long ((xs 1)).toInt64), (2, .long 0), (4, .long 0)], [.int 0], x_h0, 0, 0)) rfl ?_
      refine x_R.ret (v := some (.int 0)) rfl ?_
      refine x_R.steps 0 (c' := (11, [(0, .ref 75), (1, .int (xs 1))], [.int 0], x_h0, 0, 0)) rfl ?_
      refine x_R.steps 1 (c' := (14, [(0, .ref 75), (1, .int (xs 1))], [], x_h0, 0, 0)) rfl ?_
      refine x_R.steps 1 (c' := (15, [(0, .ref 75), (1, .int (xs 1))], [.int (-1)], x_h0, 0, 0)) rfl ?_
      refine x_R.ret (v := some (.int (-1))) rfl ?_
      refine x_R.steps 0 (c' := (409, [(3, .int 0), (2, .ref 75), (1, .ref 0), (0, .ref x_scr)], [.int (-1), .int (-1)], x_h0, 98, 10728)) rfl ?_
      refine x_R.steps 1 (c' := (2370, [(3, .int 0), (2, .ref 75), (1, .ref 0), (0, .ref x_scr)], [], x_h0, 98, 10728)) rfl ?_
      refine x_R.steps 7 (c' := (24, [(3, .int 6), (2, .ref 75), (1, .ref 0), (0, .ref x_scr)], [.int 0, .int 6], x_h0, 98, 10728)) rfl ?_
      refine x_R.steps 1 (c' := (2376, [(3, .int 6), (2, .ref 75), (1, .ref 0), (0, .ref x_scr)], [], x_h0, 98, 10728)) rfl ?_
      refine x_R.steps 1 (c' := (2377, [(3, .int 6), (2, .ref 75), (1, .ref 0), (0, .ref x_scr)], [.int 1], x_h0, 98, 10728)) rfl ?_
      exact x_R.ret (v := some (.int 1)) rfl x_fin
    · have g2 := mt (x_lg_lt (C := 0) (by decide)).mpr h2
      exfalso; omega
  · have g1 := mt (x_i_lt (C := 0) (by decide)).mpr h1
    refine x_R.steps 5 (c' := (15, [(0, .ref 0), (1, .int (xs 1))], [.int 0, .int (xs 1)], x_h0, 0, 0)) rfl ?_
    refine x_R.ite (p := (xs 1) ≤ (0 : Int32)) (c1 := (20, [(0, .ref 0), (1, .int (xs 1))], [], x_h0, 0, 0)) (c2 := (18, [(0, .ref 0), (1, .int (xs 1))], [], x_h0, 0, 0)) rfl (fun h3 => ?_) (fun h3 => ?_)
    · have g3 := (x_i_le (C := 0) (by decide)).mp h3
      refine x_R.steps 6 (c' := (32, [(0, .ref 0), (1, .int (xs 1))], [.int (xs 1)], (List.set x_h0 19 (.inr (10, [.int (xs 1), .ref 20]))), 0, 0)) rfl ?_
      refine x_R.ret (v := some (.int (xs 1))) rfl ?_
      refine x_R.steps 0 (c' := (400, [(3, .int 0), (2, .ref 75), (1, .ref 0), (0, .ref x_scr)], [.int (xs 1)], (List.set x_h0 19 (.inr (10, [.int (xs 1), .ref 20]))), 98, 10728)) rfl ?_
      refine x_R.steps 5 (c' := (405, [(3, .int 0), (2, .ref 75), (1, .ref 0), (0, .ref x_scr)], [.int 1, .ref x_scr, .ref 75, .int (xs 1)], (List.set x_h0 19 (.inr (10, [.int (xs 1), .ref 20]))), 98, 10728)) rfl ?_
      refine x_R.steps 1 (c' := (406, [(3, .int 0), (2, .ref 75), (1, .ref 0), (0, .ref x_scr)], [.int (xs 1), .ref 75, .int (xs 1)], (List.set x_h0 19 (.inr (10, [.int (xs 1), .ref 20]))), 98, 10728)) rfl ?_
      refine x_R.call (a := 209) (vs := [.ref 75, .int (xs 1)]) (rest := [.int (xs 1)]) (M' := M_cX12_end) rfl rfl rfl ?_
      refine x_R.steps 6 (c' := (8, [(0, .ref 75), (1, .int (xs 1))], [.long 0, .long 0, .long ((xs 1)).toInt64], (List.set x_h0 19 (.inr (10, [.int (xs 1), .ref 20]))), 0, 0)) rfl ?_
      refine x_R.call (a := 196) (vs := [.long ((xs 1)).toInt64, .long 0, .long 0]) (rest := []) (M' := M_cX12_in) rfl rfl rfl ?_
      refine x_R.steps 3 (c' := (3, [(0, .long ((xs 1)).toInt64), (2, .long 0), (4, .long 0)], [.int (lg_cmp ((xs 1)).toInt64 0)], (List.set x_h0 19 (.inr (10, [.int (xs 1), .ref 20]))), 0, 0)) rfl ?_
      refine x_R.ite (p := (lg_cmp ((xs 1)).toInt64 0) < (0 : Int32)) (c1 := (17, [(0, .long ((xs 1)).toInt64), (2, .long 0), (4, .long 0)], [], (List.set x_h0 19 (.inr (10, [.int (xs 1), .ref 20]))), 0, 0)) (c2 := (6, [(0, .long ((xs 1)).toInt64), (2, .long 0), (4, .long 0)], [], (List.set x_h0 19 (.inr (10, [.int (xs 1), .ref 20]))), 0, 0)) rfl (fun h4 => ?_) (fun h4 => ?_)
      · have g4 := (x_lg_lt (C := 0) (by decide)).mp h4
        exfalso; omega
      · have g4 := mt (x_lg_lt (C := 0) (by decide)).mpr h4
        refine x_R.steps 3 (c' := (10, [(0, .long ((xs 1)).toInt64), (2, .long 0), (4, .long 0)], [.int (lg_cmp ((xs 1)).toInt64 0)], (List.set x_h0 19 (.inr (10, [.int (xs 1), .ref 20]))), 0, 0)) rfl ?_
        refine x_R.ite (p := (0 : Int32) < (lg_cmp ((xs 1)).toInt64 0)) (c1 := (17, [(0, .long ((xs 1)).toInt64), (2, .long 0), (4, .long 0)], [], (List.set x_h0 19 (.inr (10, [.int (xs 1), .ref 20]))), 0, 0)) (c2 := (13, [(0, .long ((xs 1)).toInt64), (2, .long 0), (4, .long 0)], [], (List.set x_h0 19 (.inr (10, [.int (xs 1), .ref 20]))), 0, 0)) rfl (fun h5 => ?_) (fun h5 => ?_)
        · have g5 := (x_lg_gt (C := 0) (by decide)).mp h5
          exfalso; omega
        · have g5 := mt (x_lg_gt (C := 0) (by decide)).mpr h5
          refine x_R.steps 2 (c' := (18, [(0, .long ((xs 1)).toInt64), (2, .long 0), (4, .long 0)], [.int 1], (List.set x_h0 19 (.inr (10, [.int (xs 1), .ref 20]))), 0, 0)) rfl ?_
          refine x_R.ret (v := some (.int 1)) rfl ?_
          refine x_R.steps 0 (c' := (11, [(0, .ref 75), (1, .int (xs 1))], [.int 1], (List.set x_h0 19 (.inr (10, [.int (xs 1), .ref 20]))), 0, 0)) rfl ?_
          refine x_R.steps 1 (c' := (16, [(0, .ref 75), (1, .int (xs 1))], [], (List.set x_h0 19 (.inr (10, [.int (xs 1), .ref 20]))), 0, 0)) rfl ?_
          refine x_R.steps 4 (c' := (22, [(0, .ref 75), (1, .int (xs 1))], [.int (xs 1)], (List.set (List.set x_h0 19 (.inr (10, [.int (xs 1), .ref 20]))) 75 (.inr (12, [.int 0, .ref 76, .ref 77, .ref 78, .ref 79, .int (xs 1), .ref 80, .int 0, .int 0, .int 0, .int 0, .int 0, .int 0, .int (-1), .ref 81, .ref 82, .ref 83, .ref 84, .int 0, .int 0, .int 0, .int 0, .int 0, .int 0, .int 0, .ref 85, .ref 86, .ref 87, .ref 88, .int 0, .int 0, .int 0, .int 0, .int 0, .ref 89, .ref 90, .ref 91, .ref 92, .ref 93, .int 0, .int 0, .int 0, .long 0, .ref 94, .ref 95, .ref 96, .ref 97]))), 0, 0)) rfl ?_
          refine x_R.ret (v := some (.int (xs 1))) rfl ?_
          refine x_R.steps 0 (c' := (409, [(3, .int 0), (2, .ref 75), (1, .ref 0), (0, .ref x_scr)], [.int (xs 1), .int (xs 1)], (List.set (List.set x_h0 19 (.inr (10, [.int (xs 1), .ref 20]))) 75 (.inr (12, [.int 0, .ref 76, .ref 77, .ref 78, .ref 79, .int (xs 1), .ref 80, .int 0, .int 0, .int 0, .int 0, .int 0, .int 0, .int (-1), .ref 81, .ref 82, .ref 83, .ref 84, .int 0, .int 0, .int 0, .int 0, .int 0, .int 0, .int 0, .ref 85, .ref 86, .ref 87, .ref 88, .int 0, .int 0, .int 0, .int 0, .int 0, .ref 89, .ref 90, .ref 91, .ref 92, .ref 93, .int 0, .int 0, .int 0, .long 0, .ref 94, .ref 95, .ref 96, .ref 97]))), 98, 10728)) rfl ?_
          refine x_R.ite (p := (xs 1) = (xs 1)) (c1 := (2370, [(3, .int 0), (2, .ref 75), (1, .ref 0), (0, .ref x_scr)], [], (List.set (List.set x_h0 19 (.inr (10, [.int (xs 1), .ref 20]))) 75 (.inr (12, [.int 0, .ref 76, .ref 77, .ref 78, .ref 79, .int (xs 1), .ref 80, .int 0, .int 0, .int 0, .int 0, .int 0, .int 0, .int (-1), .ref 81, .ref 82, .ref 83, .ref 84, .int 0, .int 0, .int 0, .int 0, .int 0, .int 0, .int 0, .ref 85, .ref 86, .ref 87, .ref 88, .int 0, .int 0, .int 0, .int 0, .int 0, .ref 89, .ref 90, .ref 91, .ref 92, .ref 93, .int 0, .int 0, .int 0, .long 0, .ref 94, .ref 95, .ref 96, .ref 97]))), 98, 10728)) (c2 := (412, [(3, .int 0), (2, .ref 75), (1, .ref 0), (0, .ref x_scr)], [], (List.set (List.set x_h0 19 (.inr (10, [.int (xs 1), .ref 20]))) 75 (.inr (12, [.int 0, .ref 76, .ref 77, .ref 78, .ref 79, .int (xs 1), .ref 80, .int 0, .int 0, .int 0, .int 0, .int 0, .int 0, .int (-1), .ref 81, .ref 82, .ref 83, .ref 84, .int 0, .int 0, .int 0, .int 0, .int 0, .int 0, .int 0, .ref 85, .ref 86, .ref 87, .ref 88, .int 0, .int 0, .int 0, .int 0, .int 0, .ref 89, .ref 90, .ref 91, .ref 92, .ref 93, .int 0, .int 0, .int 0, .long 0, .ref 94, .ref 95, .ref 96, .ref 97]))), 98, 10728)) rfl (fun h6 => ?_) (fun h6 => ?_)
          · skip
            refine x_R.steps 7 (c' := (24, [(3, .int 6), (2, .ref 75), (1, .ref 0), (0, .ref x_scr)], [.int 0, .int 6], (List.set (List.set x_h0 19 (.inr (10, [.int (xs 1), .ref 20]))) 75 (.inr (12, [.int 0, .ref 76, .ref 77, .ref 78, .ref 79, .int (xs 1), .ref 80, .int 0, .int 0, .int 0, .int 0, .int 0, .int 0, .int (-1), .ref 81, .ref 82, .ref 83, .ref 84, .int 0, .int 0, .int 0, .int 0, .int 0, .int 0, .int 0, .ref 85, .ref 86, .ref 87, .ref 88, .int 0, .int 0, .int 0, .int 0, .int 0, .ref 89, .ref 90, .ref 91, .ref 92, .ref 93, .int 0, .int 0, .int 0, .long 0, .ref 94, .ref 95, .ref 96, .ref 97]))), 98, 10728)) rfl ?_
            refine x_R.steps 1 (c' := (2376, [(3, .int 6), (2, .ref 75), (1, .ref 0), (0, .ref x_scr)], [], (List.set (List.set x_h0 19 (.inr (10, [.int (xs 1), .ref 20]))) 75 (.inr (12, [.int 0, .ref 76, .ref 77, .ref 78, .ref 79, .int (xs 1), .ref 80, .int 0, .int 0, .int 0, .int 0, .int 0, .int 0, .int (-1), .ref 81, .ref 82, .ref 83, .ref 84, .int 0, .int 0, .int 0, .int 0, .int 0, .int 0, .int 0, .ref 85, .ref 86, .ref 87, .ref 88, .int 0, .int 0, .int 0, .int 0, .int 0, .ref 89, .ref 90, .ref 91, .ref 92, .ref 93, .int 0, .int 0, .int 0, .long 0, .ref 94, .ref 95, .ref 96, .ref 97]))), 98, 10728)) rfl ?_
            refine x_R.steps 1 (c' := (2377, [(3, .int 6), (2, .ref 75), (1, .ref 0), (0, .ref x_scr)], [.int 1], (List.set (List.set x_h0 19 (.inr (10, [.int (xs 1), .ref 20]))) 75 (.inr (12, [.int 0, .ref 76, .ref 77, .ref 78, .ref 79, .int (xs 1), .ref 80, .int 0, .int 0, .int 0, .int 0, .int 0, .int 0, .int (-1), .ref 81, .ref 82, .ref 83, .ref 84, .int 0, .int 0, .int 0, .int 0, .int 0, .int 0, .int 0, .ref 85, .ref 86, .ref 87, .ref 88, .int 0, .int 0, .int 0, .int 0, .int 0, .ref 89, .ref 90, .ref 91, .ref 92, .ref 93, .int 0, .int 0, .int 0, .long 0, .ref 94, .ref 95, .ref 96, .ref 97]))), 98, 10728)) rfl ?_
            exact x_R.ret (v := some (.int 1)) rfl x_fin
          · exact absurd rfl h6
    · have g3 := mt (x_i_le (C := 0) (by decide)).mpr h3
      refine x_R.steps 1 (c' := (19, [(0, .ref 0), (1, .int (xs 1))], [.int (-1)], x_h0, 0, 0)) rfl ?_
      refine x_R.ret (v := some (.int (-1))) rfl ?_
      refine x_R.steps 0 (c' := (400, [(3, .int 0), (2, .ref 75), (1, .ref 0), (0, .ref x_scr)], [.int (-1)], x_h0, 98, 10728)) rfl ?_
      refine x_R.steps 5 (c' := (405, [(3, .int 0), (2, .ref 75), (1, .ref 0), (0, .ref x_scr)], [.int 1, .ref x_scr, .ref 75, .int (-1)], x_h0, 98, 10728)) rfl ?_
      refine x_R.steps 1 (c' := (406, [(3, .int 0), (2, .ref 75), (1, .ref 0), (0, .ref x_scr)], [.int (xs 1), .ref 75, .int (-1)], x_h0, 98, 10728)) rfl ?_
      refine x_R.call (a := 209) (vs := [.ref 75, .int (xs 1)]) (rest := [.int (-1)]) (M' := M_cX12_end) rfl rfl rfl ?_
      refine x_R.steps 6 (c' := (8, [(0, .ref 75), (1, .int (xs 1))], [.long 0, .long 0, .long ((xs 1)).toInt64], x_h0, 0, 0)) rfl ?_
      refine x_R.call (a := 196) (vs := [.long ((xs 1)).toInt64, .long 0, .long 0]) (rest := []) (M' := M_cX12_in) rfl rfl rfl ?_
      refine x_R.steps 3 (c' := (3, [(0, .long ((xs 1)).toInt64), (2, .long 0), (4, .long 0)], [.int (lg_cmp ((xs 1)).toInt64 0)], x_h0, 0, 0)) rfl ?_
      refine x_R.ite (p := (lg_cmp ((xs 1)).toInt64 0) < (0 : Int32)) (c1 := (17, [(0, .long ((xs 1)).toInt64), (2, .long 0), (4, .long 0)], [], x_h0, 0, 0)) (c2 := (6, [(0, .long ((xs 1)).toInt64), (2, .long 0), (4, .long 0)], [], x_h0, 0, 0)) rfl (fun h7 => ?_) (fun h7 => ?_)
      · have g7 := (x_lg_lt (C := 0) (by decide)).mp h7
        exfalso; omega
      · have g7 := mt (x_lg_lt (C := 0) (by decide)).mpr h7
        refine x_R.steps 3 (c' := (10, [(0, .long ((xs 1)).toInt64), (2, .long 0), (4, .long 0)], [.int (lg_cmp ((xs 1)).toInt64 0)], x_h0, 0, 0)) rfl ?_
        refine x_R.ite (p := (0 : Int32) < (lg_cmp ((xs 1)).toInt64 0)) (c1 := (17, [(0, .long ((xs 1)).toInt64), (2, .long 0), (4, .long 0)], [], x_h0, 0, 0)) (c2 := (13, [(0, .long ((xs 1)).toInt64), (2, .long 0), (4, .long 0)], [], x_h0, 0, 0)) rfl (fun h8 => ?_) (fun h8 => ?_)
        · have g8 := (x_lg_gt (C := 0) (by decide)).mp h8
          refine x_R.steps 1 (c' := (18, [(0, .long ((xs 1)).toInt64), (2, .long 0), (4, .long 0)], [.int 0], x_h0, 0, 0)) rfl ?_
          refine x_R.ret (v := some (.int 0)) rfl ?_
          refine x_R.steps 0 (c' := (11, [(0, .ref 75), (1, .int (xs 1))], [.int 0], x_h0, 0, 0)) rfl ?_
          refine x_R.steps 1 (c' := (14, [(0, .ref 75), (1, .int (xs 1))], [], x_h0, 0, 0)) rfl ?_
          refine x_R.steps 1 (c' := (15, [(0, .ref 75), (1, .int (xs 1))], [.int (-1)], x_h0, 0, 0)) rfl ?_
          refine x_R.ret (v := some (.int (-1))) rfl ?_
          refine x_R.steps 0 (c' := (409, [(3, .int 0), (2, .ref 75), (1, .ref 0), (0, .ref x_scr)], [.int (-1), .int (-1)], x_h0, 98, 10728)) rfl ?_
          refine x_R.steps 1 (c' := (2370, [(3, .int 0), (2, .ref 75), (1, .ref 0), (0, .ref x_scr)], [], x_h0, 98, 10728)) rfl ?_
          refine x_R.steps 7 (c' := (24, [(3, .int 6), (2, .ref 75), (1, .ref 0), (0, .ref x_scr)], [.int 0, .int 6], x_h0, 98, 10728)) rfl ?_
          refine x_R.steps 1 (c' := (2376, [(3, .int 6), (2, .ref 75), (1, .ref 0), (0, .ref x_scr)], [], x_h0, 98, 10728)) rfl ?_
          refine x_R.steps 1 (c' := (2377, [(3, .int 6), (2, .ref 75), (1, .ref 0), (0, .ref x_scr)], [.int 1], x_h0, 98, 10728)) rfl ?_
          exact x_R.ret (v := some (.int 1)) rfl x_fin
        · have g8 := mt (x_lg_gt (C := 0) (by decide)).mpr h8
          exfalso; omega
set_option maxRecDepth 100000 in
set_option maxHeartbeats 4000000 in
theorem x_c3_0 (xs : Nat → Int32)  : x_R x_mt (some (6, (x_ov 1 0 xs))) 13 M_law (427, [(3, .int 0), (2, .ref 75), (1, .ref 0), (0, .ref x_scr)], [], x_h0, 98, 10728) x_P := by
  refine x_R.steps 5 (c' := (432, [(3, .int 0), (2, .ref 75), (1, .ref 0), (0, .ref x_scr)], [.int 1, .ref x_scr, .ref 0], x_h0, 98, 10728)) rfl ?_
  refine x_R.steps 1 (c' := (433, [(3, .int 0), (2, .ref 75), (1, .ref 0), (0, .ref x_scr)], [.int 0, .ref 0], x_h0, 98, 10728)) rfl ?_
  refine x_R.call (a := 115) (vs := [.ref 0, .int 0]) (rest := []) (M' := M_cX11_fault) rfl rfl rfl ?_
  refine x_R.steps 1 (c' := (1, [(0, .ref 0), (1, .int 0)], [.int 0], x_h0, 0, 0)) rfl ?_
  refine x_R.steps 1 (c' := (28, [(0, .ref 0), (1, .int 0)], [], x_h0, 0, 0)) rfl ?_
  refine x_R.steps 3 (c' := (35, [(0, .ref 0), (1, .int 0)], [.int 0], x_h0, 0, 0)) rfl ?_
  refine x_R.ret (v := some (.int 0)) rfl ?_
  refine x_R.steps 0 (c' := (436, [(3, .int 0), (2, .ref 75), (1, .ref 0), (0, .ref x_scr)], [.int 0], x_h0, 98, 10728)) rfl ?_
  refine x_R.steps 5 (c' := (441, [(3, .int 0), (2, .ref 75), (1, .ref 0), (0, .ref x_scr)], [.int 1, .ref x_scr, .ref 75, .int 0], x_h0, 98, 10728)) rfl ?_
  refine x_R.steps 1 (c' := (442, [(3, .int 0), (2, .ref 75), (1, .ref 0), (0, .ref x_scr)], [.int 0, .ref 75, .int 0], x_h0, 98, 10728)) rfl ?_
  refine x_R.call (a := 219) (vs := [.ref 75, .int 0]) (rest := [.int 0]) (M' := M_cX12_fault) rfl rfl rfl ?_
  refine x_R.steps 1 (c' := (1, [(0, .ref 75), (1, .int 0)], [.int 0], x_h0, 0, 0)) rfl ?_
  refine x_R.steps 1 (c' := (4, [(0, .ref 75), (1, .int 0)], [], x_h0, 0, 0)) rfl ?_
  refine x_R.steps 3 (c' := (24, [(0, .ref 75), (1, .int 0)], [.int 0], x_h0, 0, 0)) rfl ?_
  refine x_R.ret (v := some (.int 0)) rfl ?_
  refine x_R.steps 0 (c' := (445, [(3, .int 0), (2, .ref 75), (1, .ref 0), (0, .ref x_scr)], [.int 0, .int 0], x_h0, 98, 10728)) rfl ?_
  refine x_R.steps 1 (c' := (2370, [(3, .int 0), (2, .ref 75), (1, .ref 0), (0, .ref x_scr)], [], x_h0, 98, 10728)) rfl ?_
  refine x_R.steps 7 (c' := (24, [(3, .int 6), (2, .ref 75), (1, .ref 0), (0, .ref x_scr)], [.int 0, .int 6], x_h0, 98, 10728)) rfl ?_
  refine x_R.steps 1 (c' := (2376, [(3, .int 6), (2, .ref 75), (1, .ref 0), (0, .ref x_scr)], [], x_h0, 98, 10728)) rfl ?_
  refine x_R.steps 1 (c' := (2377, [(3, .int 6), (2, .ref 75), (1, .ref 0), (0, .ref x_scr)], [.int 1], x_h0, 98, 10728)) rfl ?_
  exact x_R.ret (v := some (.int 1)) rfl x_fin
set_option maxRecDepth 100000 in
set_option maxHeartbeats 4000000 in
theorem x_c3_1 (xs : Nat → Int32)  : x_R x_mt (some (6, (x_ov 1 1 xs))) 13 M_law (427, [(3, .int 0), (2, .ref 75), (1, .ref 0), (0, .ref x_scr)], [], x_h0, 98, 10728) x_P := by
  refine x_R.steps 5 (c' := (432, [(3, .int 0), (2, .ref 75), (1, .ref 0), (0, .ref x_scr)], [.int 1, .ref x_scr, .ref 0], x_h0, 98, 10728)) rfl ?_
  refine x_R.steps 1 (c' := (433, [(3, .int 0), (2, .ref 75), (1, .ref 0), (0, .ref x_scr)], [.int 1, .ref 0], x_h0, 98, 10728)) rfl ?_
  refine x_R.call (a := 115) (vs := [.ref 0, .int 1]) (rest := []) (M' := M_cX11_fault) rfl rfl rfl ?_
  refine x_R.steps 1 (c' := (1, [(0, .ref 0), (1, .int 1)], [.int 1], x_h0, 0, 0)) rfl ?_
  refine x_R.steps 1 (c' := (36, [(0, .ref 0), (1, .int 1)], [], x_h0, 0, 0)) rfl ?_
  refine x_R.steps 3 (c' := (43, [(0, .ref 0), (1, .int 1)], [.int (-1)], x_h0, 0, 0)) rfl ?_
  refine x_R.ret (v := some (.int (-1))) rfl ?_
  refine x_R.steps 0 (c' := (436, [(3, .int 0), (2, .ref 75), (1, .ref 0), (0, .ref x_scr)], [.int (-1)], x_h0, 98, 10728)) rfl ?_
  refine x_R.steps 5 (c' := (441, [(3, .int 0), (2, .ref 75), (1, .ref 0), (0, .ref x_scr)], [.int 1, .ref x_scr, .ref 75, .int (-1)], x_h0, 98, 10728)) rfl ?_
  refine x_R.steps 1 (c' := (442, [(3, .int 0), (2, .ref 75), (1, .ref 0), (0, .ref x_scr)], [.int 1, .ref 75, .int (-1)], x_h0, 98, 10728)) rfl ?_
  refine x_R.call (a := 219) (vs := [.ref 75, .int 1]) (rest := [.int (-1)]) (M' := M_cX12_fault) rfl rfl rfl ?_
  refine x_R.steps 1 (c' := (1, [(0, .ref 75), (1, .int 1)], [.int 1], x_h0, 0, 0)) rfl ?_
  refine x_R.steps 1 (c' := (11, [(0, .ref 75), (1, .int 1)], [], x_h0, 0, 0)) rfl ?_
  refine x_R.steps 2 (c' := (13, [(0, .ref 75), (1, .int 1)], [.int 1, .int 1], x_h0, 0, 0)) rfl ?_
  refine x_R.steps 1 (c' := (16, [(0, .ref 75), (1, .int 1)], [], x_h0, 0, 0)) rfl ?_
  refine x_R.steps 3 (c' := (24, [(0, .ref 75), (1, .int 1)], [.int (-1)], x_h0, 0, 0)) rfl ?_
  refine x_R.ret (v := some (.int (-1))) rfl ?_
  refine x_R.steps 0 (c' := (445, [(3, .int 0), (2, .ref 75), (1, .ref 0), (0, .ref x_scr)], [.int (-1), .int (-1)], x_h0, 98, 10728)) rfl ?_
  refine x_R.steps 1 (c' := (2370, [(3, .int 0), (2, .ref 75), (1, .ref 0), (0, .ref x_scr)], [], x_h0, 98, 10728)) rfl ?_
  refine x_R.steps 7 (c' := (24, [(3, .int 6), (2, .ref 75), (1, .ref 0), (0, .ref x_scr)], [.int 0, .int 6], x_h0, 98, 10728)) rfl ?_
  refine x_R.steps 1 (c' := (2376, [(3, .int 6), (2, .ref 75), (1, .ref 0), (0, .ref x_scr)], [], x_h0, 98, 10728)) rfl ?_
  refine x_R.steps 1 (c' := (2377, [(3, .int 6), (2, .ref 75), (1, .ref 0), (0, .ref x_scr)], [.int 1], x_h0, 98, 10728)) rfl ?_
  exact x_R.ret (v := some (.int 1)) rfl x_fin
set_option maxRecDepth 100000 in
set_option maxHeartbeats 4000000 in
theorem x_c3_2 (xs : Nat → Int32) (f0 : ¬ (xs 1).toInt = 0) (f1 : ¬ (xs 1).toInt = 1) : x_R x_mt (some (6, xs)) 13 M_law (427, [(3, .int 0), (2, .ref 75), (1, .ref 0), (0, .ref x_scr)], [], x_h0, 98, 10728) x_P := by
  refine x_R.steps 5 (c' := (432, [(3, .int 0), (2, .ref 75), (1, .ref 0), (0, .ref x_scr)], [.int 1, .ref x_scr, .ref 0], x_h0, 98, 10728)) rfl ?_
  refine x_R.steps 1 (c' := (433, [(3, .int 0), (2, .ref 75), (1, .ref 0), (0, .ref x_scr)], [.int (xs 1), .ref 0], x_h0, 98, 10728)) rfl ?_
  refine x_R.call (a := 115) (vs := [.ref 0, .int (xs 1)]) (rest := []) (M' := M_cX11_fault) rfl rfl rfl ?_
  refine x_R.steps 1 (c' := (1, [(0, .ref 0), (1, .int (xs 1))], [.int (xs 1)], x_h0, 0, 0)) rfl ?_
  refine x_R.step (c' := (44, [(0, .ref 0), (1, .int (xs 1))], [], x_h0, 0, 0)) (x_lsw (by rfl) (by decide) ((x_osw (k := 0) (by omega) (x_osw (k := 1) (by omega) rfl))) rfl) ?_
  refine x_R.steps 1 (c' := (45, [(0, .ref 0), (1, .int (xs 1))], [.int (-1)], x_h0, 0, 0)) rfl ?_
  refine x_R.ret (v := some (.int (-1))) rfl ?_
  refine x_R.steps 0 (c' := (436, [(3, .int 0), (2, .ref 75), (1, .ref 0), (0, .ref x_scr)], [.int (-1)], x_h0, 98, 10728)) rfl ?_
  refine x_R.steps 5 (c' := (441, [(3, .int 0), (2, .ref 75), (1, .ref 0), (0, .ref x_scr)], [.int 1, .ref x_scr, .ref 75, .int (-1)], x_h0, 98, 10728)) rfl ?_
  refine x_R.steps 1 (c' := (442, [(3, .int 0), (2, .ref 75), (1, .ref 0), (0, .ref x_scr)], [.int (xs 1), .ref 75, .int (-1)], x_h0, 98, 10728)) rfl ?_
  refine x_R.call (a := 219) (vs := [.ref 75, .int (xs 1)]) (rest := [.int (-1)]) (M' := M_cX12_fault) rfl rfl rfl ?_
  refine x_R.steps 1 (c' := (1, [(0, .ref 75), (1, .int (xs 1))], [.int (xs 1)], x_h0, 0, 0)) rfl ?_
  refine x_R.ite (p := ¬ (xs 1) = (0 : Int32)) (c1 := (11, [(0, .ref 75), (1, .int (xs 1))], [], x_h0, 0, 0)) (c2 := (4, [(0, .ref 75), (1, .int (xs 1))], [], x_h0, 0, 0)) rfl (fun h1 => ?_) (fun h1 => ?_)
  · have g1 := (x_i_ne (C := 0) (by decide)).mp h1
    refine x_R.steps 2 (c' := (13, [(0, .ref 75), (1, .int (xs 1))], [.int 1, .int (xs 1)], x_h0, 0, 0)) rfl ?_
    refine x_R.ite (p := ¬ (xs 1) = (1 : Int32)) (c1 := (23, [(0, .ref 75), (1, .int (xs 1))], [], x_h0, 0, 0)) (c2 := (16, [(0, .ref 75), (1, .int (xs 1))], [], x_h0, 0, 0)) rfl (fun h2 => ?_) (fun h2 => ?_)
    · have g2 := (x_i_ne (C := 1) (by decide)).mp h2
      refine x_R.steps 1 (c' := (24, [(0, .ref 75), (1, .int (xs 1))], [.int (-1)], x_h0, 0, 0)) rfl ?_
      refine x_R.ret (v := some (.int (-1))) rfl ?_
      refine x_R.steps 0 (c' := (445, [(3, .int 0), (2, .ref 75), (1, .ref 0), (0, .ref x_scr)], [.int (-1), .int (-1)], x_h0, 98, 10728)) rfl ?_
      refine x_R.steps 1 (c' := (2370, [(3, .int 0), (2, .ref 75), (1, .ref 0), (0, .ref x_scr)], [], x_h0, 98, 10728)) rfl ?_
      refine x_R.steps 7 (c' := (24, [(3, .int 6), (2, .ref 75), (1, .ref 0), (0, .ref x_scr)], [.int 0, .int 6], x_h0, 98, 10728)) rfl ?_
      refine x_R.steps 1 (c' := (2376, [(3, .int 6), (2, .ref 75), (1, .ref 0), (0, .ref x_scr)], [], x_h0, 98, 10728)) rfl ?_
      refine x_R.steps 1 (c' := (2377, [(3, .int 6), (2, .ref 75), (1, .ref 0), (0, .ref x_scr)], [.int 1], x_h0, 98, 10728)) rfl ?_
      exact x_R.ret (v := some (.int 1)) rfl x_fin
    · have g2 := mt (x_i_ne (C := 1) (by decide)).mpr h2
      exfalso; omega
  · have g1 := mt (x_i_ne (C := 0) (by decide)).mpr h1
    exfalso; omega
set_option maxRecDepth 100000 in
set_option maxHeartbeats 4000000 in
theorem x_c4_0 (xs : Nat → Int32)  : x_R x_mt (some (6, xs)) 13 M_law (450, [(3, .int 0), (2, .ref 75), (1, .ref 0), (0, .ref x_scr)], [], x_h0, 98, 10728) x_P := by
  refine x_R.steps 5 (c' := (455, [(3, .int 0), (2, .ref 75), (1, .ref 0), (0, .ref x_scr)], [.int 1, .ref x_scr, .ref 0], x_h0, 98, 10728)) rfl ?_
  refine x_R.steps 1 (c' := (456, [(3, .int 0), (2, .ref 75), (1, .ref 0), (0, .ref x_scr)], [.int (xs 1), .ref 0], x_h0, 98, 10728)) rfl ?_
  refine x_R.steps 4 (c' := (460, [(3, .int 0), (2, .ref 75), (1, .ref 0), (0, .ref x_scr)], [.int 2, .ref x_scr, .int (xs 1), .ref 0], x_h0, 98, 10728)) rfl ?_
  refine x_R.steps 1 (c' := (461, [(3, .int 0), (2, .ref 75), (1, .ref 0), (0, .ref x_scr)], [.int (xs 2), .int (xs 1), .ref 0], x_h0, 98, 10728)) rfl ?_
  refine x_R.call (a := 116) (vs := [.ref 0, .int (xs 1), .int (xs 2)]) (rest := []) (M' := M_cX11_drum) rfl rfl rfl ?_
  refine x_R.steps 4 (c' := (8, [(0, .ref 0), (1, .int (xs 1)), (2, .int (xs 2))], [.int (xs 1), .ref 5], x_h0, 0, 0)) rfl ?_
  refine x_R.call (a := 31) (vs := [.ref 5, .int (xs 1)]) (rest := []) (M' := M_cX3_has) rfl rfl rfl ?_
  refine x_R.steps 1 (c' := (1, [(0, .ref 5), (1, .int (xs 1))], [.int (xs 1)], x_h0, 0, 0)) rfl ?_
  refine x_R.ite (p := (xs 1) < (0 : Int32)) (c1 := (16, [(0, .ref 5), (1, .int (xs 1))], [], x_h0, 0, 0)) (c2 := (4, [(0, .ref 5), (1, .int (xs 1))], [], x_h0, 0, 0)) rfl (fun h1 => ?_) (fun h1 => ?_)
  · have g1 := (x_i_lt (C := 0) (by decide)).mp h1
    refine x_R.steps 1 (c' := (17, [(0, .ref 5), (1, .int (xs 1))], [.int 0], x_h0, 0, 0)) rfl ?_
    refine x_R.ret (v := some (.int 0)) rfl ?_
    refine x_R.steps 0 (c' := (11, [(0, .ref 0), (1, .int (xs 1)), (2, .int (xs 2))], [.int 0], x_h0, 0, 0)) rfl ?_
    refine x_R.steps 1 (c' := (14, [(0, .ref 0), (1, .int (xs 1)), (2, .int (xs 2))], [], x_h0, 0, 0)) rfl ?_
    refine x_R.steps 1 (c' := (16, [(0, .ref 0), (1, .int (xs 1)), (2, .int (xs 2))], [.int (-2)], x_h0, 0, 0)) rfl ?_
    refine x_R.ret (v := some (.int (-2))) rfl ?_
    refine x_R.steps 0 (c' := (464, [(3, .int 0), (2, .ref 75), (1, .ref 0), (0, .ref x_scr)], [.int (-2)], x_h0, 98, 10728)) rfl ?_
    refine x_R.steps 5 (c' := (469, [(3, .int 0), (2, .ref 75), (1, .ref 0), (0, .ref x_scr)], [.int 1, .ref x_scr, .ref 75, .int (-2)], x_h0, 98, 10728)) rfl ?_
    refine x_R.steps 1 (c' := (470, [(3, .int 0), (2, .ref 75), (1, .ref 0), (0, .ref x_scr)], [.int (xs 1), .ref 75, .int (-2)], x_h0, 98, 10728)) rfl ?_
    refine x_R.steps 4 (c' := (474, [(3, .int 0), (2, .ref 75), (1, .ref 0), (0, .ref x_scr)], [.int 2, .ref x_scr, .int (xs 1), .ref 75, .int (-2)], x_h0, 98, 10728)) rfl ?_
    refine x_R.steps 1 (c' := (475, [(3, .int 0), (2, .ref 75), (1, .ref 0), (0, .ref x_scr)], [.int (xs 2), .int (xs 1), .ref 75, .int (-2)], x_h0, 98, 10728)) rfl ?_
    refine x_R.call (a := 239) (vs := [.ref 75, .int (xs 1), .int (xs 2)]) (rest := [.int (-2)]) (M' := M_cX12_drum) rfl rfl rfl ?_
    refine x_R.steps 2 (c' := (2, [(0, .ref 75), (1, .int (xs 1)), (2, .int (xs 2))], [.int (xs 1), .ref 75], x_h0, 0, 0)) rfl ?_
    refine x_R.call (a := 204) (vs := [.ref 75, .int (xs 1)]) (rest := []) (M' := M_cX12_isComing) rfl rfl rfl ?_
    refine x_R.steps 6 (c' := (8, [(0, .ref 75), (1, .int (xs 1))], [.int 5, .ref 76, .long 0, .long ((xs 1)).toInt64], x_h0, 0, 0)) rfl ?_
    refine x_R.steps 1 (c' := (9, [(0, .ref 75), (1, .int (xs 1))], [.int 0, .long 0, .long ((xs 1)).toInt64], x_h0, 0, 0)) rfl ?_
    refine x_R.steps 3 (c' := (12, [(0, .ref 75), (1, .int (xs 1))], [.long (-1), .long 0, .long ((xs 1)).toInt64], x_h0, 0, 0)) rfl ?_
    refine x_R.call (a := 196) (vs := [.long ((xs 1)).toInt64, .long 0, .long (-1)]) (rest := []) (M' := M_cX12_in) rfl rfl rfl ?_
    refine x_R.steps 3 (c' := (3, [(0, .long ((xs 1)).toInt64), (2, .long 0), (4, .long (-1))], [.int (lg_cmp ((xs 1)).toInt64 0)], x_h0, 0, 0)) rfl ?_
    refine x_R.ite (p := (lg_cmp ((xs 1)).toInt64 0) < (0 : Int32)) (c1 := (17, [(0, .long ((xs 1)).toInt64), (2, .long 0), (4, .long (-1))], [], x_h0, 0, 0)) (c2 := (6, [(0, .long ((xs 1)).toInt64), (2, .long 0), (4, .long (-1))], [], x_h0, 0, 0)) rfl (fun h2 => ?_) (fun h2 => ?_)
    · have g2 := (x_lg_lt (C := 0) (by decide)).mp h2
      refine x_R.steps 1 (c' := (18, [(0, .long ((xs 1)).toInt64), (2, .long 0), (4, .long (-1))], [.int 0], x_h0, 0, 0)) rfl ?_
      refine x_R.ret (v := some (.int 0)) rfl ?_
      refine x_R.steps 0 (c' := (15, [(0, .ref 75), (1, .int (xs 1))], [.int 0], x_h0, 0, 0)) rfl ?_
      refine x_R.ret (v := some (.int 0)) rfl ?_
      refine x_R.steps 0 (c' := (5, [(0, .ref 75), (1, .int (xs 1)), (2, .int (xs 2))], [.int 0], x_h0, 0, 0)) rfl ?_
      refine x_R.steps 1 (c' := (29, [(0, .ref 75), (1, .int (xs 1)), (2, .int (xs 2))], [], x_h0, 0, 0)) rfl ?_
      refine x_R.steps 1 (c' := (31, [(0, .ref 75), (1, .int (xs 1)), (2, .int (xs 2))], [.int (-2)], x_h0, 0, 0)) rfl ?_
      refine x_R.ret (v := some (.int (-2))) rfl ?_
      refine x_R.steps 0 (c' := (478, [(3, .int 0), (2, .ref 75), (1, .ref 0), (0, .ref x_scr)], [.int (-2), .int (-2)], x_h0, 98, 10728)) rfl ?_
      refine x_R.steps 1 (c' := (2370, [(3, .int 0), (2, .ref 75), (1, .ref 0), (0, .ref x_scr)], [], x_h0, 98, 10728)) rfl ?_
      refine x_R.steps 7 (c' := (24, [(3, .int 6), (2, .ref 75), (1, .ref 0), (0, .ref x_scr)], [.int 0, .int 6], x_h0, 98, 10728)) rfl ?_
      refine x_R.steps 1 (c' := (2376, [(3, .int 6), (2, .ref 75), (1, .ref 0), (0, .ref x_scr)], [], x_h0, 98, 10728)) rfl ?_
      refine x_R.steps 1 (c' := (2377, [(3, .int 6), (2, .ref 75), (1, .ref 0), (0, .ref x_scr)], [.int 1], x_h0, 98, 10728)) rfl ?_
      exact x_R.ret (v := some (.int 1)) rfl x_fin
    · have g2 := mt (x_lg_lt (C := 0) (by decide)).mpr h2
      exfalso; omega
  · have g1 := mt (x_i_lt (C := 0) (by decide)).mpr h1
    refine x_R.steps 3 (c' := (9, [(0, .ref 5), (1, .int (xs 1))], [.int 0, .int (xs 1)], x_h0, 0, 0)) rfl ?_
    refine x_R.ite (p := (0 : Int32) ≤ (xs 1)) (c1 := (16, [(0, .ref 5), (1, .int (xs 1))], [], x_h0, 0, 0)) (c2 := (12, [(0, .ref 5), (1, .int (xs 1))], [], x_h0, 0, 0)) rfl (fun h3 => ?_) (fun h3 => ?_)
    · have g3 := (x_i_ge (C := 0) (by decide)).mp h3
      refine x_R.steps 1 (c' := (17, [(0, .ref 5), (1, .int (xs 1))], [.int 0], x_h0, 0, 0)) rfl ?_
      refine x_R.ret (v := some (.int 0)) rfl ?_
      refine x_R.steps 0 (c' := (11, [(0, .ref 0), (1, .int (xs 1)), (2, .int (xs 2))], [.int 0], x_h0, 0, 0)) rfl ?_
      refine x_R.steps 1 (c' := (14, [(0, .ref 0), (1, .int (xs 1)), (2, .int (xs 2))], [], x_h0, 0, 0)) rfl ?_
      refine x_R.steps 1 (c' := (16, [(0, .ref 0), (1, .int (xs 1)), (2, .int (xs 2))], [.int (-2)], x_h0, 0, 0)) rfl ?_
      refine x_R.ret (v := some (.int (-2))) rfl ?_
      refine x_R.steps 0 (c' := (464, [(3, .int 0), (2, .ref 75), (1, .ref 0), (0, .ref x_scr)], [.int (-2)], x_h0, 98, 10728)) rfl ?_
      refine x_R.steps 5 (c' := (469, [(3, .int 0), (2, .ref 75), (1, .ref 0), (0, .ref x_scr)], [.int 1, .ref x_scr, .ref 75, .int (-2)], x_h0, 98, 10728)) rfl ?_
      refine x_R.steps 1 (c' := (470, [(3, .int 0), (2, .ref 75), (1, .ref 0), (0, .ref x_scr)], [.int (xs 1), .ref 75, .int (-2)], x_h0, 98, 10728)) rfl ?_
      refine x_R.steps 4 (c' := (474, [(3, .int 0), (2, .ref 75), (1, .ref 0), (0, .ref x_scr)], [.int 2, .ref x_scr, .int (xs 1), .ref 75, .int (-2)], x_h0, 98, 10728)) rfl ?_
      refine x_R.steps 1 (c' := (475, [(3, .int 0), (2, .ref 75), (1, .ref 0), (0, .ref x_scr)], [.int (xs 2), .int (xs 1), .ref 75, .int (-2)], x_h0, 98, 10728)) rfl ?_
      refine x_R.call (a := 239) (vs := [.ref 75, .int (xs 1), .int (xs 2)]) (rest := [.int (-2)]) (M' := M_cX12_drum) rfl rfl rfl ?_
      refine x_R.steps 2 (c' := (2, [(0, .ref 75), (1, .int (xs 1)), (2, .int (xs 2))], [.int (xs 1), .ref 75], x_h0, 0, 0)) rfl ?_
      refine x_R.call (a := 204) (vs := [.ref 75, .int (xs 1)]) (rest := []) (M' := M_cX12_isComing) rfl rfl rfl ?_
      refine x_R.steps 6 (c' := (8, [(0, .ref 75), (1, .int (xs 1))], [.int 5, .ref 76, .long 0, .long ((xs 1)).toInt64], x_h0, 0, 0)) rfl ?_
      refine x_R.steps 1 (c' := (9, [(0, .ref 75), (1, .int (xs 1))], [.int 0, .long 0, .long ((xs 1)).toInt64], x_h0, 0, 0)) rfl ?_
      refine x_R.steps 3 (c' := (12, [(0, .ref 75), (1, .int (xs 1))], [.long (-1), .long 0, .long ((xs 1)).toInt64], x_h0, 0, 0)) rfl ?_
      refine x_R.call (a := 196) (vs := [.long ((xs 1)).toInt64, .long 0, .long (-1)]) (rest := []) (M' := M_cX12_in) rfl rfl rfl ?_
      refine x_R.steps 3 (c' := (3, [(0, .long ((xs 1)).toInt64), (2, .long 0), (4, .long (-1))], [.int (lg_cmp ((xs 1)).toInt64 0)], x_h0, 0, 0)) rfl ?_
      refine x_R.ite (p := (lg_cmp ((xs 1)).toInt64 0) < (0 : Int32)) (c1 := (17, [(0, .long ((xs 1)).toInt64), (2, .long 0), (4, .long (-1))], [], x_h0, 0, 0)) (c2 := (6, [(0, .long ((xs 1)).toInt64), (2, .long 0), (4, .long (-1))], [], x_h0, 0, 0)) rfl (fun h4 => ?_) (fun h4 => ?_)
      · have g4 := (x_lg_lt (C := 0) (by decide)).mp h4
        exfalso; omega
      · have g4 := mt (x_lg_lt (C := 0) (by decide)).mpr h4
        refine x_R.steps 3 (c' := (10, [(0, .long ((xs 1)).toInt64), (2, .long 0), (4, .long (-1))], [.int (lg_cmp ((xs 1)).toInt64 (-1))], x_h0, 0, 0)) rfl ?_
        refine x_R.ite (p := (0 : Int32) < (lg_cmp ((xs 1)).toInt64 (-1))) (c1 := (17, [(0, .long ((xs 1)).toInt64), (2, .long 0), (4, .long (-1))], [], x_h0, 0, 0)) (c2 := (13, [(0, .long ((xs 1)).toInt64), (2, .long 0), (4, .long (-1))], [], x_h0, 0, 0)) rfl (fun h5 => ?_) (fun h5 => ?_)
        · have g5 := (x_lg_gt (C := -1) (by decide)).mp h5
          refine x_R.steps 1 (c' := (18, [(0, .long ((xs 1)).toInt64), (2, .long 0), (4, .long (-1))], [.int 0], x_h0, 0, 0)) rfl ?_
          refine x_R.ret (v := some (.int 0)) rfl ?_
          refine x_R.steps 0 (c' := (15, [(0, .ref 75), (1, .int (xs 1))], [.int 0], x_h0, 0, 0)) rfl ?_
          refine x_R.ret (v := some (.int 0)) rfl ?_
          refine x_R.steps 0 (c' := (5, [(0, .ref 75), (1, .int (xs 1)), (2, .int (xs 2))], [.int 0], x_h0, 0, 0)) rfl ?_
          refine x_R.steps 1 (c' := (29, [(0, .ref 75), (1, .int (xs 1)), (2, .int (xs 2))], [], x_h0, 0, 0)) rfl ?_
          refine x_R.steps 1 (c' := (31, [(0, .ref 75), (1, .int (xs 1)), (2, .int (xs 2))], [.int (-2)], x_h0, 0, 0)) rfl ?_
          refine x_R.ret (v := some (.int (-2))) rfl ?_
          refine x_R.steps 0 (c' := (478, [(3, .int 0), (2, .ref 75), (1, .ref 0), (0, .ref x_scr)], [.int (-2), .int (-2)], x_h0, 98, 10728)) rfl ?_
          refine x_R.steps 1 (c' := (2370, [(3, .int 0), (2, .ref 75), (1, .ref 0), (0, .ref x_scr)], [], x_h0, 98, 10728)) rfl ?_
          refine x_R.steps 7 (c' := (24, [(3, .int 6), (2, .ref 75), (1, .ref 0), (0, .ref x_scr)], [.int 0, .int 6], x_h0, 98, 10728)) rfl ?_
          refine x_R.steps 1 (c' := (2376, [(3, .int 6), (2, .ref 75), (1, .ref 0), (0, .ref x_scr)], [], x_h0, 98, 10728)) rfl ?_
          refine x_R.steps 1 (c' := (2377, [(3, .int 6), (2, .ref 75), (1, .ref 0), (0, .ref x_scr)], [.int 1], x_h0, 98, 10728)) rfl ?_
          exact x_R.ret (v := some (.int 1)) rfl x_fin
        · have g5 := mt (x_lg_gt (C := -1) (by decide)).mpr h5
          exfalso; omega
    · have g3 := mt (x_i_ge (C := 0) (by decide)).mpr h3
      exfalso; omega
set_option maxRecDepth 100000 in
set_option maxHeartbeats 4000000 in
theorem x_c5_0 (xs : Nat → Int32)  : x_R x_mt (some (6, xs)) 13 M_law (483, [(3, .int 0), (2, .ref 75), (1, .ref 0), (0, .ref x_scr)], [], x_h0, 98, 10728) x_P := by
  refine x_R.steps 5 (c' := (488, [(3, .int 0), (2, .ref 75), (1, .ref 0), (0, .ref x_scr)], [.int 1, .ref x_scr, .ref 0], x_h0, 98, 10728)) rfl ?_
  refine x_R.steps 1 (c' := (489, [(3, .int 0), (2, .ref 75), (1, .ref 0), (0, .ref x_scr)], [.int (xs 1), .ref 0], x_h0, 98, 10728)) rfl ?_
  refine x_R.steps 4 (c' := (493, [(3, .int 0), (2, .ref 75), (1, .ref 0), (0, .ref x_scr)], [.int 2, .ref x_scr, .int (xs 1), .ref 0], x_h0, 98, 10728)) rfl ?_
  refine x_R.steps 1 (c' := (494, [(3, .int 0), (2, .ref 75), (1, .ref 0), (0, .ref x_scr)], [.int (xs 2), .int (xs 1), .ref 0], x_h0, 98, 10728)) rfl ?_
  refine x_R.call (a := 117) (vs := [.ref 0, .int (xs 1), .int (xs 2)]) (rest := []) (M' := M_cX11_player) rfl rfl rfl ?_
  refine x_R.steps 3 (c' := (5, [(0, .ref 0), (1, .int (xs 1)), (2, .int (xs 2))], [.int (xs 1), .ref 1], x_h0, 0, 0)) rfl ?_
  refine x_R.call (a := 15) (vs := [.ref 1, .int (xs 1)]) (rest := []) (M' := M_cX2_isPlayer) rfl rfl rfl ?_
  refine x_R.steps 1 (c' := (1, [(0, .ref 1), (1, .int (xs 1))], [.int (xs 1)], x_h0, 0, 0)) rfl ?_
  refine x_R.ite (p := (xs 1) < (0 : Int32)) (c1 := (16, [(0, .ref 1), (1, .int (xs 1))], [], x_h0, 0, 0)) (c2 := (4, [(0, .ref 1), (1, .int (xs 1))], [], x_h0, 0, 0)) rfl (fun h1 => ?_) (fun h1 => ?_)
  · have g1 := (x_i_lt (C := 0) (by decide)).mp h1
    refine x_R.steps 1 (c' := (17, [(0, .ref 1), (1, .int (xs 1))], [.int 0], x_h0, 0, 0)) rfl ?_
    refine x_R.ret (v := some (.int 0)) rfl ?_
    refine x_R.steps 0 (c' := (8, [(0, .ref 0), (1, .int (xs 1)), (2, .int (xs 2))], [.int 0], x_h0, 0, 0)) rfl ?_
    refine x_R.steps 1 (c' := (20, [(0, .ref 0), (1, .int (xs 1)), (2, .int (xs 2))], [], x_h0, 0, 0)) rfl ?_
    refine x_R.steps 1 (c' := (22, [(0, .ref 0), (1, .int (xs 1)), (2, .int (xs 2))], [.int (-2)], x_h0, 0, 0)) rfl ?_
    refine x_R.ret (v := some (.int (-2))) rfl ?_
    refine x_R.steps 0 (c' := (497, [(3, .int 0), (2, .ref 75), (1, .ref 0), (0, .ref x_scr)], [.int (-2)], x_h0, 98, 10728)) rfl ?_
    refine x_R.steps 5 (c' := (502, [(3, .int 0), (2, .ref 75), (1, .ref 0), (0, .ref x_scr)], [.int 1, .ref x_scr, .ref 75, .int (-2)], x_h0, 98, 10728)) rfl ?_
    refine x_R.steps 1 (c' := (503, [(3, .int 0), (2, .ref 75), (1, .ref 0), (0, .ref x_scr)], [.int (xs 1), .ref 75, .int (-2)], x_h0, 98, 10728)) rfl ?_
    refine x_R.steps 4 (c' := (507, [(3, .int 0), (2, .ref 75), (1, .ref 0), (0, .ref x_scr)], [.int 2, .ref x_scr, .int (xs 1), .ref 75, .int (-2)], x_h0, 98, 10728)) rfl ?_
    refine x_R.steps 1 (c' := (508, [(3, .int 0), (2, .ref 75), (1, .ref 0), (0, .ref x_scr)], [.int (xs 2), .int (xs 1), .ref 75, .int (-2)], x_h0, 98, 10728)) rfl ?_
    refine x_R.call (a := 240) (vs := [.ref 75, .int (xs 1), .int (xs 2)]) (rest := [.int (-2)]) (M' := M_cX12_player) rfl rfl rfl ?_
    refine x_R.steps 2 (c' := (2, [(0, .ref 75), (1, .int (xs 1)), (2, .int (xs 2))], [.int (xs 1), .ref 75], x_h0, 0, 0)) rfl ?_
    refine x_R.call (a := 205) (vs := [.ref 75, .int (xs 1)]) (rest := []) (M' := M_cX12_isPlayer) rfl rfl rfl ?_
    refine x_R.steps 6 (c' := (9, [(0, .ref 75), (1, .int (xs 1))], [.int 6, .ref 76, .long 0, .long ((xs 1)).toInt64], x_h0, 0, 0)) rfl ?_
    refine x_R.steps 1 (c' := (10, [(0, .ref 75), (1, .int (xs 1))], [.int 0, .long 0, .long ((xs 1)).toInt64], x_h0, 0, 0)) rfl ?_
    refine x_R.steps 3 (c' := (13, [(0, .ref 75), (1, .int (xs 1))], [.long (-1), .long 0, .long ((xs 1)).toInt64], x_h0, 0, 0)) rfl ?_
    refine x_R.call (a := 196) (vs := [.long ((xs 1)).toInt64, .long 0, .long (-1)]) (rest := []) (M' := M_cX12_in) rfl rfl rfl ?_
    refine x_R.steps 3 (c' := (3, [(0, .long ((xs 1)).toInt64), (2, .long 0), (4, .long (-1))], [.int (lg_cmp ((xs 1)).toInt64 0)], x_h0, 0, 0)) rfl ?_
    refine x_R.ite (p := (lg_cmp ((xs 1)).toInt64 0) < (0 : Int32)) (c1 := (17, [(0, .long ((xs 1)).toInt64), (2, .long 0), (4, .long (-1))], [], x_h0, 0, 0)) (c2 := (6, [(0, .long ((xs 1)).toInt64), (2, .long 0), (4, .long (-1))], [], x_h0, 0, 0)) rfl (fun h2 => ?_) (fun h2 => ?_)
    · have g2 := (x_lg_lt (C := 0) (by decide)).mp h2
      refine x_R.steps 1 (c' := (18, [(0, .long ((xs 1)).toInt64), (2, .long 0), (4, .long (-1))], [.int 0], x_h0, 0, 0)) rfl ?_
      refine x_R.ret (v := some (.int 0)) rfl ?_
      refine x_R.steps 0 (c' := (16, [(0, .ref 75), (1, .int (xs 1))], [.int 0], x_h0, 0, 0)) rfl ?_
      refine x_R.ret (v := some (.int 0)) rfl ?_
      refine x_R.steps 0 (c' := (5, [(0, .ref 75), (1, .int (xs 1)), (2, .int (xs 2))], [.int 0], x_h0, 0, 0)) rfl ?_
      refine x_R.steps 1 (c' := (29, [(0, .ref 75), (1, .int (xs 1)), (2, .int (xs 2))], [], x_h0, 0, 0)) rfl ?_
      refine x_R.steps 1 (c' := (31, [(0, .ref 75), (1, .int (xs 1)), (2, .int (xs 2))], [.int (-2)], x_h0, 0, 0)) rfl ?_
      refine x_R.ret (v := some (.int (-2))) rfl ?_
      refine x_R.steps 0 (c' := (511, [(3, .int 0), (2, .ref 75), (1, .ref 0), (0, .ref x_scr)], [.int (-2), .int (-2)], x_h0, 98, 10728)) rfl ?_
      refine x_R.steps 1 (c' := (2370, [(3, .int 0), (2, .ref 75), (1, .ref 0), (0, .ref x_scr)], [], x_h0, 98, 10728)) rfl ?_
      refine x_R.steps 7 (c' := (24, [(3, .int 6), (2, .ref 75), (1, .ref 0), (0, .ref x_scr)], [.int 0, .int 6], x_h0, 98, 10728)) rfl ?_
      refine x_R.steps 1 (c' := (2376, [(3, .int 6), (2, .ref 75), (1, .ref 0), (0, .ref x_scr)], [], x_h0, 98, 10728)) rfl ?_
      refine x_R.steps 1 (c' := (2377, [(3, .int 6), (2, .ref 75), (1, .ref 0), (0, .ref x_scr)], [.int 1], x_h0, 98, 10728)) rfl ?_
      exact x_R.ret (v := some (.int 1)) rfl x_fin
    · have g2 := mt (x_lg_lt (C := 0) (by decide)).mpr h2
      exfalso; omega
  · have g1 := mt (x_i_lt (C := 0) (by decide)).mpr h1
    refine x_R.steps 3 (c' := (9, [(0, .ref 1), (1, .int (xs 1))], [.int 0, .int (xs 1)], x_h0, 0, 0)) rfl ?_
    refine x_R.ite (p := (0 : Int32) ≤ (xs 1)) (c1 := (16, [(0, .ref 1), (1, .int (xs 1))], [], x_h0, 0, 0)) (c2 := (12, [(0, .ref 1), (1, .int (xs 1))], [], x_h0, 0, 0)) rfl (fun h3 => ?_) (fun h3 => ?_)
    · have g3 := (x_i_ge (C := 0) (by decide)).mp h3
      refine x_R.steps 1 (c' := (17, [(0, .ref 1), (1, .int (xs 1))], [.int 0], x_h0, 0, 0)) rfl ?_
      refine x_R.ret (v := some (.int 0)) rfl ?_
      refine x_R.steps 0 (c' := (8, [(0, .ref 0), (1, .int (xs 1)), (2, .int (xs 2))], [.int 0], x_h0, 0, 0)) rfl ?_
      refine x_R.steps 1 (c' := (20, [(0, .ref 0), (1, .int (xs 1)), (2, .int (xs 2))], [], x_h0, 0, 0)) rfl ?_
      refine x_R.steps 1 (c' := (22, [(0, .ref 0), (1, .int (xs 1)), (2, .int (xs 2))], [.int (-2)], x_h0, 0, 0)) rfl ?_
      refine x_R.ret (v := some (.int (-2))) rfl ?_
      refine x_R.steps 0 (c' := (497, [(3, .int 0), (2, .ref 75), (1, .ref 0), (0, .ref x_scr)], [.int (-2)], x_h0, 98, 10728)) rfl ?_
      refine x_R.steps 5 (c' := (502, [(3, .int 0), (2, .ref 75), (1, .ref 0), (0, .ref x_scr)], [.int 1, .ref x_scr, .ref 75, .int (-2)], x_h0, 98, 10728)) rfl ?_
      refine x_R.steps 1 (c' := (503, [(3, .int 0), (2, .ref 75), (1, .ref 0), (0, .ref x_scr)], [.int (xs 1), .ref 75, .int (-2)], x_h0, 98, 10728)) rfl ?_
      refine x_R.steps 4 (c' := (507, [(3, .int 0), (2, .ref 75), (1, .ref 0), (0, .ref x_scr)], [.int 2, .ref x_scr, .int (xs 1), .ref 75, .int (-2)], x_h0, 98, 10728)) rfl ?_
      refine x_R.steps 1 (c' := (508, [(3, .int 0), (2, .ref 75), (1, .ref 0), (0, .ref x_scr)], [.int (xs 2), .int (xs 1), .ref 75, .int (-2)], x_h0, 98, 10728)) rfl ?_
      refine x_R.call (a := 240) (vs := [.ref 75, .int (xs 1), .int (xs 2)]) (rest := [.int (-2)]) (M' := M_cX12_player) rfl rfl rfl ?_
      refine x_R.steps 2 (c' := (2, [(0, .ref 75), (1, .int (xs 1)), (2, .int (xs 2))], [.int (xs 1), .ref 75], x_h0, 0, 0)) rfl ?_
      refine x_R.call (a := 205) (vs := [.ref 75, .int (xs 1)]) (rest := []) (M' := M_cX12_isPlayer) rfl rfl rfl ?_
      refine x_R.steps 6 (c' := (9, [(0, .ref 75), (1, .int (xs 1))], [.int 6, .ref 76, .long 0, .long ((xs 1)).toInt64], x_h0, 0, 0)) rfl ?_
      refine x_R.steps 1 (c' := (10, [(0, .ref 75), (1, .int (xs 1))], [.int 0, .long 0, .long ((xs 1)).toInt64], x_h0, 0, 0)) rfl ?_
      refine x_R.steps 3 (c' := (13, [(0, .ref 75), (1, .int (xs 1))], [.long (-1), .long 0, .long ((xs 1)).toInt64], x_h0, 0, 0)) rfl ?_
      refine x_R.call (a := 196) (vs := [.long ((xs 1)).toInt64, .long 0, .long (-1)]) (rest := []) (M' := M_cX12_in) rfl rfl rfl ?_
      refine x_R.steps 3 (c' := (3, [(0, .long ((xs 1)).toInt64), (2, .long 0), (4, .long (-1))], [.int (lg_cmp ((xs 1)).toInt64 0)], x_h0, 0, 0)) rfl ?_
      refine x_R.ite (p := (lg_cmp ((xs 1)).toInt64 0) < (0 : Int32)) (c1 := (17, [(0, .long ((xs 1)).toInt64), (2, .long 0), (4, .long (-1))], [], x_h0, 0, 0)) (c2 := (6, [(0, .long ((xs 1)).toInt64), (2, .long 0), (4, .long (-1))], [], x_h0, 0, 0)) rfl (fun h4 => ?_) (fun h4 => ?_)
      · have g4 := (x_lg_lt (C := 0) (by decide)).mp h4
        exfalso; omega
      · have g4 := mt (x_lg_lt (C := 0) (by decide)).mpr h4
        refine x_R.steps 3 (c' := (10, [(0, .long ((xs 1)).toInt64), (2, .long 0), (4, .long (-1))], [.int (lg_cmp ((xs 1)).toInt64 (-1))], x_h0, 0, 0)) rfl ?_
        refine x_R.ite (p := (0 : Int32) < (lg_cmp ((xs 1)).toInt64 (-1))) (c1 := (17, [(0, .long ((xs 1)).toInt64), (2, .long 0), (4, .long (-1))], [], x_h0, 0, 0)) (c2 := (13, [(0, .long ((xs 1)).toInt64), (2, .long 0), (4, .long (-1))], [], x_h0, 0, 0)) rfl (fun h5 => ?_) (fun h5 => ?_)
        · have g5 := (x_lg_gt (C := -1) (by decide)).mp h5
          refine x_R.steps 1 (c' := (18, [(0, .long ((xs 1)).toInt64), (2, .long 0), (4, .long (-1))], [.int 0], x_h0, 0, 0)) rfl ?_
          refine x_R.ret (v := some (.int 0)) rfl ?_
          refine x_R.steps 0 (c' := (16, [(0, .ref 75), (1, .int (xs 1))], [.int 0], x_h0, 0, 0)) rfl ?_
          refine x_R.ret (v := some (.int 0)) rfl ?_
          refine x_R.steps 0 (c' := (5, [(0, .ref 75), (1, .int (xs 1)), (2, .int (xs 2))], [.int 0], x_h0, 0, 0)) rfl ?_
          refine x_R.steps 1 (c' := (29, [(0, .ref 75), (1, .int (xs 1)), (2, .int (xs 2))], [], x_h0, 0, 0)) rfl ?_
          refine x_R.steps 1 (c' := (31, [(0, .ref 75), (1, .int (xs 1)), (2, .int (xs 2))], [.int (-2)], x_h0, 0, 0)) rfl ?_
          refine x_R.ret (v := some (.int (-2))) rfl ?_
          refine x_R.steps 0 (c' := (511, [(3, .int 0), (2, .ref 75), (1, .ref 0), (0, .ref x_scr)], [.int (-2), .int (-2)], x_h0, 98, 10728)) rfl ?_
          refine x_R.steps 1 (c' := (2370, [(3, .int 0), (2, .ref 75), (1, .ref 0), (0, .ref x_scr)], [], x_h0, 98, 10728)) rfl ?_
          refine x_R.steps 7 (c' := (24, [(3, .int 6), (2, .ref 75), (1, .ref 0), (0, .ref x_scr)], [.int 0, .int 6], x_h0, 98, 10728)) rfl ?_
          refine x_R.steps 1 (c' := (2376, [(3, .int 6), (2, .ref 75), (1, .ref 0), (0, .ref x_scr)], [], x_h0, 98, 10728)) rfl ?_
          refine x_R.steps 1 (c' := (2377, [(3, .int 6), (2, .ref 75), (1, .ref 0), (0, .ref x_scr)], [.int 1], x_h0, 98, 10728)) rfl ?_
          exact x_R.ret (v := some (.int 1)) rfl x_fin
        · have g5 := mt (x_lg_gt (C := -1) (by decide)).mpr h5
          exfalso; omega
    · have g3 := mt (x_i_ge (C := 0) (by decide)).mpr h3
      exfalso; omega
set_option maxRecDepth 100000 in
set_option maxHeartbeats 4000000 in
theorem x_c6_0 (xs : Nat → Int32)  : x_R x_mt (some (6, xs)) 13 M_law (516, [(3, .int 0), (2, .ref 75), (1, .ref 0), (0, .ref x_scr)], [], x_h0, 98, 10728) x_P := by
  refine x_R.steps 5 (c' := (521, [(3, .int 0), (2, .ref 75), (1, .ref 0), (0, .ref x_scr)], [.int 1, .ref x_scr, .ref 0], x_h0, 98, 10728)) rfl ?_
  refine x_R.steps 1 (c' := (522, [(3, .int 0), (2, .ref 75), (1, .ref 0), (0, .ref x_scr)], [.int (xs 1), .ref 0], x_h0, 98, 10728)) rfl ?_
  refine x_R.call (a := 118) (vs := [.ref 0, .int (xs 1)]) (rest := []) (M' := M_cX11_stay) rfl rfl rfl ?_
  refine x_R.steps 3 (c' := (5, [(0, .ref 0), (1, .int (xs 1))], [.int (xs 1), .ref 1], x_h0, 0, 0)) rfl ?_
  refine x_R.call (a := 14) (vs := [.ref 1, .int (xs 1)]) (rest := []) (M' := M_cX2_isTick) rfl rfl rfl ?_
  refine x_R.steps 1 (c' := (1, [(0, .ref 1), (1, .int (xs 1))], [.int (xs 1)], x_h0, 0, 0)) rfl ?_
  refine x_R.ite (p := (xs 1) < (0 : Int32)) (c1 := (16, [(0, .ref 1), (1, .int (xs 1))], [], x_h0, 0, 0)) (c2 := (4, [(0, .ref 1), (1, .int (xs 1))], [], x_h0, 0, 0)) rfl (fun h1 => ?_) (fun h1 => ?_)
  · have g1 := (x_i_lt (C := 0) (by decide)).mp h1
    refine x_R.steps 1 (c' := (17, [(0, .ref 1), (1, .int (xs 1))], [.int 0], x_h0, 0, 0)) rfl ?_
    refine x_R.ret (v := some (.int 0)) rfl ?_
    refine x_R.steps 0 (c' := (8, [(0, .ref 0), (1, .int (xs 1))], [.int 0], x_h0, 0, 0)) rfl ?_
    refine x_R.steps 1 (c' := (22, [(0, .ref 0), (1, .int (xs 1))], [], x_h0, 0, 0)) rfl ?_
    refine x_R.steps 1 (c' := (24, [(0, .ref 0), (1, .int (xs 1))], [.int (-2)], x_h0, 0, 0)) rfl ?_
    refine x_R.ret (v := some (.int (-2))) rfl ?_
    refine x_R.steps 0 (c' := (525, [(3, .int 0), (2, .ref 75), (1, .ref 0), (0, .ref x_scr)], [.int (-2)], x_h0, 98, 10728)) rfl ?_
    refine x_R.steps 5 (c' := (530, [(3, .int 0), (2, .ref 75), (1, .ref 0), (0, .ref x_scr)], [.int 1, .ref x_scr, .ref 75, .int (-2)], x_h0, 98, 10728)) rfl ?_
    refine x_R.steps 1 (c' := (531, [(3, .int 0), (2, .ref 75), (1, .ref 0), (0, .ref x_scr)], [.int (xs 1), .ref 75, .int (-2)], x_h0, 98, 10728)) rfl ?_
    refine x_R.call (a := 241) (vs := [.ref 75, .int (xs 1)]) (rest := [.int (-2)]) (M' := M_cX12_stay) rfl rfl rfl ?_
    refine x_R.steps 3 (c' := (3, [(0, .ref 75), (1, .int (xs 1))], [.long ((xs 1)).toInt64, .ref 75], x_h0, 0, 0)) rfl ?_
    refine x_R.call (a := 203) (vs := [.ref 75, .long ((xs 1)).toInt64]) (rest := []) (M' := M_cX12_isTick) rfl rfl rfl ?_
    refine x_R.steps 5 (c' := (7, [(0, .ref 75), (1, .long ((xs 1)).toInt64)], [.int 2, .ref 76, .long 0, .long ((xs 1)).toInt64], x_h0, 0, 0)) rfl ?_
    refine x_R.steps 1 (c' := (8, [(0, .ref 75), (1, .long ((xs 1)).toInt64)], [.int 0, .long 0, .long ((xs 1)).toInt64], x_h0, 0, 0)) rfl ?_
    refine x_R.steps 3 (c' := (11, [(0, .ref 75), (1, .long ((xs 1)).toInt64)], [.long (-1), .long 0, .long ((xs 1)).toInt64], x_h0, 0, 0)) rfl ?_
    refine x_R.call (a := 196) (vs := [.long ((xs 1)).toInt64, .long 0, .long (-1)]) (rest := []) (M' := M_cX12_in) rfl rfl rfl ?_
    refine x_R.steps 3 (c' := (3, [(0, .long ((xs 1)).toInt64), (2, .long 0), (4, .long (-1))], [.int (lg_cmp ((xs 1)).toInt64 0)], x_h0, 0, 0)) rfl ?_
    refine x_R.ite (p := (lg_cmp ((xs 1)).toInt64 0) < (0 : Int32)) (c1 := (17, [(0, .long ((xs 1)).toInt64), (2, .long 0), (4, .long (-1))], [], x_h0, 0, 0)) (c2 := (6, [(0, .long ((xs 1)).toInt64), (2, .long 0), (4, .long (-1))], [], x_h0, 0, 0)) rfl (fun h2 => ?_) (fun h2 => ?_)
    · have g2 := (x_lg_lt (C := 0) (by decide)).mp h2
      refine x_R.steps 1 (c' := (18, [(0, .long ((xs 1)).toInt64), (2, .long 0), (4, .long (-1))], [.int 0], x_h0, 0, 0)) rfl ?_
      refine x_R.ret (v := some (.int 0)) rfl ?_
      refine x_R.steps 0 (c' := (14, [(0, .ref 75), (1, .long ((xs 1)).toInt64)], [.int 0], x_h0, 0, 0)) rfl ?_
      refine x_R.ret (v := some (.int 0)) rfl ?_
      refine x_R.steps 0 (c' := (6, [(0, .ref 75), (1, .int (xs 1))], [.int 0], x_h0, 0, 0)) rfl ?_
      refine x_R.steps 1 (c' := (17, [(0, .ref 75), (1, .int (xs 1))], [], x_h0, 0, 0)) rfl ?_
      refine x_R.steps 1 (c' := (19, [(0, .ref 75), (1, .int (xs 1))], [.int (-2)], x_h0, 0, 0)) rfl ?_
      refine x_R.ret (v := some (.int (-2))) rfl ?_
      refine x_R.steps 0 (c' := (534, [(3, .int 0), (2, .ref 75), (1, .ref 0), (0, .ref x_scr)], [.int (-2), .int (-2)], x_h0, 98, 10728)) rfl ?_
      refine x_R.steps 1 (c' := (2370, [(3, .int 0), (2, .ref 75), (1, .ref 0), (0, .ref x_scr)], [], x_h0, 98, 10728)) rfl ?_
      refine x_R.steps 7 (c' := (24, [(3, .int 6), (2, .ref 75), (1, .ref 0), (0, .ref x_scr)], [.int 0, .int 6], x_h0, 98, 10728)) rfl ?_
      refine x_R.steps 1 (c' := (2376, [(3, .int 6), (2, .ref 75), (1, .ref 0), (0, .ref x_scr)], [], x_h0, 98, 10728)) rfl ?_
      refine x_R.steps 1 (c' := (2377, [(3, .int 6), (2, .ref 75), (1, .ref 0), (0, .ref x_scr)], [.int 1], x_h0, 98, 10728)) rfl ?_
      exact x_R.ret (v := some (.int 1)) rfl x_fin
    · have g2 := mt (x_lg_lt (C := 0) (by decide)).mpr h2
      exfalso; omega
  · have g1 := mt (x_i_lt (C := 0) (by decide)).mpr h1
    refine x_R.steps 3 (c' := (9, [(0, .ref 1), (1, .int (xs 1))], [.int 0, .int (xs 1)], x_h0, 0, 0)) rfl ?_
    refine x_R.ite (p := (0 : Int32) ≤ (xs 1)) (c1 := (16, [(0, .ref 1), (1, .int (xs 1))], [], x_h0, 0, 0)) (c2 := (12, [(0, .ref 1), (1, .int (xs 1))], [], x_h0, 0, 0)) rfl (fun h3 => ?_) (fun h3 => ?_)
    · have g3 := (x_i_ge (C := 0) (by decide)).mp h3
      refine x_R.steps 1 (c' := (17, [(0, .ref 1), (1, .int (xs 1))], [.int 0], x_h0, 0, 0)) rfl ?_
      refine x_R.ret (v := some (.int 0)) rfl ?_
      refine x_R.steps 0 (c' := (8, [(0, .ref 0), (1, .int (xs 1))], [.int 0], x_h0, 0, 0)) rfl ?_
      refine x_R.steps 1 (c' := (22, [(0, .ref 0), (1, .int (xs 1))], [], x_h0, 0, 0)) rfl ?_
      refine x_R.steps 1 (c' := (24, [(0, .ref 0), (1, .int (xs 1))], [.int (-2)], x_h0, 0, 0)) rfl ?_
      refine x_R.ret (v := some (.int (-2))) rfl ?_
      refine x_R.steps 0 (c' := (525, [(3, .int 0), (2, .ref 75), (1, .ref 0), (0, .ref x_scr)], [.int (-2)], x_h0, 98, 10728)) rfl ?_
      refine x_R.steps 5 (c' := (530, [(3, .int 0), (2, .ref 75), (1, .ref 0), (0, .ref x_scr)], [.int 1, .ref x_scr, .ref 75, .int (-2)], x_h0, 98, 10728)) rfl ?_
      refine x_R.steps 1 (c' := (531, [(3, .int 0), (2, .ref 75), (1, .ref 0), (0, .ref x_scr)], [.int (xs 1), .ref 75, .int (-2)], x_h0, 98, 10728)) rfl ?_
      refine x_R.call (a := 241) (vs := [.ref 75, .int (xs 1)]) (rest := [.int (-2)]) (M' := M_cX12_stay) rfl rfl rfl ?_
      refine x_R.steps 3 (c' := (3, [(0, .ref 75), (1, .int (xs 1))], [.long ((xs 1)).toInt64, .ref 75], x_h0, 0, 0)) rfl ?_
      refine x_R.call (a := 203) (vs := [.ref 75, .long ((xs 1)).toInt64]) (rest := []) (M' := M_cX12_isTick) rfl rfl rfl ?_
      refine x_R.steps 5 (c' := (7, [(0, .ref 75), (1, .long ((xs 1)).toInt64)], [.int 2, .ref 76, .long 0, .long ((xs 1)).toInt64], x_h0, 0, 0)) rfl ?_
      refine x_R.steps 1 (c' := (8, [(0, .ref 75), (1, .long ((xs 1)).toInt64)], [.int 0, .long 0, .long ((xs 1)).toInt64], x_h0, 0, 0)) rfl ?_
      refine x_R.steps 3 (c' := (11, [(0, .ref 75), (1, .long ((xs 1)).toInt64)], [.long (-1), .long 0, .long ((xs 1)).toInt64], x_h0, 0, 0)) rfl ?_
      refine x_R.call (a := 196) (vs := [.long ((xs 1)).toInt64, .long 0, .long (-1)]) (rest := []) (M' := M_cX12_in) rfl rfl rfl ?_
      refine x_R.steps 3 (c' := (3, [(0, .long ((xs 1)).toInt64), (2, .long 0), (4, .long (-1))], [.int (lg_cmp ((xs 1)).toInt64 0)], x_h0, 0, 0)) rfl ?_
      refine x_R.ite (p := (lg_cmp ((xs 1)).toInt64 0) < (0 : Int32)) (c1 := (17, [(0, .long ((xs 1)).toInt64), (2, .long 0), (4, .long (-1))], [], x_h0, 0, 0)) (c2 := (6, [(0, .long ((xs 1)).toInt64), (2, .long 0), (4, .long (-1))], [], x_h0, 0, 0)) rfl (fun h4 => ?_) (fun h4 => ?_)
      · have g4 := (x_lg_lt (C := 0) (by decide)).mp h4
        exfalso; omega
      · have g4 := mt (x_lg_lt (C := 0) (by decide)).mpr h4
        refine x_R.steps 3 (c' := (10, [(0, .long ((xs 1)).toInt64), (2, .long 0), (4, .long (-1))], [.int (lg_cmp ((xs 1)).toInt64 (-1))], x_h0, 0, 0)) rfl ?_
        refine x_R.ite (p := (0 : Int32) < (lg_cmp ((xs 1)).toInt64 (-1))) (c1 := (17, [(0, .long ((xs 1)).toInt64), (2, .long 0), (4, .long (-1))], [], x_h0, 0, 0)) (c2 := (13, [(0, .long ((xs 1)).toInt64), (2, .long 0), (4, .long (-1))], [], x_h0, 0, 0)) rfl (fun h5 => ?_) (fun h5 => ?_)
        · have g5 := (x_lg_gt (C := -1) (by decide)).mp h5
          refine x_R.steps 1 (c' := (18, [(0, .long ((xs 1)).toInt64), (2, .long 0), (4, .long (-1))], [.int 0], x_h0, 0, 0)) rfl ?_
          refine x_R.ret (v := some (.int 0)) rfl ?_
          refine x_R.steps 0 (c' := (14, [(0, .ref 75), (1, .long ((xs 1)).toInt64)], [.int 0], x_h0, 0, 0)) rfl ?_
          refine x_R.ret (v := some (.int 0)) rfl ?_
          refine x_R.steps 0 (c' := (6, [(0, .ref 75), (1, .int (xs 1))], [.int 0], x_h0, 0, 0)) rfl ?_
          refine x_R.steps 1 (c' := (17, [(0, .ref 75), (1, .int (xs 1))], [], x_h0, 0, 0)) rfl ?_
          refine x_R.steps 1 (c' := (19, [(0, .ref 75), (1, .int (xs 1))], [.int (-2)], x_h0, 0, 0)) rfl ?_
          refine x_R.ret (v := some (.int (-2))) rfl ?_
          refine x_R.steps 0 (c' := (534, [(3, .int 0), (2, .ref 75), (1, .ref 0), (0, .ref x_scr)], [.int (-2), .int (-2)], x_h0, 98, 10728)) rfl ?_
          refine x_R.steps 1 (c' := (2370, [(3, .int 0), (2, .ref 75), (1, .ref 0), (0, .ref x_scr)], [], x_h0, 98, 10728)) rfl ?_
          refine x_R.steps 7 (c' := (24, [(3, .int 6), (2, .ref 75), (1, .ref 0), (0, .ref x_scr)], [.int 0, .int 6], x_h0, 98, 10728)) rfl ?_
          refine x_R.steps 1 (c' := (2376, [(3, .int 6), (2, .ref 75), (1, .ref 0), (0, .ref x_scr)], [], x_h0, 98, 10728)) rfl ?_
          refine x_R.steps 1 (c' := (2377, [(3, .int 6), (2, .ref 75), (1, .ref 0), (0, .ref x_scr)], [.int 1], x_h0, 98, 10728)) rfl ?_
          exact x_R.ret (v := some (.int 1)) rfl x_fin
        · have g5 := mt (x_lg_gt (C := -1) (by decide)).mpr h5
          exfalso; omega
    · have g3 := mt (x_i_ge (C := 0) (by decide)).mpr h3
      exfalso; omega
set_option maxRecDepth 100000 in
set_option maxHeartbeats 4000000 in
theorem x_c7_0 (xs : Nat → Int32)  : x_R x_mt (some (6, xs)) 13 M_law (539, [(3, .int 0), (2, .ref 75), (1, .ref 0), (0, .ref x_scr)], [], x_h0, 98, 10728) x_P := by
  refine x_R.steps 1 (c' := (540, [(3, .int 0), (2, .ref 75), (1, .ref 0), (0, .ref x_scr)], [.ref 0], x_h0, 98, 10728)) rfl ?_
  refine x_R.call (a := 120) (vs := [.ref 0]) (rest := []) (M' := M_cX11_comings) rfl rfl rfl ?_
  refine x_R.steps 2 (c' := (4, [(0, .ref 0)], [.ref 1], x_h0, 0, 0)) rfl ?_
  refine x_R.call (a := 11) (vs := [.ref 1]) (rest := []) (M' := M_cX2_isTold) rfl rfl rfl ?_
  refine x_R.steps 2 (c' := (4, [(0, .ref 1)], [.int 0], x_h0, 0, 0)) rfl ?_
  refine x_R.steps 1 (c' := (11, [(0, .ref 1)], [], x_h0, 0, 0)) rfl ?_
  refine x_R.steps 1 (c' := (12, [(0, .ref 1)], [.int 0], x_h0, 0, 0)) rfl ?_
  refine x_R.ret (v := some (.int 0)) rfl ?_
  refine x_R.steps 0 (c' := (7, [(0, .ref 0)], [.int 0], x_h0, 0, 0)) rfl ?_
  refine x_R.steps 1 (c' := (10, [(0, .ref 0)], [], x_h0, 0, 0)) rfl ?_
  refine x_R.steps 1 (c' := (12, [(0, .ref 0)], [.int (-2)], x_h0, 0, 0)) rfl ?_
  refine x_R.ret (v := some (.int (-2))) rfl ?_
  refine x_R.steps 0 (c' := (543, [(3, .int 0), (2, .ref 75), (1, .ref 0), (0, .ref x_scr)], [.int (-2)], x_h0, 98, 10728)) rfl ?_
  refine x_R.steps 1 (c' := (544, [(3, .int 0), (2, .ref 75), (1, .ref 0), (0, .ref x_scr)], [.ref 75, .int (-2)], x_h0, 98, 10728)) rfl ?_
  refine x_R.call (a := 242) (vs := [.ref 75]) (rest := [.int (-2)]) (M' := M_cX12_comings) rfl rfl rfl ?_
  refine x_R.steps 1 (c' := (1, [(0, .ref 75)], [.ref 75], x_h0, 0, 0)) rfl ?_
  refine x_R.call (a := 199) (vs := [.ref 75]) (rest := []) (M' := M_cX12_isBoard) rfl rfl rfl ?_
  refine x_R.steps 3 (c' := (5, [(0, .ref 75)], [.int 0, .ref 76], x_h0, 0, 0)) rfl ?_
  refine x_R.steps 1 (c' := (6, [(0, .ref 75)], [.int 0], x_h0, 0, 0)) rfl ?_
  refine x_R.steps 1 (c' := (13, [(0, .ref 75)], [], x_h0, 0, 0)) rfl ?_
  refine x_R.steps 1 (c' := (14, [(0, .ref 75)], [.int 0], x_h0, 0, 0)) rfl ?_
  refine x_R.ret (v := some (.int 0)) rfl ?_
  refine x_R.steps 0 (c' := (4, [(0, .ref 75)], [.int 0], x_h0, 0, 0)) rfl ?_
  refine x_R.steps 1 (c' := (7, [(0, .ref 75)], [], x_h0, 0, 0)) rfl ?_
  refine x_R.steps 1 (c' := (9, [(0, .ref 75)], [.int (-2)], x_h0, 0, 0)) rfl ?_
  refine x_R.ret (v := some (.int (-2))) rfl ?_
  refine x_R.steps 0 (c' := (547, [(3, .int 0), (2, .ref 75), (1, .ref 0), (0, .ref x_scr)], [.int (-2), .int (-2)], x_h0, 98, 10728)) rfl ?_
  refine x_R.steps 1 (c' := (2370, [(3, .int 0), (2, .ref 75), (1, .ref 0), (0, .ref x_scr)], [], x_h0, 98, 10728)) rfl ?_
  refine x_R.steps 7 (c' := (24, [(3, .int 6), (2, .ref 75), (1, .ref 0), (0, .ref x_scr)], [.int 0, .int 6], x_h0, 98, 10728)) rfl ?_
  refine x_R.steps 1 (c' := (2376, [(3, .int 6), (2, .ref 75), (1, .ref 0), (0, .ref x_scr)], [], x_h0, 98, 10728)) rfl ?_
  refine x_R.steps 1 (c' := (2377, [(3, .int 6), (2, .ref 75), (1, .ref 0), (0, .ref x_scr)], [.int 1], x_h0, 98, 10728)) rfl ?_
  exact x_R.ret (v := some (.int 1)) rfl x_fin
set_option maxRecDepth 100000 in
set_option maxHeartbeats 4000000 in
theorem x_c8_0 (xs : Nat → Int32)  : x_R x_mt (some (6, xs)) 13 M_law (552, [(3, .int 0), (2, .ref 75), (1, .ref 0), (0, .ref x_scr)], [], x_h0, 98, 10728) x_P := by
  refine x_R.steps 5 (c' := (557, [(3, .int 0), (2, .ref 75), (1, .ref 0), (0, .ref x_scr)], [.int 1, .ref x_scr, .ref 0], x_h0, 98, 10728)) rfl ?_
  refine x_R.steps 1 (c' := (558, [(3, .int 0), (2, .ref 75), (1, .ref 0), (0, .ref x_scr)], [.int (xs 1), .ref 0], x_h0, 98, 10728)) rfl ?_
  refine x_R.steps 4 (c' := (562, [(3, .int 0), (2, .ref 75), (1, .ref 0), (0, .ref x_scr)], [.int 2, .ref x_scr, .int (xs 1), .ref 0], x_h0, 98, 10728)) rfl ?_
  refine x_R.steps 1 (c' := (563, [(3, .int 0), (2, .ref 75), (1, .ref 0), (0, .ref x_scr)], [.int (xs 2), .int (xs 1), .ref 0], x_h0, 98, 10728)) rfl ?_
  refine x_R.call (a := 121) (vs := [.ref 0, .int (xs 1), .int (xs 2)]) (rest := []) (M' := M_cX11_comes) rfl rfl rfl ?_
  refine x_R.steps 2 (c' := (4, [(0, .ref 0), (1, .int (xs 1)), (2, .int (xs 2))], [.ref 1], x_h0, 0, 0)) rfl ?_
  refine x_R.call (a := 11) (vs := [.ref 1]) (rest := []) (M' := M_cX2_isTold) rfl rfl rfl ?_
  refine x_R.steps 2 (c' := (4, [(0, .ref 1)], [.int 0], x_h0, 0, 0)) rfl ?_
  refine x_R.steps 1 (c' := (11, [(0, .ref 1)], [], x_h0, 0, 0)) rfl ?_
  refine x_R.steps 1 (c' := (12, [(0, .ref 1)], [.int 0], x_h0, 0, 0)) rfl ?_
  refine x_R.ret (v := some (.int 0)) rfl ?_
  refine x_R.steps 0 (c' := (7, [(0, .ref 0), (1, .int (xs 1)), (2, .int (xs 2))], [.int 0], x_h0, 0, 0)) rfl ?_
  refine x_R.steps 1 (c' := (19, [(0, .ref 0), (1, .int (xs 1)), (2, .int (xs 2))], [], x_h0, 0, 0)) rfl ?_
  refine x_R.steps 1 (c' := (21, [(0, .ref 0), (1, .int (xs 1)), (2, .int (xs 2))], [.int (-2)], x_h0, 0, 0)) rfl ?_
  refine x_R.ret (v := some (.int (-2))) rfl ?_
  refine x_R.steps 0 (c' := (566, [(3, .int 0), (2, .ref 75), (1, .ref 0), (0, .ref x_scr)], [.int (-2)], x_h0, 98, 10728)) rfl ?_
  refine x_R.steps 5 (c' := (571, [(3, .int 0), (2, .ref 75), (1, .ref 0), (0, .ref x_scr)], [.int 1, .ref x_scr, .ref 75, .int (-2)], x_h0, 98, 10728)) rfl ?_
  refine x_R.steps 1 (c' := (572, [(3, .int 0), (2, .ref 75), (1, .ref 0), (0, .ref x_scr)], [.int (xs 1), .ref 75, .int (-2)], x_h0, 98, 10728)) rfl ?_
  refine x_R.steps 4 (c' := (576, [(3, .int 0), (2, .ref 75), (1, .ref 0), (0, .ref x_scr)], [.int 2, .ref x_scr, .int (xs 1), .ref 75, .int (-2)], x_h0, 98, 10728)) rfl ?_
  refine x_R.steps 1 (c' := (577, [(3, .int 0), (2, .ref 75), (1, .ref 0), (0, .ref x_scr)], [.int (xs 2), .int (xs 1), .ref 75, .int (-2)], x_h0, 98, 10728)) rfl ?_
  refine x_R.call (a := 244) (vs := [.ref 75, .int (xs 1), .int (xs 2)]) (rest := [.int (-2)]) (M' := M_cX12_comes) rfl rfl rfl ?_
  refine x_R.steps 1 (c' := (1, [(0, .ref 75), (1, .int (xs 1)), (2, .int (xs 2))], [.ref 75], x_h0, 0, 0)) rfl ?_
  refine x_R.call (a := 199) (vs := [.ref 75]) (rest := []) (M' := M_cX12_isBoard) rfl rfl rfl ?_
  refine x_R.steps 3 (c' := (5, [(0, .ref 75)], [.int 0, .ref 76], x_h0, 0, 0)) rfl ?_
  refine x_R.steps 1 (c' := (6, [(0, .ref 75)], [.int 0], x_h0, 0, 0)) rfl ?_
  refine x_R.steps 1 (c' := (13, [(0, .ref 75)], [], x_h0, 0, 0)) rfl ?_
  refine x_R.steps 1 (c' := (14, [(0, .ref 75)], [.int 0], x_h0, 0, 0)) rfl ?_
  refine x_R.ret (v := some (.int 0)) rfl ?_
  refine x_R.steps 0 (c' := (4, [(0, .ref 75), (1, .int (xs 1)), (2, .int (xs 2))], [.int 0], x_h0, 0, 0)) rfl ?_
  refine x_R.steps 1 (c' := (19, [(0, .ref 75), (1, .int (xs 1)), (2, .int (xs 2))], [], x_h0, 0, 0)) rfl ?_
  refine x_R.steps 1 (c' := (21, [(0, .ref 75), (1, .int (xs 1)), (2, .int (xs 2))], [.int (-2)], x_h0, 0, 0)) rfl ?_
  refine x_R.ret (v := some (.int (-2))) rfl ?_
  refine x_R.steps 0 (c' := (580, [(3, .int 0), (2, .ref 75), (1, .ref 0), (0, .ref x_scr)], [.int (-2), .int (-2)], x_h0, 98, 10728)) rfl ?_
  refine x_R.steps 1 (c' := (2370, [(3, .int 0), (2, .ref 75), (1, .ref 0), (0, .ref x_scr)], [], x_h0, 98, 10728)) rfl ?_
  refine x_R.steps 7 (c' := (24, [(3, .int 6), (2, .ref 75), (1, .ref 0), (0, .ref x_scr)], [.int 0, .int 6], x_h0, 98, 10728)) rfl ?_
  refine x_R.steps 1 (c' := (2376, [(3, .int 6), (2, .ref 75), (1, .ref 0), (0, .ref x_scr)], [], x_h0, 98, 10728)) rfl ?_
  refine x_R.steps 1 (c' := (2377, [(3, .int 6), (2, .ref 75), (1, .ref 0), (0, .ref x_scr)], [.int 1], x_h0, 98, 10728)) rfl ?_
  exact x_R.ret (v := some (.int 1)) rfl x_fin
set_option maxRecDepth 100000 in
set_option maxHeartbeats 4000000 in
theorem x_c9_0 (xs : Nat → Int32)  : x_R x_mt (some (6, xs)) 13 M_law (585, [(3, .int 0), (2, .ref 75), (1, .ref 0), (0, .ref x_scr)], [], x_h0, 98, 10728) x_P := by
  refine x_R.steps 5 (c' := (590, [(3, .int 0), (2, .ref 75), (1, .ref 0), (0, .ref x_scr)], [.int 1, .ref x_scr, .ref 0], x_h0, 98, 10728)) rfl ?_
  refine x_R.steps 1 (c' := (591, [(3, .int 0), (2, .ref 75), (1, .ref 0), (0, .ref x_scr)], [.int (xs 1), .ref 0], x_h0, 98, 10728)) rfl ?_
  refine x_R.call (a := 122) (vs := [.ref 0, .int (xs 1)]) (rest := []) (M' := M_cX11_up) rfl rfl rfl ?_
  refine x_R.steps 3 (c' := (5, [(0, .ref 0), (1, .int (xs 1))], [.int (xs 1), .ref 1], x_h0, 0, 0)) rfl ?_
  refine x_R.call (a := 14) (vs := [.ref 1, .int (xs 1)]) (rest := []) (M' := M_cX2_isTick) rfl rfl rfl ?_
  refine x_R.steps 1 (c' := (1, [(0, .ref 1), (1, .int (xs 1))], [.int (xs 1)], x_h0, 0, 0)) rfl ?_
  refine x_R.ite (p := (xs 1) < (0 : Int32)) (c1 := (16, [(0, .ref 1), (1, .int (xs 1))], [], x_h0, 0, 0)) (c2 := (4, [(0, .ref 1), (1, .int (xs 1))], [], x_h0, 0, 0)) rfl (fun h1 => ?_) (fun h1 => ?_)
  · have g1 := (x_i_lt (C := 0) (by decide)).mp h1
    refine x_R.steps 1 (c' := (17, [(0, .ref 1), (1, .int (xs 1))], [.int 0], x_h0, 0, 0)) rfl ?_
    refine x_R.ret (v := some (.int 0)) rfl ?_
    refine x_R.steps 0 (c' := (8, [(0, .ref 0), (1, .int (xs 1))], [.int 0], x_h0, 0, 0)) rfl ?_
    refine x_R.steps 1 (c' := (11, [(0, .ref 0), (1, .int (xs 1))], [], x_h0, 0, 0)) rfl ?_
    refine x_R.steps 1 (c' := (13, [(0, .ref 0), (1, .int (xs 1))], [.int (-2)], x_h0, 0, 0)) rfl ?_
    refine x_R.ret (v := some (.int (-2))) rfl ?_
    refine x_R.steps 0 (c' := (594, [(3, .int 0), (2, .ref 75), (1, .ref 0), (0, .ref x_scr)], [.int (-2)], x_h0, 98, 10728)) rfl ?_
    refine x_R.steps 5 (c' := (599, [(3, .int 0), (2, .ref 75), (1, .ref 0), (0, .ref x_scr)], [.int 1, .ref x_scr, .ref 75, .int (-2)], x_h0, 98, 10728)) rfl ?_
    refine x_R.steps 1 (c' := (600, [(3, .int 0), (2, .ref 75), (1, .ref 0), (0, .ref x_scr)], [.int (xs 1), .ref 75, .int (-2)], x_h0, 98, 10728)) rfl ?_
    refine x_R.call (a := 246) (vs := [.ref 75, .int (xs 1)]) (rest := [.int (-2)]) (M' := M_cX12_up) rfl rfl rfl ?_
    refine x_R.steps 3 (c' := (3, [(0, .ref 75), (1, .int (xs 1))], [.long ((xs 1)).toInt64, .ref 75], x_h0, 0, 0)) rfl ?_
    refine x_R.call (a := 203) (vs := [.ref 75, .long ((xs 1)).toInt64]) (rest := []) (M' := M_cX12_isTick) rfl rfl rfl ?_
    refine x_R.steps 5 (c' := (7, [(0, .ref 75), (1, .long ((xs 1)).toInt64)], [.int 2, .ref 76, .long 0, .long ((xs 1)).toInt64], x_h0, 0, 0)) rfl ?_
    refine x_R.steps 1 (c' := (8, [(0, .ref 75), (1, .long ((xs 1)).toInt64)], [.int 0, .long 0, .long ((xs 1)).toInt64], x_h0, 0, 0)) rfl ?_
    refine x_R.steps 3 (c' := (11, [(0, .ref 75), (1, .long ((xs 1)).toInt64)], [.long (-1), .long 0, .long ((xs 1)).toInt64], x_h0, 0, 0)) rfl ?_
    refine x_R.call (a := 196) (vs := [.long ((xs 1)).toInt64, .long 0, .long (-1)]) (rest := []) (M' := M_cX12_in) rfl rfl rfl ?_
    refine x_R.steps 3 (c' := (3, [(0, .long ((xs 1)).toInt64), (2, .long 0), (4, .long (-1))], [.int (lg_cmp ((xs 1)).toInt64 0)], x_h0, 0, 0)) rfl ?_
    refine x_R.ite (p := (lg_cmp ((xs 1)).toInt64 0) < (0 : Int32)) (c1 := (17, [(0, .long ((xs 1)).toInt64), (2, .long 0), (4, .long (-1))], [], x_h0, 0, 0)) (c2 := (6, [(0, .long ((xs 1)).toInt64), (2, .long 0), (4, .long (-1))], [], x_h0, 0, 0)) rfl (fun h2 => ?_) (fun h2 => ?_)
    · have g2 := (x_lg_lt (C := 0) (by decide)).mp h2
      refine x_R.steps 1 (c' := (18, [(0, .long ((xs 1)).toInt64), (2, .long 0), (4, .long (-1))], [.int 0], x_h0, 0, 0)) rfl ?_
      refine x_R.ret (v := some (.int 0)) rfl ?_
      refine x_R.steps 0 (c' := (14, [(0, .ref 75), (1, .long ((xs 1)).toInt64)], [.int 0], x_h0, 0, 0)) rfl ?_
      refine x_R.ret (v := some (.int 0)) rfl ?_
      refine x_R.steps 0 (c' := (6, [(0, .ref 75), (1, .int (xs 1))], [.int 0], x_h0, 0, 0)) rfl ?_
      refine x_R.steps 1 (c' := (9, [(0, .ref 75), (1, .int (xs 1))], [], x_h0, 0, 0)) rfl ?_
      refine x_R.steps 1 (c' := (11, [(0, .ref 75), (1, .int (xs 1))], [.int (-2)], x_h0, 0, 0)) rfl ?_
      refine x_R.ret (v := some (.int (-2))) rfl ?_
      refine x_R.steps 0 (c' := (603, [(3, .int 0), (2, .ref 75), (1, .ref 0), (0, .ref x_scr)], [.int (-2), .int (-2)], x_h0, 98, 10728)) rfl ?_
      refine x_R.steps 1 (c' := (2370, [(3, .int 0), (2, .ref 75), (1, .ref 0), (0, .ref x_scr)], [], x_h0, 98, 10728)) rfl ?_
      refine x_R.steps 7 (c' := (24, [(3, .int 6), (2, .ref 75), (1, .ref 0), (0, .ref x_scr)], [.int 0, .int 6], x_h0, 98, 10728)) rfl ?_
      refine x_R.steps 1 (c' := (2376, [(3, .int 6), (2, .ref 75), (1, .ref 0), (0, .ref x_scr)], [], x_h0, 98, 10728)) rfl ?_
      refine x_R.steps 1 (c' := (2377, [(3, .int 6), (2, .ref 75), (1, .ref 0), (0, .ref x_scr)], [.int 1], x_h0, 98, 10728)) rfl ?_
      exact x_R.ret (v := some (.int 1)) rfl x_fin
    · have g2 := mt (x_lg_lt (C := 0) (by decide)).mpr h2
      exfalso; omega
  · have g1 := mt (x_i_lt (C := 0) (by decide)).mpr h1
    refine x_R.steps 3 (c' := (9, [(0, .ref 1), (1, .int (xs 1))], [.int 0, .int (xs 1)], x_h0, 0, 0)) rfl ?_
    refine x_R.ite (p := (0 : Int32) ≤ (xs 1)) (c1 := (16, [(0, .ref 1), (1, .int (xs 1))], [], x_h0, 0, 0)) (c2 := (12, [(0, .ref 1), (1, .int (xs 1))], [], x_h0, 0, 0)) rfl (fun h3 => ?_) (fun h3 => ?_)
    · have g3 := (x_i_ge (C := 0) (by decide)).mp h3
      refine x_R.steps 1 (c' := (17, [(0, .ref 1), (1, .int (xs 1))], [.int 0], x_h0, 0, 0)) rfl ?_
      refine x_R.ret (v := some (.int 0)) rfl ?_
      refine x_R.steps 0 (c' := (8, [(0, .ref 0), (1, .int (xs 1))], [.int 0], x_h0, 0, 0)) rfl ?_
      refine x_R.steps 1 (c' := (11, [(0, .ref 0), (1, .int (xs 1))], [], x_h0, 0, 0)) rfl ?_
      refine x_R.steps 1 (c' := (13, [(0, .ref 0), (1, .int (xs 1))], [.int (-2)], x_h0, 0, 0)) rfl ?_
      refine x_R.ret (v := some (.int (-2))) rfl ?_
      refine x_R.steps 0 (c' := (594, [(3, .int 0), (2, .ref 75), (1, .ref 0), (0, .ref x_scr)], [.int (-2)], x_h0, 98, 10728)) rfl ?_
      refine x_R.steps 5 (c' := (599, [(3, .int 0), (2, .ref 75), (1, .ref 0), (0, .ref x_scr)], [.int 1, .ref x_scr, .ref 75, .int (-2)], x_h0, 98, 10728)) rfl ?_
      refine x_R.steps 1 (c' := (600, [(3, .int 0), (2, .ref 75), (1, .ref 0), (0, .ref x_scr)], [.int (xs 1), .ref 75, .int (-2)], x_h0, 98, 10728)) rfl ?_
      refine x_R.call (a := 246) (vs := [.ref 75, .int (xs 1)]) (rest := [.int (-2)]) (M' := M_cX12_up) rfl rfl rfl ?_
      refine x_R.steps 3 (c' := (3, [(0, .ref 75), (1, .int (xs 1))], [.long ((xs 1)).toInt64, .ref 75], x_h0, 0, 0)) rfl ?_
      refine x_R.call (a := 203) (vs := [.ref 75, .long ((xs 1)).toInt64]) (rest := []) (M' := M_cX12_isTick) rfl rfl rfl ?_
      refine x_R.steps 5 (c' := (7, [(0, .ref 75), (1, .long ((xs 1)).toInt64)], [.int 2, .ref 76, .long 0, .long ((xs 1)).toInt64], x_h0, 0, 0)) rfl ?_
      refine x_R.steps 1 (c' := (8, [(0, .ref 75), (1, .long ((xs 1)).toInt64)], [.int 0, .long 0, .long ((xs 1)).toInt64], x_h0, 0, 0)) rfl ?_
      refine x_R.steps 3 (c' := (11, [(0, .ref 75), (1, .long ((xs 1)).toInt64)], [.long (-1), .long 0, .long ((xs 1)).toInt64], x_h0, 0, 0)) rfl ?_
      refine x_R.call (a := 196) (vs := [.long ((xs 1)).toInt64, .long 0, .long (-1)]) (rest := []) (M' := M_cX12_in) rfl rfl rfl ?_
      refine x_R.steps 3 (c' := (3, [(0, .long ((xs 1)).toInt64), (2, .long 0), (4, .long (-1))], [.int (lg_cmp ((xs 1)).toInt64 0)], x_h0, 0, 0)) rfl ?_
      refine x_R.ite (p := (lg_cmp ((xs 1)).toInt64 0) < (0 : Int32)) (c1 := (17, [(0, .long ((xs 1)).toInt64), (2, .long 0), (4, .long (-1))], [], x_h0, 0, 0)) (c2 := (6, [(0, .long ((xs 1)).toInt64), (2, .long 0), (4, .long (-1))], [], x_h0, 0, 0)) rfl (fun h4 => ?_) (fun h4 => ?_)
      · have g4 := (x_lg_lt (C := 0) (by decide)).mp h4
        exfalso; omega
      · have g4 := mt (x_lg_lt (C := 0) (by decide)).mpr h4
        refine x_R.steps 3 (c' := (10, [(0, .long ((xs 1)).toInt64), (2, .long 0), (4, .long (-1))], [.int (lg_cmp ((xs 1)).toInt64 (-1))], x_h0, 0, 0)) rfl ?_
        refine x_R.ite (p := (0 : Int32) < (lg_cmp ((xs 1)).toInt64 (-1))) (c1 := (17, [(0, .long ((xs 1)).toInt64), (2, .long 0), (4, .long (-1))], [], x_h0, 0, 0)) (c2 := (13, [(0, .long ((xs 1)).toInt64), (2, .long 0), (4, .long (-1))], [], x_h0, 0, 0)) rfl (fun h5 => ?_) (fun h5 => ?_)
        · have g5 := (x_lg_gt (C := -1) (by decide)).mp h5
          refine x_R.steps 1 (c' := (18, [(0, .long ((xs 1)).toInt64), (2, .long 0), (4, .long (-1))], [.int 0], x_h0, 0, 0)) rfl ?_
          refine x_R.ret (v := some (.int 0)) rfl ?_
          refine x_R.steps 0 (c' := (14, [(0, .ref 75), (1, .long ((xs 1)).toInt64)], [.int 0], x_h0, 0, 0)) rfl ?_
          refine x_R.ret (v := some (.int 0)) rfl ?_
          refine x_R.steps 0 (c' := (6, [(0, .ref 75), (1, .int (xs 1))], [.int 0], x_h0, 0, 0)) rfl ?_
          refine x_R.steps 1 (c' := (9, [(0, .ref 75), (1, .int (xs 1))], [], x_h0, 0, 0)) rfl ?_
          refine x_R.steps 1 (c' := (11, [(0, .ref 75), (1, .int (xs 1))], [.int (-2)], x_h0, 0, 0)) rfl ?_
          refine x_R.ret (v := some (.int (-2))) rfl ?_
          refine x_R.steps 0 (c' := (603, [(3, .int 0), (2, .ref 75), (1, .ref 0), (0, .ref x_scr)], [.int (-2), .int (-2)], x_h0, 98, 10728)) rfl ?_
          refine x_R.steps 1 (c' := (2370, [(3, .int 0), (2, .ref 75), (1, .ref 0), (0, .ref x_scr)], [], x_h0, 98, 10728)) rfl ?_
          refine x_R.steps 7 (c' := (24, [(3, .int 6), (2, .ref 75), (1, .ref 0), (0, .ref x_scr)], [.int 0, .int 6], x_h0, 98, 10728)) rfl ?_
          refine x_R.steps 1 (c' := (2376, [(3, .int 6), (2, .ref 75), (1, .ref 0), (0, .ref x_scr)], [], x_h0, 98, 10728)) rfl ?_
          refine x_R.steps 1 (c' := (2377, [(3, .int 6), (2, .ref 75), (1, .ref 0), (0, .ref x_scr)], [.int 1], x_h0, 98, 10728)) rfl ?_
          exact x_R.ret (v := some (.int 1)) rfl x_fin
        · have g5 := mt (x_lg_gt (C := -1) (by decide)).mpr h5
          exfalso; omega
    · have g3 := mt (x_i_ge (C := 0) (by decide)).mpr h3
      exfalso; omega
set_option maxRecDepth 100000 in
set_option maxHeartbeats 4000000 in
theorem x_c10_0 (xs : Nat → Int32)  : x_R x_mt (some (6, xs)) 13 M_law (608, [(3, .int 0), (2, .ref 75), (1, .ref 0), (0, .ref x_scr)], [], x_h0, 98, 10728) x_P := by
  refine x_R.steps 1 (c' := (609, [(3, .int 0), (2, .ref 75), (1, .ref 0), (0, .ref x_scr)], [.ref 0], x_h0, 98, 10728)) rfl ?_
  refine x_R.call (a := 123) (vs := [.ref 0]) (rest := []) (M' := M_cX11_calm) rfl rfl rfl ?_
  refine x_R.steps 2 (c' := (4, [(0, .ref 0)], [.ref 1], x_h0, 0, 0)) rfl ?_
  refine x_R.call (a := 11) (vs := [.ref 1]) (rest := []) (M' := M_cX2_isTold) rfl rfl rfl ?_
  refine x_R.steps 2 (c' := (4, [(0, .ref 1)], [.int 0], x_h0, 0, 0)) rfl ?_
  refine x_R.steps 1 (c' := (11, [(0, .ref 1)], [], x_h0, 0, 0)) rfl ?_
  refine x_R.steps 1 (c' := (12, [(0, .ref 1)], [.int 0], x_h0, 0, 0)) rfl ?_
  refine x_R.ret (v := some (.int 0)) rfl ?_
  refine x_R.steps 0 (c' := (7, [(0, .ref 0)], [.int 0], x_h0, 0, 0)) rfl ?_
  refine x_R.steps 1 (c' := (10, [(0, .ref 0)], [], x_h0, 0, 0)) rfl ?_
  refine x_R.steps 1 (c' := (12, [(0, .ref 0)], [.int (-2)], x_h0, 0, 0)) rfl ?_
  refine x_R.ret (v := some (.int (-2))) rfl ?_
  refine x_R.steps 0 (c' := (612, [(3, .int 0), (2, .ref 75), (1, .ref 0), (0, .ref x_scr)], [.int (-2)], x_h0, 98, 10728)) rfl ?_
  refine x_R.steps 1 (c' := (613, [(3, .int 0), (2, .ref 75), (1, .ref 0), (0, .ref x_scr)], [.ref 75, .int (-2)], x_h0, 98, 10728)) rfl ?_
  refine x_R.call (a := 247) (vs := [.ref 75]) (rest := [.int (-2)]) (M' := M_cX12_calm) rfl rfl rfl ?_
  refine x_R.steps 1 (c' := (1, [(0, .ref 75)], [.ref 75], x_h0, 0, 0)) rfl ?_
  refine x_R.call (a := 199) (vs := [.ref 75]) (rest := []) (M' := M_cX12_isBoard) rfl rfl rfl ?_
  refine x_R.steps 3 (c' := (5, [(0, .ref 75)], [.int 0, .ref 76], x_h0, 0, 0)) rfl ?_
  refine x_R.steps 1 (c' := (6, [(0, .ref 75)], [.int 0], x_h0, 0, 0)) rfl ?_
  refine x_R.steps 1 (c' := (13, [(0, .ref 75)], [], x_h0, 0, 0)) rfl ?_
  refine x_R.steps 1 (c' := (14, [(0, .ref 75)], [.int 0], x_h0, 0, 0)) rfl ?_
  refine x_R.ret (v := some (.int 0)) rfl ?_
  refine x_R.steps 0 (c' := (4, [(0, .ref 75)], [.int 0], x_h0, 0, 0)) rfl ?_
  refine x_R.steps 1 (c' := (7, [(0, .ref 75)], [], x_h0, 0, 0)) rfl ?_
  refine x_R.steps 1 (c' := (9, [(0, .ref 75)], [.int (-2)], x_h0, 0, 0)) rfl ?_
  refine x_R.ret (v := some (.int (-2))) rfl ?_
  refine x_R.steps 0 (c' := (616, [(3, .int 0), (2, .ref 75), (1, .ref 0), (0, .ref x_scr)], [.int (-2), .int (-2)], x_h0, 98, 10728)) rfl ?_
  refine x_R.steps 1 (c' := (2370, [(3, .int 0), (2, .ref 75), (1, .ref 0), (0, .ref x_scr)], [], x_h0, 98, 10728)) rfl ?_
  refine x_R.steps 7 (c' := (24, [(3, .int 6), (2, .ref 75), (1, .ref 0), (0, .ref x_scr)], [.int 0, .int 6], x_h0, 98, 10728)) rfl ?_
  refine x_R.steps 1 (c' := (2376, [(3, .int 6), (2, .ref 75), (1, .ref 0), (0, .ref x_scr)], [], x_h0, 98, 10728)) rfl ?_
  refine x_R.steps 1 (c' := (2377, [(3, .int 6), (2, .ref 75), (1, .ref 0), (0, .ref x_scr)], [.int 1], x_h0, 98, 10728)) rfl ?_
  exact x_R.ret (v := some (.int 1)) rfl x_fin
set_option maxRecDepth 100000 in
set_option maxHeartbeats 4000000 in
theorem x_c11_0 (xs : Nat → Int32)  : x_R x_mt (some (6, xs)) 13 M_law (621, [(3, .int 0), (2, .ref 75), (1, .ref 0), (0, .ref x_scr)], [], x_h0, 98, 10728) x_P := by
  refine x_R.steps 5 (c' := (626, [(3, .int 0), (2, .ref 75), (1, .ref 0), (0, .ref x_scr)], [.int 1, .ref x_scr, .ref 0], x_h0, 98, 10728)) rfl ?_
  refine x_R.steps 1 (c' := (627, [(3, .int 0), (2, .ref 75), (1, .ref 0), (0, .ref x_scr)], [.int (xs 1), .ref 0], x_h0, 98, 10728)) rfl ?_
  refine x_R.steps 4 (c' := (631, [(3, .int 0), (2, .ref 75), (1, .ref 0), (0, .ref x_scr)], [.int 2, .ref x_scr, .int (xs 1), .ref 0], x_h0, 98, 10728)) rfl ?_
  refine x_R.steps 1 (c' := (632, [(3, .int 0), (2, .ref 75), (1, .ref 0), (0, .ref x_scr)], [.int (xs 2), .int (xs 1), .ref 0], x_h0, 98, 10728)) rfl ?_
  refine x_R.call (a := 124) (vs := [.ref 0, .int (xs 1), .int (xs 2)]) (rest := []) (M' := M_cX11_steps) rfl rfl rfl ?_
  refine x_R.steps 3 (c' := (5, [(0, .ref 0), (1, .int (xs 1)), (2, .int (xs 2))], [.int (xs 1), .ref 1], x_h0, 0, 0)) rfl ?_
  refine x_R.call (a := 13) (vs := [.ref 1, .int (xs 1)]) (rest := []) (M' := M_cX2_isHole) rfl rfl rfl ?_
  refine x_R.steps 1 (c' := (1, [(0, .ref 1), (1, .int (xs 1))], [.int (xs 1)], x_h0, 0, 0)) rfl ?_
  refine x_R.ite (p := (xs 1) < (0 : Int32)) (c1 := (16, [(0, .ref 1), (1, .int (xs 1))], [], x_h0, 0, 0)) (c2 := (4, [(0, .ref 1), (1, .int (xs 1))], [], x_h0, 0, 0)) rfl (fun h1 => ?_) (fun h1 => ?_)
  · have g1 := (x_i_lt (C := 0) (by decide)).mp h1
    refine x_R.steps 1 (c' := (17, [(0, .ref 1), (1, .int (xs 1))], [.int 0], x_h0, 0, 0)) rfl ?_
    refine x_R.ret (v := some (.int 0)) rfl ?_
    refine x_R.steps 0 (c' := (8, [(0, .ref 0), (1, .int (xs 1)), (2, .int (xs 2))], [.int 0], x_h0, 0, 0)) rfl ?_
    refine x_R.steps 1 (c' := (34, [(0, .ref 0), (1, .int (xs 1)), (2, .int (xs 2))], [], x_h0, 0, 0)) rfl ?_
    refine x_R.steps 1 (c' := (36, [(0, .ref 0), (1, .int (xs 1)), (2, .int (xs 2))], [.int (-2)], x_h0, 0, 0)) rfl ?_
    refine x_R.ret (v := some (.int (-2))) rfl ?_
    refine x_R.steps 0 (c' := (635, [(3, .int 0), (2, .ref 75), (1, .ref 0), (0, .ref x_scr)], [.int (-2)], x_h0, 98, 10728)) rfl ?_
    refine x_R.steps 5 (c' := (640, [(3, .int 0), (2, .ref 75), (1, .ref 0), (0, .ref x_scr)], [.int 1, .ref x_scr, .ref 75, .int (-2)], x_h0, 98, 10728)) rfl ?_
    refine x_R.steps 1 (c' := (641, [(3, .int 0), (2, .ref 75), (1, .ref 0), (0, .ref x_scr)], [.int (xs 1), .ref 75, .int (-2)], x_h0, 98, 10728)) rfl ?_
    refine x_R.steps 4 (c' := (645, [(3, .int 0), (2, .ref 75), (1, .ref 0), (0, .ref x_scr)], [.int 2, .ref x_scr, .int (xs 1), .ref 75, .int (-2)], x_h0, 98, 10728)) rfl ?_
    refine x_R.steps 1 (c' := (646, [(3, .int 0), (2, .ref 75), (1, .ref 0), (0, .ref x_scr)], [.int (xs 2), .int (xs 1), .ref 75, .int (-2)], x_h0, 98, 10728)) rfl ?_
    refine x_R.call (a := 249) (vs := [.ref 75, .int (xs 1), .int (xs 2)]) (rest := [.int (-2)]) (M' := M_cX12_steps) rfl rfl rfl ?_
    refine x_R.steps 3 (c' := (3, [(0, .ref 75), (1, .int (xs 1)), (2, .int (xs 2))], [.long ((xs 1)).toInt64, .ref 75], x_h0, 0, 0)) rfl ?_
    refine x_R.call (a := 201) (vs := [.ref 75, .long ((xs 1)).toInt64]) (rest := []) (M' := M_cX12_isHole) rfl rfl rfl ?_
    refine x_R.steps 3 (c' := (3, [(0, .ref 75), (1, .long ((xs 1)).toInt64)], [.ref 75, .long 0, .long ((xs 1)).toInt64], x_h0, 0, 0)) rfl ?_
    refine x_R.call (a := 200) (vs := [.ref 75]) (rest := [.long 0, .long ((xs 1)).toInt64]) (M' := M_cX12_holes) rfl rfl rfl ?_
    refine x_R.steps 3 (c' := (5, [(0, .ref 75)], [.int 0, .ref 76], x_h0, 0, 0)) rfl ?_
    refine x_R.steps 1 (c' := (6, [(0, .ref 75)], [.int 0], x_h0, 0, 0)) rfl ?_
    refine x_R.steps 3 (c' := (11, [(0, .ref 75)], [.int 1, .ref 76, .int 0], x_h0, 0, 0)) rfl ?_
    refine x_R.steps 1 (c' := (12, [(0, .ref 75)], [.int 0, .int 0], x_h0, 0, 0)) rfl ?_
    refine x_R.steps 1 (c' := (13, [(0, .ref 75)], [.int 0], x_h0, 0, 0)) rfl ?_
    refine x_R.ret (v := some (.int 0)) rfl ?_
    refine x_R.steps 0 (c' := (6, [(0, .ref 75), (1, .long ((xs 1)).toInt64)], [.int 0, .long 0, .long ((xs 1)).toInt64], x_h0, 0, 0)) rfl ?_
    refine x_R.steps 3 (c' := (9, [(0, .ref 75), (1, .long ((xs 1)).toInt64)], [.long (-1), .long 0, .long ((xs 1)).toInt64], x_h0, 0, 0)) rfl ?_
    refine x_R.call (a := 196) (vs := [.long ((xs 1)).toInt64, .long 0, .long (-1)]) (rest := []) (M' := M_cX12_in) rfl rfl rfl ?_
    refine x_R.steps 3 (c' := (3, [(0, .long ((xs 1)).toInt64), (2, .long 0), (4, .long (-1))], [.int (lg_cmp ((xs 1)).toInt64 0)], x_h0, 0, 0)) rfl ?_
    refine x_R.ite (p := (lg_cmp ((xs 1)).toInt64 0) < (0 : Int32)) (c1 := (17, [(0, .long ((xs 1)).toInt64), (2, .long 0), (4, .long (-1))], [], x_h0, 0, 0)) (c2 := (6, [(0, .long ((xs 1)).toInt64), (2, .long 0), (4, .long (-1))], [], x_h0, 0, 0)) rfl (fun h2 => ?_) (fun h2 => ?_)
    · have g2 := (x_lg_lt (C := 0) (by decide)).mp h2
      refine x_R.steps 1 (c' := (18, [(0, .long ((xs 1)).toInt64), (2, .long 0), (4, .long (-1))], [.int 0], x_h0, 0, 0)) rfl ?_
      refine x_R.ret (v := some (.int 0)) rfl ?_
      refine x_R.steps 0 (c' := (12, [(0, .ref 75), (1, .long ((xs 1)).toInt64)], [.int 0], x_h0, 0, 0)) rfl ?_
      refine x_R.ret (v := some (.int 0)) rfl ?_
      refine x_R.steps 0 (c' := (6, [(0, .ref 75), (1, .int (xs 1)), (2, .int (xs 2))], [.int 0], x_h0, 0, 0)) rfl ?_
      refine x_R.steps 1 (c' := (27, [(0, .ref 75), (1, .int (xs 1)), (2, .int (xs 2))], [], x_h0, 0, 0)) rfl ?_
      refine x_R.steps 1 (c' := (29, [(0, .ref 75), (1, .int (xs 1)), (2, .int (xs 2))], [.int (-2)], x_h0, 0, 0)) rfl ?_
      refine x_R.ret (v := some (.int (-2))) rfl ?_
      refine x_R.steps 0 (c' := (649, [(3, .int 0), (2, .ref 75), (1, .ref 0), (0, .ref x_scr)], [.int (-2), .int (-2)], x_h0, 98, 10728)) rfl ?_
      refine x_R.steps 1 (c' := (2370, [(3, .int 0), (2, .ref 75), (1, .ref 0), (0, .ref x_scr)], [], x_h0, 98, 10728)) rfl ?_
      refine x_R.steps 7 (c' := (24, [(3, .int 6), (2, .ref 75), (1, .ref 0), (0, .ref x_scr)], [.int 0, .int 6], x_h0, 98, 10728)) rfl ?_
      refine x_R.steps 1 (c' := (2376, [(3, .int 6), (2, .ref 75), (1, .ref 0), (0, .ref x_scr)], [], x_h0, 98, 10728)) rfl ?_
      refine x_R.steps 1 (c' := (2377, [(3, .int 6), (2, .ref 75), (1, .ref 0), (0, .ref x_scr)], [.int 1], x_h0, 98, 10728)) rfl ?_
      exact x_R.ret (v := some (.int 1)) rfl x_fin
    · have g2 := mt (x_lg_lt (C := 0) (by decide)).mpr h2
      exfalso; omega
  · have g1 := mt (x_i_lt (C := 0) (by decide)).mpr h1
    refine x_R.steps 2 (c' := (6, [(0, .ref 1), (1, .int (xs 1))], [.ref 1, .int (xs 1)], x_h0, 0, 0)) rfl ?_
    refine x_R.call (a := 12) (vs := [.ref 1]) (rest := [.int (xs 1)]) (M' := M_cX2_holes) rfl rfl rfl ?_
    refine x_R.steps 5 (c' := (9, [(0, .ref 1)], [.int 0], x_h0, 0, 0)) rfl ?_
    refine x_R.ret (v := some (.int 0)) rfl ?_
    refine x_R.steps 0 (c' := (9, [(0, .ref 1), (1, .int (xs 1))], [.int 0, .int (xs 1)], x_h0, 0, 0)) rfl ?_
    refine x_R.ite (p := (0 : Int32) ≤ (xs 1)) (c1 := (16, [(0, .ref 1), (1, .int (xs 1))], [], x_h0, 0, 0)) (c2 := (12, [(0, .ref 1), (1, .int (xs 1))], [], x_h0, 0, 0)) rfl (fun h3 => ?_) (fun h3 => ?_)
    · have g3 := (x_i_ge (C := 0) (by decide)).mp h3
      refine x_R.steps 1 (c' := (17, [(0, .ref 1), (1, .int (xs 1))], [.int 0], x_h0, 0, 0)) rfl ?_
      refine x_R.ret (v := some (.int 0)) rfl ?_
      refine x_R.steps 0 (c' := (8, [(0, .ref 0), (1, .int (xs 1)), (2, .int (xs 2))], [.int 0], x_h0, 0, 0)) rfl ?_
      refine x_R.steps 1 (c' := (34, [(0, .ref 0), (1, .int (xs 1)), (2, .int (xs 2))], [], x_h0, 0, 0)) rfl ?_
      refine x_R.steps 1 (c' := (36, [(0, .ref 0), (1, .int (xs 1)), (2, .int (xs 2))], [.int (-2)], x_h0, 0, 0)) rfl ?_
      refine x_R.ret (v := some (.int (-2))) rfl ?_
      refine x_R.steps 0 (c' := (635, [(3, .int 0), (2, .ref 75), (1, .ref 0), (0, .ref x_scr)], [.int (-2)], x_h0, 98, 10728)) rfl ?_
      refine x_R.steps 5 (c' := (640, [(3, .int 0), (2, .ref 75), (1, .ref 0), (0, .ref x_scr)], [.int 1, .ref x_scr, .ref 75, .int (-2)], x_h0, 98, 10728)) rfl ?_
      refine x_R.steps 1 (c' := (641, [(3, .int 0), (2, .ref 75), (1, .ref 0), (0, .ref x_scr)], [.int (xs 1), .ref 75, .int (-2)], x_h0, 98, 10728)) rfl ?_
      refine x_R.steps 4 (c' := (645, [(3, .int 0), (2, .ref 75), (1, .ref 0), (0, .ref x_scr)], [.int 2, .ref x_scr, .int (xs 1), .ref 75, .int (-2)], x_h0, 98, 10728)) rfl ?_
      refine x_R.steps 1 (c' := (646, [(3, .int 0), (2, .ref 75), (1, .ref 0), (0, .ref x_scr)], [.int (xs 2), .int (xs 1), .ref 75, .int (-2)], x_h0, 98, 10728)) rfl ?_
      refine x_R.call (a := 249) (vs := [.ref 75, .int (xs 1), .int (xs 2)]) (rest := [.int (-2)]) (M' := M_cX12_steps) rfl rfl rfl ?_
      refine x_R.steps 3 (c' := (3, [(0, .ref 75), (1, .int (xs 1)), (2, .int (xs 2))], [.long ((xs 1)).toInt64, .ref 75], x_h0, 0, 0)) rfl ?_
      refine x_R.call (a := 201) (vs := [.ref 75, .long ((xs 1)).toInt64]) (rest := []) (M' := M_cX12_isHole) rfl rfl rfl ?_
      refine x_R.steps 3 (c' := (3, [(0, .ref 75), (1, .long ((xs 1)).toInt64)], [.ref 75, .long 0, .long ((xs 1)).toInt64], x_h0, 0, 0)) rfl ?_
      refine x_R.call (a := 200) (vs := [.ref 75]) (rest := [.long 0, .long ((xs 1)).toInt64]) (M' := M_cX12_holes) rfl rfl rfl ?_
      refine x_R.steps 3 (c' := (5, [(0, .ref 75)], [.int 0, .ref 76], x_h0, 0, 0)) rfl ?_
      refine x_R.steps 1 (c' := (6, [(0, .ref 75)], [.int 0], x_h0, 0, 0)) rfl ?_
      refine x_R.steps 3 (c' := (11, [(0, .ref 75)], [.int 1, .ref 76, .int 0], x_h0, 0, 0)) rfl ?_
      refine x_R.steps 1 (c' := (12, [(0, .ref 75)], [.int 0, .int 0], x_h0, 0, 0)) rfl ?_
      refine x_R.steps 1 (c' := (13, [(0, .ref 75)], [.int 0], x_h0, 0, 0)) rfl ?_
      refine x_R.ret (v := some (.int 0)) rfl ?_
      refine x_R.steps 0 (c' := (6, [(0, .ref 75), (1, .long ((xs 1)).toInt64)], [.int 0, .long 0, .long ((xs 1)).toInt64], x_h0, 0, 0)) rfl ?_
      refine x_R.steps 3 (c' := (9, [(0, .ref 75), (1, .long ((xs 1)).toInt64)], [.long (-1), .long 0, .long ((xs 1)).toInt64], x_h0, 0, 0)) rfl ?_
      refine x_R.call (a := 196) (vs := [.long ((xs 1)).toInt64, .long 0, .long (-1)]) (rest := []) (M' := M_cX12_in) rfl rfl rfl ?_
      refine x_R.steps 3 (c' := (3, [(0, .long ((xs 1)).toInt64), (2, .long 0), (4, .long (-1))], [.int (lg_cmp ((xs 1)).toInt64 0)], x_h0, 0, 0)) rfl ?_
      refine x_R.ite (p := (lg_cmp ((xs 1)).toInt64 0) < (0 : Int32)) (c1 := (17, [(0, .long ((xs 1)).toInt64), (2, .long 0), (4, .long (-1))], [], x_h0, 0, 0)) (c2 := (6, [(0, .long ((xs 1)).toInt64), (2, .long 0), (4, .long (-1))], [], x_h0, 0, 0)) rfl (fun h4 => ?_) (fun h4 => ?_)
      · have g4 := (x_lg_lt (C := 0) (by decide)).mp h4
        exfalso; omega
      · have g4 := mt (x_lg_lt (C := 0) (by decide)).mpr h4
        refine x_R.steps 3 (c' := (10, [(0, .long ((xs 1)).toInt64), (2, .long 0), (4, .long (-1))], [.int (lg_cmp ((xs 1)).toInt64 (-1))], x_h0, 0, 0)) rfl ?_
        refine x_R.ite (p := (0 : Int32) < (lg_cmp ((xs 1)).toInt64 (-1))) (c1 := (17, [(0, .long ((xs 1)).toInt64), (2, .long 0), (4, .long (-1))], [], x_h0, 0, 0)) (c2 := (13, [(0, .long ((xs 1)).toInt64), (2, .long 0), (4, .long (-1))], [], x_h0, 0, 0)) rfl (fun h5 => ?_) (fun h5 => ?_)
        · have g5 := (x_lg_gt (C := -1) (by decide)).mp h5
          refine x_R.steps 1 (c' := (18, [(0, .long ((xs 1)).toInt64), (2, .long 0), (4, .long (-1))], [.int 0], x_h0, 0, 0)) rfl ?_
          refine x_R.ret (v := some (.int 0)) rfl ?_
          refine x_R.steps 0 (c' := (12, [(0, .ref 75), (1, .long ((xs 1)).toInt64)], [.int 0], x_h0, 0, 0)) rfl ?_
          refine x_R.ret (v := some (.int 0)) rfl ?_
          refine x_R.steps 0 (c' := (6, [(0, .ref 75), (1, .int (xs 1)), (2, .int (xs 2))], [.int 0], x_h0, 0, 0)) rfl ?_
          refine x_R.steps 1 (c' := (27, [(0, .ref 75), (1, .int (xs 1)), (2, .int (xs 2))], [], x_h0, 0, 0)) rfl ?_
          refine x_R.steps 1 (c' := (29, [(0, .ref 75), (1, .int (xs 1)), (2, .int (xs 2))], [.int (-2)], x_h0, 0, 0)) rfl ?_
          refine x_R.ret (v := some (.int (-2))) rfl ?_
          refine x_R.steps 0 (c' := (649, [(3, .int 0), (2, .ref 75), (1, .ref 0), (0, .ref x_scr)], [.int (-2), .int (-2)], x_h0, 98, 10728)) rfl ?_
          refine x_R.steps 1 (c' := (2370, [(3, .int 0), (2, .ref 75), (1, .ref 0), (0, .ref x_scr)], [], x_h0, 98, 10728)) rfl ?_
          refine x_R.steps 7 (c' := (24, [(3, .int 6), (2, .ref 75), (1, .ref 0), (0, .ref x_scr)], [.int 0, .int 6], x_h0, 98, 10728)) rfl ?_
          refine x_R.steps 1 (c' := (2376, [(3, .int 6), (2, .ref 75), (1, .ref 0), (0, .ref x_scr)], [], x_h0, 98, 10728)) rfl ?_
          refine x_R.steps 1 (c' := (2377, [(3, .int 6), (2, .ref 75), (1, .ref 0), (0, .ref x_scr)], [.int 1], x_h0, 98, 10728)) rfl ?_
          exact x_R.ret (v := some (.int 1)) rfl x_fin
        · have g5 := mt (x_lg_gt (C := -1) (by decide)).mpr h5
          exfalso; omega
    · have g3 := mt (x_i_ge (C := 0) (by decide)).mpr h3
      exfalso; omega
set_option maxRecDepth 100000 in
set_option maxHeartbeats 4000000 in
theorem x_c12_0 (xs : Nat → Int32)  : x_R x_mt (some (6, xs)) 13 M_law (654, [(3, .int 0), (2, .ref 75), (1, .ref 0), (0, .ref x_scr)], [], x_h0, 98, 10728) x_P := by
  refine x_R.steps 5 (c' := (659, [(3, .int 0), (2, .ref 75), (1, .ref 0), (0, .ref x_scr)], [.int 1, .ref x_scr, .ref 0], x_h0, 98, 10728)) rfl ?_
  refine x_R.steps 1 (c' := (660, [(3, .int 0), (2, .ref 75), (1, .ref 0), (0, .ref x_scr)], [.int (xs 1), .ref 0], x_h0, 98, 10728)) rfl ?_
  refine x_R.steps 4 (c' := (664, [(3, .int 0), (2, .ref 75), (1, .ref 0), (0, .ref x_scr)], [.int 2, .ref x_scr, .int (xs 1), .ref 0], x_h0, 98, 10728)) rfl ?_
  refine x_R.steps 1 (c' := (665, [(3, .int 0), (2, .ref 75), (1, .ref 0), (0, .ref x_scr)], [.int (xs 2), .int (xs 1), .ref 0], x_h0, 98, 10728)) rfl ?_
  refine x_R.call (a := 125) (vs := [.ref 0, .int (xs 1), .int (xs 2)]) (rest := []) (M' := M_cX11_pace) rfl rfl rfl ?_
  refine x_R.steps 3 (c' := (5, [(0, .ref 0), (1, .int (xs 1)), (2, .int (xs 2))], [.int (xs 1), .ref 1], x_h0, 0, 0)) rfl ?_
  refine x_R.call (a := 15) (vs := [.ref 1, .int (xs 1)]) (rest := []) (M' := M_cX2_isPlayer) rfl rfl rfl ?_
  refine x_R.steps 1 (c' := (1, [(0, .ref 1), (1, .int (xs 1))], [.int (xs 1)], x_h0, 0, 0)) rfl ?_
  refine x_R.ite (p := (xs 1) < (0 : Int32)) (c1 := (16, [(0, .ref 1), (1, .int (xs 1))], [], x_h0, 0, 0)) (c2 := (4, [(0, .ref 1), (1, .int (xs 1))], [], x_h0, 0, 0)) rfl (fun h1 => ?_) (fun h1 => ?_)
  · have g1 := (x_i_lt (C := 0) (by decide)).mp h1
    refine x_R.steps 1 (c' := (17, [(0, .ref 1), (1, .int (xs 1))], [.int 0], x_h0, 0, 0)) rfl ?_
    refine x_R.ret (v := some (.int 0)) rfl ?_
    refine x_R.steps 0 (c' := (8, [(0, .ref 0), (1, .int (xs 1)), (2, .int (xs 2))], [.int 0], x_h0, 0, 0)) rfl ?_
    refine x_R.steps 1 (c' := (22, [(0, .ref 0), (1, .int (xs 1)), (2, .int (xs 2))], [], x_h0, 0, 0)) rfl ?_
    refine x_R.steps 1 (c' := (24, [(0, .ref 0), (1, .int (xs 1)), (2, .int (xs 2))], [.int (-2)], x_h0, 0, 0)) rfl ?_
    refine x_R.ret (v := some (.int (-2))) rfl ?_
    refine x_R.steps 0 (c' := (668, [(3, .int 0), (2, .ref 75), (1, .ref 0), (0, .ref x_scr)], [.int (-2)], x_h0, 98, 10728)) rfl ?_
    refine x_R.steps 5 (c' := (673, [(3, .int 0), (2, .ref 75), (1, .ref 0), (0, .ref x_scr)], [.int 1, .ref x_scr, .ref 75, .int (-2)], x_h0, 98, 10728)) rfl ?_
    refine x_R.steps 1 (c' := (674, [(3, .int 0), (2, .ref 75), (1, .ref 0), (0, .ref x_scr)], [.int (xs 1), .ref 75, .int (-2)], x_h0, 98, 10728)) rfl ?_
    refine x_R.steps 4 (c' := (678, [(3, .int 0), (2, .ref 75), (1, .ref 0), (0, .ref x_scr)], [.int 2, .ref x_scr, .int (xs 1), .ref 75, .int (-2)], x_h0, 98, 10728)) rfl ?_
    refine x_R.steps 1 (c' := (679, [(3, .int 0), (2, .ref 75), (1, .ref 0), (0, .ref x_scr)], [.int (xs 2), .int (xs 1), .ref 75, .int (-2)], x_h0, 98, 10728)) rfl ?_
    refine x_R.call (a := 251) (vs := [.ref 75, .int (xs 1), .int (xs 2)]) (rest := [.int (-2)]) (M' := M_cX12_pace) rfl rfl rfl ?_
    refine x_R.steps 2 (c' := (2, [(0, .ref 75), (1, .int (xs 1)), (2, .int (xs 2))], [.int (xs 1), .ref 75], x_h0, 0, 0)) rfl ?_
    refine x_R.call (a := 205) (vs := [.ref 75, .int (xs 1)]) (rest := []) (M' := M_cX12_isPlayer) rfl rfl rfl ?_
    refine x_R.steps 6 (c' := (9, [(0, .ref 75), (1, .int (xs 1))], [.int 6, .ref 76, .long 0, .long ((xs 1)).toInt64], x_h0, 0, 0)) rfl ?_
    refine x_R.steps 1 (c' := (10, [(0, .ref 75), (1, .int (xs 1))], [.int 0, .long 0, .long ((xs 1)).toInt64], x_h0, 0, 0)) rfl ?_
    refine x_R.steps 3 (c' := (13, [(0, .ref 75), (1, .int (xs 1))], [.long (-1), .long 0, .long ((xs 1)).toInt64], x_h0, 0, 0)) rfl ?_
    refine x_R.call (a := 196) (vs := [.long ((xs 1)).toInt64, .long 0, .long (-1)]) (rest := []) (M' := M_cX12_in) rfl rfl rfl ?_
    refine x_R.steps 3 (c' := (3, [(0, .long ((xs 1)).toInt64), (2, .long 0), (4, .long (-1))], [.int (lg_cmp ((xs 1)).toInt64 0)], x_h0, 0, 0)) rfl ?_
    refine x_R.ite (p := (lg_cmp ((xs 1)).toInt64 0) < (0 : Int32)) (c1 := (17, [(0, .long ((xs 1)).toInt64), (2, .long 0), (4, .long (-1))], [], x_h0, 0, 0)) (c2 := (6, [(0, .long ((xs 1)).toInt64), (2, .long 0), (4, .long (-1))], [], x_h0, 0, 0)) rfl (fun h2 => ?_) (fun h2 => ?_)
    · have g2 := (x_lg_lt (C := 0) (by decide)).mp h2
      refine x_R.steps 1 (c' := (18, [(0, .long ((xs 1)).toInt64), (2, .long 0), (4, .long (-1))], [.int 0], x_h0, 0, 0)) rfl ?_
      refine x_R.ret (v := some (.int 0)) rfl ?_
      refine x_R.steps 0 (c' := (16, [(0, .ref 75), (1, .int (xs 1))], [.int 0], x_h0, 0, 0)) rfl ?_
      refine x_R.ret (v := some (.int 0)) rfl ?_
      refine x_R.steps 0 (c' := (5, [(0, .ref 75), (1, .int (xs 1)), (2, .int (xs 2))], [.int 0], x_h0, 0, 0)) rfl ?_
      refine x_R.steps 1 (c' := (26, [(0, .ref 75), (1, .int (xs 1)), (2, .int (xs 2))], [], x_h0, 0, 0)) rfl ?_
      refine x_R.steps 1 (c' := (28, [(0, .ref 75), (1, .int (xs 1)), (2, .int (xs 2))], [.int (-2)], x_h0, 0, 0)) rfl ?_
      refine x_R.ret (v := some (.int (-2))) rfl ?_
      refine x_R.steps 0 (c' := (682, [(3, .int 0), (2, .ref 75), (1, .ref 0), (0, .ref x_scr)], [.int (-2), .int (-2)], x_h0, 98, 10728)) rfl ?_
      refine x_R.steps 1 (c' := (2370, [(3, .int 0), (2, .ref 75), (1, .ref 0), (0, .ref x_scr)], [], x_h0, 98, 10728)) rfl ?_
      refine x_R.steps 7 (c' := (24, [(3, .int 6), (2, .ref 75), (1, .ref 0), (0, .ref x_scr)], [.int 0, .int 6], x_h0, 98, 10728)) rfl ?_
      refine x_R.steps 1 (c' := (2376, [(3, .int 6), (2, .ref 75), (1, .ref 0), (0, .ref x_scr)], [], x_h0, 98, 10728)) rfl ?_
      refine x_R.steps 1 (c' := (2377, [(3, .int 6), (2, .ref 75), (1, .ref 0), (0, .ref x_scr)], [.int 1], x_h0, 98, 10728)) rfl ?_
      exact x_R.ret (v := some (.int 1)) rfl x_fin
    · have g2 := mt (x_lg_lt (C := 0) (by decide)).mpr h2
      exfalso; omega
  · have g1 := mt (x_i_lt (C := 0) (by decide)).mpr h1
    refine x_R.steps 3 (c' := (9, [(0, .ref 1), (1, .int (xs 1))], [.int 0, .int (xs 1)], x_h0, 0, 0)) rfl ?_
    refine x_R.ite (p := (0 : Int32) ≤ (xs 1)) (c1 := (16, [(0, .ref 1), (1, .int (xs 1))], [], x_h0, 0, 0)) (c2 := (12, [(0, .ref 1), (1, .int (xs 1))], [], x_h0, 0, 0)) rfl (fun h3 => ?_) (fun h3 => ?_)
    · have g3 := (x_i_ge (C := 0) (by decide)).mp h3
      refine x_R.steps 1 (c' := (17, [(0, .ref 1), (1, .int (xs 1))], [.int 0], x_h0, 0, 0)) rfl ?_
      refine x_R.ret (v := some (.int 0)) rfl ?_
      refine x_R.steps 0 (c' := (8, [(0, .ref 0), (1, .int (xs 1)), (2, .int (xs 2))], [.int 0], x_h0, 0, 0)) rfl ?_
      refine x_R.steps 1 (c' := (22, [(0, .ref 0), (1, .int (xs 1)), (2, .int (xs 2))], [], x_h0, 0, 0)) rfl ?_
      refine x_R.steps 1 (c' := (24, [(0, .ref 0), (1, .int (xs 1)), (2, .int (xs 2))], [.int (-2)], x_h0, 0, 0)) rfl ?_
      refine x_R.ret (v := some (.int (-2))) rfl ?_
      refine x_R.steps 0 (c' := (668, [(3, .int 0), (2, .ref 75), (1, .ref 0), (0, .ref x_scr)], [.int (-2)], x_h0, 98, 10728)) rfl ?_
      refine x_R.steps 5 (c' := (673, [(3, .int 0), (2, .ref 75), (1, .ref 0), (0, .ref x_scr)], [.int 1, .ref x_scr, .ref 75, .int (-2)], x_h0, 98, 10728)) rfl ?_
      refine x_R.steps 1 (c' := (674, [(3, .int 0), (2, .ref 75), (1, .ref 0), (0, .ref x_scr)], [.int (xs 1), .ref 75, .int (-2)], x_h0, 98, 10728)) rfl ?_
      refine x_R.steps 4 (c' := (678, [(3, .int 0), (2, .ref 75), (1, .ref 0), (0, .ref x_scr)], [.int 2, .ref x_scr, .int (xs 1), .ref 75, .int (-2)], x_h0, 98, 10728)) rfl ?_
      refine x_R.steps 1 (c' := (679, [(3, .int 0), (2, .ref 75), (1, .ref 0), (0, .ref x_scr)], [.int (xs 2), .int (xs 1), .ref 75, .int (-2)], x_h0, 98, 10728)) rfl ?_
      refine x_R.call (a := 251) (vs := [.ref 75, .int (xs 1), .int (xs 2)]) (rest := [.int (-2)]) (M' := M_cX12_pace) rfl rfl rfl ?_
      refine x_R.steps 2 (c' := (2, [(0, .ref 75), (1, .int (xs 1)), (2, .int (xs 2))], [.int (xs 1), .ref 75], x_h0, 0, 0)) rfl ?_
      refine x_R.call (a := 205) (vs := [.ref 75, .int (xs 1)]) (rest := []) (M' := M_cX12_isPlayer) rfl rfl rfl ?_
      refine x_R.steps 6 (c' := (9, [(0, .ref 75), (1, .int (xs 1))], [.int 6, .ref 76, .long 0, .long ((xs 1)).toInt64], x_h0, 0, 0)) rfl ?_
      refine x_R.steps 1 (c' := (10, [(0, .ref 75), (1, .int (xs 1))], [.int 0, .long 0, .long ((xs 1)).toInt64], x_h0, 0, 0)) rfl ?_
      refine x_R.steps 3 (c' := (13, [(0, .ref 75), (1, .int (xs 1))], [.long (-1), .long 0, .long ((xs 1)).toInt64], x_h0, 0, 0)) rfl ?_
      refine x_R.call (a := 196) (vs := [.long ((xs 1)).toInt64, .long 0, .long (-1)]) (rest := []) (M' := M_cX12_in) rfl rfl rfl ?_
      refine x_R.steps 3 (c' := (3, [(0, .long ((xs 1)).toInt64), (2, .long 0), (4, .long (-1))], [.int (lg_cmp ((xs 1)).toInt64 0)], x_h0, 0, 0)) rfl ?_
      refine x_R.ite (p := (lg_cmp ((xs 1)).toInt64 0) < (0 : Int32)) (c1 := (17, [(0, .long ((xs 1)).toInt64), (2, .long 0), (4, .long (-1))], [], x_h0, 0, 0)) (c2 := (6, [(0, .long ((xs 1)).toInt64), (2, .long 0), (4, .long (-1))], [], x_h0, 0, 0)) rfl (fun h4 => ?_) (fun h4 => ?_)
      · have g4 := (x_lg_lt (C := 0) (by decide)).mp h4
        exfalso; omega
      · have g4 := mt (x_lg_lt (C := 0) (by decide)).mpr h4
        refine x_R.steps 3 (c' := (10, [(0, .long ((xs 1)).toInt64), (2, .long 0), (4, .long (-1))], [.int (lg_cmp ((xs 1)).toInt64 (-1))], x_h0, 0, 0)) rfl ?_
        refine x_R.ite (p := (0 : Int32) < (lg_cmp ((xs 1)).toInt64 (-1))) (c1 := (17, [(0, .long ((xs 1)).toInt64), (2, .long 0), (4, .long (-1))], [], x_h0, 0, 0)) (c2 := (13, [(0, .long ((xs 1)).toInt64), (2, .long 0), (4, .long (-1))], [], x_h0, 0, 0)) rfl (fun h5 => ?_) (fun h5 => ?_)
        · have g5 := (x_lg_gt (C := -1) (by decide)).mp h5
          refine x_R.steps 1 (c' := (18, [(0, .long ((xs 1)).toInt64), (2, .long 0), (4, .long (-1))], [.int 0], x_h0, 0, 0)) rfl ?_
          refine x_R.ret (v := some (.int 0)) rfl ?_
          refine x_R.steps 0 (c' := (16, [(0, .ref 75), (1, .int (xs 1))], [.int 0], x_h0, 0, 0)) rfl ?_
          refine x_R.ret (v := some (.int 0)) rfl ?_
          refine x_R.steps 0 (c' := (5, [(0, .ref 75), (1, .int (xs 1)), (2, .int (xs 2))], [.int 0], x_h0, 0, 0)) rfl ?_
          refine x_R.steps 1 (c' := (26, [(0, .ref 75), (1, .int (xs 1)), (2, .int (xs 2))], [], x_h0, 0, 0)) rfl ?_
          refine x_R.steps 1 (c' := (28, [(0, .ref 75), (1, .int (xs 1)), (2, .int (xs 2))], [.int (-2)], x_h0, 0, 0)) rfl ?_
          refine x_R.ret (v := some (.int (-2))) rfl ?_
          refine x_R.steps 0 (c' := (682, [(3, .int 0), (2, .ref 75), (1, .ref 0), (0, .ref x_scr)], [.int (-2), .int (-2)], x_h0, 98, 10728)) rfl ?_
          refine x_R.steps 1 (c' := (2370, [(3, .int 0), (2, .ref 75), (1, .ref 0), (0, .ref x_scr)], [], x_h0, 98, 10728)) rfl ?_
          refine x_R.steps 7 (c' := (24, [(3, .int 6), (2, .ref 75), (1, .ref 0), (0, .ref x_scr)], [.int 0, .int 6], x_h0, 98, 10728)) rfl ?_
          refine x_R.steps 1 (c' := (2376, [(3, .int 6), (2, .ref 75), (1, .ref 0), (0, .ref x_scr)], [], x_h0, 98, 10728)) rfl ?_
          refine x_R.steps 1 (c' := (2377, [(3, .int 6), (2, .ref 75), (1, .ref 0), (0, .ref x_scr)], [.int 1], x_h0, 98, 10728)) rfl ?_
          exact x_R.ret (v := some (.int 1)) rfl x_fin
        · have g5 := mt (x_lg_gt (C := -1) (by decide)).mpr h5
          exfalso; omega
    · have g3 := mt (x_i_ge (C := 0) (by decide)).mpr h3
      exfalso; omega
set_option maxRecDepth 100000 in
set_option maxHeartbeats 4000000 in
theorem x_c13_0 (xs : Nat → Int32)  : x_R x_mt (some (6, xs)) 13 M_law (687, [(3, .int 0), (2, .ref 75), (1, .ref 0), (0, .ref x_scr)], [], x_h0, 98, 10728) x_P := by
  refine x_R.steps 5 (c' := (692, [(3, .int 0), (2, .ref 75), (1, .ref 0), (0, .ref x_scr)], [.int 1, .ref x_scr, .ref 0], x_h0, 98, 10728)) rfl ?_
  refine x_R.steps 1 (c' := (693, [(3, .int 0), (2, .ref 75), (1, .ref 0), (0, .ref x_scr)], [.int (xs 1), .ref 0], x_h0, 98, 10728)) rfl ?_
  refine x_R.steps 4 (c' := (697, [(3, .int 0), (2, .ref 75), (1, .ref 0), (0, .ref x_scr)], [.int 2, .ref x_scr, .int (xs 1), .ref 0], x_h0, 98, 10728)) rfl ?_
  refine x_R.steps 1 (c' := (698, [(3, .int 0), (2, .ref 75), (1, .ref 0), (0, .ref x_scr)], [.int (xs 2), .int (xs 1), .ref 0], x_h0, 98, 10728)) rfl ?_
  refine x_R.call (a := 126) (vs := [.ref 0, .int (xs 1), .int (xs 2)]) (rest := []) (M' := M_cX11_aware) rfl rfl rfl ?_
  refine x_R.steps 2 (c' := (2, [(0, .ref 0), (1, .int (xs 1)), (2, .int (xs 2))], [.int (xs 1), .ref 0], x_h0, 0, 0)) rfl ?_
  refine x_R.call (a := 186) (vs := [.ref 0, .int (xs 1)]) (rest := []) (M' := M_cX11_makeReady) rfl rfl rfl ?_
  refine x_R.steps 3 (c' := (5, [(0, .ref 0), (1, .int (xs 1))], [.int (xs 1), .ref 1], x_h0, 0, 0)) rfl ?_
  refine x_R.call (a := 15) (vs := [.ref 1, .int (xs 1)]) (rest := []) (M' := M_cX2_isPlayer) rfl rfl rfl ?_
  refine x_R.steps 1 (c' := (1, [(0, .ref 1), (1, .int (xs 1))], [.int (xs 1)], x_h0, 0, 0)) rfl ?_
  refine x_R.ite (p := (xs 1) < (0 : Int32)) (c1 := (16, [(0, .ref 1), (1, .int (xs 1))], [], x_h0, 0, 0)) (c2 := (4, [(0, .ref 1), (1, .int (xs 1))], [], x_h0, 0, 0)) rfl (fun h1 => ?_) (fun h1 => ?_)
  · have g1 := (x_i_lt (C := 0) (by decide)).mp h1
    refine x_R.steps 1 (c' := (17, [(0, .ref 1), (1, .int (xs 1))], [.int 0], x_h0, 0, 0)) rfl ?_
    refine x_R.ret (v := some (.int 0)) rfl ?_
    refine x_R.steps 0 (c' := (8, [(0, .ref 0), (1, .int (xs 1))], [.int 0], x_h0, 0, 0)) rfl ?_
    refine x_R.steps 1 (c' := (11, [(0, .ref 0), (1, .int (xs 1))], [], x_h0, 0, 0)) rfl ?_
    refine x_R.steps 1 (c' := (12, [(0, .ref 0), (1, .int (xs 1))], [.int 0], x_h0, 0, 0)) rfl ?_
    refine x_R.ret (v := some (.int 0)) rfl ?_
    refine x_R.steps 0 (c' := (5, [(0, .ref 0), (1, .int (xs 1)), (2, .int (xs 2))], [.int 0], x_h0, 0, 0)) rfl ?_
    refine x_R.steps 1 (c' := (8, [(0, .ref 0), (1, .int (xs 1)), (2, .int (xs 2))], [], x_h0, 0, 0)) rfl ?_
    refine x_R.steps 1 (c' := (10, [(0, .ref 0), (1, .int (xs 1)), (2, .int (xs 2))], [.int (-2)], x_h0, 0, 0)) rfl ?_
    refine x_R.ret (v := some (.int (-2))) rfl ?_
    refine x_R.steps 0 (c' := (701, [(3, .int 0), (2, .ref 75), (1, .ref 0), (0, .ref x_scr)], [.int (-2)], x_h0, 98, 10728)) rfl ?_
    refine x_R.steps 5 (c' := (706, [(3, .int 0), (2, .ref 75), (1, .ref 0), (0, .ref x_scr)], [.int 1, .ref x_scr, .ref 75, .int (-2)], x_h0, 98, 10728)) rfl ?_
    refine x_R.steps 1 (c' := (707, [(3, .int 0), (2, .ref 75), (1, .ref 0), (0, .ref x_scr)], [.int (xs 1), .ref 75, .int (-2)], x_h0, 98, 10728)) rfl ?_
    refine x_R.steps 4 (c' := (711, [(3, .int 0), (2, .ref 75), (1, .ref 0), (0, .ref x_scr)], [.int 2, .ref x_scr, .int (xs 1), .ref 75, .int (-2)], x_h0, 98, 10728)) rfl ?_
    refine x_R.steps 1 (c' := (712, [(3, .int 0), (2, .ref 75), (1, .ref 0), (0, .ref x_scr)], [.int (xs 2), .int (xs 1), .ref 75, .int (-2)], x_h0, 98, 10728)) rfl ?_
    refine x_R.call (a := 254) (vs := [.ref 75, .int (xs 1), .int (xs 2)]) (rest := [.int (-2)]) (M' := M_cX12_aware) rfl rfl rfl ?_
    refine x_R.steps 2 (c' := (2, [(0, .ref 75), (1, .int (xs 1)), (2, .int (xs 2))], [.int (xs 1), .ref 75], x_h0, 0, 0)) rfl ?_
    refine x_R.call (a := 205) (vs := [.ref 75, .int (xs 1)]) (rest := []) (M' := M_cX12_isPlayer) rfl rfl rfl ?_
    refine x_R.steps 6 (c' := (9, [(0, .ref 75), (1, .int (xs 1))], [.int 6, .ref 76, .long 0, .long ((xs 1)).toInt64], x_h0, 0, 0)) rfl ?_
    refine x_R.steps 1 (c' := (10, [(0, .ref 75), (1, .int (xs 1))], [.int 0, .long 0, .long ((xs 1)).toInt64], x_h0, 0, 0)) rfl ?_
    refine x_R.steps 3 (c' := (13, [(0, .ref 75), (1, .int (xs 1))], [.long (-1), .long 0, .long ((xs 1)).toInt64], x_h0, 0, 0)) rfl ?_
    refine x_R.call (a := 196) (vs := [.long ((xs 1)).toInt64, .long 0, .long (-1)]) (rest := []) (M' := M_cX12_in) rfl rfl rfl ?_
    refine x_R.steps 3 (c' := (3, [(0, .long ((xs 1)).toInt64), (2, .long 0), (4, .long (-1))], [.int (lg_cmp ((xs 1)).toInt64 0)], x_h0, 0, 0)) rfl ?_
    refine x_R.ite (p := (lg_cmp ((xs 1)).toInt64 0) < (0 : Int32)) (c1 := (17, [(0, .long ((xs 1)).toInt64), (2, .long 0), (4, .long (-1))], [], x_h0, 0, 0)) (c2 := (6, [(0, .long ((xs 1)).toInt64), (2, .long 0), (4, .long (-1))], [], x_h0, 0, 0)) rfl (fun h2 => ?_) (fun h2 => ?_)
    · have g2 := (x_lg_lt (C := 0) (by decide)).mp h2
      refine x_R.steps 1 (c' := (18, [(0, .long ((xs 1)).toInt64), (2, .long 0), (4, .long (-1))], [.int 0], x_h0, 0, 0)) rfl ?_
      refine x_R.ret (v := some (.int 0)) rfl ?_
      refine x_R.steps 0 (c' := (16, [(0, .ref 75), (1, .int (xs 1))], [.int 0], x_h0, 0, 0)) rfl ?_
      refine x_R.ret (v := some (.int 0)) rfl ?_
      refine x_R.steps 0 (c' := (5, [(0, .ref 75), (1, .int (xs 1)), (2, .int (xs 2))], [.int 0], x_h0, 0, 0)) rfl ?_
      refine x_R.steps 1 (c' := (8, [(0, .ref 75), (1, .int (xs 1)), (2, .int (xs 2))], [], x_h0, 0, 0)) rfl ?_
      refine x_R.steps 1 (c' := (10, [(0, .ref 75), (1, .int (xs 1)), (2, .int (xs 2))], [.int (-2)], x_h0, 0, 0)) rfl ?_
      refine x_R.ret (v := some (.int (-2))) rfl ?_
      refine x_R.steps 0 (c' := (715, [(3, .int 0), (2, .ref 75), (1, .ref 0), (0, .ref x_scr)], [.int (-2), .int (-2)], x_h0, 98, 10728)) rfl ?_
      refine x_R.steps 1 (c' := (2370, [(3, .int 0), (2, .ref 75), (1, .ref 0), (0, .ref x_scr)], [], x_h0, 98, 10728)) rfl ?_
      refine x_R.steps 7 (c' := (24, [(3, .int 6), (2, .ref 75), (1, .ref 0), (0, .ref x_scr)], [.int 0, .int 6], x_h0, 98, 10728)) rfl ?_
      refine x_R.steps 1 (c' := (2376, [(3, .int 6), (2, .ref 75), (1, .ref 0), (0, .ref x_scr)], [], x_h0, 98, 10728)) rfl ?_
      refine x_R.steps 1 (c' := (2377, [(3, .int 6), (2, .ref 75), (1, .ref 0), (0, .ref x_scr)], [.int 1], x_h0, 98, 10728)) rfl ?_
      exact x_R.ret (v := some (.int 1)) rfl x_fin
    · have g2 := mt (x_lg_lt (C := 0) (by decide)).mpr h2
      exfalso; omega
  · have g1 := mt (x_i_lt (C := 0) (by decide)).mpr h1
    refine x_R.steps 3 (c' := (9, [(0, .ref 1), (1, .int (xs 1))], [.int 0, .int (xs 1)], x_h0, 0, 0)) rfl ?_
    refine x_R.ite (p := (0 : Int32) ≤ (xs 1)) (c1 := (16, [(0, .ref 1), (1, .int (xs 1))], [], x_h0, 0, 0)) (c2 := (12, [(0, .ref 1), (1, .int (xs 1))], [], x_h0, 0, 0)) rfl (fun h3 => ?_) (fun h3 => ?_)
    · have g3 := (x_i_ge (C := 0) (by decide)).mp h3
      refine x_R.steps 1 (c' := (17, [(0, .ref 1), (1, .int (xs 1))], [.int 0], x_h0, 0, 0)) rfl ?_
      refine x_R.ret (v := some (.int 0)) rfl ?_
      refine x_R.steps 0 (c' := (8, [(0, .ref 0), (1, .int (xs 1))], [.int 0], x_h0, 0, 0)) rfl ?_
      refine x_R.steps 1 (c' := (11, [(0, .ref 0), (1, .int (xs 1))], [], x_h0, 0, 0)) rfl ?_
      refine x_R.steps 1 (c' := (12, [(0, .ref 0), (1, .int (xs 1))], [.int 0], x_h0, 0, 0)) rfl ?_
      refine x_R.ret (v := some (.int 0)) rfl ?_
      refine x_R.steps 0 (c' := (5, [(0, .ref 0), (1, .int (xs 1)), (2, .int (xs 2))], [.int 0], x_h0, 0, 0)) rfl ?_
      refine x_R.steps 1 (c' := (8, [(0, .ref 0), (1, .int (xs 1)), (2, .int (xs 2))], [], x_h0, 0, 0)) rfl ?_
      refine x_R.steps 1 (c' := (10, [(0, .ref 0), (1, .int (xs 1)), (2, .int (xs 2))], [.int (-2)], x_h0, 0, 0)) rfl ?_
      refine x_R.ret (v := some (.int (-2))) rfl ?_
      refine x_R.steps 0 (c' := (701, [(3, .int 0), (2, .ref 75), (1, .ref 0), (0, .ref x_scr)], [.int (-2)], x_h0, 98, 10728)) rfl ?_
      refine x_R.steps 5 (c' := (706, [(3, .int 0), (2, .ref 75), (1, .ref 0), (0, .ref x_scr)], [.int 1, .ref x_scr, .ref 75, .int (-2)], x_h0, 98, 10728)) rfl ?_
      refine x_R.steps 1 (c' := (707, [(3, .int 0), (2, .ref 75), (1, .ref 0), (0, .ref x_scr)], [.int (xs 1), .ref 75, .int (-2)], x_h0, 98, 10728)) rfl ?_
      refine x_R.steps 4 (c' := (711, [(3, .int 0), (2, .ref 75), (1, .ref 0), (0, .ref x_scr)], [.int 2, .ref x_scr, .int (xs 1), .ref 75, .int (-2)], x_h0, 98, 10728)) rfl ?_
      refine x_R.steps 1 (c' := (712, [(3, .int 0), (2, .ref 75), (1, .ref 0), (0, .ref x_scr)], [.int (xs 2), .int (xs 1), .ref 75, .int (-2)], x_h0, 98, 10728)) rfl ?_
      refine x_R.call (a := 254) (vs := [.ref 75, .int (xs 1), .int (xs 2)]) (rest := [.int (-2)]) (M' := M_cX12_aware) rfl rfl rfl ?_
      refine x_R.steps 2 (c' := (2, [(0, .ref 75), (1, .int (xs 1)), (2, .int (xs 2))], [.int (xs 1), .ref 75], x_h0, 0, 0)) rfl ?_
      refine x_R.call (a := 205) (vs := [.ref 75, .int (xs 1)]) (rest := []) (M' := M_cX12_isPlayer) rfl rfl rfl ?_
      refine x_R.steps 6 (c' := (9, [(0, .ref 75), (1, .int (xs 1))], [.int 6, .ref 76, .long 0, .long ((xs 1)).toInt64], x_h0, 0, 0)) rfl ?_
      refine x_R.steps 1 (c' := (10, [(0, .ref 75), (1, .int (xs 1))], [.int 0, .long 0, .long ((xs 1)).toInt64], x_h0, 0, 0)) rfl ?_
      refine x_R.steps 3 (c' := (13, [(0, .ref 75), (1, .int (xs 1))], [.long (-1), .long 0, .long ((xs 1)).toInt64], x_h0, 0, 0)) rfl ?_
      refine x_R.call (a := 196) (vs := [.long ((xs 1)).toInt64, .long 0, .long (-1)]) (rest := []) (M' := M_cX12_in) rfl rfl rfl ?_
      refine x_R.steps 3 (c' := (3, [(0, .long ((xs 1)).toInt64), (2, .long 0), (4, .long (-1))], [.int (lg_cmp ((xs 1)).toInt64 0)], x_h0, 0, 0)) rfl ?_
      refine x_R.ite (p := (lg_cmp ((xs 1)).toInt64 0) < (0 : Int32)) (c1 := (17, [(0, .long ((xs 1)).toInt64), (2, .long 0), (4, .long (-1))], [], x_h0, 0, 0)) (c2 := (6, [(0, .long ((xs 1)).toInt64), (2, .long 0), (4, .long (-1))], [], x_h0, 0, 0)) rfl (fun h4 => ?_) (fun h4 => ?_)
      · have g4 := (x_lg_lt (C := 0) (by decide)).mp h4
        exfalso; omega
      · have g4 := mt (x_lg_lt (C := 0) (by decide)).mpr h4
        refine x_R.steps 3 (c' := (10, [(0, .long ((xs 1)).toInt64), (2, .long 0), (4, .long (-1))], [.int (lg_cmp ((xs 1)).toInt64 (-1))], x_h0, 0, 0)) rfl ?_
        refine x_R.ite (p := (0 : Int32) < (lg_cmp ((xs 1)).toInt64 (-1))) (c1 := (17, [(0, .long ((xs 1)).toInt64), (2, .long 0), (4, .long (-1))], [], x_h0, 0, 0)) (c2 := (13, [(0, .long ((xs 1)).toInt64), (2, .long 0), (4, .long (-1))], [], x_h0, 0, 0)) rfl (fun h5 => ?_) (fun h5 => ?_)
        · have g5 := (x_lg_gt (C := -1) (by decide)).mp h5
          refine x_R.steps 1 (c' := (18, [(0, .long ((xs 1)).toInt64), (2, .long 0), (4, .long (-1))], [.int 0], x_h0, 0, 0)) rfl ?_
          refine x_R.ret (v := some (.int 0)) rfl ?_
          refine x_R.steps 0 (c' := (16, [(0, .ref 75), (1, .int (xs 1))], [.int 0], x_h0, 0, 0)) rfl ?_
          refine x_R.ret (v := some (.int 0)) rfl ?_
          refine x_R.steps 0 (c' := (5, [(0, .ref 75), (1, .int (xs 1)), (2, .int (xs 2))], [.int 0], x_h0, 0, 0)) rfl ?_
          refine x_R.steps 1 (c' := (8, [(0, .ref 75), (1, .int (xs 1)), (2, .int (xs 2))], [], x_h0, 0, 0)) rfl ?_
          refine x_R.steps 1 (c' := (10, [(0, .ref 75), (1, .int (xs 1)), (2, .int (xs 2))], [.int (-2)], x_h0, 0, 0)) rfl ?_
          refine x_R.ret (v := some (.int (-2))) rfl ?_
          refine x_R.steps 0 (c' := (715, [(3, .int 0), (2, .ref 75), (1, .ref 0), (0, .ref x_scr)], [.int (-2), .int (-2)], x_h0, 98, 10728)) rfl ?_
          refine x_R.steps 1 (c' := (2370, [(3, .int 0), (2, .ref 75), (1, .ref 0), (0, .ref x_scr)], [], x_h0, 98, 10728)) rfl ?_
          refine x_R.steps 7 (c' := (24, [(3, .int 6), (2, .ref 75), (1, .ref 0), (0, .ref x_scr)], [.int 0, .int 6], x_h0, 98, 10728)) rfl ?_
          refine x_R.steps 1 (c' := (2376, [(3, .int 6), (2, .ref 75), (1, .ref 0), (0, .ref x_scr)], [], x_h0, 98, 10728)) rfl ?_
          refine x_R.steps 1 (c' := (2377, [(3, .int 6), (2, .ref 75), (1, .ref 0), (0, .ref x_scr)], [.int 1], x_h0, 98, 10728)) rfl ?_
          exact x_R.ret (v := some (.int 1)) rfl x_fin
        · have g5 := mt (x_lg_gt (C := -1) (by decide)).mpr h5
          exfalso; omega
    · have g3 := mt (x_i_ge (C := 0) (by decide)).mpr h3
      exfalso; omega
set_option maxRecDepth 100000 in
set_option maxHeartbeats 4000000 in
theorem x_c14_0 (xs : Nat → Int32)  : x_R x_mt (some (6, xs)) 13 M_law (720, [(3, .int 0), (2, .ref 75), (1, .ref 0), (0, .ref x_scr)], [], x_h0, 98, 10728) x_P := by
  refine x_R.steps 5 (c' := (725, [(3, .int 0), (2, .ref 75), (1, .ref 0), (0, .ref x_scr)], [.int 1, .ref x_scr, .ref 0], x_h0, 98, 10728)) rfl ?_
  refine x_R.steps 1 (c' := (726, [(3, .int 0), (2, .ref 75), (1, .ref 0), (0, .ref x_scr)], [.int (xs 1), .ref 0], x_h0, 98, 10728)) rfl ?_
  refine x_R.call (a := 127) (vs := [.ref 0, .int (xs 1)]) (rest := []) (M' := M_cX11_hits) rfl rfl rfl ?_
  refine x_R.steps 2 (c' := (2, [(0, .ref 0), (1, .int (xs 1))], [.int (xs 1), .ref 0], x_h0, 0, 0)) rfl ?_
  refine x_R.call (a := 187) (vs := [.ref 0, .int (xs 1)]) (rest := []) (M' := M_cX11_runOf) rfl rfl rfl ?_
  refine x_R.steps 2 (c' := (2, [(0, .ref 0), (1, .int (xs 1))], [.int (xs 1), .ref 0], x_h0, 0, 0)) rfl ?_
  refine x_R.call (a := 186) (vs := [.ref 0, .int (xs 1)]) (rest := []) (M' := M_cX11_makeReady) rfl rfl rfl ?_
  refine x_R.steps 3 (c' := (5, [(0, .ref 0), (1, .int (xs 1))], [.int (xs 1), .ref 1], x_h0, 0, 0)) rfl ?_
  refine x_R.call (a := 15) (vs := [.ref 1, .int (xs 1)]) (rest := []) (M' := M_cX2_isPlayer) rfl rfl rfl ?_
  refine x_R.steps 1 (c' := (1, [(0, .ref 1), (1, .int (xs 1))], [.int (xs 1)], x_h0, 0, 0)) rfl ?_
  refine x_R.ite (p := (xs 1) < (0 : Int32)) (c1 := (16, [(0, .ref 1), (1, .int (xs 1))], [], x_h0, 0, 0)) (c2 := (4, [(0, .ref 1), (1, .int (xs 1))], [], x_h0, 0, 0)) rfl (fun h1 => ?_) (fun h1 => ?_)
  · have g1 := (x_i_lt (C := 0) (by decide)).mp h1
    refine x_R.steps 1 (c' := (17, [(0, .ref 1), (1, .int (xs 1))], [.int 0], x_h0, 0, 0)) rfl ?_
    refine x_R.ret (v := some (.int 0)) rfl ?_
    refine x_R.steps 0 (c' := (8, [(0, .ref 0), (1, .int (xs 1))], [.int 0], x_h0, 0, 0)) rfl ?_
    refine x_R.steps 1 (c' := (11, [(0, .ref 0), (1, .int (xs 1))], [], x_h0, 0, 0)) rfl ?_
    refine x_R.steps 1 (c' := (12, [(0, .ref 0), (1, .int (xs 1))], [.int 0], x_h0, 0, 0)) rfl ?_
    refine x_R.ret (v := some (.int 0)) rfl ?_
    refine x_R.steps 0 (c' := (5, [(0, .ref 0), (1, .int (xs 1))], [.int 0], x_h0, 0, 0)) rfl ?_
    refine x_R.steps 1 (c' := (8, [(0, .ref 0), (1, .int (xs 1))], [], x_h0, 0, 0)) rfl ?_
    refine x_R.steps 1 (c' := (9, [(0, .ref 0), (1, .int (xs 1))], [.int 0], x_h0, 0, 0)) rfl ?_
    refine x_R.ret (v := some (.int 0)) rfl ?_
    refine x_R.steps 0 (c' := (5, [(0, .ref 0), (1, .int (xs 1))], [.int 0], x_h0, 0, 0)) rfl ?_
    refine x_R.steps 1 (c' := (18, [(0, .ref 0), (1, .int (xs 1))], [], x_h0, 0, 0)) rfl ?_
    refine x_R.steps 1 (c' := (20, [(0, .ref 0), (1, .int (xs 1))], [.int (-2)], x_h0, 0, 0)) rfl ?_
    refine x_R.ret (v := some (.int (-2))) rfl ?_
    refine x_R.steps 0 (c' := (729, [(3, .int 0), (2, .ref 75), (1, .ref 0), (0, .ref x_scr)], [.int (-2)], x_h0, 98, 10728)) rfl ?_
    refine x_R.steps 5 (c' := (734, [(3, .int 0), (2, .ref 75), (1, .ref 0), (0, .ref x_scr)], [.int 1, .ref x_scr, .ref 75, .int (-2)], x_h0, 98, 10728)) rfl ?_
    refine x_R.steps 1 (c' := (735, [(3, .int 0), (2, .ref 75), (1, .ref 0), (0, .ref x_scr)], [.int (xs 1), .ref 75, .int (-2)], x_h0, 98, 10728)) rfl ?_
    refine x_R.call (a := 260) (vs := [.ref 75, .int (xs 1)]) (rest := [.int (-2)]) (M' := M_cX12_hits) rfl rfl rfl ?_
    refine x_R.steps 2 (c' := (2, [(0, .ref 75), (1, .int (xs 1))], [.int (xs 1), .ref 75], x_h0, 0, 0)) rfl ?_
    refine x_R.call (a := 205) (vs := [.ref 75, .int (xs 1)]) (rest := []) (M' := M_cX12_isPlayer) rfl rfl rfl ?_
    refine x_R.steps 6 (c' := (9, [(0, .ref 75), (1, .int (xs 1))], [.int 6, .ref 76, .long 0, .long ((xs 1)).toInt64], x_h0, 0, 0)) rfl ?_
    refine x_R.steps 1 (c' := (10, [(0, .ref 75), (1, .int (xs 1))], [.int 0, .long 0, .long ((xs 1)).toInt64], x_h0, 0, 0)) rfl ?_
    refine x_R.steps 3 (c' := (13, [(0, .ref 75), (1, .int (xs 1))], [.long (-1), .long 0, .long ((xs 1)).toInt64], x_h0, 0, 0)) rfl ?_
    refine x_R.call (a := 196) (vs := [.long ((xs 1)).toInt64, .long 0, .long (-1)]) (rest := []) (M' := M_cX12_in) rfl rfl rfl ?_
    refine x_R.steps 3 (c' := (3, [(0, .long ((xs 1)).toInt64), (2, .long 0), (4, .long (-1))], [.int (lg_cmp ((xs 1)).toInt64 0)], x_h0, 0, 0)) rfl ?_
    refine x_R.ite (p := (lg_cmp ((xs 1)).toInt64 0) < (0 : Int32)) (c1 := (17, [(0, .long ((xs 1)).toInt64), (2, .long 0), (4, .long (-1))], [], x_h0, 0, 0)) (c2 := (6, [(0, .long ((xs 1)).toInt64), (2, .long 0), (4, .long (-1))], [], x_h0, 0, 0)) rfl (fun h2 => ?_) (fun h2 => ?_)
    · have g2 := (x_lg_lt (C := 0) (by decide)).mp h2
      refine x_R.steps 1 (c' := (18, [(0, .long ((xs 1)).toInt64), (2, .long 0), (4, .long (-1))], [.int 0], x_h0, 0, 0)) rfl ?_
      refine x_R.ret (v := some (.int 0)) rfl ?_
      refine x_R.steps 0 (c' := (16, [(0, .ref 75), (1, .int (xs 1))], [.int 0], x_h0, 0, 0)) rfl ?_
      refine x_R.ret (v := some (.int 0)) rfl ?_
      refine x_R.steps 0 (c' := (5, [(0, .ref 75), (1, .int (xs 1))], [.int 0], x_h0, 0, 0)) rfl ?_
      refine x_R.steps 1 (c' := (8, [(0, .ref 75), (1, .int (xs 1))], [], x_h0, 0, 0)) rfl ?_
      refine x_R.steps 1 (c' := (10, [(0, .ref 75), (1, .int (xs 1))], [.int (-2)], x_h0, 0, 0)) rfl ?_
      refine x_R.ret (v := some (.int (-2))) rfl ?_
      refine x_R.steps 0 (c' := (738, [(3, .int 0), (2, .ref 75), (1, .ref 0), (0, .ref x_scr)], [.int (-2), .int (-2)], x_h0, 98, 10728)) rfl ?_
      refine x_R.steps 1 (c' := (2370, [(3, .int 0), (2, .ref 75), (1, .ref 0), (0, .ref x_scr)], [], x_h0, 98, 10728)) rfl ?_
      refine x_R.steps 7 (c' := (24, [(3, .int 6), (2, .ref 75), (1, .ref 0), (0, .ref x_scr)], [.int 0, .int 6], x_h0, 98, 10728)) rfl ?_
      refine x_R.steps 1 (c' := (2376, [(3, .int 6), (2, .ref 75), (1, .ref 0), (0, .ref x_scr)], [], x_h0, 98, 10728)) rfl ?_
      refine x_R.steps 1 (c' := (2377, [(3, .int 6), (2, .ref 75), (1, .ref 0), (0, .ref x_scr)], [.int 1], x_h0, 98, 10728)) rfl ?_
      exact x_R.ret (v := some (.int 1)) rfl x_fin
    · have g2 := mt (x_lg_lt (C := 0) (by decide)).mpr h2
      exfalso; omega
  · have g1 := mt (x_i_lt (C := 0) (by decide)).mpr h1
    refine x_R.steps 3 (c' := (9, [(0, .ref 1), (1, .int (xs 1))], [.int 0, .int (xs 1)], x_h0, 0, 0)) rfl ?_
    refine x_R.ite (p := (0 : Int32) ≤ (xs 1)) (c1 := (16, [(0, .ref 1), (1, .int (xs 1))], [], x_h0, 0, 0)) (c2 := (12, [(0, .ref 1), (1, .int (xs 1))], [], x_h0, 0, 0)) rfl (fun h3 => ?_) (fun h3 => ?_)
    · have g3 := (x_i_ge (C := 0) (by decide)).mp h3
      refine x_R.steps 1 (c' := (17, [(0, .ref 1), (1, .int (xs 1))], [.int 0], x_h0, 0, 0)) rfl ?_
      refine x_R.ret (v := some (.int 0)) rfl ?_
      refine x_R.steps 0 (c' := (8, [(0, .ref 0), (1, .int (xs 1))], [.int 0], x_h0, 0, 0)) rfl ?_
      refine x_R.steps 1 (c' := (11, [(0, .ref 0), (1, .int (xs 1))], [], x_h0, 0, 0)) rfl ?_
      refine x_R.steps 1 (c' := (12, [(0, .ref 0), (1, .int (xs 1))], [.int 0], x_h0, 0, 0)) rfl ?_
      refine x_R.ret (v := some (.int 0)) rfl ?_
      refine x_R.steps 0 (c' := (5, [(0, .ref 0), (1, .int (xs 1))], [.int 0], x_h0, 0, 0)) rfl ?_
      refine x_R.steps 1 (c' := (8, [(0, .ref 0), (1, .int (xs 1))], [], x_h0, 0, 0)) rfl ?_
      refine x_R.steps 1 (c' := (9, [(0, .ref 0), (1, .int (xs 1))], [.int 0], x_h0, 0, 0)) rfl ?_
      refine x_R.ret (v := some (.int 0)) rfl ?_
      refine x_R.steps 0 (c' := (5, [(0, .ref 0), (1, .int (xs 1))], [.int 0], x_h0, 0, 0)) rfl ?_
      refine x_R.steps 1 (c' := (18, [(0, .ref 0), (1, .int (xs 1))], [], x_h0, 0, 0)) rfl ?_
      refine x_R.steps 1 (c' := (20, [(0, .ref 0), (1, .int (xs 1))], [.int (-2)], x_h0, 0, 0)) rfl ?_
      refine x_R.ret (v := some (.int (-2))) rfl ?_
      refine x_R.steps 0 (c' := (729, [(3, .int 0), (2, .ref 75), (1, .ref 0), (0, .ref x_scr)], [.int (-2)], x_h0, 98, 10728)) rfl ?_
      refine x_R.steps 5 (c' := (734, [(3, .int 0), (2, .ref 75), (1, .ref 0), (0, .ref x_scr)], [.int 1, .ref x_scr, .ref 75, .int (-2)], x_h0, 98, 10728)) rfl ?_
      refine x_R.steps 1 (c' := (735, [(3, .int 0), (2, .ref 75), (1, .ref 0), (0, .ref x_scr)], [.int (xs 1), .ref 75, .int (-2)], x_h0, 98, 10728)) rfl ?_
      refine x_R.call (a := 260) (vs := [.ref 75, .int (xs 1)]) (rest := [.int (-2)]) (M' := M_cX12_hits) rfl rfl rfl ?_
      refine x_R.steps 2 (c' := (2, [(0, .ref 75), (1, .int (xs 1))], [.int (xs 1), .ref 75], x_h0, 0, 0)) rfl ?_
      refine x_R.call (a := 205) (vs := [.ref 75, .int (xs 1)]) (rest := []) (M' := M_cX12_isPlayer) rfl rfl rfl ?_
      refine x_R.steps 6 (c' := (9, [(0, .ref 75), (1, .int (xs 1))], [.int 6, .ref 76, .long 0, .long ((xs 1)).toInt64], x_h0, 0, 0)) rfl ?_
      refine x_R.steps 1 (c' := (10, [(0, .ref 75), (1, .int (xs 1))], [.int 0, .long 0, .long ((xs 1)).toInt64], x_h0, 0, 0)) rfl ?_
      refine x_R.steps 3 (c' := (13, [(0, .ref 75), (1, .int (xs 1))], [.long (-1), .long 0, .long ((xs 1)).toInt64], x_h0, 0, 0)) rfl ?_
      refine x_R.call (a := 196) (vs := [.long ((xs 1)).toInt64, .long 0, .long (-1)]) (rest := []) (M' := M_cX12_in) rfl rfl rfl ?_
      refine x_R.steps 3 (c' := (3, [(0, .long ((xs 1)).toInt64), (2, .long 0), (4, .long (-1))], [.int (lg_cmp ((xs 1)).toInt64 0)], x_h0, 0, 0)) rfl ?_
      refine x_R.ite (p := (lg_cmp ((xs 1)).toInt64 0) < (0 : Int32)) (c1 := (17, [(0, .long ((xs 1)).toInt64), (2, .long 0), (4, .long (-1))], [], x_h0, 0, 0)) (c2 := (6, [(0, .long ((xs 1)).toInt64), (2, .long 0), (4, .long (-1))], [], x_h0, 0, 0)) rfl (fun h4 => ?_) (fun h4 => ?_)
      · have g4 := (x_lg_lt (C := 0) (by decide)).mp h4
        exfalso; omega
      · have g4 := mt (x_lg_lt (C := 0) (by decide)).mpr h4
        refine x_R.steps 3 (c' := (10, [(0, .long ((xs 1)).toInt64), (2, .long 0), (4, .long (-1))], [.int (lg_cmp ((xs 1)).toInt64 (-1))], x_h0, 0, 0)) rfl ?_
        refine x_R.ite (p := (0 : Int32) < (lg_cmp ((xs 1)).toInt64 (-1))) (c1 := (17, [(0, .long ((xs 1)).toInt64), (2, .long 0), (4, .long (-1))], [], x_h0, 0, 0)) (c2 := (13, [(0, .long ((xs 1)).toInt64), (2, .long 0), (4, .long (-1))], [], x_h0, 0, 0)) rfl (fun h5 => ?_) (fun h5 => ?_)
        · have g5 := (x_lg_gt (C := -1) (by decide)).mp h5
          refine x_R.steps 1 (c' := (18, [(0, .long ((xs 1)).toInt64), (2, .long 0), (4, .long (-1))], [.int 0], x_h0, 0, 0)) rfl ?_
          refine x_R.ret (v := some (.int 0)) rfl ?_
          refine x_R.steps 0 (c' := (16, [(0, .ref 75), (1, .int (xs 1))], [.int 0], x_h0, 0, 0)) rfl ?_
          refine x_R.ret (v := some (.int 0)) rfl ?_
          refine x_R.steps 0 (c' := (5, [(0, .ref 75), (1, .int (xs 1))], [.int 0], x_h0, 0, 0)) rfl ?_
          refine x_R.steps 1 (c' := (8, [(0, .ref 75), (1, .int (xs 1))], [], x_h0, 0, 0)) rfl ?_
          refine x_R.steps 1 (c' := (10, [(0, .ref 75), (1, .int (xs 1))], [.int (-2)], x_h0, 0, 0)) rfl ?_
          refine x_R.ret (v := some (.int (-2))) rfl ?_
          refine x_R.steps 0 (c' := (738, [(3, .int 0), (2, .ref 75), (1, .ref 0), (0, .ref x_scr)], [.int (-2), .int (-2)], x_h0, 98, 10728)) rfl ?_
          refine x_R.steps 1 (c' := (2370, [(3, .int 0), (2, .ref 75), (1, .ref 0), (0, .ref x_scr)], [], x_h0, 98, 10728)) rfl ?_
          refine x_R.steps 7 (c' := (24, [(3, .int 6), (2, .ref 75), (1, .ref 0), (0, .ref x_scr)], [.int 0, .int 6], x_h0, 98, 10728)) rfl ?_
          refine x_R.steps 1 (c' := (2376, [(3, .int 6), (2, .ref 75), (1, .ref 0), (0, .ref x_scr)], [], x_h0, 98, 10728)) rfl ?_
          refine x_R.steps 1 (c' := (2377, [(3, .int 6), (2, .ref 75), (1, .ref 0), (0, .ref x_scr)], [.int 1], x_h0, 98, 10728)) rfl ?_
          exact x_R.ret (v := some (.int 1)) rfl x_fin
        · have g5 := mt (x_lg_gt (C := -1) (by decide)).mpr h5
          exfalso; omega
    · have g3 := mt (x_i_ge (C := 0) (by decide)).mpr h3
      exfalso; omega
set_option maxRecDepth 100000 in
set_option maxHeartbeats 4000000 in
theorem x_c15_0 (xs : Nat → Int32)  : x_R x_mt (some (6, xs)) 13 M_law (743, [(3, .int 0), (2, .ref 75), (1, .ref 0), (0, .ref x_scr)], [], x_h0, 98, 10728) x_P := by
  refine x_R.steps 5 (c' := (748, [(3, .int 0), (2, .ref 75), (1, .ref 0), (0, .ref x_scr)], [.int 1, .ref x_scr, .ref 0], x_h0, 98, 10728)) rfl ?_
  refine x_R.steps 1 (c' := (749, [(3, .int 0), (2, .ref 75), (1, .ref 0), (0, .ref x_scr)], [.int (xs 1), .ref 0], x_h0, 98, 10728)) rfl ?_
  refine x_R.steps 4 (c' := (753, [(3, .int 0), (2, .ref 75), (1, .ref 0), (0, .ref x_scr)], [.int 2, .ref x_scr, .int (xs 1), .ref 0], x_h0, 98, 10728)) rfl ?_
  refine x_R.steps 1 (c' := (754, [(3, .int 0), (2, .ref 75), (1, .ref 0), (0, .ref x_scr)], [.int (xs 2), .int (xs 1), .ref 0], x_h0, 98, 10728)) rfl ?_
  refine x_R.call (a := 128) (vs := [.ref 0, .int (xs 1), .int (xs 2)]) (rest := []) (M' := M_cX11_hit) rfl rfl rfl ?_
  refine x_R.steps 2 (c' := (2, [(0, .ref 0), (1, .int (xs 1)), (2, .int (xs 2))], [.int (xs 1), .ref 0], x_h0, 0, 0)) rfl ?_
  refine x_R.call (a := 187) (vs := [.ref 0, .int (xs 1)]) (rest := []) (M' := M_cX11_runOf) rfl rfl rfl ?_
  refine x_R.steps 2 (c' := (2, [(0, .ref 0), (1, .int (xs 1))], [.int (xs 1), .ref 0], x_h0, 0, 0)) rfl ?_
  refine x_R.call (a := 186) (vs := [.ref 0, .int (xs 1)]) (rest := []) (M' := M_cX11_makeReady) rfl rfl rfl ?_
  refine x_R.steps 3 (c' := (5, [(0, .ref 0), (1, .int (xs 1))], [.int (xs 1), .ref 1], x_h0, 0, 0)) rfl ?_
  refine x_R.call (a := 15) (vs := [.ref 1, .int (xs 1)]) (rest := []) (M' := M_cX2_isPlayer) rfl rfl rfl ?_
  refine x_R.steps 1 (c' := (1, [(0, .ref 1), (1, .int (xs 1))], [.int (xs 1)], x_h0, 0, 0)) rfl ?_
  refine x_R.ite (p := (xs 1) < (0 : Int32)) (c1 := (16, [(0, .ref 1), (1, .int (xs 1))], [], x_h0, 0, 0)) (c2 := (4, [(0, .ref 1), (1, .int (xs 1))], [], x_h0, 0, 0)) rfl (fun h1 => ?_) (fun h1 => ?_)
  · have g1 := (x_i_lt (C := 0) (by decide)).mp h1
    refine x_R.steps 1 (c' := (17, [(0, .ref 1), (1, .int (xs 1))], [.int 0], x_h0, 0, 0)) rfl ?_
    refine x_R.ret (v := some (.int 0)) rfl ?_
    refine x_R.steps 0 (c' := (8, [(0, .ref 0), (1, .int (xs 1))], [.int 0], x_h0, 0, 0)) rfl ?_
    refine x_R.steps 1 (c' := (11, [(0, .ref 0), (1, .int (xs 1))], [], x_h0, 0, 0)) rfl ?_
    refine x_R.steps 1 (c' := (12, [(0, .ref 0), (1, .int (xs 1))], [.int 0], x_h0, 0, 0)) rfl ?_
    refine x_R.ret (v := some (.int 0)) rfl ?_
    refine x_R.steps 0 (c' := (5, [(0, .ref 0), (1, .int (xs 1))], [.int 0], x_h0, 0, 0)) rfl ?_
    refine x_R.steps 1 (c' := (8, [(0, .ref 0), (1, .int (xs 1))], [], x_h0, 0, 0)) rfl ?_
    refine x_R.steps 1 (c' := (9, [(0, .ref 0), (1, .int (xs 1))], [.int 0], x_h0, 0, 0)) rfl ?_
    refine x_R.ret (v := some (.int 0)) rfl ?_
    refine x_R.steps 0 (c' := (5, [(0, .ref 0), (1, .int (xs 1)), (2, .int (xs 2))], [.int 0], x_h0, 0, 0)) rfl ?_
    refine x_R.steps 1 (c' := (8, [(0, .ref 0), (1, .int (xs 1)), (2, .int (xs 2))], [], x_h0, 0, 0)) rfl ?_
    refine x_R.steps 1 (c' := (10, [(0, .ref 0), (1, .int (xs 1)), (2, .int (xs 2))], [.int (-2)], x_h0, 0, 0)) rfl ?_
    refine x_R.ret (v := some (.int (-2))) rfl ?_
    refine x_R.steps 0 (c' := (757, [(3, .int 0), (2, .ref 75), (1, .ref 0), (0, .ref x_scr)], [.int (-2)], x_h0, 98, 10728)) rfl ?_
    refine x_R.steps 5 (c' := (762, [(3, .int 0), (2, .ref 75), (1, .ref 0), (0, .ref x_scr)], [.int 1, .ref x_scr, .ref 75, .int (-2)], x_h0, 98, 10728)) rfl ?_
    refine x_R.steps 1 (c' := (763, [(3, .int 0), (2, .ref 75), (1, .ref 0), (0, .ref x_scr)], [.int (xs 1), .ref 75, .int (-2)], x_h0, 98, 10728)) rfl ?_
    refine x_R.steps 4 (c' := (767, [(3, .int 0), (2, .ref 75), (1, .ref 0), (0, .ref x_scr)], [.int 2, .ref x_scr, .int (xs 1), .ref 75, .int (-2)], x_h0, 98, 10728)) rfl ?_
    refine x_R.steps 1 (c' := (768, [(3, .int 0), (2, .ref 75), (1, .ref 0), (0, .ref x_scr)], [.int (xs 2), .int (xs 1), .ref 75, .int (-2)], x_h0, 98, 10728)) rfl ?_
    refine x_R.call (a := 261) (vs := [.ref 75, .int (xs 1), .int (xs 2)]) (rest := [.int (-2)]) (M' := M_cX12_hit) rfl rfl rfl ?_
    refine x_R.steps 2 (c' := (2, [(0, .ref 75), (1, .int (xs 1)), (2, .int (xs 2))], [.int (xs 1), .ref 75], x_h0, 0, 0)) rfl ?_
    refine x_R.call (a := 205) (vs := [.ref 75, .int (xs 1)]) (rest := []) (M' := M_cX12_isPlayer) rfl rfl rfl ?_
    refine x_R.steps 6 (c' := (9, [(0, .ref 75), (1, .int (xs 1))], [.int 6, .ref 76, .long 0, .long ((xs 1)).toInt64], x_h0, 0, 0)) rfl ?_
    refine x_R.steps 1 (c' := (10, [(0, .ref 75), (1, .int (xs 1))], [.int 0, .long 0, .long ((xs 1)).toInt64], x_h0, 0, 0)) rfl ?_
    refine x_R.steps 3 (c' := (13, [(0, .ref 75), (1, .int (xs 1))], [.long (-1), .long 0, .long ((xs 1)).toInt64], x_h0, 0, 0)) rfl ?_
    refine x_R.call (a := 196) (vs := [.long ((xs 1)).toInt64, .long 0, .long (-1)]) (rest := []) (M' := M_cX12_in) rfl rfl rfl ?_
    refine x_R.steps 3 (c' := (3, [(0, .long ((xs 1)).toInt64), (2, .long 0), (4, .long (-1))], [.int (lg_cmp ((xs 1)).toInt64 0)], x_h0, 0, 0)) rfl ?_
    refine x_R.ite (p := (lg_cmp ((xs 1)).toInt64 0) < (0 : Int32)) (c1 := (17, [(0, .long ((xs 1)).toInt64), (2, .long 0), (4, .long (-1))], [], x_h0, 0, 0)) (c2 := (6, [(0, .long ((xs 1)).toInt64), (2, .long 0), (4, .long (-1))], [], x_h0, 0, 0)) rfl (fun h2 => ?_) (fun h2 => ?_)
    · have g2 := (x_lg_lt (C := 0) (by decide)).mp h2
      refine x_R.steps 1 (c' := (18, [(0, .long ((xs 1)).toInt64), (2, .long 0), (4, .long (-1))], [.int 0], x_h0, 0, 0)) rfl ?_
      refine x_R.ret (v := some (.int 0)) rfl ?_
      refine x_R.steps 0 (c' := (16, [(0, .ref 75), (1, .int (xs 1))], [.int 0], x_h0, 0, 0)) rfl ?_
      refine x_R.ret (v := some (.int 0)) rfl ?_
      refine x_R.steps 0 (c' := (5, [(0, .ref 75), (1, .int (xs 1)), (2, .int (xs 2))], [.int 0], x_h0, 0, 0)) rfl ?_
      refine x_R.steps 1 (c' := (8, [(0, .ref 75), (1, .int (xs 1)), (2, .int (xs 2))], [], x_h0, 0, 0)) rfl ?_
      refine x_R.steps 1 (c' := (10, [(0, .ref 75), (1, .int (xs 1)), (2, .int (xs 2))], [.int (-2)], x_h0, 0, 0)) rfl ?_
      refine x_R.ret (v := some (.int (-2))) rfl ?_
      refine x_R.steps 0 (c' := (771, [(3, .int 0), (2, .ref 75), (1, .ref 0), (0, .ref x_scr)], [.int (-2), .int (-2)], x_h0, 98, 10728)) rfl ?_
      refine x_R.steps 1 (c' := (2370, [(3, .int 0), (2, .ref 75), (1, .ref 0), (0, .ref x_scr)], [], x_h0, 98, 10728)) rfl ?_
      refine x_R.steps 7 (c' := (24, [(3, .int 6), (2, .ref 75), (1, .ref 0), (0, .ref x_scr)], [.int 0, .int 6], x_h0, 98, 10728)) rfl ?_
      refine x_R.steps 1 (c' := (2376, [(3, .int 6), (2, .ref 75), (1, .ref 0), (0, .ref x_scr)], [], x_h0, 98, 10728)) rfl ?_
      refine x_R.steps 1 (c' := (2377, [(3, .int 6), (2, .ref 75), (1, .ref 0), (0, .ref x_scr)], [.int 1], x_h0, 98, 10728)) rfl ?_
      exact x_R.ret (v := some (.int 1)) rfl x_fin
    · have g2 := mt (x_lg_lt (C := 0) (by decide)).mpr h2
      exfalso; omega
  · have g1 := mt (x_i_lt (C := 0) (by decide)).mpr h1
    refine x_R.steps 3 (c' := (9, [(0, .ref 1), (1, .int (xs 1))], [.int 0, .int (xs 1)], x_h0, 0, 0)) rfl ?_
    refine x_R.ite (p := (0 : Int32) ≤ (xs 1)) (c1 := (16, [(0, .ref 1), (1, .int (xs 1))], [], x_h0, 0, 0)) (c2 := (12, [(0, .ref 1), (1, .int (xs 1))], [], x_h0, 0, 0)) rfl (fun h3 => ?_) (fun h3 => ?_)
    · have g3 := (x_i_ge (C := 0) (by decide)).mp h3
      refine x_R.steps 1 (c' := (17, [(0, .ref 1), (1, .int (xs 1))], [.int 0], x_h0, 0, 0)) rfl ?_
      refine x_R.ret (v := some (.int 0)) rfl ?_
      refine x_R.steps 0 (c' := (8, [(0, .ref 0), (1, .int (xs 1))], [.int 0], x_h0, 0, 0)) rfl ?_
      refine x_R.steps 1 (c' := (11, [(0, .ref 0), (1, .int (xs 1))], [], x_h0, 0, 0)) rfl ?_
      refine x_R.steps 1 (c' := (12, [(0, .ref 0), (1, .int (xs 1))], [.int 0], x_h0, 0, 0)) rfl ?_
      refine x_R.ret (v := some (.int 0)) rfl ?_
      refine x_R.steps 0 (c' := (5, [(0, .ref 0), (1, .int (xs 1))], [.int 0], x_h0, 0, 0)) rfl ?_
      refine x_R.steps 1 (c' := (8, [(0, .ref 0), (1, .int (xs 1))], [], x_h0, 0, 0)) rfl ?_
      refine x_R.steps 1 (c' := (9, [(0, .ref 0), (1, .int (xs 1))], [.int 0], x_h0, 0, 0)) rfl ?_
      refine x_R.ret (v := some (.int 0)) rfl ?_
      refine x_R.steps 0 (c' := (5, [(0, .ref 0), (1, .int (xs 1)), (2, .int (xs 2))], [.int 0], x_h0, 0, 0)) rfl ?_
      refine x_R.steps 1 (c' := (8, [(0, .ref 0), (1, .int (xs 1)), (2, .int (xs 2))], [], x_h0, 0, 0)) rfl ?_
      refine x_R.steps 1 (c' := (10, [(0, .ref 0), (1, .int (xs 1)), (2, .int (xs 2))], [.int (-2)], x_h0, 0, 0)) rfl ?_
      refine x_R.ret (v := some (.int (-2))) rfl ?_
      refine x_R.steps 0 (c' := (757, [(3, .int 0), (2, .ref 75), (1, .ref 0), (0, .ref x_scr)], [.int (-2)], x_h0, 98, 10728)) rfl ?_
      refine x_R.steps 5 (c' := (762, [(3, .int 0), (2, .ref 75), (1, .ref 0), (0, .ref x_scr)], [.int 1, .ref x_scr, .ref 75, .int (-2)], x_h0, 98, 10728)) rfl ?_
      refine x_R.steps 1 (c' := (763, [(3, .int 0), (2, .ref 75), (1, .ref 0), (0, .ref x_scr)], [.int (xs 1), .ref 75, .int (-2)], x_h0, 98, 10728)) rfl ?_
      refine x_R.steps 4 (c' := (767, [(3, .int 0), (2, .ref 75), (1, .ref 0), (0, .ref x_scr)], [.int 2, .ref x_scr, .int (xs 1), .ref 75, .int (-2)], x_h0, 98, 10728)) rfl ?_
      refine x_R.steps 1 (c' := (768, [(3, .int 0), (2, .ref 75), (1, .ref 0), (0, .ref x_scr)], [.int (xs 2), .int (xs 1), .ref 75, .int (-2)], x_h0, 98, 10728)) rfl ?_
      refine x_R.call (a := 261) (vs := [.ref 75, .int (xs 1), .int (xs 2)]) (rest := [.int (-2)]) (M' := M_cX12_hit) rfl rfl rfl ?_
      refine x_R.steps 2 (c' := (2, [(0, .ref 75), (1, .int (xs 1)), (2, .int (xs 2))], [.int (xs 1), .ref 75], x_h0, 0, 0)) rfl ?_
      refine x_R.call (a := 205) (vs := [.ref 75, .int (xs 1)]) (rest := []) (M' := M_cX12_isPlayer) rfl rfl rfl ?_
      refine x_R.steps 6 (c' := (9, [(0, .ref 75), (1, .int (xs 1))], [.int 6, .ref 76, .long 0, .long ((xs 1)).toInt64], x_h0, 0, 0)) rfl ?_
      refine x_R.steps 1 (c' := (10, [(0, .ref 75), (1, .int (xs 1))], [.int 0, .long 0, .long ((xs 1)).toInt64], x_h0, 0, 0)) rfl ?_
      refine x_R.steps 3 (c' := (13, [(0, .ref 75), (1, .int (xs 1))], [.long (-1), .long 0, .long ((xs 1)).toInt64], x_h0, 0, 0)) rfl ?_
      refine x_R.call (a := 196) (vs := [.long ((xs 1)).toInt64, .long 0, .long (-1)]) (rest := []) (M' := M_cX12_in) rfl rfl rfl ?_
      refine x_R.steps 3 (c' := (3, [(0, .long ((xs 1)).toInt64), (2, .long 0), (4, .long (-1))], [.int (lg_cmp ((xs 1)).toInt64 0)], x_h0, 0, 0)) rfl ?_
      refine x_R.ite (p := (lg_cmp ((xs 1)).toInt64 0) < (0 : Int32)) (c1 := (17, [(0, .long ((xs 1)).toInt64), (2, .long 0), (4, .long (-1))], [], x_h0, 0, 0)) (c2 := (6, [(0, .long ((xs 1)).toInt64), (2, .long 0), (4, .long (-1))], [], x_h0, 0, 0)) rfl (fun h4 => ?_) (fun h4 => ?_)
      · have g4 := (x_lg_lt (C := 0) (by decide)).mp h4
        exfalso; omega
      · have g4 := mt (x_lg_lt (C := 0) (by decide)).mpr h4
        refine x_R.steps 3 (c' := (10, [(0, .long ((xs 1)).toInt64), (2, .long 0), (4, .long (-1))], [.int (lg_cmp ((xs 1)).toInt64 (-1))], x_h0, 0, 0)) rfl ?_
        refine x_R.ite (p := (0 : Int32) < (lg_cmp ((xs 1)).toInt64 (-1))) (c1 := (17, [(0, .long ((xs 1)).toInt64), (2, .long 0), (4, .long (-1))], [], x_h0, 0, 0)) (c2 := (13, [(0, .long ((xs 1)).toInt64), (2, .long 0), (4, .long (-1))], [], x_h0, 0, 0)) rfl (fun h5 => ?_) (fun h5 => ?_)
        · have g5 := (x_lg_gt (C := -1) (by decide)).mp h5
          refine x_R.steps 1 (c' := (18, [(0, .long ((xs 1)).toInt64), (2, .long 0), (4, .long (-1))], [.int 0], x_h0, 0, 0)) rfl ?_
          refine x_R.ret (v := some (.int 0)) rfl ?_
          refine x_R.steps 0 (c' := (16, [(0, .ref 75), (1, .int (xs 1))], [.int 0], x_h0, 0, 0)) rfl ?_
          refine x_R.ret (v := some (.int 0)) rfl ?_
          refine x_R.steps 0 (c' := (5, [(0, .ref 75), (1, .int (xs 1)), (2, .int (xs 2))], [.int 0], x_h0, 0, 0)) rfl ?_
          refine x_R.steps 1 (c' := (8, [(0, .ref 75), (1, .int (xs 1)), (2, .int (xs 2))], [], x_h0, 0, 0)) rfl ?_
          refine x_R.steps 1 (c' := (10, [(0, .ref 75), (1, .int (xs 1)), (2, .int (xs 2))], [.int (-2)], x_h0, 0, 0)) rfl ?_
          refine x_R.ret (v := some (.int (-2))) rfl ?_
          refine x_R.steps 0 (c' := (771, [(3, .int 0), (2, .ref 75), (1, .ref 0), (0, .ref x_scr)], [.int (-2), .int (-2)], x_h0, 98, 10728)) rfl ?_
          refine x_R.steps 1 (c' := (2370, [(3, .int 0), (2, .ref 75), (1, .ref 0), (0, .ref x_scr)], [], x_h0, 98, 10728)) rfl ?_
          refine x_R.steps 7 (c' := (24, [(3, .int 6), (2, .ref 75), (1, .ref 0), (0, .ref x_scr)], [.int 0, .int 6], x_h0, 98, 10728)) rfl ?_
          refine x_R.steps 1 (c' := (2376, [(3, .int 6), (2, .ref 75), (1, .ref 0), (0, .ref x_scr)], [], x_h0, 98, 10728)) rfl ?_
          refine x_R.steps 1 (c' := (2377, [(3, .int 6), (2, .ref 75), (1, .ref 0), (0, .ref x_scr)], [.int 1], x_h0, 98, 10728)) rfl ?_
          exact x_R.ret (v := some (.int 1)) rfl x_fin
        · have g5 := mt (x_lg_gt (C := -1) (by decide)).mpr h5
          exfalso; omega
    · have g3 := mt (x_i_ge (C := 0) (by decide)).mpr h3
      exfalso; omega
set_option maxRecDepth 100000 in
set_option maxHeartbeats 4000000 in
theorem x_c16_0 (xs : Nat → Int32)  : x_R x_mt (some (6, xs)) 13 M_law (776, [(3, .int 0), (2, .ref 75), (1, .ref 0), (0, .ref x_scr)], [], x_h0, 98, 10728) x_P := by
  refine x_R.steps 5 (c' := (781, [(3, .int 0), (2, .ref 75), (1, .ref 0), (0, .ref x_scr)], [.int 1, .ref x_scr, .ref 0], x_h0, 98, 10728)) rfl ?_
  refine x_R.steps 1 (c' := (782, [(3, .int 0), (2, .ref 75), (1, .ref 0), (0, .ref x_scr)], [.int (xs 1), .ref 0], x_h0, 98, 10728)) rfl ?_
  refine x_R.steps 4 (c' := (786, [(3, .int 0), (2, .ref 75), (1, .ref 0), (0, .ref x_scr)], [.int 2, .ref x_scr, .int (xs 1), .ref 0], x_h0, 98, 10728)) rfl ?_
  refine x_R.steps 1 (c' := (787, [(3, .int 0), (2, .ref 75), (1, .ref 0), (0, .ref x_scr)], [.int (xs 2), .int (xs 1), .ref 0], x_h0, 98, 10728)) rfl ?_
  refine x_R.call (a := 129) (vs := [.ref 0, .int (xs 1), .int (xs 2)]) (rest := []) (M' := M_cX11_twice) rfl rfl rfl ?_
  refine x_R.steps 2 (c' := (2, [(0, .ref 0), (1, .int (xs 1)), (2, .int (xs 2))], [.int (xs 1), .ref 0], x_h0, 0, 0)) rfl ?_
  refine x_R.call (a := 187) (vs := [.ref 0, .int (xs 1)]) (rest := []) (M' := M_cX11_runOf) rfl rfl rfl ?_
  refine x_R.steps 2 (c' := (2, [(0, .ref 0), (1, .int (xs 1))], [.int (xs 1), .ref 0], x_h0, 0, 0)) rfl ?_
  refine x_R.call (a := 186) (vs := [.ref 0, .int (xs 1)]) (rest := []) (M' := M_cX11_makeReady) rfl rfl rfl ?_
  refine x_R.steps 3 (c' := (5, [(0, .ref 0), (1, .int (xs 1))], [.int (xs 1), .ref 1], x_h0, 0, 0)) rfl ?_
  refine x_R.call (a := 15) (vs := [.ref 1, .int (xs 1)]) (rest := []) (M' := M_cX2_isPlayer) rfl rfl rfl ?_
  refine x_R.steps 1 (c' := (1, [(0, .ref 1), (1, .int (xs 1))], [.int (xs 1)], x_h0, 0, 0)) rfl ?_
  refine x_R.ite (p := (xs 1) < (0 : Int32)) (c1 := (16, [(0, .ref 1), (1, .int (xs 1))], [], x_h0, 0, 0)) (c2 := (4, [(0, .ref 1), (1, .int (xs 1))], [], x_h0, 0, 0)) rfl (fun h1 => ?_) (fun h1 => ?_)
  · have g1 := (x_i_lt (C := 0) (by decide)).mp h1
    refine x_R.steps 1 (c' := (17, [(0, .ref 1), (1, .int (xs 1))], [.int 0], x_h0, 0, 0)) rfl ?_
    refine x_R.ret (v := some (.int 0)) rfl ?_
    refine x_R.steps 0 (c' := (8, [(0, .ref 0), (1, .int (xs 1))], [.int 0], x_h0, 0, 0)) rfl ?_
    refine x_R.steps 1 (c' := (11, [(0, .ref 0), (1, .int (xs 1))], [], x_h0, 0, 0)) rfl ?_
    refine x_R.steps 1 (c' := (12, [(0, .ref 0), (1, .int (xs 1))], [.int 0], x_h0, 0, 0)) rfl ?_
    refine x_R.ret (v := some (.int 0)) rfl ?_
    refine x_R.steps 0 (c' := (5, [(0, .ref 0), (1, .int (xs 1))], [.int 0], x_h0, 0, 0)) rfl ?_
    refine x_R.steps 1 (c' := (8, [(0, .ref 0), (1, .int (xs 1))], [], x_h0, 0, 0)) rfl ?_
    refine x_R.steps 1 (c' := (9, [(0, .ref 0), (1, .int (xs 1))], [.int 0], x_h0, 0, 0)) rfl ?_
    refine x_R.ret (v := some (.int 0)) rfl ?_
    refine x_R.steps 0 (c' := (5, [(0, .ref 0), (1, .int (xs 1)), (2, .int (xs 2))], [.int 0], x_h0, 0, 0)) rfl ?_
    refine x_R.steps 1 (c' := (8, [(0, .ref 0), (1, .int (xs 1)), (2, .int (xs 2))], [], x_h0, 0, 0)) rfl ?_
    refine x_R.steps 1 (c' := (10, [(0, .ref 0), (1, .int (xs 1)), (2, .int (xs 2))], [.int (-2)], x_h0, 0, 0)) rfl ?_
    refine x_R.ret (v := some (.int (-2))) rfl ?_
    refine x_R.steps 0 (c' := (790, [(3, .int 0), (2, .ref 75), (1, .ref 0), (0, .ref x_scr)], [.int (-2)], x_h0, 98, 10728)) rfl ?_
    refine x_R.steps 5 (c' := (795, [(3, .int 0), (2, .ref 75), (1, .ref 0), (0, .ref x_scr)], [.int 1, .ref x_scr, .ref 75, .int (-2)], x_h0, 98, 10728)) rfl ?_
    refine x_R.steps 1 (c' := (796, [(3, .int 0), (2, .ref 75), (1, .ref 0), (0, .ref x_scr)], [.int (xs 1), .ref 75, .int (-2)], x_h0, 98, 10728)) rfl ?_
    refine x_R.steps 4 (c' := (800, [(3, .int 0), (2, .ref 75), (1, .ref 0), (0, .ref x_scr)], [.int 2, .ref x_scr, .int (xs 1), .ref 75, .int (-2)], x_h0, 98, 10728)) rfl ?_
    refine x_R.steps 1 (c' := (801, [(3, .int 0), (2, .ref 75), (1, .ref 0), (0, .ref x_scr)], [.int (xs 2), .int (xs 1), .ref 75, .int (-2)], x_h0, 98, 10728)) rfl ?_
    refine x_R.call (a := 262) (vs := [.ref 75, .int (xs 1), .int (xs 2)]) (rest := [.int (-2)]) (M' := M_cX12_twice) rfl rfl rfl ?_
    refine x_R.steps 2 (c' := (2, [(0, .ref 75), (1, .int (xs 1)), (2, .int (xs 2))], [.int (xs 1), .ref 75], x_h0, 0, 0)) rfl ?_
    refine x_R.call (a := 205) (vs := [.ref 75, .int (xs 1)]) (rest := []) (M' := M_cX12_isPlayer) rfl rfl rfl ?_
    refine x_R.steps 6 (c' := (9, [(0, .ref 75), (1, .int (xs 1))], [.int 6, .ref 76, .long 0, .long ((xs 1)).toInt64], x_h0, 0, 0)) rfl ?_
    refine x_R.steps 1 (c' := (10, [(0, .ref 75), (1, .int (xs 1))], [.int 0, .long 0, .long ((xs 1)).toInt64], x_h0, 0, 0)) rfl ?_
    refine x_R.steps 3 (c' := (13, [(0, .ref 75), (1, .int (xs 1))], [.long (-1), .long 0, .long ((xs 1)).toInt64], x_h0, 0, 0)) rfl ?_
    refine x_R.call (a := 196) (vs := [.long ((xs 1)).toInt64, .long 0, .long (-1)]) (rest := []) (M' := M_cX12_in) rfl rfl rfl ?_
    refine x_R.steps 3 (c' := (3, [(0, .long ((xs 1)).toInt64), (2, .long 0), (4, .long (-1))], [.int (lg_cmp ((xs 1)).toInt64 0)], x_h0, 0, 0)) rfl ?_
    refine x_R.ite (p := (lg_cmp ((xs 1)).toInt64 0) < (0 : Int32)) (c1 := (17, [(0, .long ((xs 1)).toInt64), (2, .long 0), (4, .long (-1))], [], x_h0, 0, 0)) (c2 := (6, [(0, .long ((xs 1)).toInt64), (2, .long 0), (4, .long (-1))], [], x_h0, 0, 0)) rfl (fun h2 => ?_) (fun h2 => ?_)
    · have g2 := (x_lg_lt (C := 0) (by decide)).mp h2
      refine x_R.steps 1 (c' := (18, [(0, .long ((xs 1)).toInt64), (2, .long 0), (4, .long (-1))], [.int 0], x_h0, 0, 0)) rfl ?_
      refine x_R.ret (v := some (.int 0)) rfl ?_
      refine x_R.steps 0 (c' := (16, [(0, .ref 75), (1, .int (xs 1))], [.int 0], x_h0, 0, 0)) rfl ?_
      refine x_R.ret (v := some (.int 0)) rfl ?_
      refine x_R.steps 0 (c' := (5, [(0, .ref 75), (1, .int (xs 1)), (2, .int (xs 2))], [.int 0], x_h0, 0, 0)) rfl ?_
      refine x_R.steps 1 (c' := (8, [(0, .ref 75), (1, .int (xs 1)), (2, .int (xs 2))], [], x_h0, 0, 0)) rfl ?_
      refine x_R.steps 1 (c' := (10, [(0, .ref 75), (1, .int (xs 1)), (2, .int (xs 2))], [.int (-2)], x_h0, 0, 0)) rfl ?_
      refine x_R.ret (v := some (.int (-2))) rfl ?_
      refine x_R.steps 0 (c' := (804, [(3, .int 0), (2, .ref 75), (1, .ref 0), (0, .ref x_scr)], [.int (-2), .int (-2)], x_h0, 98, 10728)) rfl ?_
      refine x_R.steps 1 (c' := (2370, [(3, .int 0), (2, .ref 75), (1, .ref 0), (0, .ref x_scr)], [], x_h0, 98, 10728)) rfl ?_
      refine x_R.steps 7 (c' := (24, [(3, .int 6), (2, .ref 75), (1, .ref 0), (0, .ref x_scr)], [.int 0, .int 6], x_h0, 98, 10728)) rfl ?_
      refine x_R.steps 1 (c' := (2376, [(3, .int 6), (2, .ref 75), (1, .ref 0), (0, .ref x_scr)], [], x_h0, 98, 10728)) rfl ?_
      refine x_R.steps 1 (c' := (2377, [(3, .int 6), (2, .ref 75), (1, .ref 0), (0, .ref x_scr)], [.int 1], x_h0, 98, 10728)) rfl ?_
      exact x_R.ret (v := some (.int 1)) rfl x_fin
    · have g2 := mt (x_lg_lt (C := 0) (by decide)).mpr h2
      exfalso; omega
  · have g1 := mt (x_i_lt (C := 0) (by decide)).mpr h1
    refine x_R.steps 3 (c' := (9, [(0, .ref 1), (1, .int (xs 1))], [.int 0, .int (xs 1)], x_h0, 0, 0)) rfl ?_
    refine x_R.ite (p := (0 : Int32) ≤ (xs 1)) (c1 := (16, [(0, .ref 1), (1, .int (xs 1))], [], x_h0, 0, 0)) (c2 := (12, [(0, .ref 1), (1, .int (xs 1))], [], x_h0, 0, 0)) rfl (fun h3 => ?_) (fun h3 => ?_)
    · have g3 := (x_i_ge (C := 0) (by decide)).mp h3
      refine x_R.steps 1 (c' := (17, [(0, .ref 1), (1, .int (xs 1))], [.int 0], x_h0, 0, 0)) rfl ?_
      refine x_R.ret (v := some (.int 0)) rfl ?_
      refine x_R.steps 0 (c' := (8, [(0, .ref 0), (1, .int (xs 1))], [.int 0], x_h0, 0, 0)) rfl ?_
      refine x_R.steps 1 (c' := (11, [(0, .ref 0), (1, .int (xs 1))], [], x_h0, 0, 0)) rfl ?_
      refine x_R.steps 1 (c' := (12, [(0, .ref 0), (1, .int (xs 1))], [.int 0], x_h0, 0, 0)) rfl ?_
      refine x_R.ret (v := some (.int 0)) rfl ?_
      refine x_R.steps 0 (c' := (5, [(0, .ref 0), (1, .int (xs 1))], [.int 0], x_h0, 0, 0)) rfl ?_
      refine x_R.steps 1 (c' := (8, [(0, .ref 0), (1, .int (xs 1))], [], x_h0, 0, 0)) rfl ?_
      refine x_R.steps 1 (c' := (9, [(0, .ref 0), (1, .int (xs 1))], [.int 0], x_h0, 0, 0)) rfl ?_
      refine x_R.ret (v := some (.int 0)) rfl ?_
      refine x_R.steps 0 (c' := (5, [(0, .ref 0), (1, .int (xs 1)), (2, .int (xs 2))], [.int 0], x_h0, 0, 0)) rfl ?_
      refine x_R.steps 1 (c' := (8, [(0, .ref 0), (1, .int (xs 1)), (2, .int (xs 2))], [], x_h0, 0, 0)) rfl ?_
      refine x_R.steps 1 (c' := (10, [(0, .ref 0), (1, .int (xs 1)), (2, .int (xs 2))], [.int (-2)], x_h0, 0, 0)) rfl ?_
      refine x_R.ret (v := some (.int (-2))) rfl ?_
      refine x_R.steps 0 (c' := (790, [(3, .int 0), (2, .ref 75), (1, .ref 0), (0, .ref x_scr)], [.int (-2)], x_h0, 98, 10728)) rfl ?_
      refine x_R.steps 5 (c' := (795, [(3, .int 0), (2, .ref 75), (1, .ref 0), (0, .ref x_scr)], [.int 1, .ref x_scr, .ref 75, .int (-2)], x_h0, 98, 10728)) rfl ?_
      refine x_R.steps 1 (c' := (796, [(3, .int 0), (2, .ref 75), (1, .ref 0), (0, .ref x_scr)], [.int (xs 1), .ref 75, .int (-2)], x_h0, 98, 10728)) rfl ?_
      refine x_R.steps 4 (c' := (800, [(3, .int 0), (2, .ref 75), (1, .ref 0), (0, .ref x_scr)], [.int 2, .ref x_scr, .int (xs 1), .ref 75, .int (-2)], x_h0, 98, 10728)) rfl ?_
      refine x_R.steps 1 (c' := (801, [(3, .int 0), (2, .ref 75), (1, .ref 0), (0, .ref x_scr)], [.int (xs 2), .int (xs 1), .ref 75, .int (-2)], x_h0, 98, 10728)) rfl ?_
      refine x_R.call (a := 262) (vs := [.ref 75, .int (xs 1), .int (xs 2)]) (rest := [.int (-2)]) (M' := M_cX12_twice) rfl rfl rfl ?_
      refine x_R.steps 2 (c' := (2, [(0, .ref 75), (1, .int (xs 1)), (2, .int (xs 2))], [.int (xs 1), .ref 75], x_h0, 0, 0)) rfl ?_
      refine x_R.call (a := 205) (vs := [.ref 75, .int (xs 1)]) (rest := []) (M' := M_cX12_isPlayer) rfl rfl rfl ?_
      refine x_R.steps 6 (c' := (9, [(0, .ref 75), (1, .int (xs 1))], [.int 6, .ref 76, .long 0, .long ((xs 1)).toInt64], x_h0, 0, 0)) rfl ?_
      refine x_R.steps 1 (c' := (10, [(0, .ref 75), (1, .int (xs 1))], [.int 0, .long 0, .long ((xs 1)).toInt64], x_h0, 0, 0)) rfl ?_
      refine x_R.steps 3 (c' := (13, [(0, .ref 75), (1, .int (xs 1))], [.long (-1), .long 0, .long ((xs 1)).toInt64], x_h0, 0, 0)) rfl ?_
      refine x_R.call (a := 196) (vs := [.long ((xs 1)).toInt64, .long 0, .long (-1)]) (rest := []) (M' := M_cX12_in) rfl rfl rfl ?_
      refine x_R.steps 3 (c' := (3, [(0, .long ((xs 1)).toInt64), (2, .long 0), (4, .long (-1))], [.int (lg_cmp ((xs 1)).toInt64 0)], x_h0, 0, 0)) rfl ?_
      refine x_R.ite (p := (lg_cmp ((xs 1)).toInt64 0) < (0 : Int32)) (c1 := (17, [(0, .long ((xs 1)).toInt64), (2, .long 0), (4, .long (-1))], [], x_h0, 0, 0)) (c2 := (6, [(0, .long ((xs 1)).toInt64), (2, .long 0), (4, .long (-1))], [], x_h0, 0, 0)) rfl (fun h4 => ?_) (fun h4 => ?_)
      · have g4 := (x_lg_lt (C := 0) (by decide)).mp h4
        exfalso; omega
      · have g4 := mt (x_lg_lt (C := 0) (by decide)).mpr h4
        refine x_R.steps 3 (c' := (10, [(0, .long ((xs 1)).toInt64), (2, .long 0), (4, .long (-1))], [.int (lg_cmp ((xs 1)).toInt64 (-1))], x_h0, 0, 0)) rfl ?_
        refine x_R.ite (p := (0 : Int32) < (lg_cmp ((xs 1)).toInt64 (-1))) (c1 := (17, [(0, .long ((xs 1)).toInt64), (2, .long 0), (4, .long (-1))], [], x_h0, 0, 0)) (c2 := (13, [(0, .long ((xs 1)).toInt64), (2, .long 0), (4, .long (-1))], [], x_h0, 0, 0)) rfl (fun h5 => ?_) (fun h5 => ?_)
        · have g5 := (x_lg_gt (C := -1) (by decide)).mp h5
          refine x_R.steps 1 (c' := (18, [(0, .long ((xs 1)).toInt64), (2, .long 0), (4, .long (-1))], [.int 0], x_h0, 0, 0)) rfl ?_
          refine x_R.ret (v := some (.int 0)) rfl ?_
          refine x_R.steps 0 (c' := (16, [(0, .ref 75), (1, .int (xs 1))], [.int 0], x_h0, 0, 0)) rfl ?_
          refine x_R.ret (v := some (.int 0)) rfl ?_
          refine x_R.steps 0 (c' := (5, [(0, .ref 75), (1, .int (xs 1)), (2, .int (xs 2))], [.int 0], x_h0, 0, 0)) rfl ?_
          refine x_R.steps 1 (c' := (8, [(0, .ref 75), (1, .int (xs 1)), (2, .int (xs 2))], [], x_h0, 0, 0)) rfl ?_
          refine x_R.steps 1 (c' := (10, [(0, .ref 75), (1, .int (xs 1)), (2, .int (xs 2))], [.int (-2)], x_h0, 0, 0)) rfl ?_
          refine x_R.ret (v := some (.int (-2))) rfl ?_
          refine x_R.steps 0 (c' := (804, [(3, .int 0), (2, .ref 75), (1, .ref 0), (0, .ref x_scr)], [.int (-2), .int (-2)], x_h0, 98, 10728)) rfl ?_
          refine x_R.steps 1 (c' := (2370, [(3, .int 0), (2, .ref 75), (1, .ref 0), (0, .ref x_scr)], [], x_h0, 98, 10728)) rfl ?_
          refine x_R.steps 7 (c' := (24, [(3, .int 6), (2, .ref 75), (1, .ref 0), (0, .ref x_scr)], [.int 0, .int 6], x_h0, 98, 10728)) rfl ?_
          refine x_R.steps 1 (c' := (2376, [(3, .int 6), (2, .ref 75), (1, .ref 0), (0, .ref x_scr)], [], x_h0, 98, 10728)) rfl ?_
          refine x_R.steps 1 (c' := (2377, [(3, .int 6), (2, .ref 75), (1, .ref 0), (0, .ref x_scr)], [.int 1], x_h0, 98, 10728)) rfl ?_
          exact x_R.ret (v := some (.int 1)) rfl x_fin
        · have g5 := mt (x_lg_gt (C := -1) (by decide)).mpr h5
          exfalso; omega
    · have g3 := mt (x_i_ge (C := 0) (by decide)).mpr h3
      exfalso; omega
