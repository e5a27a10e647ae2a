/-! ===== the law, piece by piece ===== -/
set_option maxRecDepth 100000 in
theorem x_c23a (h : xH) (L : Nat) (xs : Nat → Int32) (i : Int32) (h0 : ¬ (i < 0 ∨ L ≤ (i).toNatClampNeg)) (h1 : ¬ (i + 1 < 0 ∨ L ≤ (i + 1).toNatClampNeg)) (h2 : ¬ (i + 2 < 0 ∨ L ≤ (i + 2).toNatClampNeg)) (h3 : ¬ (i + 3 < 0 ∨ L ≤ (i + 3).toNatClampNeg)) (h4 : ¬ (i + 4 < 0 ∨ L ≤ (i + 4).toNatClampNeg)) (h5 : ¬ (i + 5 < 0 ∨ L ≤ (i + 5).toNatClampNeg)) {P : Option Value × xH × Nat × Nat → Prop} (kk : x_R x_mt (some (L, xs)) 10 M_law (983, [(3, .int i), (2, .ref 75), (1, .ref 0), (0, .ref x_scr)], [.int (xs ((i + 1)).toNatClampNeg), .ref 0], h, 98, 10728) P) : x_R x_mt (some (L, xs)) 10 M_law (977, [(3, .int i), (2, .ref 75), (1, .ref 0), (0, .ref x_scr)], [], h, 98, 10728) P := by
  refine x_R.steps 5 (c' := (982, [(3, .int i), (2, .ref 75), (1, .ref 0), (0, .ref x_scr)], [.int (i + 1), .ref x_scr, .ref 0], h, 98, 10728)) rfl ?_
  refine j_Rsld (c' := (983, [(3, .int i), (2, .ref 75), (1, .ref 0), (0, .ref x_scr)], [.int (xs ((i + 1)).toNatClampNeg), .ref 0], h, 98, 10728)) rfl h1 ?_
  exact kk

set_option maxRecDepth 100000 in
theorem x_c23b (h : xH) (L : Nat) (xs : Nat → Int32) (i : Int32) (h0 : ¬ (i < 0 ∨ L ≤ (i).toNatClampNeg)) (h1 : ¬ (i + 1 < 0 ∨ L ≤ (i + 1).toNatClampNeg)) (h2 : ¬ (i + 2 < 0 ∨ L ≤ (i + 2).toNatClampNeg)) (h3 : ¬ (i + 3 < 0 ∨ L ≤ (i + 3).toNatClampNeg)) (h4 : ¬ (i + 4 < 0 ∨ L ≤ (i + 4).toNatClampNeg)) (h5 : ¬ (i + 5 < 0 ∨ L ≤ (i + 5).toNatClampNeg)) (v : Int32) {P : Option Value × xH × Nat × Nat → Prop} (kk : x_R x_mt (some (L, xs)) 10 M_law (993, [(3, .int i), (2, .ref 75), (1, .ref 0), (0, .ref x_scr)], [.int (xs ((i + 1)).toNatClampNeg), .ref 75], h, 98, 10728) P) : x_R x_mt (some (L, xs)) 10 M_law (986, [(3, .int i), (2, .ref 75), (1, .ref 0), (0, .ref x_scr)], [.int v], h, 98, 10728) P := by
  refine x_R.steps 6 (c' := (992, [(3, .int i), (2, .ref 75), (1, .ref 0), (0, .ref x_scr)], [.int (i + 1), .ref x_scr, .ref 75], h, 98, 10728)) rfl ?_
  refine j_Rsld (c' := (993, [(3, .int i), (2, .ref 75), (1, .ref 0), (0, .ref x_scr)], [.int (xs ((i + 1)).toNatClampNeg), .ref 75], h, 98, 10728)) rfl h1 ?_
  exact kk

set_option maxRecDepth 100000 in
theorem x_c23d (h : xH) (L : Nat) (xs : Nat → Int32) (i : Int32) (h0 : ¬ (i < 0 ∨ L ≤ (i).toNatClampNeg)) (h1 : ¬ (i + 1 < 0 ∨ L ≤ (i + 1).toNatClampNeg)) (h2 : ¬ (i + 2 < 0 ∨ L ≤ (i + 2).toNatClampNeg)) (h3 : ¬ (i + 3 < 0 ∨ L ≤ (i + 3).toNatClampNeg)) (h4 : ¬ (i + 4 < 0 ∨ L ≤ (i + 4).toNatClampNeg)) (h5 : ¬ (i + 5 < 0 ∨ L ≤ (i + 5).toNatClampNeg)) (w : Int32) {P : Option Value × xH × Nat × Nat → Prop} (kk : x_R x_mt (some (L, xs)) 10 M_law (18, [(3, .int (i + Int32.ofInt (6))), (2, .ref 75), (1, .ref 0), (0, .ref x_scr)], [], h, 98, 10728) P) : x_R x_mt (some (L, xs)) 10 M_law (996, [(3, .int i), (2, .ref 75), (1, .ref 0), (0, .ref x_scr)], [.int w], h, 98, 10728) P := by
  refine x_R.steps 4 (c' := (18, [(3, .int (i + Int32.ofInt (6))), (2, .ref 75), (1, .ref 0), (0, .ref x_scr)], [], h, 98, 10728)) rfl ?_
  exact kk

set_option maxRecDepth 100000 in
theorem x_c24a (h : xH) (L : Nat) (xs : Nat → Int32) (i : Int32) (h0 : ¬ (i < 0 ∨ L ≤ (i).toNatClampNeg)) (h1 : ¬ (i + 1 < 0 ∨ L ≤ (i + 1).toNatClampNeg)) (h2 : ¬ (i + 2 < 0 ∨ L ≤ (i + 2).toNatClampNeg)) (h3 : ¬ (i + 3 < 0 ∨ L ≤ (i + 3).toNatClampNeg)) (h4 : ¬ (i + 4 < 0 ∨ L ≤ (i + 4).toNatClampNeg)) (h5 : ¬ (i + 5 < 0 ∨ L ≤ (i + 5).toNatClampNeg)) {P : Option Value × xH × Nat × Nat → Prop} (kk : x_R x_mt (some (L, xs)) 10 M_law (1011, [(3, .int i), (2, .ref 75), (1, .ref 0), (0, .ref x_scr)], [.int (xs ((i + 2)).toNatClampNeg), .int (xs ((i + 1)).toNatClampNeg), .ref 0], h, 98, 10728) P) : x_R x_mt (some (L, xs)) 10 M_law (1000, [(3, .int i), (2, .ref 75), (1, .ref 0), (0, .ref x_scr)], [], h, 98, 10728) P := by
  refine x_R.steps 5 (c' := (1005, [(3, .int i), (2, .ref 75), (1, .ref 0), (0, .ref x_scr)], [.int (i + 1), .ref x_scr, .ref 0], h, 98, 10728)) rfl ?_
  refine j_Rsld (c' := (1006, [(3, .int i), (2, .ref 75), (1, .ref 0), (0, .ref x_scr)], [.int (xs ((i + 1)).toNatClampNeg), .ref 0], h, 98, 10728)) rfl h1 ?_
  refine x_R.steps 4 (c' := (1010, [(3, .int i), (2, .ref 75), (1, .ref 0), (0, .ref x_scr)], [.int (i + 2), .ref x_scr, .int (xs ((i + 1)).toNatClampNeg), .ref 0], h, 98, 10728)) rfl ?_
  refine j_Rsld (c' := (1011, [(3, .int i), (2, .ref 75), (1, .ref 0), (0, .ref x_scr)], [.int (xs ((i + 2)).toNatClampNeg), .int (xs ((i + 1)).toNatClampNeg), .ref 0], h, 98, 10728)) rfl h2 ?_
  exact kk

set_option maxRecDepth 100000 in
theorem x_c24b (h : xH) (L : Nat) (xs : Nat → Int32) (i : Int32) (h0 : ¬ (i < 0 ∨ L ≤ (i).toNatClampNeg)) (h1 : ¬ (i + 1 < 0 ∨ L ≤ (i + 1).toNatClampNeg)) (h2 : ¬ (i + 2 < 0 ∨ L ≤ (i + 2).toNatClampNeg)) (h3 : ¬ (i + 3 < 0 ∨ L ≤ (i + 3).toNatClampNeg)) (h4 : ¬ (i + 4 < 0 ∨ L ≤ (i + 4).toNatClampNeg)) (h5 : ¬ (i + 5 < 0 ∨ L ≤ (i + 5).toNatClampNeg)) (v : Int32) {P : Option Value × xH × Nat × Nat → Prop} (kk : x_R x_mt (some (L, xs)) 10 M_law (1026, [(3, .int i), (2, .ref 75), (1, .ref 0), (0, .ref x_scr)], [.int (xs ((i + 2)).toNatClampNeg), .int (xs ((i + 1)).toNatClampNeg), .ref 75], h, 98, 10728) P) : x_R x_mt (some (L, xs)) 10 M_law (1014, [(3, .int i), (2, .ref 75), (1, .ref 0), (0, .ref x_scr)], [.int v], h, 98, 10728) P := by
  refine x_R.steps 6 (c' := (1020, [(3, .int i), (2, .ref 75), (1, .ref 0), (0, .ref x_scr)], [.int (i + 1), .ref x_scr, .ref 75], h, 98, 10728)) rfl ?_
  refine j_Rsld (c' := (1021, [(3, .int i), (2, .ref 75), (1, .ref 0), (0, .ref x_scr)], [.int (xs ((i + 1)).toNatClampNeg), .ref 75], h, 98, 10728)) rfl h1 ?_
  refine x_R.steps 4 (c' := (1025, [(3, .int i), (2, .ref 75), (1, .ref 0), (0, .ref x_scr)], [.int (i + 2), .ref x_scr, .int (xs ((i + 1)).toNatClampNeg), .ref 75], h, 98, 10728)) rfl ?_
  refine j_Rsld (c' := (1026, [(3, .int i), (2, .ref 75), (1, .ref 0), (0, .ref x_scr)], [.int (xs ((i + 2)).toNatClampNeg), .int (xs ((i + 1)).toNatClampNeg), .ref 75], h, 98, 10728)) rfl h2 ?_
  exact kk

set_option maxRecDepth 100000 in
theorem x_c24d (h : xH) (L : Nat) (xs : Nat → Int32) (i : Int32) (h0 : ¬ (i < 0 ∨ L ≤ (i).toNatClampNeg)) (h1 : ¬ (i + 1 < 0 ∨ L ≤ (i + 1).toNatClampNeg)) (h2 : ¬ (i + 2 < 0 ∨ L ≤ (i + 2).toNatClampNeg)) (h3 : ¬ (i + 3 < 0 ∨ L ≤ (i + 3).toNatClampNeg)) (h4 : ¬ (i + 4 < 0 ∨ L ≤ (i + 4).toNatClampNeg)) (h5 : ¬ (i + 5 < 0 ∨ L ≤ (i + 5).toNatClampNeg)) (w : Int32) {P : Option Value × xH × Nat × Nat → Prop} (kk : x_R x_mt (some (L, xs)) 10 M_law (18, [(3, .int (i + Int32.ofInt (6))), (2, .ref 75), (1, .ref 0), (0, .ref x_scr)], [], h, 98, 10728) P) : x_R x_mt (some (L, xs)) 10 M_law (1029, [(3, .int i), (2, .ref 75), (1, .ref 0), (0, .ref x_scr)], [.int w], h, 98, 10728) P := by
  refine x_R.steps 4 (c' := (18, [(3, .int (i + Int32.ofInt (6))), (2, .ref 75), (1, .ref 0), (0, .ref x_scr)], [], h, 98, 10728)) rfl ?_
  exact kk

set_option maxRecDepth 100000 in
theorem x_c25a (h : xH) (L : Nat) (xs : Nat → Int32) (i : Int32) (h0 : ¬ (i < 0 ∨ L ≤ (i).toNatClampNeg)) (h1 : ¬ (i + 1 < 0 ∨ L ≤ (i + 1).toNatClampNeg)) (h2 : ¬ (i + 2 < 0 ∨ L ≤ (i + 2).toNatClampNeg)) (h3 : ¬ (i + 3 < 0 ∨ L ≤ (i + 3).toNatClampNeg)) (h4 : ¬ (i + 4 < 0 ∨ L ≤ (i + 4).toNatClampNeg)) (h5 : ¬ (i + 5 < 0 ∨ L ≤ (i + 5).toNatClampNeg)) {P : Option Value × xH × Nat × Nat → Prop} (kk : x_R x_mt (some (L, xs)) 10 M_law (1044, [(3, .int i), (2, .ref 75), (1, .ref 0), (0, .ref x_scr)], [.int (xs ((i + 2)).toNatClampNeg), .int (xs ((i + 1)).toNatClampNeg), .ref 0], h, 98, 10728) P) : x_R x_mt (some (L, xs)) 10 M_law (1033, [(3, .int i), (2, .ref 75), (1, .ref 0), (0, .ref x_scr)], [], h, 98, 10728) P := by
  refine x_R.steps 5 (c' := (1038, [(3, .int i), (2, .ref 75), (1, .ref 0), (0, .ref x_scr)], [.int (i + 1), .ref x_scr, .ref 0], h, 98, 10728)) rfl ?_
  refine j_Rsld (c' := (1039, [(3, .int i), (2, .ref 75), (1, .ref 0), (0, .ref x_scr)], [.int (xs ((i + 1)).toNatClampNeg), .ref 0], h, 98, 10728)) rfl h1 ?_
  refine x_R.steps 4 (c' := (1043, [(3, .int i), (2, .ref 75), (1, .ref 0), (0, .ref x_scr)], [.int (i + 2), .ref x_scr, .int (xs ((i + 1)).toNatClampNeg), .ref 0], h, 98, 10728)) rfl ?_
  refine j_Rsld (c' := (1044, [(3, .int i), (2, .ref 75), (1, .ref 0), (0, .ref x_scr)], [.int (xs ((i + 2)).toNatClampNeg), .int (xs ((i + 1)).toNatClampNeg), .ref 0], h, 98, 10728)) rfl h2 ?_
  exact kk

set_option maxRecDepth 100000 in
theorem x_c25b (h : xH) (L : Nat) (xs : Nat → Int32) (i : Int32) (h0 : ¬ (i < 0 ∨ L ≤ (i).toNatClampNeg)) (h1 : ¬ (i + 1 < 0 ∨ L ≤ (i + 1).toNatClampNeg)) (h2 : ¬ (i + 2 < 0 ∨ L ≤ (i + 2).toNatClampNeg)) (h3 : ¬ (i + 3 < 0 ∨ L ≤ (i + 3).toNatClampNeg)) (h4 : ¬ (i + 4 < 0 ∨ L ≤ (i + 4).toNatClampNeg)) (h5 : ¬ (i + 5 < 0 ∨ L ≤ (i + 5).toNatClampNeg)) (v : Int32) {P : Option Value × xH × Nat × Nat → Prop} (kk : x_R x_mt (some (L, xs)) 10 M_law (1059, [(3, .int i), (2, .ref 75), (1, .ref 0), (0, .ref x_scr)], [.int (xs ((i + 2)).toNatClampNeg), .int (xs ((i + 1)).toNatClampNeg), .ref 75], h, 98, 10728) P) : x_R x_mt (some (L, xs)) 10 M_law (1047, [(3, .int i), (2, .ref 75), (1, .ref 0), (0, .ref x_scr)], [.int v], h, 98, 10728) P := by
  refine x_R.steps 6 (c' := (1053, [(3, .int i), (2, .ref 75), (1, .ref 0), (0, .ref x_scr)], [.int (i + 1), .ref x_scr, .ref 75], h, 98, 10728)) rfl ?_
  refine j_Rsld (c' := (1054, [(3, .int i), (2, .ref 75), (1, .ref 0), (0, .ref x_scr)], [.int (xs ((i + 1)).toNatClampNeg), .ref 75], h, 98, 10728)) rfl h1 ?_
  refine x_R.steps 4 (c' := (1058, [(3, .int i), (2, .ref 75), (1, .ref 0), (0, .ref x_scr)], [.int (i + 2), .ref x_scr, .int (xs ((i + 1)).toNatClampNeg), .ref 75], h, 98, 10728)) rfl ?_
  refine j_Rsld (c' := (1059, [(3, .int i), (2, .ref 75), (1, .ref 0), (0, .ref x_scr)], [.int (xs ((i + 2)).toNatClampNeg), .int (xs ((i + 1)).toNatClampNeg), .ref 75], h, 98, 10728)) rfl h2 ?_
  exact kk

set_option maxRecDepth 100000 in
theorem x_c25d (h : xH) (L : Nat) (xs : Nat → Int32) (i : Int32) (h0 : ¬ (i < 0 ∨ L ≤ (i).toNatClampNeg)) (h1 : ¬ (i + 1 < 0 ∨ L ≤ (i + 1).toNatClampNeg)) (h2 : ¬ (i + 2 < 0 ∨ L ≤ (i + 2).toNatClampNeg)) (h3 : ¬ (i + 3 < 0 ∨ L ≤ (i + 3).toNatClampNeg)) (h4 : ¬ (i + 4 < 0 ∨ L ≤ (i + 4).toNatClampNeg)) (h5 : ¬ (i + 5 < 0 ∨ L ≤ (i + 5).toNatClampNeg)) (w : Int32) {P : Option Value × xH × Nat × Nat → Prop} (kk : x_R x_mt (some (L, xs)) 10 M_law (18, [(3, .int (i + Int32.ofInt (6))), (2, .ref 75), (1, .ref 0), (0, .ref x_scr)], [], h, 98, 10728) P) : x_R x_mt (some (L, xs)) 10 M_law (1062, [(3, .int i), (2, .ref 75), (1, .ref 0), (0, .ref x_scr)], [.int w], h, 98, 10728) P := by
  refine x_R.steps 4 (c' := (18, [(3, .int (i + Int32.ofInt (6))), (2, .ref 75), (1, .ref 0), (0, .ref x_scr)], [], h, 98, 10728)) rfl ?_
  exact kk

set_option maxRecDepth 100000 in
theorem x_c26a (h : xH) (L : Nat) (xs : Nat → Int32) (i : Int32) (h0 : ¬ (i < 0 ∨ L ≤ (i).toNatClampNeg)) (h1 : ¬ (i + 1 < 0 ∨ L ≤ (i + 1).toNatClampNeg)) (h2 : ¬ (i + 2 < 0 ∨ L ≤ (i + 2).toNatClampNeg)) (h3 : ¬ (i + 3 < 0 ∨ L ≤ (i + 3).toNatClampNeg)) (h4 : ¬ (i + 4 < 0 ∨ L ≤ (i + 4).toNatClampNeg)) (h5 : ¬ (i + 5 < 0 ∨ L ≤ (i + 5).toNatClampNeg)) {P : Option Value × xH × Nat × Nat → Prop} (kk : x_R x_mt (some (L, xs)) 10 M_law (1072, [(3, .int i), (2, .ref 75), (1, .ref 0), (0, .ref x_scr)], [.int (xs ((i + 1)).toNatClampNeg), .ref 0], h, 98, 10728) P) : x_R x_mt (some (L, xs)) 10 M_law (1066, [(3, .int i), (2, .ref 75), (1, .ref 0), (0, .ref x_scr)], [], h, 98, 10728) P := by
  refine x_R.steps 5 (c' := (1071, [(3, .int i), (2, .ref 75), (1, .ref 0), (0, .ref x_scr)], [.int (i + 1), .ref x_scr, .ref 0], h, 98, 10728)) rfl ?_
  refine j_Rsld (c' := (1072, [(3, .int i), (2, .ref 75), (1, .ref 0), (0, .ref x_scr)], [.int (xs ((i + 1)).toNatClampNeg), .ref 0], h, 98, 10728)) rfl h1 ?_
  exact kk

set_option maxRecDepth 100000 in
theorem x_c26b (h : xH) (L : Nat) (xs : Nat → Int32) (i : Int32) (h0 : ¬ (i < 0 ∨ L ≤ (i).toNatClampNeg)) (h1 : ¬ (i + 1 < 0 ∨ L ≤ (i + 1).toNatClampNeg)) (h2 : ¬ (i + 2 < 0 ∨ L ≤ (i + 2).toNatClampNeg)) (h3 : ¬ (i + 3 < 0 ∨ L ≤ (i + 3).toNatClampNeg)) (h4 : ¬ (i + 4 < 0 ∨ L ≤ (i + 4).toNatClampNeg)) (h5 : ¬ (i + 5 < 0 ∨ L ≤ (i + 5).toNatClampNeg)) (v : Int32) {P : Option Value × xH × Nat × Nat → Prop} (kk : x_R x_mt (some (L, xs)) 10 M_law (1082, [(3, .int i), (2, .ref 75), (1, .ref 0), (0, .ref x_scr)], [.int (xs ((i + 1)).toNatClampNeg), .ref 75], h, 98, 10728) P) : x_R x_mt (some (L, xs)) 10 M_law (1075, [(3, .int i), (2, .ref 75), (1, .ref 0), (0, .ref x_scr)], [.int v], h, 98, 10728) P := by
  refine x_R.steps 6 (c' := (1081, [(3, .int i), (2, .ref 75), (1, .ref 0), (0, .ref x_scr)], [.int (i + 1), .ref x_scr, .ref 75], h, 98, 10728)) rfl ?_
  refine j_Rsld (c' := (1082, [(3, .int i), (2, .ref 75), (1, .ref 0), (0, .ref x_scr)], [.int (xs ((i + 1)).toNatClampNeg), .ref 75], h, 98, 10728)) rfl h1 ?_
  exact kk

set_option maxRecDepth 100000 in
theorem x_c26d (h : xH) (L : Nat) (xs : Nat → Int32) (i : Int32) (h0 : ¬ (i < 0 ∨ L ≤ (i).toNatClampNeg)) (h1 : ¬ (i + 1 < 0 ∨ L ≤ (i + 1).toNatClampNeg)) (h2 : ¬ (i + 2 < 0 ∨ L ≤ (i + 2).toNatClampNeg)) (h3 : ¬ (i + 3 < 0 ∨ L ≤ (i + 3).toNatClampNeg)) (h4 : ¬ (i + 4 < 0 ∨ L ≤ (i + 4).toNatClampNeg)) (h5 : ¬ (i + 5 < 0 ∨ L ≤ (i + 5).toNatClampNeg)) (w : Int32) {P : Option Value × xH × Nat × Nat → Prop} (kk : x_R x_mt (some (L, xs)) 10 M_law (18, [(3, .int (i + Int32.ofInt (6))), (2, .ref 75), (1, .ref 0), (0, .ref x_scr)], [], h, 98, 10728) P) : x_R x_mt (some (L, xs)) 10 M_law (1085, [(3, .int i), (2, .ref 75), (1, .ref 0), (0, .ref x_scr)], [.int w], h, 98, 10728) P := by
  refine x_R.steps 4 (c' := (18, [(3, .int (i + Int32.ofInt (6))), (2, .ref 75), (1, .ref 0), (0, .ref x_scr)], [], h, 98, 10728)) rfl ?_
  exact kk

set_option maxRecDepth 100000 in
theorem x_c27a (h : xH) (L : Nat) (xs : Nat → Int32) (i : Int32) (h0 : ¬ (i < 0 ∨ L ≤ (i).toNatClampNeg)) (h1 : ¬ (i + 1 < 0 ∨ L ≤ (i + 1).toNatClampNeg)) (h2 : ¬ (i + 2 < 0 ∨ L ≤ (i + 2).toNatClampNeg)) (h3 : ¬ (i + 3 < 0 ∨ L ≤ (i + 3).toNatClampNeg)) (h4 : ¬ (i + 4 < 0 ∨ L ≤ (i + 4).toNatClampNeg)) (h5 : ¬ (i + 5 < 0 ∨ L ≤ (i + 5).toNatClampNeg)) {P : Option Value × xH × Nat × Nat → Prop} (kk : x_R x_mt (some (L, xs)) 10 M_law (1100, [(3, .int i), (2, .ref 75), (1, .ref 0), (0, .ref x_scr)], [.int (xs ((i + 2)).toNatClampNeg), .int (xs ((i + 1)).toNatClampNeg), .ref 0], h, 98, 10728) P) : x_R x_mt (some (L, xs)) 10 M_law (1089, [(3, .int i), (2, .ref 75), (1, .ref 0), (0, .ref x_scr)], [], h, 98, 10728) P := by
  refine x_R.steps 5 (c' := (1094, [(3, .int i), (2, .ref 75), (1, .ref 0), (0, .ref x_scr)], [.int (i + 1), .ref x_scr, .ref 0], h, 98, 10728)) rfl ?_
  refine j_Rsld (c' := (1095, [(3, .int i), (2, .ref 75), (1, .ref 0), (0, .ref x_scr)], [.int (xs ((i + 1)).toNatClampNeg), .ref 0], h, 98, 10728)) rfl h1 ?_
  refine x_R.steps 4 (c' := (1099, [(3, .int i), (2, .ref 75), (1, .ref 0), (0, .ref x_scr)], [.int (i + 2), .ref x_scr, .int (xs ((i + 1)).toNatClampNeg), .ref 0], h, 98, 10728)) rfl ?_
  refine j_Rsld (c' := (1100, [(3, .int i), (2, .ref 75), (1, .ref 0), (0, .ref x_scr)], [.int (xs ((i + 2)).toNatClampNeg), .int (xs ((i + 1)).toNatClampNeg), .ref 0], h, 98, 10728)) rfl h2 ?_
  exact kk

set_option maxRecDepth 100000 in
theorem x_c27b (h : xH) (L : Nat) (xs : Nat → Int32) (i : Int32) (h0 : ¬ (i < 0 ∨ L ≤ (i).toNatClampNeg)) (h1 : ¬ (i + 1 < 0 ∨ L ≤ (i + 1).toNatClampNeg)) (h2 : ¬ (i + 2 < 0 ∨ L ≤ (i + 2).toNatClampNeg)) (h3 : ¬ (i + 3 < 0 ∨ L ≤ (i + 3).toNatClampNeg)) (h4 : ¬ (i + 4 < 0 ∨ L ≤ (i + 4).toNatClampNeg)) (h5 : ¬ (i + 5 < 0 ∨ L ≤ (i + 5).toNatClampNeg)) (v : Int32) {P : Option Value × xH × Nat × Nat → Prop} (kk : x_R x_mt (some (L, xs)) 10 M_law (1115, [(3, .int i), (2, .ref 75), (1, .ref 0), (0, .ref x_scr)], [.int (xs ((i + 2)).toNatClampNeg), .int (xs ((i + 1)).toNatClampNeg), .ref 75], h, 98, 10728) P) : x_R x_mt (some (L, xs)) 10 M_law (1103, [(3, .int i), (2, .ref 75), (1, .ref 0), (0, .ref x_scr)], [.int v], h, 98, 10728) P := by
  refine x_R.steps 6 (c' := (1109, [(3, .int i), (2, .ref 75), (1, .ref 0), (0, .ref x_scr)], [.int (i + 1), .ref x_scr, .ref 75], h, 98, 10728)) rfl ?_
  refine j_Rsld (c' := (1110, [(3, .int i), (2, .ref 75), (1, .ref 0), (0, .ref x_scr)], [.int (xs ((i + 1)).toNatClampNeg), .ref 75], h, 98, 10728)) rfl h1 ?_
  refine x_R.steps 4 (c' := (1114, [(3, .int i), (2, .ref 75), (1, .ref 0), (0, .ref x_scr)], [.int (i + 2), .ref x_scr, .int (xs ((i + 1)).toNatClampNeg), .ref 75], h, 98, 10728)) rfl ?_
  refine j_Rsld (c' := (1115, [(3, .int i), (2, .ref 75), (1, .ref 0), (0, .ref x_scr)], [.int (xs ((i + 2)).toNatClampNeg), .int (xs ((i + 1)).toNatClampNeg), .ref 75], h, 98, 10728)) rfl h2 ?_
  exact kk

set_option maxRecDepth 100000 in
theorem x_c27d (h : xH) (L : Nat) (xs : Nat → Int32) (i : Int32) (h0 : ¬ (i < 0 ∨ L ≤ (i).toNatClampNeg)) (h1 : ¬ (i + 1 < 0 ∨ L ≤ (i + 1).toNatClampNeg)) (h2 : ¬ (i + 2 < 0 ∨ L ≤ (i + 2).toNatClampNeg)) (h3 : ¬ (i + 3 < 0 ∨ L ≤ (i + 3).toNatClampNeg)) (h4 : ¬ (i + 4 < 0 ∨ L ≤ (i + 4).toNatClampNeg)) (h5 : ¬ (i + 5 < 0 ∨ L ≤ (i + 5).toNatClampNeg)) (w : Int32) {P : Option Value × xH × Nat × Nat → Prop} (kk : x_R x_mt (some (L, xs)) 10 M_law (18, [(3, .int (i + Int32.ofInt (6))), (2, .ref 75), (1, .ref 0), (0, .ref x_scr)], [], h, 98, 10728) P) : x_R x_mt (some (L, xs)) 10 M_law (1118, [(3, .int i), (2, .ref 75), (1, .ref 0), (0, .ref x_scr)], [.int w], h, 98, 10728) P := by
  refine x_R.steps 4 (c' := (18, [(3, .int (i + Int32.ofInt (6))), (2, .ref 75), (1, .ref 0), (0, .ref x_scr)], [], h, 98, 10728)) rfl ?_
  exact kk

set_option maxRecDepth 100000 in
theorem x_c28a (h : xH) (L : Nat) (xs : Nat → Int32) (i : Int32) (h0 : ¬ (i < 0 ∨ L ≤ (i).toNatClampNeg)) (h1 : ¬ (i + 1 < 0 ∨ L ≤ (i + 1).toNatClampNeg)) (h2 : ¬ (i + 2 < 0 ∨ L ≤ (i + 2).toNatClampNeg)) (h3 : ¬ (i + 3 < 0 ∨ L ≤ (i + 3).toNatClampNeg)) (h4 : ¬ (i + 4 < 0 ∨ L ≤ (i + 4).toNatClampNeg)) (h5 : ¬ (i + 5 < 0 ∨ L ≤ (i + 5).toNatClampNeg)) {P : Option Value × xH × Nat × Nat → Prop} (kk : x_R x_mt (some (L, xs)) 10 M_law (1128, [(3, .int i), (2, .ref 75), (1, .ref 0), (0, .ref x_scr)], [.int (xs ((i + 1)).toNatClampNeg), .ref 0], h, 98, 10728) P) : x_R x_mt (some (L, xs)) 10 M_law (1122, [(3, .int i), (2, .ref 75), (1, .ref 0), (0, .ref x_scr)], [], h, 98, 10728) P := by
  refine x_R.steps 5 (c' := (1127, [(3, .int i), (2, .ref 75), (1, .ref 0), (0, .ref x_scr)], [.int (i + 1), .ref x_scr, .ref 0], h, 98, 10728)) rfl ?_
  refine j_Rsld (c' := (1128, [(3, .int i), (2, .ref 75), (1, .ref 0), (0, .ref x_scr)], [.int (xs ((i + 1)).toNatClampNeg), .ref 0], h, 98, 10728)) rfl h1 ?_
  exact kk

set_option maxRecDepth 100000 in
theorem x_c28b (h : xH) (L : Nat) (xs : Nat → Int32) (i : Int32) (h0 : ¬ (i < 0 ∨ L ≤ (i).toNatClampNeg)) (h1 : ¬ (i + 1 < 0 ∨ L ≤ (i + 1).toNatClampNeg)) (h2 : ¬ (i + 2 < 0 ∨ L ≤ (i + 2).toNatClampNeg)) (h3 : ¬ (i + 3 < 0 ∨ L ≤ (i + 3).toNatClampNeg)) (h4 : ¬ (i + 4 < 0 ∨ L ≤ (i + 4).toNatClampNeg)) (h5 : ¬ (i + 5 < 0 ∨ L ≤ (i + 5).toNatClampNeg)) (v : Int32) {P : Option Value × xH × Nat × Nat → Prop} (kk : x_R x_mt (some (L, xs)) 10 M_law (1138, [(3, .int i), (2, .ref 75), (1, .ref 0), (0, .ref x_scr)], [.int (xs ((i + 1)).toNatClampNeg), .ref 75], h, 98, 10728) P) : x_R x_mt (some (L, xs)) 10 M_law (1131, [(3, .int i), (2, .ref 75), (1, .ref 0), (0, .ref x_scr)], [.int v], h, 98, 10728) P := by
  refine x_R.steps 6 (c' := (1137, [(3, .int i), (2, .ref 75), (1, .ref 0), (0, .ref x_scr)], [.int (i + 1), .ref x_scr, .ref 75], h, 98, 10728)) rfl ?_
  refine j_Rsld (c' := (1138, [(3, .int i), (2, .ref 75), (1, .ref 0), (0, .ref x_scr)], [.int (xs ((i + 1)).toNatClampNeg), .ref 75], h, 98, 10728)) rfl h1 ?_
  exact kk

set_option maxRecDepth 100000 in
theorem x_c28d (h : xH) (L : Nat) (xs : Nat → Int32) (i : Int32) (h0 : ¬ (i < 0 ∨ L ≤ (i).toNatClampNeg)) (h1 : ¬ (i + 1 < 0 ∨ L ≤ (i + 1).toNatClampNeg)) (h2 : ¬ (i + 2 < 0 ∨ L ≤ (i + 2).toNatClampNeg)) (h3 : ¬ (i + 3 < 0 ∨ L ≤ (i + 3).toNatClampNeg)) (h4 : ¬ (i + 4 < 0 ∨ L ≤ (i + 4).toNatClampNeg)) (h5 : ¬ (i + 5 < 0 ∨ L ≤ (i + 5).toNatClampNeg)) (w : Int32) {P : Option Value × xH × Nat × Nat → Prop} (kk : x_R x_mt (some (L, xs)) 10 M_law (18, [(3, .int (i + Int32.ofInt (6))), (2, .ref 75), (1, .ref 0), (0, .ref x_scr)], [], h, 98, 10728) P) : x_R x_mt (some (L, xs)) 10 M_law (1141, [(3, .int i), (2, .ref 75), (1, .ref 0), (0, .ref x_scr)], [.int w], h, 98, 10728) P := by
  refine x_R.steps 4 (c' := (18, [(3, .int (i + Int32.ofInt (6))), (2, .ref 75), (1, .ref 0), (0, .ref x_scr)], [], h, 98, 10728)) rfl ?_
  exact kk

set_option maxRecDepth 100000 in
theorem x_c29a (h : xH) (L : Nat) (xs : Nat → Int32) (i : Int32) (h0 : ¬ (i < 0 ∨ L ≤ (i).toNatClampNeg)) (h1 : ¬ (i + 1 < 0 ∨ L ≤ (i + 1).toNatClampNeg)) (h2 : ¬ (i + 2 < 0 ∨ L ≤ (i + 2).toNatClampNeg)) (h3 : ¬ (i + 3 < 0 ∨ L ≤ (i + 3).toNatClampNeg)) (h4 : ¬ (i + 4 < 0 ∨ L ≤ (i + 4).toNatClampNeg)) (h5 : ¬ (i + 5 < 0 ∨ L ≤ (i + 5).toNatClampNeg)) {P : Option Value × xH × Nat × Nat → Prop} (kk : x_R x_mt (some (L, xs)) 10 M_law (1151, [(3, .int i), (2, .ref 75), (1, .ref 0), (0, .ref x_scr)], [.int (xs ((i + 1)).toNatClampNeg), .ref 0], h, 98, 10728) P) : x_R x_mt (some (L, xs)) 10 M_law (1145, [(3, .int i), (2, .ref 75), (1, .ref 0), (0, .ref x_scr)], [], h, 98, 10728) P := by
  refine x_R.steps 5 (c' := (1150, [(3, .int i), (2, .ref 75), (1, .ref 0), (0, .ref x_scr)], [.int (i + 1), .ref x_scr, .ref 0], h, 98, 10728)) rfl ?_
  refine j_Rsld (c' := (1151, [(3, .int i), (2, .ref 75), (1, .ref 0), (0, .ref x_scr)], [.int (xs ((i + 1)).toNatClampNeg), .ref 0], h, 98, 10728)) rfl h1 ?_
  exact kk

set_option maxRecDepth 100000 in
theorem x_c29b (h : xH) (L : Nat) (xs : Nat → Int32) (i : Int32) (h0 : ¬ (i < 0 ∨ L ≤ (i).toNatClampNeg)) (h1 : ¬ (i + 1 < 0 ∨ L ≤ (i + 1).toNatClampNeg)) (h2 : ¬ (i + 2 < 0 ∨ L ≤ (i + 2).toNatClampNeg)) (h3 : ¬ (i + 3 < 0 ∨ L ≤ (i + 3).toNatClampNeg)) (h4 : ¬ (i + 4 < 0 ∨ L ≤ (i + 4).toNatClampNeg)) (h5 : ¬ (i + 5 < 0 ∨ L ≤ (i + 5).toNatClampNeg)) (v : Int32) {P : Option Value × xH × Nat × Nat → Prop} (kk : x_R x_mt (some (L, xs)) 10 M_law (1161, [(3, .int i), (2, .ref 75), (1, .ref 0), (0, .ref x_scr)], [.int (xs ((i + 1)).toNatClampNeg), .ref 75], h, 98, 10728) P) : x_R x_mt (some (L, xs)) 10 M_law (1154, [(3, .int i), (2, .ref 75), (1, .ref 0), (0, .ref x_scr)], [.int v], h, 98, 10728) P := by
  refine x_R.steps 6 (c' := (1160, [(3, .int i), (2, .ref 75), (1, .ref 0), (0, .ref x_scr)], [.int (i + 1), .ref x_scr, .ref 75], h, 98, 10728)) rfl ?_
  refine j_Rsld (c' := (1161, [(3, .int i), (2, .ref 75), (1, .ref 0), (0, .ref x_scr)], [.int (xs ((i + 1)).toNatClampNeg), .ref 75], h, 98, 10728)) rfl h1 ?_
  exact kk

set_option maxRecDepth 100000 in
theorem x_c29d (h : xH) (L : Nat) (xs : Nat → Int32) (i : Int32) (h0 : ¬ (i < 0 ∨ L ≤ (i).toNatClampNeg)) (h1 : ¬ (i + 1 < 0 ∨ L ≤ (i + 1).toNatClampNeg)) (h2 : ¬ (i + 2 < 0 ∨ L ≤ (i + 2).toNatClampNeg)) (h3 : ¬ (i + 3 < 0 ∨ L ≤ (i + 3).toNatClampNeg)) (h4 : ¬ (i + 4 < 0 ∨ L ≤ (i + 4).toNatClampNeg)) (h5 : ¬ (i + 5 < 0 ∨ L ≤ (i + 5).toNatClampNeg)) (w : Int32) {P : Option Value × xH × Nat × Nat → Prop} (kk : x_R x_mt (some (L, xs)) 10 M_law (18, [(3, .int (i + Int32.ofInt (6))), (2, .ref 75), (1, .ref 0), (0, .ref x_scr)], [], h, 98, 10728) P) : x_R x_mt (some (L, xs)) 10 M_law (1164, [(3, .int i), (2, .ref 75), (1, .ref 0), (0, .ref x_scr)], [.int w], h, 98, 10728) P := by
  refine x_R.steps 4 (c' := (18, [(3, .int (i + Int32.ofInt (6))), (2, .ref 75), (1, .ref 0), (0, .ref x_scr)], [], h, 98, 10728)) rfl ?_
  exact kk

set_option maxRecDepth 100000 in
theorem x_c30a (h : xH) (L : Nat) (xs : Nat → Int32) (i : Int32) (h0 : ¬ (i < 0 ∨ L ≤ (i).toNatClampNeg)) (h1 : ¬ (i + 1 < 0 ∨ L ≤ (i + 1).toNatClampNeg)) (h2 : ¬ (i + 2 < 0 ∨ L ≤ (i + 2).toNatClampNeg)) (h3 : ¬ (i + 3 < 0 ∨ L ≤ (i + 3).toNatClampNeg)) (h4 : ¬ (i + 4 < 0 ∨ L ≤ (i + 4).toNatClampNeg)) (h5 : ¬ (i + 5 < 0 ∨ L ≤ (i + 5).toNatClampNeg)) {P : Option Value × xH × Nat × Nat → Prop} (kk : x_R x_mt (some (L, xs)) 10 M_law (1179, [(3, .int i), (2, .ref 75), (1, .ref 0), (0, .ref x_scr)], [.int (xs ((i + 2)).toNatClampNeg), .int (xs ((i + 1)).toNatClampNeg), .ref 0], h, 98, 10728) P) : x_R x_mt (some (L, xs)) 10 M_law (1168, [(3, .int i), (2, .ref 75), (1, .ref 0), (0, .ref x_scr)], [], h, 98, 10728) P := by
  refine x_R.steps 5 (c' := (1173, [(3, .int i), (2, .ref 75), (1, .ref 0), (0, .ref x_scr)], [.int (i + 1), .ref x_scr, .ref 0], h, 98, 10728)) rfl ?_
  refine j_Rsld (c' := (1174, [(3, .int i), (2, .ref 75), (1, .ref 0), (0, .ref x_scr)], [.int (xs ((i + 1)).toNatClampNeg), .ref 0], h, 98, 10728)) rfl h1 ?_
  refine x_R.steps 4 (c' := (1178, [(3, .int i), (2, .ref 75), (1, .ref 0), (0, .ref x_scr)], [.int (i + 2), .ref x_scr, .int (xs ((i + 1)).toNatClampNeg), .ref 0], h, 98, 10728)) rfl ?_
  refine j_Rsld (c' := (1179, [(3, .int i), (2, .ref 75), (1, .ref 0), (0, .ref x_scr)], [.int (xs ((i + 2)).toNatClampNeg), .int (xs ((i + 1)).toNatClampNeg), .ref 0], h, 98, 10728)) rfl h2 ?_
  exact kk

set_option maxRecDepth 100000 in
theorem x_c30b (h : xH) (L : Nat) (xs : Nat → Int32) (i : Int32) (h0 : ¬ (i < 0 ∨ L ≤ (i).toNatClampNeg)) (h1 : ¬ (i + 1 < 0 ∨ L ≤ (i + 1).toNatClampNeg)) (h2 : ¬ (i + 2 < 0 ∨ L ≤ (i + 2).toNatClampNeg)) (h3 : ¬ (i + 3 < 0 ∨ L ≤ (i + 3).toNatClampNeg)) (h4 : ¬ (i + 4 < 0 ∨ L ≤ (i + 4).toNatClampNeg)) (h5 : ¬ (i + 5 < 0 ∨ L ≤ (i + 5).toNatClampNeg)) (v : Int64) {P : Option Value × xH × Nat × Nat → Prop} (kk : x_R x_mt (some (L, xs)) 10 M_law (1194, [(3, .int i), (2, .ref 75), (1, .ref 0), (0, .ref x_scr)], [.int (xs ((i + 2)).toNatClampNeg), .int (xs ((i + 1)).toNatClampNeg), .ref 75], h, 98, 10728) P) : x_R x_mt (some (L, xs)) 10 M_law (1182, [(3, .int i), (2, .ref 75), (1, .ref 0), (0, .ref x_scr)], [.long v], h, 98, 10728) P := by
  refine x_R.steps 6 (c' := (1188, [(3, .int i), (2, .ref 75), (1, .ref 0), (0, .ref x_scr)], [.int (i + 1), .ref x_scr, .ref 75], h, 98, 10728)) rfl ?_
  refine j_Rsld (c' := (1189, [(3, .int i), (2, .ref 75), (1, .ref 0), (0, .ref x_scr)], [.int (xs ((i + 1)).toNatClampNeg), .ref 75], h, 98, 10728)) rfl h1 ?_
  refine x_R.steps 4 (c' := (1193, [(3, .int i), (2, .ref 75), (1, .ref 0), (0, .ref x_scr)], [.int (i + 2), .ref x_scr, .int (xs ((i + 1)).toNatClampNeg), .ref 75], h, 98, 10728)) rfl ?_
  refine j_Rsld (c' := (1194, [(3, .int i), (2, .ref 75), (1, .ref 0), (0, .ref x_scr)], [.int (xs ((i + 2)).toNatClampNeg), .int (xs ((i + 1)).toNatClampNeg), .ref 75], h, 98, 10728)) rfl h2 ?_
  exact kk

set_option maxRecDepth 100000 in
theorem x_c30d (h : xH) (L : Nat) (xs : Nat → Int32) (i : Int32) (h0 : ¬ (i < 0 ∨ L ≤ (i).toNatClampNeg)) (h1 : ¬ (i + 1 < 0 ∨ L ≤ (i + 1).toNatClampNeg)) (h2 : ¬ (i + 2 < 0 ∨ L ≤ (i + 2).toNatClampNeg)) (h3 : ¬ (i + 3 < 0 ∨ L ≤ (i + 3).toNatClampNeg)) (h4 : ¬ (i + 4 < 0 ∨ L ≤ (i + 4).toNatClampNeg)) (h5 : ¬ (i + 5 < 0 ∨ L ≤ (i + 5).toNatClampNeg)) (w : Int64) {P : Option Value × xH × Nat × Nat → Prop} (kk : x_R x_mt (some (L, xs)) 10 M_law (18, [(3, .int (i + Int32.ofInt (6))), (2, .ref 75), (1, .ref 0), (0, .ref x_scr)], [], h, 98, 10728) P) : x_R x_mt (some (L, xs)) 10 M_law (1197, [(3, .int i), (2, .ref 75), (1, .ref 0), (0, .ref x_scr)], [.long w], h, 98, 10728) P := by
  refine x_R.steps 4 (c' := (18, [(3, .int (i + Int32.ofInt (6))), (2, .ref 75), (1, .ref 0), (0, .ref x_scr)], [], h, 98, 10728)) rfl ?_
  exact kk

set_option maxRecDepth 100000 in
theorem x_c31a (h : xH) (L : Nat) (xs : Nat → Int32) (i : Int32) (h0 : ¬ (i < 0 ∨ L ≤ (i).toNatClampNeg)) (h1 : ¬ (i + 1 < 0 ∨ L ≤ (i + 1).toNatClampNeg)) (h2 : ¬ (i + 2 < 0 ∨ L ≤ (i + 2).toNatClampNeg)) (h3 : ¬ (i + 3 < 0 ∨ L ≤ (i + 3).toNatClampNeg)) (h4 : ¬ (i + 4 < 0 ∨ L ≤ (i + 4).toNatClampNeg)) (h5 : ¬ (i + 5 < 0 ∨ L ≤ (i + 5).toNatClampNeg)) {P : Option Value × xH × Nat × Nat → Prop} (kk : x_R x_mt (some (L, xs)) 10 M_law (1217, [(3, .int i), (2, .ref 75), (1, .ref 0), (0, .ref x_scr)], [.int (xs ((i + 3)).toNatClampNeg), .int (xs ((i + 2)).toNatClampNeg), .int (xs ((i + 1)).toNatClampNeg), .ref 0], h, 98, 10728) P) : x_R x_mt (some (L, xs)) 10 M_law (1201, [(3, .int i), (2, .ref 75), (1, .ref 0), (0, .ref x_scr)], [], h, 98, 10728) P := by
  refine x_R.steps 5 (c' := (1206, [(3, .int i), (2, .ref 75), (1, .ref 0), (0, .ref x_scr)], [.int (i + 1), .ref x_scr, .ref 0], h, 98, 10728)) rfl ?_
  refine j_Rsld (c' := (1207, [(3, .int i), (2, .ref 75), (1, .ref 0), (0, .ref x_scr)], [.int (xs ((i + 1)).toNatClampNeg), .ref 0], h, 98, 10728)) rfl h1 ?_
  refine x_R.steps 4 (c' := (1211, [(3, .int i), (2, .ref 75), (1, .ref 0), (0, .ref x_scr)], [.int (i + 2), .ref x_scr, .int (xs ((i + 1)).toNatClampNeg), .ref 0], h, 98, 10728)) rfl ?_
  refine j_Rsld (c' := (1212, [(3, .int i), (2, .ref 75), (1, .ref 0), (0, .ref x_scr)], [.int (xs ((i + 2)).toNatClampNeg), .int (xs ((i + 1)).toNatClampNeg), .ref 0], h, 98, 10728)) rfl h2 ?_
  refine x_R.steps 4 (c' := (1216, [(3, .int i), (2, .ref 75), (1, .ref 0), (0, .ref x_scr)], [.int (i + 3), .ref x_scr, .int (xs ((i + 2)).toNatClampNeg), .int (xs ((i + 1)).toNatClampNeg), .ref 0], h, 98, 10728)) rfl ?_
  refine j_Rsld (c' := (1217, [(3, .int i), (2, .ref 75), (1, .ref 0), (0, .ref x_scr)], [.int (xs ((i + 3)).toNatClampNeg), .int (xs ((i + 2)).toNatClampNeg), .int (xs ((i + 1)).toNatClampNeg), .ref 0], h, 98, 10728)) rfl h3 ?_
  exact kk

set_option maxRecDepth 100000 in
theorem x_c31b (h : xH) (L : Nat) (xs : Nat → Int32) (i : Int32) (h0 : ¬ (i < 0 ∨ L ≤ (i).toNatClampNeg)) (h1 : ¬ (i + 1 < 0 ∨ L ≤ (i + 1).toNatClampNeg)) (h2 : ¬ (i + 2 < 0 ∨ L ≤ (i + 2).toNatClampNeg)) (h3 : ¬ (i + 3 < 0 ∨ L ≤ (i + 3).toNatClampNeg)) (h4 : ¬ (i + 4 < 0 ∨ L ≤ (i + 4).toNatClampNeg)) (h5 : ¬ (i + 5 < 0 ∨ L ≤ (i + 5).toNatClampNeg)) (v : Int64) {P : Option Value × xH × Nat × Nat → Prop} (kk : x_R x_mt (some (L, xs)) 10 M_law (1237, [(3, .int i), (2, .ref 75), (1, .ref 0), (0, .ref x_scr)], [.int (xs ((i + 3)).toNatClampNeg), .int (xs ((i + 2)).toNatClampNeg), .int (xs ((i + 1)).toNatClampNeg), .ref 75], h, 98, 10728) P) : x_R x_mt (some (L, xs)) 10 M_law (1220, [(3, .int i), (2, .ref 75), (1, .ref 0), (0, .ref x_scr)], [.long v], h, 98, 10728) P := by
  refine x_R.steps 6 (c' := (1226, [(3, .int i), (2, .ref 75), (1, .ref 0), (0, .ref x_scr)], [.int (i + 1), .ref x_scr, .ref 75], h, 98, 10728)) rfl ?_
  refine j_Rsld (c' := (1227, [(3, .int i), (2, .ref 75), (1, .ref 0), (0, .ref x_scr)], [.int (xs ((i + 1)).toNatClampNeg), .ref 75], h, 98, 10728)) rfl h1 ?_
  refine x_R.steps 4 (c' := (1231, [(3, .int i), (2, .ref 75), (1, .ref 0), (0, .ref x_scr)], [.int (i + 2), .ref x_scr, .int (xs ((i + 1)).toNatClampNeg), .ref 75], h, 98, 10728)) rfl ?_
  refine j_Rsld (c' := (1232, [(3, .int i), (2, .ref 75), (1, .ref 0), (0, .ref x_scr)], [.int (xs ((i + 2)).toNatClampNeg), .int (xs ((i + 1)).toNatClampNeg), .ref 75], h, 98, 10728)) rfl h2 ?_
  refine x_R.steps 4 (c' := (1236, [(3, .int i), (2, .ref 75), (1, .ref 0), (0, .ref x_scr)], [.int (i + 3), .ref x_scr, .int (xs ((i + 2)).toNatClampNeg), .int (xs ((i + 1)).toNatClampNeg), .ref 75], h, 98, 10728)) rfl ?_
  refine j_Rsld (c' := (1237, [(3, .int i), (2, .ref 75), (1, .ref 0), (0, .ref x_scr)], [.int (xs ((i + 3)).toNatClampNeg), .int (xs ((i + 2)).toNatClampNeg), .int (xs ((i + 1)).toNatClampNeg), .ref 75], h, 98, 10728)) rfl h3 ?_
  exact kk

set_option maxRecDepth 100000 in
theorem x_c31d (h : xH) (L : Nat) (xs : Nat → Int32) (i : Int32) (h0 : ¬ (i < 0 ∨ L ≤ (i).toNatClampNeg)) (h1 : ¬ (i + 1 < 0 ∨ L ≤ (i + 1).toNatClampNeg)) (h2 : ¬ (i + 2 < 0 ∨ L ≤ (i + 2).toNatClampNeg)) (h3 : ¬ (i + 3 < 0 ∨ L ≤ (i + 3).toNatClampNeg)) (h4 : ¬ (i + 4 < 0 ∨ L ≤ (i + 4).toNatClampNeg)) (h5 : ¬ (i + 5 < 0 ∨ L ≤ (i + 5).toNatClampNeg)) (w : Int64) {P : Option Value × xH × Nat × Nat → Prop} (kk : x_R x_mt (some (L, xs)) 10 M_law (18, [(3, .int (i + Int32.ofInt (6))), (2, .ref 75), (1, .ref 0), (0, .ref x_scr)], [], h, 98, 10728) P) : x_R x_mt (some (L, xs)) 10 M_law (1240, [(3, .int i), (2, .ref 75), (1, .ref 0), (0, .ref x_scr)], [.long w], h, 98, 10728) P := by
  refine x_R.steps 4 (c' := (18, [(3, .int (i + Int32.ofInt (6))), (2, .ref 75), (1, .ref 0), (0, .ref x_scr)], [], h, 98, 10728)) rfl ?_
  exact kk

set_option maxRecDepth 100000 in
theorem x_c32a (h : xH) (L : Nat) (xs : Nat → Int32) (i : Int32) (h0 : ¬ (i < 0 ∨ L ≤ (i).toNatClampNeg)) (h1 : ¬ (i + 1 < 0 ∨ L ≤ (i + 1).toNatClampNeg)) (h2 : ¬ (i + 2 < 0 ∨ L ≤ (i + 2).toNatClampNeg)) (h3 : ¬ (i + 3 < 0 ∨ L ≤ (i + 3).toNatClampNeg)) (h4 : ¬ (i + 4 < 0 ∨ L ≤ (i + 4).toNatClampNeg)) (h5 : ¬ (i + 5 < 0 ∨ L ≤ (i + 5).toNatClampNeg)) {P : Option Value × xH × Nat × Nat → Prop} (kk : x_R x_mt (some (L, xs)) 10 M_law (1250, [(3, .int i), (2, .ref 75), (1, .ref 0), (0, .ref x_scr)], [.int (xs ((i + 1)).toNatClampNeg), .ref 0], h, 98, 10728) P) : x_R x_mt (some (L, xs)) 10 M_law (1244, [(3, .int i), (2, .ref 75), (1, .ref 0), (0, .ref x_scr)], [], h, 98, 10728) P := by
  refine x_R.steps 5 (c' := (1249, [(3, .int i), (2, .ref 75), (1, .ref 0), (0, .ref x_scr)], [.int (i + 1), .ref x_scr, .ref 0], h, 98, 10728)) rfl ?_
  refine j_Rsld (c' := (1250, [(3, .int i), (2, .ref 75), (1, .ref 0), (0, .ref x_scr)], [.int (xs ((i + 1)).toNatClampNeg), .ref 0], h, 98, 10728)) rfl h1 ?_
  exact kk

set_option maxRecDepth 100000 in
theorem x_c32b (h : xH) (L : Nat) (xs : Nat → Int32) (i : Int32) (h0 : ¬ (i < 0 ∨ L ≤ (i).toNatClampNeg)) (h1 : ¬ (i + 1 < 0 ∨ L ≤ (i + 1).toNatClampNeg)) (h2 : ¬ (i + 2 < 0 ∨ L ≤ (i + 2).toNatClampNeg)) (h3 : ¬ (i + 3 < 0 ∨ L ≤ (i + 3).toNatClampNeg)) (h4 : ¬ (i + 4 < 0 ∨ L ≤ (i + 4).toNatClampNeg)) (h5 : ¬ (i + 5 < 0 ∨ L ≤ (i + 5).toNatClampNeg)) (v : Int32) {P : Option Value × xH × Nat × Nat → Prop} (kk : x_R x_mt (some (L, xs)) 10 M_law (1260, [(3, .int i), (2, .ref 75), (1, .ref 0), (0, .ref x_scr)], [.int (xs ((i + 1)).toNatClampNeg), .ref 75], h, 98, 10728) P) : x_R x_mt (some (L, xs)) 10 M_law (1253, [(3, .int i), (2, .ref 75), (1, .ref 0), (0, .ref x_scr)], [.int v], h, 98, 10728) P := by
  refine x_R.steps 6 (c' := (1259, [(3, .int i), (2, .ref 75), (1, .ref 0), (0, .ref x_scr)], [.int (i + 1), .ref x_scr, .ref 75], h, 98, 10728)) rfl ?_
  refine j_Rsld (c' := (1260, [(3, .int i), (2, .ref 75), (1, .ref 0), (0, .ref x_scr)], [.int (xs ((i + 1)).toNatClampNeg), .ref 75], h, 98, 10728)) rfl h1 ?_
  exact kk

set_option maxRecDepth 100000 in
theorem x_c32d (h : xH) (L : Nat) (xs : Nat → Int32) (i : Int32) (h0 : ¬ (i < 0 ∨ L ≤ (i).toNatClampNeg)) (h1 : ¬ (i + 1 < 0 ∨ L ≤ (i + 1).toNatClampNeg)) (h2 : ¬ (i + 2 < 0 ∨ L ≤ (i + 2).toNatClampNeg)) (h3 : ¬ (i + 3 < 0 ∨ L ≤ (i + 3).toNatClampNeg)) (h4 : ¬ (i + 4 < 0 ∨ L ≤ (i + 4).toNatClampNeg)) (h5 : ¬ (i + 5 < 0 ∨ L ≤ (i + 5).toNatClampNeg)) (w : Int32) {P : Option Value × xH × Nat × Nat → Prop} (kk : x_R x_mt (some (L, xs)) 10 M_law (18, [(3, .int (i + Int32.ofInt (6))), (2, .ref 75), (1, .ref 0), (0, .ref x_scr)], [], h, 98, 10728) P) : x_R x_mt (some (L, xs)) 10 M_law (1263, [(3, .int i), (2, .ref 75), (1, .ref 0), (0, .ref x_scr)], [.int w], h, 98, 10728) P := by
  refine x_R.steps 4 (c' := (18, [(3, .int (i + Int32.ofInt (6))), (2, .ref 75), (1, .ref 0), (0, .ref x_scr)], [], h, 98, 10728)) rfl ?_
  exact kk

set_option maxRecDepth 100000 in
theorem x_c33a (h : xH) (L : Nat) (xs : Nat → Int32) (i : Int32) (h0 : ¬ (i < 0 ∨ L ≤ (i).toNatClampNeg)) (h1 : ¬ (i + 1 < 0 ∨ L ≤ (i + 1).toNatClampNeg)) (h2 : ¬ (i + 2 < 0 ∨ L ≤ (i + 2).toNatClampNeg)) (h3 : ¬ (i + 3 < 0 ∨ L ≤ (i + 3).toNatClampNeg)) (h4 : ¬ (i + 4 < 0 ∨ L ≤ (i + 4).toNatClampNeg)) (h5 : ¬ (i + 5 < 0 ∨ L ≤ (i + 5).toNatClampNeg)) {P : Option Value × xH × Nat × Nat → Prop} (kk : x_R x_mt (some (L, xs)) 10 M_law (1273, [(3, .int i), (2, .ref 75), (1, .ref 0), (0, .ref x_scr)], [.int (xs ((i + 1)).toNatClampNeg), .ref 0], h, 98, 10728) P) : x_R x_mt (some (L, xs)) 10 M_law (1267, [(3, .int i), (2, .ref 75), (1, .ref 0), (0, .ref x_scr)], [], h, 98, 10728) P := by
  refine x_R.steps 5 (c' := (1272, [(3, .int i), (2, .ref 75), (1, .ref 0), (0, .ref x_scr)], [.int (i + 1), .ref x_scr, .ref 0], h, 98, 10728)) rfl ?_
  refine j_Rsld (c' := (1273, [(3, .int i), (2, .ref 75), (1, .ref 0), (0, .ref x_scr)], [.int (xs ((i + 1)).toNatClampNeg), .ref 0], h, 98, 10728)) rfl h1 ?_
  exact kk

set_option maxRecDepth 100000 in
theorem x_c33b (h : xH) (L : Nat) (xs : Nat → Int32) (i : Int32) (h0 : ¬ (i < 0 ∨ L ≤ (i).toNatClampNeg)) (h1 : ¬ (i + 1 < 0 ∨ L ≤ (i + 1).toNatClampNeg)) (h2 : ¬ (i + 2 < 0 ∨ L ≤ (i + 2).toNatClampNeg)) (h3 : ¬ (i + 3 < 0 ∨ L ≤ (i + 3).toNatClampNeg)) (h4 : ¬ (i + 4 < 0 ∨ L ≤ (i + 4).toNatClampNeg)) (h5 : ¬ (i + 5 < 0 ∨ L ≤ (i + 5).toNatClampNeg)) (v : Int32) {P : Option Value × xH × Nat × Nat → Prop} (kk : x_R x_mt (some (L, xs)) 10 M_law (1283, [(3, .int i), (2, .ref 75), (1, .ref 0), (0, .ref x_scr)], [.int (xs ((i + 1)).toNatClampNeg), .ref 75], h, 98, 10728) P) : x_R x_mt (some (L, xs)) 10 M_law (1276, [(3, .int i), (2, .ref 75), (1, .ref 0), (0, .ref x_scr)], [.int v], h, 98, 10728) P := by
  refine x_R.steps 6 (c' := (1282, [(3, .int i), (2, .ref 75), (1, .ref 0), (0, .ref x_scr)], [.int (i + 1), .ref x_scr, .ref 75], h, 98, 10728)) rfl ?_
  refine j_Rsld (c' := (1283, [(3, .int i), (2, .ref 75), (1, .ref 0), (0, .ref x_scr)], [.int (xs ((i + 1)).toNatClampNeg), .ref 75], h, 98, 10728)) rfl h1 ?_
  exact kk

set_option maxRecDepth 100000 in
theorem x_c33d (h : xH) (L : Nat) (xs : Nat → Int32) (i : Int32) (h0 : ¬ (i < 0 ∨ L ≤ (i).toNatClampNeg)) (h1 : ¬ (i + 1 < 0 ∨ L ≤ (i + 1).toNatClampNeg)) (h2 : ¬ (i + 2 < 0 ∨ L ≤ (i + 2).toNatClampNeg)) (h3 : ¬ (i + 3 < 0 ∨ L ≤ (i + 3).toNatClampNeg)) (h4 : ¬ (i + 4 < 0 ∨ L ≤ (i + 4).toNatClampNeg)) (h5 : ¬ (i + 5 < 0 ∨ L ≤ (i + 5).toNatClampNeg)) (w : Int32) {P : Option Value × xH × Nat × Nat → Prop} (kk : x_R x_mt (some (L, xs)) 10 M_law (18, [(3, .int (i + Int32.ofInt (6))), (2, .ref 75), (1, .ref 0), (0, .ref x_scr)], [], h, 98, 10728) P) : x_R x_mt (some (L, xs)) 10 M_law (1286, [(3, .int i), (2, .ref 75), (1, .ref 0), (0, .ref x_scr)], [.int w], h, 98, 10728) P := by
  refine x_R.steps 4 (c' := (18, [(3, .int (i + Int32.ofInt (6))), (2, .ref 75), (1, .ref 0), (0, .ref x_scr)], [], h, 98, 10728)) rfl ?_
  exact kk

set_option maxRecDepth 100000 in
theorem x_c34a (h : xH) (L : Nat) (xs : Nat → Int32) (i : Int32) (h0 : ¬ (i < 0 ∨ L ≤ (i).toNatClampNeg)) (h1 : ¬ (i + 1 < 0 ∨ L ≤ (i + 1).toNatClampNeg)) (h2 : ¬ (i + 2 < 0 ∨ L ≤ (i + 2).toNatClampNeg)) (h3 : ¬ (i + 3 < 0 ∨ L ≤ (i + 3).toNatClampNeg)) (h4 : ¬ (i + 4 < 0 ∨ L ≤ (i + 4).toNatClampNeg)) (h5 : ¬ (i + 5 < 0 ∨ L ≤ (i + 5).toNatClampNeg)) {P : Option Value × xH × Nat × Nat → Prop} (kk : x_R x_mt (some (L, xs)) 10 M_law (1296, [(3, .int i), (2, .ref 75), (1, .ref 0), (0, .ref x_scr)], [.int (xs ((i + 1)).toNatClampNeg), .ref 0], h, 98, 10728) P) : x_R x_mt (some (L, xs)) 10 M_law (1290, [(3, .int i), (2, .ref 75), (1, .ref 0), (0, .ref x_scr)], [], h, 98, 10728) P := by
  refine x_R.steps 5 (c' := (1295, [(3, .int i), (2, .ref 75), (1, .ref 0), (0, .ref x_scr)], [.int (i + 1), .ref x_scr, .ref 0], h, 98, 10728)) rfl ?_
  refine j_Rsld (c' := (1296, [(3, .int i), (2, .ref 75), (1, .ref 0), (0, .ref x_scr)], [.int (xs ((i + 1)).toNatClampNeg), .ref 0], h, 98, 10728)) rfl h1 ?_
  exact kk

set_option maxRecDepth 100000 in
theorem x_c34b (h : xH) (L : Nat) (xs : Nat → Int32) (i : Int32) (h0 : ¬ (i < 0 ∨ L ≤ (i).toNatClampNeg)) (h1 : ¬ (i + 1 < 0 ∨ L ≤ (i + 1).toNatClampNeg)) (h2 : ¬ (i + 2 < 0 ∨ L ≤ (i + 2).toNatClampNeg)) (h3 : ¬ (i + 3 < 0 ∨ L ≤ (i + 3).toNatClampNeg)) (h4 : ¬ (i + 4 < 0 ∨ L ≤ (i + 4).toNatClampNeg)) (h5 : ¬ (i + 5 < 0 ∨ L ≤ (i + 5).toNatClampNeg)) (v : Int32) {P : Option Value × xH × Nat × Nat → Prop} (kk : x_R x_mt (some (L, xs)) 10 M_law (1306, [(3, .int i), (2, .ref 75), (1, .ref 0), (0, .ref x_scr)], [.int (xs ((i + 1)).toNatClampNeg), .ref 75], h, 98, 10728) P) : x_R x_mt (some (L, xs)) 10 M_law (1299, [(3, .int i), (2, .ref 75), (1, .ref 0), (0, .ref x_scr)], [.int v], h, 98, 10728) P := by
  refine x_R.steps 6 (c' := (1305, [(3, .int i), (2, .ref 75), (1, .ref 0), (0, .ref x_scr)], [.int (i + 1), .ref x_scr, .ref 75], h, 98, 10728)) rfl ?_
  refine j_Rsld (c' := (1306, [(3, .int i), (2, .ref 75), (1, .ref 0), (0, .ref x_scr)], [.int (xs ((i + 1)).toNatClampNeg), .ref 75], h, 98, 10728)) rfl h1 ?_
  exact kk

set_option maxRecDepth 100000 in
theorem x_c34d (h : xH) (L : Nat) (xs : Nat → Int32) (i : Int32) (h0 : ¬ (i < 0 ∨ L ≤ (i).toNatClampNeg)) (h1 : ¬ (i + 1 < 0 ∨ L ≤ (i + 1).toNatClampNeg)) (h2 : ¬ (i + 2 < 0 ∨ L ≤ (i + 2).toNatClampNeg)) (h3 : ¬ (i + 3 < 0 ∨ L ≤ (i + 3).toNatClampNeg)) (h4 : ¬ (i + 4 < 0 ∨ L ≤ (i + 4).toNatClampNeg)) (h5 : ¬ (i + 5 < 0 ∨ L ≤ (i + 5).toNatClampNeg)) (w : Int32) {P : Option Value × xH × Nat × Nat → Prop} (kk : x_R x_mt (some (L, xs)) 10 M_law (18, [(3, .int (i + Int32.ofInt (6))), (2, .ref 75), (1, .ref 0), (0, .ref x_scr)], [], h, 98, 10728) P) : x_R x_mt (some (L, xs)) 10 M_law (1309, [(3, .int i), (2, .ref 75), (1, .ref 0), (0, .ref x_scr)], [.int w], h, 98, 10728) P := by
  refine x_R.steps 4 (c' := (18, [(3, .int (i + Int32.ofInt (6))), (2, .ref 75), (1, .ref 0), (0, .ref x_scr)], [], h, 98, 10728)) rfl ?_
  exact kk
