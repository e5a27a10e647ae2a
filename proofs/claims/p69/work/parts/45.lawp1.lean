/-! ===== the law, piece by piece ===== -/
set_option maxRecDepth 100000 in
theorem x_c11a (h : xH) (L : Nat) (xs : Nat → Int32) (i : Int32) (h0 : ¬ (i < 0 ∨ L ≤ (i).toNatClampNeg)) (h1 : ¬ (i + 1 < 0 ∨ L ≤ (i + 1).toNatClampNeg)) (h2 : ¬ (i + 2 < 0 ∨ L ≤ (i + 2).toNatClampNeg)) (h3 : ¬ (i + 3 < 0 ∨ L ≤ (i + 3).toNatClampNeg)) (h4 : ¬ (i + 4 < 0 ∨ L ≤ (i + 4).toNatClampNeg)) (h5 : ¬ (i + 5 < 0 ∨ L ≤ (i + 5).toNatClampNeg)) {P : Option Value × xH × Nat × Nat → Prop} (kk : x_R x_mt (some (L, xs)) 10 M_law (632, [(3, .int i), (2, .ref 75), (1, .ref 0), (0, .ref x_scr)], [.int (xs ((i + 2)).toNatClampNeg), .int (xs ((i + 1)).toNatClampNeg), .ref 0], h, 98, 10728) P) : x_R x_mt (some (L, xs)) 10 M_law (621, [(3, .int i), (2, .ref 75), (1, .ref 0), (0, .ref x_scr)], [], h, 98, 10728) P := by
  refine x_R.steps 5 (c' := (626, [(3, .int i), (2, .ref 75), (1, .ref 0), (0, .ref x_scr)], [.int (i + 1), .ref x_scr, .ref 0], h, 98, 10728)) rfl ?_
  refine j_Rsld (c' := (627, [(3, .int i), (2, .ref 75), (1, .ref 0), (0, .ref x_scr)], [.int (xs ((i + 1)).toNatClampNeg), .ref 0], h, 98, 10728)) rfl h1 ?_
  refine x_R.steps 4 (c' := (631, [(3, .int i), (2, .ref 75), (1, .ref 0), (0, .ref x_scr)], [.int (i + 2), .ref x_scr, .int (xs ((i + 1)).toNatClampNeg), .ref 0], h, 98, 10728)) rfl ?_
  refine j_Rsld (c' := (632, [(3, .int i), (2, .ref 75), (1, .ref 0), (0, .ref x_scr)], [.int (xs ((i + 2)).toNatClampNeg), .int (xs ((i + 1)).toNatClampNeg), .ref 0], h, 98, 10728)) rfl h2 ?_
  exact kk

set_option maxRecDepth 100000 in
theorem x_c11b (h : xH) (L : Nat) (xs : Nat → Int32) (i : Int32) (h0 : ¬ (i < 0 ∨ L ≤ (i).toNatClampNeg)) (h1 : ¬ (i + 1 < 0 ∨ L ≤ (i + 1).toNatClampNeg)) (h2 : ¬ (i + 2 < 0 ∨ L ≤ (i + 2).toNatClampNeg)) (h3 : ¬ (i + 3 < 0 ∨ L ≤ (i + 3).toNatClampNeg)) (h4 : ¬ (i + 4 < 0 ∨ L ≤ (i + 4).toNatClampNeg)) (h5 : ¬ (i + 5 < 0 ∨ L ≤ (i + 5).toNatClampNeg)) (v : Int32) {P : Option Value × xH × Nat × Nat → Prop} (kk : x_R x_mt (some (L, xs)) 10 M_law (647, [(3, .int i), (2, .ref 75), (1, .ref 0), (0, .ref x_scr)], [.int (xs ((i + 2)).toNatClampNeg), .int (xs ((i + 1)).toNatClampNeg), .ref 75], h, 98, 10728) P) : x_R x_mt (some (L, xs)) 10 M_law (635, [(3, .int i), (2, .ref 75), (1, .ref 0), (0, .ref x_scr)], [.int v], h, 98, 10728) P := by
  refine x_R.steps 6 (c' := (641, [(3, .int i), (2, .ref 75), (1, .ref 0), (0, .ref x_scr)], [.int (i + 1), .ref x_scr, .ref 75], h, 98, 10728)) rfl ?_
  refine j_Rsld (c' := (642, [(3, .int i), (2, .ref 75), (1, .ref 0), (0, .ref x_scr)], [.int (xs ((i + 1)).toNatClampNeg), .ref 75], h, 98, 10728)) rfl h1 ?_
  refine x_R.steps 4 (c' := (646, [(3, .int i), (2, .ref 75), (1, .ref 0), (0, .ref x_scr)], [.int (i + 2), .ref x_scr, .int (xs ((i + 1)).toNatClampNeg), .ref 75], h, 98, 10728)) rfl ?_
  refine j_Rsld (c' := (647, [(3, .int i), (2, .ref 75), (1, .ref 0), (0, .ref x_scr)], [.int (xs ((i + 2)).toNatClampNeg), .int (xs ((i + 1)).toNatClampNeg), .ref 75], h, 98, 10728)) rfl h2 ?_
  exact kk

set_option maxRecDepth 100000 in
theorem x_c11d (h : xH) (L : Nat) (xs : Nat → Int32) (i : Int32) (h0 : ¬ (i < 0 ∨ L ≤ (i).toNatClampNeg)) (h1 : ¬ (i + 1 < 0 ∨ L ≤ (i + 1).toNatClampNeg)) (h2 : ¬ (i + 2 < 0 ∨ L ≤ (i + 2).toNatClampNeg)) (h3 : ¬ (i + 3 < 0 ∨ L ≤ (i + 3).toNatClampNeg)) (h4 : ¬ (i + 4 < 0 ∨ L ≤ (i + 4).toNatClampNeg)) (h5 : ¬ (i + 5 < 0 ∨ L ≤ (i + 5).toNatClampNeg)) (w : Int32) {P : Option Value × xH × Nat × Nat → Prop} (kk : x_R x_mt (some (L, xs)) 10 M_law (18, [(3, .int (i + Int32.ofInt (6))), (2, .ref 75), (1, .ref 0), (0, .ref x_scr)], [], h, 98, 10728) P) : x_R x_mt (some (L, xs)) 10 M_law (650, [(3, .int i), (2, .ref 75), (1, .ref 0), (0, .ref x_scr)], [.int w], h, 98, 10728) P := by
  refine x_R.steps 4 (c' := (18, [(3, .int (i + Int32.ofInt (6))), (2, .ref 75), (1, .ref 0), (0, .ref x_scr)], [], h, 98, 10728)) rfl ?_
  exact kk

set_option maxRecDepth 100000 in
theorem x_c12a (h : xH) (L : Nat) (xs : Nat → Int32) (i : Int32) (h0 : ¬ (i < 0 ∨ L ≤ (i).toNatClampNeg)) (h1 : ¬ (i + 1 < 0 ∨ L ≤ (i + 1).toNatClampNeg)) (h2 : ¬ (i + 2 < 0 ∨ L ≤ (i + 2).toNatClampNeg)) (h3 : ¬ (i + 3 < 0 ∨ L ≤ (i + 3).toNatClampNeg)) (h4 : ¬ (i + 4 < 0 ∨ L ≤ (i + 4).toNatClampNeg)) (h5 : ¬ (i + 5 < 0 ∨ L ≤ (i + 5).toNatClampNeg)) {P : Option Value × xH × Nat × Nat → Prop} (kk : x_R x_mt (some (L, xs)) 10 M_law (665, [(3, .int i), (2, .ref 75), (1, .ref 0), (0, .ref x_scr)], [.int (xs ((i + 2)).toNatClampNeg), .int (xs ((i + 1)).toNatClampNeg), .ref 0], h, 98, 10728) P) : x_R x_mt (some (L, xs)) 10 M_law (654, [(3, .int i), (2, .ref 75), (1, .ref 0), (0, .ref x_scr)], [], h, 98, 10728) P := by
  refine x_R.steps 5 (c' := (659, [(3, .int i), (2, .ref 75), (1, .ref 0), (0, .ref x_scr)], [.int (i + 1), .ref x_scr, .ref 0], h, 98, 10728)) rfl ?_
  refine j_Rsld (c' := (660, [(3, .int i), (2, .ref 75), (1, .ref 0), (0, .ref x_scr)], [.int (xs ((i + 1)).toNatClampNeg), .ref 0], h, 98, 10728)) rfl h1 ?_
  refine x_R.steps 4 (c' := (664, [(3, .int i), (2, .ref 75), (1, .ref 0), (0, .ref x_scr)], [.int (i + 2), .ref x_scr, .int (xs ((i + 1)).toNatClampNeg), .ref 0], h, 98, 10728)) rfl ?_
  refine j_Rsld (c' := (665, [(3, .int i), (2, .ref 75), (1, .ref 0), (0, .ref x_scr)], [.int (xs ((i + 2)).toNatClampNeg), .int (xs ((i + 1)).toNatClampNeg), .ref 0], h, 98, 10728)) rfl h2 ?_
  exact kk

set_option maxRecDepth 100000 in
theorem x_c12b (h : xH) (L : Nat) (xs : Nat → Int32) (i : Int32) (h0 : ¬ (i < 0 ∨ L ≤ (i).toNatClampNeg)) (h1 : ¬ (i + 1 < 0 ∨ L ≤ (i + 1).toNatClampNeg)) (h2 : ¬ (i + 2 < 0 ∨ L ≤ (i + 2).toNatClampNeg)) (h3 : ¬ (i + 3 < 0 ∨ L ≤ (i + 3).toNatClampNeg)) (h4 : ¬ (i + 4 < 0 ∨ L ≤ (i + 4).toNatClampNeg)) (h5 : ¬ (i + 5 < 0 ∨ L ≤ (i + 5).toNatClampNeg)) (v : Int32) {P : Option Value × xH × Nat × Nat → Prop} (kk : x_R x_mt (some (L, xs)) 10 M_law (680, [(3, .int i), (2, .ref 75), (1, .ref 0), (0, .ref x_scr)], [.int (xs ((i + 2)).toNatClampNeg), .int (xs ((i + 1)).toNatClampNeg), .ref 75], h, 98, 10728) P) : x_R x_mt (some (L, xs)) 10 M_law (668, [(3, .int i), (2, .ref 75), (1, .ref 0), (0, .ref x_scr)], [.int v], h, 98, 10728) P := by
  refine x_R.steps 6 (c' := (674, [(3, .int i), (2, .ref 75), (1, .ref 0), (0, .ref x_scr)], [.int (i + 1), .ref x_scr, .ref 75], h, 98, 10728)) rfl ?_
  refine j_Rsld (c' := (675, [(3, .int i), (2, .ref 75), (1, .ref 0), (0, .ref x_scr)], [.int (xs ((i + 1)).toNatClampNeg), .ref 75], h, 98, 10728)) rfl h1 ?_
  refine x_R.steps 4 (c' := (679, [(3, .int i), (2, .ref 75), (1, .ref 0), (0, .ref x_scr)], [.int (i + 2), .ref x_scr, .int (xs ((i + 1)).toNatClampNeg), .ref 75], h, 98, 10728)) rfl ?_
  refine j_Rsld (c' := (680, [(3, .int i), (2, .ref 75), (1, .ref 0), (0, .ref x_scr)], [.int (xs ((i + 2)).toNatClampNeg), .int (xs ((i + 1)).toNatClampNeg), .ref 75], h, 98, 10728)) rfl h2 ?_
  exact kk

set_option maxRecDepth 100000 in
theorem x_c12d (h : xH) (L : Nat) (xs : Nat → Int32) (i : Int32) (h0 : ¬ (i < 0 ∨ L ≤ (i).toNatClampNeg)) (h1 : ¬ (i + 1 < 0 ∨ L ≤ (i + 1).toNatClampNeg)) (h2 : ¬ (i + 2 < 0 ∨ L ≤ (i + 2).toNatClampNeg)) (h3 : ¬ (i + 3 < 0 ∨ L ≤ (i + 3).toNatClampNeg)) (h4 : ¬ (i + 4 < 0 ∨ L ≤ (i + 4).toNatClampNeg)) (h5 : ¬ (i + 5 < 0 ∨ L ≤ (i + 5).toNatClampNeg)) (w : Int32) {P : Option Value × xH × Nat × Nat → Prop} (kk : x_R x_mt (some (L, xs)) 10 M_law (18, [(3, .int (i + Int32.ofInt (6))), (2, .ref 75), (1, .ref 0), (0, .ref x_scr)], [], h, 98, 10728) P) : x_R x_mt (some (L, xs)) 10 M_law (683, [(3, .int i), (2, .ref 75), (1, .ref 0), (0, .ref x_scr)], [.int w], h, 98, 10728) P := by
  refine x_R.steps 4 (c' := (18, [(3, .int (i + Int32.ofInt (6))), (2, .ref 75), (1, .ref 0), (0, .ref x_scr)], [], h, 98, 10728)) rfl ?_
  exact kk

set_option maxRecDepth 100000 in
theorem x_c13a (h : xH) (L : Nat) (xs : Nat → Int32) (i : Int32) (h0 : ¬ (i < 0 ∨ L ≤ (i).toNatClampNeg)) (h1 : ¬ (i + 1 < 0 ∨ L ≤ (i + 1).toNatClampNeg)) (h2 : ¬ (i + 2 < 0 ∨ L ≤ (i + 2).toNatClampNeg)) (h3 : ¬ (i + 3 < 0 ∨ L ≤ (i + 3).toNatClampNeg)) (h4 : ¬ (i + 4 < 0 ∨ L ≤ (i + 4).toNatClampNeg)) (h5 : ¬ (i + 5 < 0 ∨ L ≤ (i + 5).toNatClampNeg)) {P : Option Value × xH × Nat × Nat → Prop} (kk : x_R x_mt (some (L, xs)) 10 M_law (698, [(3, .int i), (2, .ref 75), (1, .ref 0), (0, .ref x_scr)], [.int (xs ((i + 2)).toNatClampNeg), .int (xs ((i + 1)).toNatClampNeg), .ref 0], h, 98, 10728) P) : x_R x_mt (some (L, xs)) 10 M_law (687, [(3, .int i), (2, .ref 75), (1, .ref 0), (0, .ref x_scr)], [], h, 98, 10728) P := by
  refine x_R.steps 5 (c' := (692, [(3, .int i), (2, .ref 75), (1, .ref 0), (0, .ref x_scr)], [.int (i + 1), .ref x_scr, .ref 0], h, 98, 10728)) rfl ?_
  refine j_Rsld (c' := (693, [(3, .int i), (2, .ref 75), (1, .ref 0), (0, .ref x_scr)], [.int (xs ((i + 1)).toNatClampNeg), .ref 0], h, 98, 10728)) rfl h1 ?_
  refine x_R.steps 4 (c' := (697, [(3, .int i), (2, .ref 75), (1, .ref 0), (0, .ref x_scr)], [.int (i + 2), .ref x_scr, .int (xs ((i + 1)).toNatClampNeg), .ref 0], h, 98, 10728)) rfl ?_
  refine j_Rsld (c' := (698, [(3, .int i), (2, .ref 75), (1, .ref 0), (0, .ref x_scr)], [.int (xs ((i + 2)).toNatClampNeg), .int (xs ((i + 1)).toNatClampNeg), .ref 0], h, 98, 10728)) rfl h2 ?_
  exact kk

set_option maxRecDepth 100000 in
theorem x_c13b (h : xH) (L : Nat) (xs : Nat → Int32) (i : Int32) (h0 : ¬ (i < 0 ∨ L ≤ (i).toNatClampNeg)) (h1 : ¬ (i + 1 < 0 ∨ L ≤ (i + 1).toNatClampNeg)) (h2 : ¬ (i + 2 < 0 ∨ L ≤ (i + 2).toNatClampNeg)) (h3 : ¬ (i + 3 < 0 ∨ L ≤ (i + 3).toNatClampNeg)) (h4 : ¬ (i + 4 < 0 ∨ L ≤ (i + 4).toNatClampNeg)) (h5 : ¬ (i + 5 < 0 ∨ L ≤ (i + 5).toNatClampNeg)) (v : Int32) {P : Option Value × xH × Nat × Nat → Prop} (kk : x_R x_mt (some (L, xs)) 10 M_law (713, [(3, .int i), (2, .ref 75), (1, .ref 0), (0, .ref x_scr)], [.int (xs ((i + 2)).toNatClampNeg), .int (xs ((i + 1)).toNatClampNeg), .ref 75], h, 98, 10728) P) : x_R x_mt (some (L, xs)) 10 M_law (701, [(3, .int i), (2, .ref 75), (1, .ref 0), (0, .ref x_scr)], [.int v], h, 98, 10728) P := by
  refine x_R.steps 6 (c' := (707, [(3, .int i), (2, .ref 75), (1, .ref 0), (0, .ref x_scr)], [.int (i + 1), .ref x_scr, .ref 75], h, 98, 10728)) rfl ?_
  refine j_Rsld (c' := (708, [(3, .int i), (2, .ref 75), (1, .ref 0), (0, .ref x_scr)], [.int (xs ((i + 1)).toNatClampNeg), .ref 75], h, 98, 10728)) rfl h1 ?_
  refine x_R.steps 4 (c' := (712, [(3, .int i), (2, .ref 75), (1, .ref 0), (0, .ref x_scr)], [.int (i + 2), .ref x_scr, .int (xs ((i + 1)).toNatClampNeg), .ref 75], h, 98, 10728)) rfl ?_
  refine j_Rsld (c' := (713, [(3, .int i), (2, .ref 75), (1, .ref 0), (0, .ref x_scr)], [.int (xs ((i + 2)).toNatClampNeg), .int (xs ((i + 1)).toNatClampNeg), .ref 75], h, 98, 10728)) rfl h2 ?_
  exact kk

set_option maxRecDepth 100000 in
theorem x_c13d (h : xH) (L : Nat) (xs : Nat → Int32) (i : Int32) (h0 : ¬ (i < 0 ∨ L ≤ (i).toNatClampNeg)) (h1 : ¬ (i + 1 < 0 ∨ L ≤ (i + 1).toNatClampNeg)) (h2 : ¬ (i + 2 < 0 ∨ L ≤ (i + 2).toNatClampNeg)) (h3 : ¬ (i + 3 < 0 ∨ L ≤ (i + 3).toNatClampNeg)) (h4 : ¬ (i + 4 < 0 ∨ L ≤ (i + 4).toNatClampNeg)) (h5 : ¬ (i + 5 < 0 ∨ L ≤ (i + 5).toNatClampNeg)) (w : Int32) {P : Option Value × xH × Nat × Nat → Prop} (kk : x_R x_mt (some (L, xs)) 10 M_law (18, [(3, .int (i + Int32.ofInt (6))), (2, .ref 75), (1, .ref 0), (0, .ref x_scr)], [], h, 98, 10728) P) : x_R x_mt (some (L, xs)) 10 M_law (716, [(3, .int i), (2, .ref 75), (1, .ref 0), (0, .ref x_scr)], [.int w], h, 98, 10728) P := by
  refine x_R.steps 4 (c' := (18, [(3, .int (i + Int32.ofInt (6))), (2, .ref 75), (1, .ref 0), (0, .ref x_scr)], [], h, 98, 10728)) rfl ?_
  exact kk

set_option maxRecDepth 100000 in
theorem x_c14a (h : xH) (L : Nat) (xs : Nat → Int32) (i : Int32) (h0 : ¬ (i < 0 ∨ L ≤ (i).toNatClampNeg)) (h1 : ¬ (i + 1 < 0 ∨ L ≤ (i + 1).toNatClampNeg)) (h2 : ¬ (i + 2 < 0 ∨ L ≤ (i + 2).toNatClampNeg)) (h3 : ¬ (i + 3 < 0 ∨ L ≤ (i + 3).toNatClampNeg)) (h4 : ¬ (i + 4 < 0 ∨ L ≤ (i + 4).toNatClampNeg)) (h5 : ¬ (i + 5 < 0 ∨ L ≤ (i + 5).toNatClampNeg)) {P : Option Value × xH × Nat × Nat → Prop} (kk : x_R x_mt (some (L, xs)) 10 M_law (726, [(3, .int i), (2, .ref 75), (1, .ref 0), (0, .ref x_scr)], [.int (xs ((i + 1)).toNatClampNeg), .ref 0], h, 98, 10728) P) : x_R x_mt (some (L, xs)) 10 M_law (720, [(3, .int i), (2, .ref 75), (1, .ref 0), (0, .ref x_scr)], [], h, 98, 10728) P := by
  refine x_R.steps 5 (c' := (725, [(3, .int i), (2, .ref 75), (1, .ref 0), (0, .ref x_scr)], [.int (i + 1), .ref x_scr, .ref 0], h, 98, 10728)) rfl ?_
  refine j_Rsld (c' := (726, [(3, .int i), (2, .ref 75), (1, .ref 0), (0, .ref x_scr)], [.int (xs ((i + 1)).toNatClampNeg), .ref 0], h, 98, 10728)) rfl h1 ?_
  exact kk

set_option maxRecDepth 100000 in
theorem x_c14b (h : xH) (L : Nat) (xs : Nat → Int32) (i : Int32) (h0 : ¬ (i < 0 ∨ L ≤ (i).toNatClampNeg)) (h1 : ¬ (i + 1 < 0 ∨ L ≤ (i + 1).toNatClampNeg)) (h2 : ¬ (i + 2 < 0 ∨ L ≤ (i + 2).toNatClampNeg)) (h3 : ¬ (i + 3 < 0 ∨ L ≤ (i + 3).toNatClampNeg)) (h4 : ¬ (i + 4 < 0 ∨ L ≤ (i + 4).toNatClampNeg)) (h5 : ¬ (i + 5 < 0 ∨ L ≤ (i + 5).toNatClampNeg)) (v : Int32) {P : Option Value × xH × Nat × Nat → Prop} (kk : x_R x_mt (some (L, xs)) 10 M_law (736, [(3, .int i), (2, .ref 75), (1, .ref 0), (0, .ref x_scr)], [.int (xs ((i + 1)).toNatClampNeg), .ref 75], h, 98, 10728) P) : x_R x_mt (some (L, xs)) 10 M_law (729, [(3, .int i), (2, .ref 75), (1, .ref 0), (0, .ref x_scr)], [.int v], h, 98, 10728) P := by
  refine x_R.steps 6 (c' := (735, [(3, .int i), (2, .ref 75), (1, .ref 0), (0, .ref x_scr)], [.int (i + 1), .ref x_scr, .ref 75], h, 98, 10728)) rfl ?_
  refine j_Rsld (c' := (736, [(3, .int i), (2, .ref 75), (1, .ref 0), (0, .ref x_scr)], [.int (xs ((i + 1)).toNatClampNeg), .ref 75], h, 98, 10728)) rfl h1 ?_
  exact kk

set_option maxRecDepth 100000 in
theorem x_c14d (h : xH) (L : Nat) (xs : Nat → Int32) (i : Int32) (h0 : ¬ (i < 0 ∨ L ≤ (i).toNatClampNeg)) (h1 : ¬ (i + 1 < 0 ∨ L ≤ (i + 1).toNatClampNeg)) (h2 : ¬ (i + 2 < 0 ∨ L ≤ (i + 2).toNatClampNeg)) (h3 : ¬ (i + 3 < 0 ∨ L ≤ (i + 3).toNatClampNeg)) (h4 : ¬ (i + 4 < 0 ∨ L ≤ (i + 4).toNatClampNeg)) (h5 : ¬ (i + 5 < 0 ∨ L ≤ (i + 5).toNatClampNeg)) (w : Int32) {P : Option Value × xH × Nat × Nat → Prop} (kk : x_R x_mt (some (L, xs)) 10 M_law (18, [(3, .int (i + Int32.ofInt (6))), (2, .ref 75), (1, .ref 0), (0, .ref x_scr)], [], h, 98, 10728) P) : x_R x_mt (some (L, xs)) 10 M_law (739, [(3, .int i), (2, .ref 75), (1, .ref 0), (0, .ref x_scr)], [.int w], h, 98, 10728) P := by
  refine x_R.steps 4 (c' := (18, [(3, .int (i + Int32.ofInt (6))), (2, .ref 75), (1, .ref 0), (0, .ref x_scr)], [], h, 98, 10728)) rfl ?_
  exact kk

set_option maxRecDepth 100000 in
theorem x_c15a (h : xH) (L : Nat) (xs : Nat → Int32) (i : Int32) (h0 : ¬ (i < 0 ∨ L ≤ (i).toNatClampNeg)) (h1 : ¬ (i + 1 < 0 ∨ L ≤ (i + 1).toNatClampNeg)) (h2 : ¬ (i + 2 < 0 ∨ L ≤ (i + 2).toNatClampNeg)) (h3 : ¬ (i + 3 < 0 ∨ L ≤ (i + 3).toNatClampNeg)) (h4 : ¬ (i + 4 < 0 ∨ L ≤ (i + 4).toNatClampNeg)) (h5 : ¬ (i + 5 < 0 ∨ L ≤ (i + 5).toNatClampNeg)) {P : Option Value × xH × Nat × Nat → Prop} (kk : x_R x_mt (some (L, xs)) 10 M_law (754, [(3, .int i), (2, .ref 75), (1, .ref 0), (0, .ref x_scr)], [.int (xs ((i + 2)).toNatClampNeg), .int (xs ((i + 1)).toNatClampNeg), .ref 0], h, 98, 10728) P) : x_R x_mt (some (L, xs)) 10 M_law (743, [(3, .int i), (2, .ref 75), (1, .ref 0), (0, .ref x_scr)], [], h, 98, 10728) P := by
  refine x_R.steps 5 (c' := (748, [(3, .int i), (2, .ref 75), (1, .ref 0), (0, .ref x_scr)], [.int (i + 1), .ref x_scr, .ref 0], h, 98, 10728)) rfl ?_
  refine j_Rsld (c' := (749, [(3, .int i), (2, .ref 75), (1, .ref 0), (0, .ref x_scr)], [.int (xs ((i + 1)).toNatClampNeg), .ref 0], h, 98, 10728)) rfl h1 ?_
  refine x_R.steps 4 (c' := (753, [(3, .int i), (2, .ref 75), (1, .ref 0), (0, .ref x_scr)], [.int (i + 2), .ref x_scr, .int (xs ((i + 1)).toNatClampNeg), .ref 0], h, 98, 10728)) rfl ?_
  refine j_Rsld (c' := (754, [(3, .int i), (2, .ref 75), (1, .ref 0), (0, .ref x_scr)], [.int (xs ((i + 2)).toNatClampNeg), .int (xs ((i + 1)).toNatClampNeg), .ref 0], h, 98, 10728)) rfl h2 ?_
  exact kk

set_option maxRecDepth 100000 in
theorem x_c15b (h : xH) (L : Nat) (xs : Nat → Int32) (i : Int32) (h0 : ¬ (i < 0 ∨ L ≤ (i).toNatClampNeg)) (h1 : ¬ (i + 1 < 0 ∨ L ≤ (i + 1).toNatClampNeg)) (h2 : ¬ (i + 2 < 0 ∨ L ≤ (i + 2).toNatClampNeg)) (h3 : ¬ (i + 3 < 0 ∨ L ≤ (i + 3).toNatClampNeg)) (h4 : ¬ (i + 4 < 0 ∨ L ≤ (i + 4).toNatClampNeg)) (h5 : ¬ (i + 5 < 0 ∨ L ≤ (i + 5).toNatClampNeg)) (v : Int32) {P : Option Value × xH × Nat × Nat → Prop} (kk : x_R x_mt (some (L, xs)) 10 M_law (769, [(3, .int i), (2, .ref 75), (1, .ref 0), (0, .ref x_scr)], [.int (xs ((i + 2)).toNatClampNeg), .int (xs ((i + 1)).toNatClampNeg), .ref 75], h, 98, 10728) P) : x_R x_mt (some (L, xs)) 10 M_law (757, [(3, .int i), (2, .ref 75), (1, .ref 0), (0, .ref x_scr)], [.int v], h, 98, 10728) P := by
  refine x_R.steps 6 (c' := (763, [(3, .int i), (2, .ref 75), (1, .ref 0), (0, .ref x_scr)], [.int (i + 1), .ref x_scr, .ref 75], h, 98, 10728)) rfl ?_
  refine j_Rsld (c' := (764, [(3, .int i), (2, .ref 75), (1, .ref 0), (0, .ref x_scr)], [.int (xs ((i + 1)).toNatClampNeg), .ref 75], h, 98, 10728)) rfl h1 ?_
  refine x_R.steps 4 (c' := (768, [(3, .int i), (2, .ref 75), (1, .ref 0), (0, .ref x_scr)], [.int (i + 2), .ref x_scr, .int (xs ((i + 1)).toNatClampNeg), .ref 75], h, 98, 10728)) rfl ?_
  refine j_Rsld (c' := (769, [(3, .int i), (2, .ref 75), (1, .ref 0), (0, .ref x_scr)], [.int (xs ((i + 2)).toNatClampNeg), .int (xs ((i + 1)).toNatClampNeg), .ref 75], h, 98, 10728)) rfl h2 ?_
  exact kk

set_option maxRecDepth 100000 in
theorem x_c15d (h : xH) (L : Nat) (xs : Nat → Int32) (i : Int32) (h0 : ¬ (i < 0 ∨ L ≤ (i).toNatClampNeg)) (h1 : ¬ (i + 1 < 0 ∨ L ≤ (i + 1).toNatClampNeg)) (h2 : ¬ (i + 2 < 0 ∨ L ≤ (i + 2).toNatClampNeg)) (h3 : ¬ (i + 3 < 0 ∨ L ≤ (i + 3).toNatClampNeg)) (h4 : ¬ (i + 4 < 0 ∨ L ≤ (i + 4).toNatClampNeg)) (h5 : ¬ (i + 5 < 0 ∨ L ≤ (i + 5).toNatClampNeg)) (w : Int32) {P : Option Value × xH × Nat × Nat → Prop} (kk : x_R x_mt (some (L, xs)) 10 M_law (18, [(3, .int (i + Int32.ofInt (6))), (2, .ref 75), (1, .ref 0), (0, .ref x_scr)], [], h, 98, 10728) P) : x_R x_mt (some (L, xs)) 10 M_law (772, [(3, .int i), (2, .ref 75), (1, .ref 0), (0, .ref x_scr)], [.int w], h, 98, 10728) P := by
  refine x_R.steps 4 (c' := (18, [(3, .int (i + Int32.ofInt (6))), (2, .ref 75), (1, .ref 0), (0, .ref x_scr)], [], h, 98, 10728)) rfl ?_
  exact kk

set_option maxRecDepth 100000 in
theorem x_c16a (h : xH) (L : Nat) (xs : Nat → Int32) (i : Int32) (h0 : ¬ (i < 0 ∨ L ≤ (i).toNatClampNeg)) (h1 : ¬ (i + 1 < 0 ∨ L ≤ (i + 1).toNatClampNeg)) (h2 : ¬ (i + 2 < 0 ∨ L ≤ (i + 2).toNatClampNeg)) (h3 : ¬ (i + 3 < 0 ∨ L ≤ (i + 3).toNatClampNeg)) (h4 : ¬ (i + 4 < 0 ∨ L ≤ (i + 4).toNatClampNeg)) (h5 : ¬ (i + 5 < 0 ∨ L ≤ (i + 5).toNatClampNeg)) {P : Option Value × xH × Nat × Nat → Prop} (kk : x_R x_mt (some (L, xs)) 10 M_law (787, [(3, .int i), (2, .ref 75), (1, .ref 0), (0, .ref x_scr)], [.int (xs ((i + 2)).toNatClampNeg), .int (xs ((i + 1)).toNatClampNeg), .ref 0], h, 98, 10728) P) : x_R x_mt (some (L, xs)) 10 M_law (776, [(3, .int i), (2, .ref 75), (1, .ref 0), (0, .ref x_scr)], [], h, 98, 10728) P := by
  refine x_R.steps 5 (c' := (781, [(3, .int i), (2, .ref 75), (1, .ref 0), (0, .ref x_scr)], [.int (i + 1), .ref x_scr, .ref 0], h, 98, 10728)) rfl ?_
  refine j_Rsld (c' := (782, [(3, .int i), (2, .ref 75), (1, .ref 0), (0, .ref x_scr)], [.int (xs ((i + 1)).toNatClampNeg), .ref 0], h, 98, 10728)) rfl h1 ?_
  refine x_R.steps 4 (c' := (786, [(3, .int i), (2, .ref 75), (1, .ref 0), (0, .ref x_scr)], [.int (i + 2), .ref x_scr, .int (xs ((i + 1)).toNatClampNeg), .ref 0], h, 98, 10728)) rfl ?_
  refine j_Rsld (c' := (787, [(3, .int i), (2, .ref 75), (1, .ref 0), (0, .ref x_scr)], [.int (xs ((i + 2)).toNatClampNeg), .int (xs ((i + 1)).toNatClampNeg), .ref 0], h, 98, 10728)) rfl h2 ?_
  exact kk

set_option maxRecDepth 100000 in
theorem x_c16b (h : xH) (L : Nat) (xs : Nat → Int32) (i : Int32) (h0 : ¬ (i < 0 ∨ L ≤ (i).toNatClampNeg)) (h1 : ¬ (i + 1 < 0 ∨ L ≤ (i + 1).toNatClampNeg)) (h2 : ¬ (i + 2 < 0 ∨ L ≤ (i + 2).toNatClampNeg)) (h3 : ¬ (i + 3 < 0 ∨ L ≤ (i + 3).toNatClampNeg)) (h4 : ¬ (i + 4 < 0 ∨ L ≤ (i + 4).toNatClampNeg)) (h5 : ¬ (i + 5 < 0 ∨ L ≤ (i + 5).toNatClampNeg)) (v : Int32) {P : Option Value × xH × Nat × Nat → Prop} (kk : x_R x_mt (some (L, xs)) 10 M_law (802, [(3, .int i), (2, .ref 75), (1, .ref 0), (0, .ref x_scr)], [.int (xs ((i + 2)).toNatClampNeg), .int (xs ((i + 1)).toNatClampNeg), .ref 75], h, 98, 10728) P) : x_R x_mt (some (L, xs)) 10 M_law (790, [(3, .int i), (2, .ref 75), (1, .ref 0), (0, .ref x_scr)], [.int v], h, 98, 10728) P := by
  refine x_R.steps 6 (c' := (796, [(3, .int i), (2, .ref 75), (1, .ref 0), (0, .ref x_scr)], [.int (i + 1), .ref x_scr, .ref 75], h, 98, 10728)) rfl ?_
  refine j_Rsld (c' := (797, [(3, .int i), (2, .ref 75), (1, .ref 0), (0, .ref x_scr)], [.int (xs ((i + 1)).toNatClampNeg), .ref 75], h, 98, 10728)) rfl h1 ?_
  refine x_R.steps 4 (c' := (801, [(3, .int i), (2, .ref 75), (1, .ref 0), (0, .ref x_scr)], [.int (i + 2), .ref x_scr, .int (xs ((i + 1)).toNatClampNeg), .ref 75], h, 98, 10728)) rfl ?_
  refine j_Rsld (c' := (802, [(3, .int i), (2, .ref 75), (1, .ref 0), (0, .ref x_scr)], [.int (xs ((i + 2)).toNatClampNeg), .int (xs ((i + 1)).toNatClampNeg), .ref 75], h, 98, 10728)) rfl h2 ?_
  exact kk

set_option maxRecDepth 100000 in
theorem x_c16d (h : xH) (L : Nat) (xs : Nat → Int32) (i : Int32) (h0 : ¬ (i < 0 ∨ L ≤ (i).toNatClampNeg)) (h1 : ¬ (i + 1 < 0 ∨ L ≤ (i + 1).toNatClampNeg)) (h2 : ¬ (i + 2 < 0 ∨ L ≤ (i + 2).toNatClampNeg)) (h3 : ¬ (i + 3 < 0 ∨ L ≤ (i + 3).toNatClampNeg)) (h4 : ¬ (i + 4 < 0 ∨ L ≤ (i + 4).toNatClampNeg)) (h5 : ¬ (i + 5 < 0 ∨ L ≤ (i + 5).toNatClampNeg)) (w : Int32) {P : Option Value × xH × Nat × Nat → Prop} (kk : x_R x_mt (some (L, xs)) 10 M_law (18, [(3, .int (i + Int32.ofInt (6))), (2, .ref 75), (1, .ref 0), (0, .ref x_scr)], [], h, 98, 10728) P) : x_R x_mt (some (L, xs)) 10 M_law (805, [(3, .int i), (2, .ref 75), (1, .ref 0), (0, .ref x_scr)], [.int w], h, 98, 10728) P := by
  refine x_R.steps 4 (c' := (18, [(3, .int (i + Int32.ofInt (6))), (2, .ref 75), (1, .ref 0), (0, .ref x_scr)], [], h, 98, 10728)) rfl ?_
  exact kk

set_option maxRecDepth 100000 in
theorem x_c17a (h : xH) (L : Nat) (xs : Nat → Int32) (i : Int32) (h0 : ¬ (i < 0 ∨ L ≤ (i).toNatClampNeg)) (h1 : ¬ (i + 1 < 0 ∨ L ≤ (i + 1).toNatClampNeg)) (h2 : ¬ (i + 2 < 0 ∨ L ≤ (i + 2).toNatClampNeg)) (h3 : ¬ (i + 3 < 0 ∨ L ≤ (i + 3).toNatClampNeg)) (h4 : ¬ (i + 4 < 0 ∨ L ≤ (i + 4).toNatClampNeg)) (h5 : ¬ (i + 5 < 0 ∨ L ≤ (i + 5).toNatClampNeg)) {P : Option Value × xH × Nat × Nat → Prop} (kk : x_R x_mt (some (L, xs)) 10 M_law (820, [(3, .int i), (2, .ref 75), (1, .ref 0), (0, .ref x_scr)], [.int (xs ((i + 2)).toNatClampNeg), .int (xs ((i + 1)).toNatClampNeg), .ref 0], h, 98, 10728) P) : x_R x_mt (some (L, xs)) 10 M_law (809, [(3, .int i), (2, .ref 75), (1, .ref 0), (0, .ref x_scr)], [], h, 98, 10728) P := by
  refine x_R.steps 5 (c' := (814, [(3, .int i), (2, .ref 75), (1, .ref 0), (0, .ref x_scr)], [.int (i + 1), .ref x_scr, .ref 0], h, 98, 10728)) rfl ?_
  refine j_Rsld (c' := (815, [(3, .int i), (2, .ref 75), (1, .ref 0), (0, .ref x_scr)], [.int (xs ((i + 1)).toNatClampNeg), .ref 0], h, 98, 10728)) rfl h1 ?_
  refine x_R.steps 4 (c' := (819, [(3, .int i), (2, .ref 75), (1, .ref 0), (0, .ref x_scr)], [.int (i + 2), .ref x_scr, .int (xs ((i + 1)).toNatClampNeg), .ref 0], h, 98, 10728)) rfl ?_
  refine j_Rsld (c' := (820, [(3, .int i), (2, .ref 75), (1, .ref 0), (0, .ref x_scr)], [.int (xs ((i + 2)).toNatClampNeg), .int (xs ((i + 1)).toNatClampNeg), .ref 0], h, 98, 10728)) rfl h2 ?_
  exact kk

set_option maxRecDepth 100000 in
theorem x_c17b (h : xH) (L : Nat) (xs : Nat → Int32) (i : Int32) (h0 : ¬ (i < 0 ∨ L ≤ (i).toNatClampNeg)) (h1 : ¬ (i + 1 < 0 ∨ L ≤ (i + 1).toNatClampNeg)) (h2 : ¬ (i + 2 < 0 ∨ L ≤ (i + 2).toNatClampNeg)) (h3 : ¬ (i + 3 < 0 ∨ L ≤ (i + 3).toNatClampNeg)) (h4 : ¬ (i + 4 < 0 ∨ L ≤ (i + 4).toNatClampNeg)) (h5 : ¬ (i + 5 < 0 ∨ L ≤ (i + 5).toNatClampNeg)) (v : Int32) {P : Option Value × xH × Nat × Nat → Prop} (kk : x_R x_mt (some (L, xs)) 10 M_law (835, [(3, .int i), (2, .ref 75), (1, .ref 0), (0, .ref x_scr)], [.int (xs ((i + 2)).toNatClampNeg), .int (xs ((i + 1)).toNatClampNeg), .ref 75], h, 98, 10728) P) : x_R x_mt (some (L, xs)) 10 M_law (823, [(3, .int i), (2, .ref 75), (1, .ref 0), (0, .ref x_scr)], [.int v], h, 98, 10728) P := by
  refine x_R.steps 6 (c' := (829, [(3, .int i), (2, .ref 75), (1, .ref 0), (0, .ref x_scr)], [.int (i + 1), .ref x_scr, .ref 75], h, 98, 10728)) rfl ?_
  refine j_Rsld (c' := (830, [(3, .int i), (2, .ref 75), (1, .ref 0), (0, .ref x_scr)], [.int (xs ((i + 1)).toNatClampNeg), .ref 75], h, 98, 10728)) rfl h1 ?_
  refine x_R.steps 4 (c' := (834, [(3, .int i), (2, .ref 75), (1, .ref 0), (0, .ref x_scr)], [.int (i + 2), .ref x_scr, .int (xs ((i + 1)).toNatClampNeg), .ref 75], h, 98, 10728)) rfl ?_
  refine j_Rsld (c' := (835, [(3, .int i), (2, .ref 75), (1, .ref 0), (0, .ref x_scr)], [.int (xs ((i + 2)).toNatClampNeg), .int (xs ((i + 1)).toNatClampNeg), .ref 75], h, 98, 10728)) rfl h2 ?_
  exact kk

set_option maxRecDepth 100000 in
theorem x_c17d (h : xH) (L : Nat) (xs : Nat → Int32) (i : Int32) (h0 : ¬ (i < 0 ∨ L ≤ (i).toNatClampNeg)) (h1 : ¬ (i + 1 < 0 ∨ L ≤ (i + 1).toNatClampNeg)) (h2 : ¬ (i + 2 < 0 ∨ L ≤ (i + 2).toNatClampNeg)) (h3 : ¬ (i + 3 < 0 ∨ L ≤ (i + 3).toNatClampNeg)) (h4 : ¬ (i + 4 < 0 ∨ L ≤ (i + 4).toNatClampNeg)) (h5 : ¬ (i + 5 < 0 ∨ L ≤ (i + 5).toNatClampNeg)) (w : Int32) {P : Option Value × xH × Nat × Nat → Prop} (kk : x_R x_mt (some (L, xs)) 10 M_law (18, [(3, .int (i + Int32.ofInt (6))), (2, .ref 75), (1, .ref 0), (0, .ref x_scr)], [], h, 98, 10728) P) : x_R x_mt (some (L, xs)) 10 M_law (838, [(3, .int i), (2, .ref 75), (1, .ref 0), (0, .ref x_scr)], [.int w], h, 98, 10728) P := by
  refine x_R.steps 4 (c' := (18, [(3, .int (i + Int32.ofInt (6))), (2, .ref 75), (1, .ref 0), (0, .ref x_scr)], [], h, 98, 10728)) rfl ?_
  exact kk

set_option maxRecDepth 100000 in
theorem x_c18a (h : xH) (L : Nat) (xs : Nat → Int32) (i : Int32) (h0 : ¬ (i < 0 ∨ L ≤ (i).toNatClampNeg)) (h1 : ¬ (i + 1 < 0 ∨ L ≤ (i + 1).toNatClampNeg)) (h2 : ¬ (i + 2 < 0 ∨ L ≤ (i + 2).toNatClampNeg)) (h3 : ¬ (i + 3 < 0 ∨ L ≤ (i + 3).toNatClampNeg)) (h4 : ¬ (i + 4 < 0 ∨ L ≤ (i + 4).toNatClampNeg)) (h5 : ¬ (i + 5 < 0 ∨ L ≤ (i + 5).toNatClampNeg)) {P : Option Value × xH × Nat × Nat → Prop} (kk : x_R x_mt (some (L, xs)) 10 M_law (848, [(3, .int i), (2, .ref 75), (1, .ref 0), (0, .ref x_scr)], [.int (xs ((i + 1)).toNatClampNeg), .ref 0], h, 98, 10728) P) : x_R x_mt (some (L, xs)) 10 M_law (842, [(3, .int i), (2, .ref 75), (1, .ref 0), (0, .ref x_scr)], [], h, 98, 10728) P := by
  refine x_R.steps 5 (c' := (847, [(3, .int i), (2, .ref 75), (1, .ref 0), (0, .ref x_scr)], [.int (i + 1), .ref x_scr, .ref 0], h, 98, 10728)) rfl ?_
  refine j_Rsld (c' := (848, [(3, .int i), (2, .ref 75), (1, .ref 0), (0, .ref x_scr)], [.int (xs ((i + 1)).toNatClampNeg), .ref 0], h, 98, 10728)) rfl h1 ?_
  exact kk

set_option maxRecDepth 100000 in
theorem x_c18b (h : xH) (L : Nat) (xs : Nat → Int32) (i : Int32) (h0 : ¬ (i < 0 ∨ L ≤ (i).toNatClampNeg)) (h1 : ¬ (i + 1 < 0 ∨ L ≤ (i + 1).toNatClampNeg)) (h2 : ¬ (i + 2 < 0 ∨ L ≤ (i + 2).toNatClampNeg)) (h3 : ¬ (i + 3 < 0 ∨ L ≤ (i + 3).toNatClampNeg)) (h4 : ¬ (i + 4 < 0 ∨ L ≤ (i + 4).toNatClampNeg)) (h5 : ¬ (i + 5 < 0 ∨ L ≤ (i + 5).toNatClampNeg)) (v : Int32) {P : Option Value × xH × Nat × Nat → Prop} (kk : x_R x_mt (some (L, xs)) 10 M_law (858, [(3, .int i), (2, .ref 75), (1, .ref 0), (0, .ref x_scr)], [.int (xs ((i + 1)).toNatClampNeg), .ref 75], h, 98, 10728) P) : x_R x_mt (some (L, xs)) 10 M_law (851, [(3, .int i), (2, .ref 75), (1, .ref 0), (0, .ref x_scr)], [.int v], h, 98, 10728) P := by
  refine x_R.steps 6 (c' := (857, [(3, .int i), (2, .ref 75), (1, .ref 0), (0, .ref x_scr)], [.int (i + 1), .ref x_scr, .ref 75], h, 98, 10728)) rfl ?_
  refine j_Rsld (c' := (858, [(3, .int i), (2, .ref 75), (1, .ref 0), (0, .ref x_scr)], [.int (xs ((i + 1)).toNatClampNeg), .ref 75], h, 98, 10728)) rfl h1 ?_
  exact kk

set_option maxRecDepth 100000 in
theorem x_c18d (h : xH) (L : Nat) (xs : Nat → Int32) (i : Int32) (h0 : ¬ (i < 0 ∨ L ≤ (i).toNatClampNeg)) (h1 : ¬ (i + 1 < 0 ∨ L ≤ (i + 1).toNatClampNeg)) (h2 : ¬ (i + 2 < 0 ∨ L ≤ (i + 2).toNatClampNeg)) (h3 : ¬ (i + 3 < 0 ∨ L ≤ (i + 3).toNatClampNeg)) (h4 : ¬ (i + 4 < 0 ∨ L ≤ (i + 4).toNatClampNeg)) (h5 : ¬ (i + 5 < 0 ∨ L ≤ (i + 5).toNatClampNeg)) (w : Int32) {P : Option Value × xH × Nat × Nat → Prop} (kk : x_R x_mt (some (L, xs)) 10 M_law (18, [(3, .int (i + Int32.ofInt (6))), (2, .ref 75), (1, .ref 0), (0, .ref x_scr)], [], h, 98, 10728) P) : x_R x_mt (some (L, xs)) 10 M_law (861, [(3, .int i), (2, .ref 75), (1, .ref 0), (0, .ref x_scr)], [.int w], h, 98, 10728) P := by
  refine x_R.steps 4 (c' := (18, [(3, .int (i + Int32.ofInt (6))), (2, .ref 75), (1, .ref 0), (0, .ref x_scr)], [], h, 98, 10728)) rfl ?_
  exact kk

set_option maxRecDepth 100000 in
theorem x_c19a (h : xH) (L : Nat) (xs : Nat → Int32) (i : Int32) (h0 : ¬ (i < 0 ∨ L ≤ (i).toNatClampNeg)) (h1 : ¬ (i + 1 < 0 ∨ L ≤ (i + 1).toNatClampNeg)) (h2 : ¬ (i + 2 < 0 ∨ L ≤ (i + 2).toNatClampNeg)) (h3 : ¬ (i + 3 < 0 ∨ L ≤ (i + 3).toNatClampNeg)) (h4 : ¬ (i + 4 < 0 ∨ L ≤ (i + 4).toNatClampNeg)) (h5 : ¬ (i + 5 < 0 ∨ L ≤ (i + 5).toNatClampNeg)) {P : Option Value × xH × Nat × Nat → Prop} (kk : x_R x_mt (some (L, xs)) 10 M_law (871, [(3, .int i), (2, .ref 75), (1, .ref 0), (0, .ref x_scr)], [.int (xs ((i + 1)).toNatClampNeg), .ref 0], h, 98, 10728) P) : x_R x_mt (some (L, xs)) 10 M_law (865, [(3, .int i), (2, .ref 75), (1, .ref 0), (0, .ref x_scr)], [], h, 98, 10728) P := by
  refine x_R.steps 5 (c' := (870, [(3, .int i), (2, .ref 75), (1, .ref 0), (0, .ref x_scr)], [.int (i + 1), .ref x_scr, .ref 0], h, 98, 10728)) rfl ?_
  refine j_Rsld (c' := (871, [(3, .int i), (2, .ref 75), (1, .ref 0), (0, .ref x_scr)], [.int (xs ((i + 1)).toNatClampNeg), .ref 0], h, 98, 10728)) rfl h1 ?_
  exact kk

set_option maxRecDepth 100000 in
theorem x_c19b (h : xH) (L : Nat) (xs : Nat → Int32) (i : Int32) (h0 : ¬ (i < 0 ∨ L ≤ (i).toNatClampNeg)) (h1 : ¬ (i + 1 < 0 ∨ L ≤ (i + 1).toNatClampNeg)) (h2 : ¬ (i + 2 < 0 ∨ L ≤ (i + 2).toNatClampNeg)) (h3 : ¬ (i + 3 < 0 ∨ L ≤ (i + 3).toNatClampNeg)) (h4 : ¬ (i + 4 < 0 ∨ L ≤ (i + 4).toNatClampNeg)) (h5 : ¬ (i + 5 < 0 ∨ L ≤ (i + 5).toNatClampNeg)) (v : Int32) {P : Option Value × xH × Nat × Nat → Prop} (kk : x_R x_mt (some (L, xs)) 10 M_law (881, [(3, .int i), (2, .ref 75), (1, .ref 0), (0, .ref x_scr)], [.int (xs ((i + 1)).toNatClampNeg), .ref 75], h, 98, 10728) P) : x_R x_mt (some (L, xs)) 10 M_law (874, [(3, .int i), (2, .ref 75), (1, .ref 0), (0, .ref x_scr)], [.int v], h, 98, 10728) P := by
  refine x_R.steps 6 (c' := (880, [(3, .int i), (2, .ref 75), (1, .ref 0), (0, .ref x_scr)], [.int (i + 1), .ref x_scr, .ref 75], h, 98, 10728)) rfl ?_
  refine j_Rsld (c' := (881, [(3, .int i), (2, .ref 75), (1, .ref 0), (0, .ref x_scr)], [.int (xs ((i + 1)).toNatClampNeg), .ref 75], h, 98, 10728)) rfl h1 ?_
  exact kk

set_option maxRecDepth 100000 in
theorem x_c19d (h : xH) (L : Nat) (xs : Nat → Int32) (i : Int32) (h0 : ¬ (i < 0 ∨ L ≤ (i).toNatClampNeg)) (h1 : ¬ (i + 1 < 0 ∨ L ≤ (i + 1).toNatClampNeg)) (h2 : ¬ (i + 2 < 0 ∨ L ≤ (i + 2).toNatClampNeg)) (h3 : ¬ (i + 3 < 0 ∨ L ≤ (i + 3).toNatClampNeg)) (h4 : ¬ (i + 4 < 0 ∨ L ≤ (i + 4).toNatClampNeg)) (h5 : ¬ (i + 5 < 0 ∨ L ≤ (i + 5).toNatClampNeg)) (w : Int32) {P : Option Value × xH × Nat × Nat → Prop} (kk : x_R x_mt (some (L, xs)) 10 M_law (18, [(3, .int (i + Int32.ofInt (6))), (2, .ref 75), (1, .ref 0), (0, .ref x_scr)], [], h, 98, 10728) P) : x_R x_mt (some (L, xs)) 10 M_law (884, [(3, .int i), (2, .ref 75), (1, .ref 0), (0, .ref x_scr)], [.int w], h, 98, 10728) P := by
  refine x_R.steps 4 (c' := (18, [(3, .int (i + Int32.ofInt (6))), (2, .ref 75), (1, .ref 0), (0, .ref x_scr)], [], h, 98, 10728)) rfl ?_
  exact kk

set_option maxRecDepth 100000 in
theorem x_c20a (h : xH) (L : Nat) (xs : Nat → Int32) (i : Int32) (h0 : ¬ (i < 0 ∨ L ≤ (i).toNatClampNeg)) (h1 : ¬ (i + 1 < 0 ∨ L ≤ (i + 1).toNatClampNeg)) (h2 : ¬ (i + 2 < 0 ∨ L ≤ (i + 2).toNatClampNeg)) (h3 : ¬ (i + 3 < 0 ∨ L ≤ (i + 3).toNatClampNeg)) (h4 : ¬ (i + 4 < 0 ∨ L ≤ (i + 4).toNatClampNeg)) (h5 : ¬ (i + 5 < 0 ∨ L ≤ (i + 5).toNatClampNeg)) {P : Option Value × xH × Nat × Nat → Prop} (kk : x_R x_mt (some (L, xs)) 10 M_law (894, [(3, .int i), (2, .ref 75), (1, .ref 0), (0, .ref x_scr)], [.int (xs ((i + 1)).toNatClampNeg), .ref 0], h, 98, 10728) P) : x_R x_mt (some (L, xs)) 10 M_law (888, [(3, .int i), (2, .ref 75), (1, .ref 0), (0, .ref x_scr)], [], h, 98, 10728) P := by
  refine x_R.steps 5 (c' := (893, [(3, .int i), (2, .ref 75), (1, .ref 0), (0, .ref x_scr)], [.int (i + 1), .ref x_scr, .ref 0], h, 98, 10728)) rfl ?_
  refine j_Rsld (c' := (894, [(3, .int i), (2, .ref 75), (1, .ref 0), (0, .ref x_scr)], [.int (xs ((i + 1)).toNatClampNeg), .ref 0], h, 98, 10728)) rfl h1 ?_
  exact kk

set_option maxRecDepth 100000 in
theorem x_c20b (h : xH) (L : Nat) (xs : Nat → Int32) (i : Int32) (h0 : ¬ (i < 0 ∨ L ≤ (i).toNatClampNeg)) (h1 : ¬ (i + 1 < 0 ∨ L ≤ (i + 1).toNatClampNeg)) (h2 : ¬ (i + 2 < 0 ∨ L ≤ (i + 2).toNatClampNeg)) (h3 : ¬ (i + 3 < 0 ∨ L ≤ (i + 3).toNatClampNeg)) (h4 : ¬ (i + 4 < 0 ∨ L ≤ (i + 4).toNatClampNeg)) (h5 : ¬ (i + 5 < 0 ∨ L ≤ (i + 5).toNatClampNeg)) (v : Int32) {P : Option Value × xH × Nat × Nat → Prop} (kk : x_R x_mt (some (L, xs)) 10 M_law (904, [(3, .int i), (2, .ref 75), (1, .ref 0), (0, .ref x_scr)], [.int (xs ((i + 1)).toNatClampNeg), .ref 75], h, 98, 10728) P) : x_R x_mt (some (L, xs)) 10 M_law (897, [(3, .int i), (2, .ref 75), (1, .ref 0), (0, .ref x_scr)], [.int v], h, 98, 10728) P := by
  refine x_R.steps 6 (c' := (903, [(3, .int i), (2, .ref 75), (1, .ref 0), (0, .ref x_scr)], [.int (i + 1), .ref x_scr, .ref 75], h, 98, 10728)) rfl ?_
  refine j_Rsld (c' := (904, [(3, .int i), (2, .ref 75), (1, .ref 0), (0, .ref x_scr)], [.int (xs ((i + 1)).toNatClampNeg), .ref 75], h, 98, 10728)) rfl h1 ?_
  exact kk

set_option maxRecDepth 100000 in
theorem x_c20d (h : xH) (L : Nat) (xs : Nat → Int32) (i : Int32) (h0 : ¬ (i < 0 ∨ L ≤ (i).toNatClampNeg)) (h1 : ¬ (i + 1 < 0 ∨ L ≤ (i + 1).toNatClampNeg)) (h2 : ¬ (i + 2 < 0 ∨ L ≤ (i + 2).toNatClampNeg)) (h3 : ¬ (i + 3 < 0 ∨ L ≤ (i + 3).toNatClampNeg)) (h4 : ¬ (i + 4 < 0 ∨ L ≤ (i + 4).toNatClampNeg)) (h5 : ¬ (i + 5 < 0 ∨ L ≤ (i + 5).toNatClampNeg)) (w : Int32) {P : Option Value × xH × Nat × Nat → Prop} (kk : x_R x_mt (some (L, xs)) 10 M_law (18, [(3, .int (i + Int32.ofInt (6))), (2, .ref 75), (1, .ref 0), (0, .ref x_scr)], [], h, 98, 10728) P) : x_R x_mt (some (L, xs)) 10 M_law (907, [(3, .int i), (2, .ref 75), (1, .ref 0), (0, .ref x_scr)], [.int w], h, 98, 10728) P := by
  refine x_R.steps 4 (c' := (18, [(3, .int (i + Int32.ofInt (6))), (2, .ref 75), (1, .ref 0), (0, .ref x_scr)], [], h, 98, 10728)) rfl ?_
  exact kk

set_option maxRecDepth 100000 in
theorem x_c21a (h : xH) (L : Nat) (xs : Nat → Int32) (i : Int32) (h0 : ¬ (i < 0 ∨ L ≤ (i).toNatClampNeg)) (h1 : ¬ (i + 1 < 0 ∨ L ≤ (i + 1).toNatClampNeg)) (h2 : ¬ (i + 2 < 0 ∨ L ≤ (i + 2).toNatClampNeg)) (h3 : ¬ (i + 3 < 0 ∨ L ≤ (i + 3).toNatClampNeg)) (h4 : ¬ (i + 4 < 0 ∨ L ≤ (i + 4).toNatClampNeg)) (h5 : ¬ (i + 5 < 0 ∨ L ≤ (i + 5).toNatClampNeg)) {P : Option Value × xH × Nat × Nat → Prop} (kk : x_R x_mt (some (L, xs)) 10 M_law (922, [(3, .int i), (2, .ref 75), (1, .ref 0), (0, .ref x_scr)], [.int (xs ((i + 2)).toNatClampNeg), .int (xs ((i + 1)).toNatClampNeg), .ref 0], h, 98, 10728) P) : x_R x_mt (some (L, xs)) 10 M_law (911, [(3, .int i), (2, .ref 75), (1, .ref 0), (0, .ref x_scr)], [], h, 98, 10728) P := by
  refine x_R.steps 5 (c' := (916, [(3, .int i), (2, .ref 75), (1, .ref 0), (0, .ref x_scr)], [.int (i + 1), .ref x_scr, .ref 0], h, 98, 10728)) rfl ?_
  refine j_Rsld (c' := (917, [(3, .int i), (2, .ref 75), (1, .ref 0), (0, .ref x_scr)], [.int (xs ((i + 1)).toNatClampNeg), .ref 0], h, 98, 10728)) rfl h1 ?_
  refine x_R.steps 4 (c' := (921, [(3, .int i), (2, .ref 75), (1, .ref 0), (0, .ref x_scr)], [.int (i + 2), .ref x_scr, .int (xs ((i + 1)).toNatClampNeg), .ref 0], h, 98, 10728)) rfl ?_
  refine j_Rsld (c' := (922, [(3, .int i), (2, .ref 75), (1, .ref 0), (0, .ref x_scr)], [.int (xs ((i + 2)).toNatClampNeg), .int (xs ((i + 1)).toNatClampNeg), .ref 0], h, 98, 10728)) rfl h2 ?_
  exact kk

set_option maxRecDepth 100000 in
theorem x_c21b (h : xH) (L : Nat) (xs : Nat → Int32) (i : Int32) (h0 : ¬ (i < 0 ∨ L ≤ (i).toNatClampNeg)) (h1 : ¬ (i + 1 < 0 ∨ L ≤ (i + 1).toNatClampNeg)) (h2 : ¬ (i + 2 < 0 ∨ L ≤ (i + 2).toNatClampNeg)) (h3 : ¬ (i + 3 < 0 ∨ L ≤ (i + 3).toNatClampNeg)) (h4 : ¬ (i + 4 < 0 ∨ L ≤ (i + 4).toNatClampNeg)) (h5 : ¬ (i + 5 < 0 ∨ L ≤ (i + 5).toNatClampNeg)) (v : Int32) {P : Option Value × xH × Nat × Nat → Prop} (kk : x_R x_mt (some (L, xs)) 10 M_law (937, [(3, .int i), (2, .ref 75), (1, .ref 0), (0, .ref x_scr)], [.int (xs ((i + 2)).toNatClampNeg), .int (xs ((i + 1)).toNatClampNeg), .ref 75], h, 98, 10728) P) : x_R x_mt (some (L, xs)) 10 M_law (925, [(3, .int i), (2, .ref 75), (1, .ref 0), (0, .ref x_scr)], [.int v], h, 98, 10728) P := by
  refine x_R.steps 6 (c' := (931, [(3, .int i), (2, .ref 75), (1, .ref 0), (0, .ref x_scr)], [.int (i + 1), .ref x_scr, .ref 75], h, 98, 10728)) rfl ?_
  refine j_Rsld (c' := (932, [(3, .int i), (2, .ref 75), (1, .ref 0), (0, .ref x_scr)], [.int (xs ((i + 1)).toNatClampNeg), .ref 75], h, 98, 10728)) rfl h1 ?_
  refine x_R.steps 4 (c' := (936, [(3, .int i), (2, .ref 75), (1, .ref 0), (0, .ref x_scr)], [.int (i + 2), .ref x_scr, .int (xs ((i + 1)).toNatClampNeg), .ref 75], h, 98, 10728)) rfl ?_
  refine j_Rsld (c' := (937, [(3, .int i), (2, .ref 75), (1, .ref 0), (0, .ref x_scr)], [.int (xs ((i + 2)).toNatClampNeg), .int (xs ((i + 1)).toNatClampNeg), .ref 75], h, 98, 10728)) rfl h2 ?_
  exact kk

set_option maxRecDepth 100000 in
theorem x_c21d (h : xH) (L : Nat) (xs : Nat → Int32) (i : Int32) (h0 : ¬ (i < 0 ∨ L ≤ (i).toNatClampNeg)) (h1 : ¬ (i + 1 < 0 ∨ L ≤ (i + 1).toNatClampNeg)) (h2 : ¬ (i + 2 < 0 ∨ L ≤ (i + 2).toNatClampNeg)) (h3 : ¬ (i + 3 < 0 ∨ L ≤ (i + 3).toNatClampNeg)) (h4 : ¬ (i + 4 < 0 ∨ L ≤ (i + 4).toNatClampNeg)) (h5 : ¬ (i + 5 < 0 ∨ L ≤ (i + 5).toNatClampNeg)) (w : Int32) {P : Option Value × xH × Nat × Nat → Prop} (kk : x_R x_mt (some (L, xs)) 10 M_law (18, [(3, .int (i + Int32.ofInt (6))), (2, .ref 75), (1, .ref 0), (0, .ref x_scr)], [], h, 98, 10728) P) : x_R x_mt (some (L, xs)) 10 M_law (940, [(3, .int i), (2, .ref 75), (1, .ref 0), (0, .ref x_scr)], [.int w], h, 98, 10728) P := by
  refine x_R.steps 4 (c' := (18, [(3, .int (i + Int32.ofInt (6))), (2, .ref 75), (1, .ref 0), (0, .ref x_scr)], [], h, 98, 10728)) rfl ?_
  exact kk

set_option maxRecDepth 100000 in
theorem x_c22a (h : xH) (L : Nat) (xs : Nat → Int32) (i : Int32) (h0 : ¬ (i < 0 ∨ L ≤ (i).toNatClampNeg)) (h1 : ¬ (i + 1 < 0 ∨ L ≤ (i + 1).toNatClampNeg)) (h2 : ¬ (i + 2 < 0 ∨ L ≤ (i + 2).toNatClampNeg)) (h3 : ¬ (i + 3 < 0 ∨ L ≤ (i + 3).toNatClampNeg)) (h4 : ¬ (i + 4 < 0 ∨ L ≤ (i + 4).toNatClampNeg)) (h5 : ¬ (i + 5 < 0 ∨ L ≤ (i + 5).toNatClampNeg)) {P : Option Value × xH × Nat × Nat → Prop} (kk : x_R x_mt (some (L, xs)) 10 M_law (955, [(3, .int i), (2, .ref 75), (1, .ref 0), (0, .ref x_scr)], [.int (xs ((i + 2)).toNatClampNeg), .int (xs ((i + 1)).toNatClampNeg), .ref 0], h, 98, 10728) P) : x_R x_mt (some (L, xs)) 10 M_law (944, [(3, .int i), (2, .ref 75), (1, .ref 0), (0, .ref x_scr)], [], h, 98, 10728) P := by
  refine x_R.steps 5 (c' := (949, [(3, .int i), (2, .ref 75), (1, .ref 0), (0, .ref x_scr)], [.int (i + 1), .ref x_scr, .ref 0], h, 98, 10728)) rfl ?_
  refine j_Rsld (c' := (950, [(3, .int i), (2, .ref 75), (1, .ref 0), (0, .ref x_scr)], [.int (xs ((i + 1)).toNatClampNeg), .ref 0], h, 98, 10728)) rfl h1 ?_
  refine x_R.steps 4 (c' := (954, [(3, .int i), (2, .ref 75), (1, .ref 0), (0, .ref x_scr)], [.int (i + 2), .ref x_scr, .int (xs ((i + 1)).toNatClampNeg), .ref 0], h, 98, 10728)) rfl ?_
  refine j_Rsld (c' := (955, [(3, .int i), (2, .ref 75), (1, .ref 0), (0, .ref x_scr)], [.int (xs ((i + 2)).toNatClampNeg), .int (xs ((i + 1)).toNatClampNeg), .ref 0], h, 98, 10728)) rfl h2 ?_
  exact kk

set_option maxRecDepth 100000 in
theorem x_c22b (h : xH) (L : Nat) (xs : Nat → Int32) (i : Int32) (h0 : ¬ (i < 0 ∨ L ≤ (i).toNatClampNeg)) (h1 : ¬ (i + 1 < 0 ∨ L ≤ (i + 1).toNatClampNeg)) (h2 : ¬ (i + 2 < 0 ∨ L ≤ (i + 2).toNatClampNeg)) (h3 : ¬ (i + 3 < 0 ∨ L ≤ (i + 3).toNatClampNeg)) (h4 : ¬ (i + 4 < 0 ∨ L ≤ (i + 4).toNatClampNeg)) (h5 : ¬ (i + 5 < 0 ∨ L ≤ (i + 5).toNatClampNeg)) (v : Int32) {P : Option Value × xH × Nat × Nat → Prop} (kk : x_R x_mt (some (L, xs)) 10 M_law (970, [(3, .int i), (2, .ref 75), (1, .ref 0), (0, .ref x_scr)], [.int (xs ((i + 2)).toNatClampNeg), .int (xs ((i + 1)).toNatClampNeg), .ref 75], h, 98, 10728) P) : x_R x_mt (some (L, xs)) 10 M_law (958, [(3, .int i), (2, .ref 75), (1, .ref 0), (0, .ref x_scr)], [.int v], h, 98, 10728) P := by
  refine x_R.steps 6 (c' := (964, [(3, .int i), (2, .ref 75), (1, .ref 0), (0, .ref x_scr)], [.int (i + 1), .ref x_scr, .ref 75], h, 98, 10728)) rfl ?_
  refine j_Rsld (c' := (965, [(3, .int i), (2, .ref 75), (1, .ref 0), (0, .ref x_scr)], [.int (xs ((i + 1)).toNatClampNeg), .ref 75], h, 98, 10728)) rfl h1 ?_
  refine x_R.steps 4 (c' := (969, [(3, .int i), (2, .ref 75), (1, .ref 0), (0, .ref x_scr)], [.int (i + 2), .ref x_scr, .int (xs ((i + 1)).toNatClampNeg), .ref 75], h, 98, 10728)) rfl ?_
  refine j_Rsld (c' := (970, [(3, .int i), (2, .ref 75), (1, .ref 0), (0, .ref x_scr)], [.int (xs ((i + 2)).toNatClampNeg), .int (xs ((i + 1)).toNatClampNeg), .ref 75], h, 98, 10728)) rfl h2 ?_
  exact kk

set_option maxRecDepth 100000 in
theorem x_c22d (h : xH) (L : Nat) (xs : Nat → Int32) (i : Int32) (h0 : ¬ (i < 0 ∨ L ≤ (i).toNatClampNeg)) (h1 : ¬ (i + 1 < 0 ∨ L ≤ (i + 1).toNatClampNeg)) (h2 : ¬ (i + 2 < 0 ∨ L ≤ (i + 2).toNatClampNeg)) (h3 : ¬ (i + 3 < 0 ∨ L ≤ (i + 3).toNatClampNeg)) (h4 : ¬ (i + 4 < 0 ∨ L ≤ (i + 4).toNatClampNeg)) (h5 : ¬ (i + 5 < 0 ∨ L ≤ (i + 5).toNatClampNeg)) (w : Int32) {P : Option Value × xH × Nat × Nat → Prop} (kk : x_R x_mt (some (L, xs)) 10 M_law (18, [(3, .int (i + Int32.ofInt (6))), (2, .ref 75), (1, .ref 0), (0, .ref x_scr)], [], h, 98, 10728) P) : x_R x_mt (some (L, xs)) 10 M_law (973, [(3, .int i), (2, .ref 75), (1, .ref 0), (0, .ref x_scr)], [.int w], h, 98, 10728) P := by
  refine x_R.steps 4 (c' := (18, [(3, .int (i + Int32.ofInt (6))), (2, .ref 75), (1, .ref 0), (0, .ref x_scr)], [], h, 98, 10728)) rfl ?_
  exact kk
