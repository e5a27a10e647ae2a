/-! ===== the law, piece by piece ===== -/
set_option maxRecDepth 100000 in
theorem x_hd (h : xH) (L : Nat) (xs : Nat → Int32) (i : Int32) {P : Option Value × xH × Nat × Nat → Prop} (k1 : Int32.ofNat L - 6 < i → x_R x_mt (some (L, xs)) 10 M_law (2374, [(3, .int i), (2, .ref 75), (1, .ref 0), (0, .ref x_scr)], [], h, 98, 10728) P) (k2 : ¬ Int32.ofNat L - 6 < i → x_R x_mt (some (L, xs)) 10 M_law (27, [(3, .int i), (2, .ref 75), (1, .ref 0), (0, .ref x_scr)], [], h, 98, 10728) P) : x_R x_mt (some (L, xs)) 10 M_law (18, [(3, .int i), (2, .ref 75), (1, .ref 0), (0, .ref x_scr)], [], h, 98, 10728) P := by
  refine x_R.steps 5 (c' := (24, [(3, .int i), (2, .ref 75), (1, .ref 0), (0, .ref x_scr)], [.int (Int32.ofNat L - 6), .int i], h, 98, 10728)) rfl ?_
  exact x_R.ite (p := Int32.ofNat L - 6 < i) (c1 := (2374, [(3, .int i), (2, .ref 75), (1, .ref 0), (0, .ref x_scr)], [], h, 98, 10728)) (c2 := (27, [(3, .int i), (2, .ref 75), (1, .ref 0), (0, .ref x_scr)], [], h, 98, 10728)) rfl k1 k2

set_option maxRecDepth 100000 in
theorem x_sw (h : xH) (L : Nat) (xs : Nat → Int32) (i : Int32) (h0 : ¬ (i < 0 ∨ L ≤ (i).toNatClampNeg)) (h1 : ¬ (i + 1 < 0 ∨ L ≤ (i + 1).toNatClampNeg)) (h2 : ¬ (i + 2 < 0 ∨ L ≤ (i + 2).toNatClampNeg)) (h3 : ¬ (i + 3 < 0 ∨ L ≤ (i + 3).toNatClampNeg)) (h4 : ¬ (i + 4 < 0 ∨ L ≤ (i + 4).toNatClampNeg)) (h5 : ¬ (i + 5 < 0 ∨ L ≤ (i + 5).toNatClampNeg)) {P : Option Value × xH × Nat × Nat → Prop} (kk : x_R x_mt (some (L, xs)) 10 M_law (33, [(3, .int i), (2, .ref 75), (1, .ref 0), (0, .ref x_scr)], [.int ((xs (i).toNatClampNeg) &&& 127)], h, 98, 10728) P) : x_R x_mt (some (L, xs)) 10 M_law (27, [(3, .int i), (2, .ref 75), (1, .ref 0), (0, .ref x_scr)], [], h, 98, 10728) P := by
  refine x_R.steps 2 (c' := (29, [(3, .int i), (2, .ref 75), (1, .ref 0), (0, .ref x_scr)], [.int i, .ref x_scr], h, 98, 10728)) rfl ?_
  refine j_Rsld (c' := (30, [(3, .int i), (2, .ref 75), (1, .ref 0), (0, .ref x_scr)], [.int (xs (i).toNatClampNeg)], h, 98, 10728)) rfl h0 ?_
  refine x_R.steps 2 (c' := (33, [(3, .int i), (2, .ref 75), (1, .ref 0), (0, .ref x_scr)], [.int ((xs (i).toNatClampNeg) &&& 127)], h, 98, 10728)) rfl ?_
  exact kk

set_option maxRecDepth 100000 in
theorem x_c0a (h : xH) (L : Nat) (xs : Nat → Int32) (i : Int32) (h0 : ¬ (i < 0 ∨ L ≤ (i).toNatClampNeg)) (h1 : ¬ (i + 1 < 0 ∨ L ≤ (i + 1).toNatClampNeg)) (h2 : ¬ (i + 2 < 0 ∨ L ≤ (i + 2).toNatClampNeg)) (h3 : ¬ (i + 3 < 0 ∨ L ≤ (i + 3).toNatClampNeg)) (h4 : ¬ (i + 4 < 0 ∨ L ≤ (i + 4).toNatClampNeg)) (h5 : ¬ (i + 5 < 0 ∨ L ≤ (i + 5).toNatClampNeg)) {P : Option Value × xH × Nat × Nat → Prop} (kk : x_R x_mt (some (L, xs)) 10 M_law (354, [(3, .int i), (2, .ref 75), (1, .ref 0), (0, .ref x_scr)], [.int (xs ((i + 5)).toNatClampNeg), .int (xs ((i + 4)).toNatClampNeg), .int (xs ((i + 3)).toNatClampNeg), .int (xs ((i + 2)).toNatClampNeg), .int (xs ((i + 1)).toNatClampNeg), .ref 0], h, 98, 10728) P) : x_R x_mt (some (L, xs)) 10 M_law (328, [(3, .int i), (2, .ref 75), (1, .ref 0), (0, .ref x_scr)], [], h, 98, 10728) P := by
  refine x_R.steps 5 (c' := (333, [(3, .int i), (2, .ref 75), (1, .ref 0), (0, .ref x_scr)], [.int (i + 1), .ref x_scr, .ref 0], h, 98, 10728)) rfl ?_
  refine j_Rsld (c' := (334, [(3, .int i), (2, .ref 75), (1, .ref 0), (0, .ref x_scr)], [.int (xs ((i + 1)).toNatClampNeg), .ref 0], h, 98, 10728)) rfl h1 ?_
  refine x_R.steps 4 (c' := (338, [(3, .int i), (2, .ref 75), (1, .ref 0), (0, .ref x_scr)], [.int (i + 2), .ref x_scr, .int (xs ((i + 1)).toNatClampNeg), .ref 0], h, 98, 10728)) rfl ?_
  refine j_Rsld (c' := (339, [(3, .int i), (2, .ref 75), (1, .ref 0), (0, .ref x_scr)], [.int (xs ((i + 2)).toNatClampNeg), .int (xs ((i + 1)).toNatClampNeg), .ref 0], h, 98, 10728)) rfl h2 ?_
  refine x_R.steps 4 (c' := (343, [(3, .int i), (2, .ref 75), (1, .ref 0), (0, .ref x_scr)], [.int (i + 3), .ref x_scr, .int (xs ((i + 2)).toNatClampNeg), .int (xs ((i + 1)).toNatClampNeg), .ref 0], h, 98, 10728)) rfl ?_
  refine j_Rsld (c' := (344, [(3, .int i), (2, .ref 75), (1, .ref 0), (0, .ref x_scr)], [.int (xs ((i + 3)).toNatClampNeg), .int (xs ((i + 2)).toNatClampNeg), .int (xs ((i + 1)).toNatClampNeg), .ref 0], h, 98, 10728)) rfl h3 ?_
  refine x_R.steps 4 (c' := (348, [(3, .int i), (2, .ref 75), (1, .ref 0), (0, .ref x_scr)], [.int (i + 4), .ref x_scr, .int (xs ((i + 3)).toNatClampNeg), .int (xs ((i + 2)).toNatClampNeg), .int (xs ((i + 1)).toNatClampNeg), .ref 0], h, 98, 10728)) rfl ?_
  refine j_Rsld (c' := (349, [(3, .int i), (2, .ref 75), (1, .ref 0), (0, .ref x_scr)], [.int (xs ((i + 4)).toNatClampNeg), .int (xs ((i + 3)).toNatClampNeg), .int (xs ((i + 2)).toNatClampNeg), .int (xs ((i + 1)).toNatClampNeg), .ref 0], h, 98, 10728)) rfl h4 ?_
  refine x_R.steps 4 (c' := (353, [(3, .int i), (2, .ref 75), (1, .ref 0), (0, .ref x_scr)], [.int (i + 5), .ref x_scr, .int (xs ((i + 4)).toNatClampNeg), .int (xs ((i + 3)).toNatClampNeg), .int (xs ((i + 2)).toNatClampNeg), .int (xs ((i + 1)).toNatClampNeg), .ref 0], h, 98, 10728)) rfl ?_
  refine j_Rsld (c' := (354, [(3, .int i), (2, .ref 75), (1, .ref 0), (0, .ref x_scr)], [.int (xs ((i + 5)).toNatClampNeg), .int (xs ((i + 4)).toNatClampNeg), .int (xs ((i + 3)).toNatClampNeg), .int (xs ((i + 2)).toNatClampNeg), .int (xs ((i + 1)).toNatClampNeg), .ref 0], h, 98, 10728)) rfl h5 ?_
  exact kk

set_option maxRecDepth 100000 in
theorem x_c0b (h : xH) (L : Nat) (xs : Nat → Int32) (i : Int32) (h0 : ¬ (i < 0 ∨ L ≤ (i).toNatClampNeg)) (h1 : ¬ (i + 1 < 0 ∨ L ≤ (i + 1).toNatClampNeg)) (h2 : ¬ (i + 2 < 0 ∨ L ≤ (i + 2).toNatClampNeg)) (h3 : ¬ (i + 3 < 0 ∨ L ≤ (i + 3).toNatClampNeg)) (h4 : ¬ (i + 4 < 0 ∨ L ≤ (i + 4).toNatClampNeg)) (h5 : ¬ (i + 5 < 0 ∨ L ≤ (i + 5).toNatClampNeg)) (v : Int32) {P : Option Value × xH × Nat × Nat → Prop} (kk : x_R x_mt (some (L, xs)) 10 M_law (384, [(3, .int i), (2, .ref 75), (1, .ref 0), (0, .ref x_scr)], [.int (xs ((i + 5)).toNatClampNeg), .int (xs ((i + 4)).toNatClampNeg), .int (xs ((i + 3)).toNatClampNeg), .int (xs ((i + 2)).toNatClampNeg), .int (xs ((i + 1)).toNatClampNeg), .ref 75], h, 98, 10728) P) : x_R x_mt (some (L, xs)) 10 M_law (357, [(3, .int i), (2, .ref 75), (1, .ref 0), (0, .ref x_scr)], [.int v], h, 98, 10728) P := by
  refine x_R.steps 6 (c' := (363, [(3, .int i), (2, .ref 75), (1, .ref 0), (0, .ref x_scr)], [.int (i + 1), .ref x_scr, .ref 75], h, 98, 10728)) rfl ?_
  refine j_Rsld (c' := (364, [(3, .int i), (2, .ref 75), (1, .ref 0), (0, .ref x_scr)], [.int (xs ((i + 1)).toNatClampNeg), .ref 75], h, 98, 10728)) rfl h1 ?_
  refine x_R.steps 4 (c' := (368, [(3, .int i), (2, .ref 75), (1, .ref 0), (0, .ref x_scr)], [.int (i + 2), .ref x_scr, .int (xs ((i + 1)).toNatClampNeg), .ref 75], h, 98, 10728)) rfl ?_
  refine j_Rsld (c' := (369, [(3, .int i), (2, .ref 75), (1, .ref 0), (0, .ref x_scr)], [.int (xs ((i + 2)).toNatClampNeg), .int (xs ((i + 1)).toNatClampNeg), .ref 75], h, 98, 10728)) rfl h2 ?_
  refine x_R.steps 4 (c' := (373, [(3, .int i), (2, .ref 75), (1, .ref 0), (0, .ref x_scr)], [.int (i + 3), .ref x_scr, .int (xs ((i + 2)).toNatClampNeg), .int (xs ((i + 1)).toNatClampNeg), .ref 75], h, 98, 10728)) rfl ?_
  refine j_Rsld (c' := (374, [(3, .int i), (2, .ref 75), (1, .ref 0), (0, .ref x_scr)], [.int (xs ((i + 3)).toNatClampNeg), .int (xs ((i + 2)).toNatClampNeg), .int (xs ((i + 1)).toNatClampNeg), .ref 75], h, 98, 10728)) rfl h3 ?_
  refine x_R.steps 4 (c' := (378, [(3, .int i), (2, .ref 75), (1, .ref 0), (0, .ref x_scr)], [.int (i + 4), .ref x_scr, .int (xs ((i + 3)).toNatClampNeg), .int (xs ((i + 2)).toNatClampNeg), .int (xs ((i + 1)).toNatClampNeg), .ref 75], h, 98, 10728)) rfl ?_
  refine j_Rsld (c' := (379, [(3, .int i), (2, .ref 75), (1, .ref 0), (0, .ref x_scr)], [.int (xs ((i + 4)).toNatClampNeg), .int (xs ((i + 3)).toNatClampNeg), .int (xs ((i + 2)).toNatClampNeg), .int (xs ((i + 1)).toNatClampNeg), .ref 75], h, 98, 10728)) rfl h4 ?_
  refine x_R.steps 4 (c' := (383, [(3, .int i), (2, .ref 75), (1, .ref 0), (0, .ref x_scr)], [.int (i + 5), .ref x_scr, .int (xs ((i + 4)).toNatClampNeg), .int (xs ((i + 3)).toNatClampNeg), .int (xs ((i + 2)).toNatClampNeg), .int (xs ((i + 1)).toNatClampNeg), .ref 75], h, 98, 10728)) rfl ?_
  refine j_Rsld (c' := (384, [(3, .int i), (2, .ref 75), (1, .ref 0), (0, .ref x_scr)], [.int (xs ((i + 5)).toNatClampNeg), .int (xs ((i + 4)).toNatClampNeg), .int (xs ((i + 3)).toNatClampNeg), .int (xs ((i + 2)).toNatClampNeg), .int (xs ((i + 1)).toNatClampNeg), .ref 75], h, 98, 10728)) rfl h5 ?_
  exact kk

set_option maxRecDepth 100000 in
theorem x_c0d (h : xH) (L : Nat) (xs : Nat → Int32) (i : Int32) (h0 : ¬ (i < 0 ∨ L ≤ (i).toNatClampNeg)) (h1 : ¬ (i + 1 < 0 ∨ L ≤ (i + 1).toNatClampNeg)) (h2 : ¬ (i + 2 < 0 ∨ L ≤ (i + 2).toNatClampNeg)) (h3 : ¬ (i + 3 < 0 ∨ L ≤ (i + 3).toNatClampNeg)) (h4 : ¬ (i + 4 < 0 ∨ L ≤ (i + 4).toNatClampNeg)) (h5 : ¬ (i + 5 < 0 ∨ L ≤ (i + 5).toNatClampNeg)) (w : Int32) {P : Option Value × xH × Nat × Nat → Prop} (kk : x_R x_mt (some (L, xs)) 10 M_law (18, [(3, .int (i + Int32.ofInt (6))), (2, .ref 75), (1, .ref 0), (0, .ref x_scr)], [], h, 98, 10728) P) : x_R x_mt (some (L, xs)) 10 M_law (387, [(3, .int i), (2, .ref 75), (1, .ref 0), (0, .ref x_scr)], [.int w], h, 98, 10728) P := by
  refine x_R.steps 4 (c' := (18, [(3, .int (i + Int32.ofInt (6))), (2, .ref 75), (1, .ref 0), (0, .ref x_scr)], [], h, 98, 10728)) rfl ?_
  exact kk

set_option maxRecDepth 100000 in
theorem x_c1a (h : xH) (L : Nat) (xs : Nat → Int32) (i : Int32) (h0 : ¬ (i < 0 ∨ L ≤ (i).toNatClampNeg)) (h1 : ¬ (i + 1 < 0 ∨ L ≤ (i + 1).toNatClampNeg)) (h2 : ¬ (i + 2 < 0 ∨ L ≤ (i + 2).toNatClampNeg)) (h3 : ¬ (i + 3 < 0 ∨ L ≤ (i + 3).toNatClampNeg)) (h4 : ¬ (i + 4 < 0 ∨ L ≤ (i + 4).toNatClampNeg)) (h5 : ¬ (i + 5 < 0 ∨ L ≤ (i + 5).toNatClampNeg)) {P : Option Value × xH × Nat × Nat → Prop} (kk : x_R x_mt (some (L, xs)) 10 M_law (397, [(3, .int i), (2, .ref 75), (1, .ref 0), (0, .ref x_scr)], [.int (xs ((i + 1)).toNatClampNeg), .ref 0], h, 98, 10728) P) : x_R x_mt (some (L, xs)) 10 M_law (391, [(3, .int i), (2, .ref 75), (1, .ref 0), (0, .ref x_scr)], [], h, 98, 10728) P := by
  refine x_R.steps 5 (c' := (396, [(3, .int i), (2, .ref 75), (1, .ref 0), (0, .ref x_scr)], [.int (i + 1), .ref x_scr, .ref 0], h, 98, 10728)) rfl ?_
  refine j_Rsld (c' := (397, [(3, .int i), (2, .ref 75), (1, .ref 0), (0, .ref x_scr)], [.int (xs ((i + 1)).toNatClampNeg), .ref 0], h, 98, 10728)) rfl h1 ?_
  exact kk

set_option maxRecDepth 100000 in
theorem x_c1b (h : xH) (L : Nat) (xs : Nat → Int32) (i : Int32) (h0 : ¬ (i < 0 ∨ L ≤ (i).toNatClampNeg)) (h1 : ¬ (i + 1 < 0 ∨ L ≤ (i + 1).toNatClampNeg)) (h2 : ¬ (i + 2 < 0 ∨ L ≤ (i + 2).toNatClampNeg)) (h3 : ¬ (i + 3 < 0 ∨ L ≤ (i + 3).toNatClampNeg)) (h4 : ¬ (i + 4 < 0 ∨ L ≤ (i + 4).toNatClampNeg)) (h5 : ¬ (i + 5 < 0 ∨ L ≤ (i + 5).toNatClampNeg)) (v : Int32) {P : Option Value × xH × Nat × Nat → Prop} (kk : x_R x_mt (some (L, xs)) 10 M_law (407, [(3, .int i), (2, .ref 75), (1, .ref 0), (0, .ref x_scr)], [.int (xs ((i + 1)).toNatClampNeg), .ref 75], h, 98, 10728) P) : x_R x_mt (some (L, xs)) 10 M_law (400, [(3, .int i), (2, .ref 75), (1, .ref 0), (0, .ref x_scr)], [.int v], h, 98, 10728) P := by
  refine x_R.steps 6 (c' := (406, [(3, .int i), (2, .ref 75), (1, .ref 0), (0, .ref x_scr)], [.int (i + 1), .ref x_scr, .ref 75], h, 98, 10728)) rfl ?_
  refine j_Rsld (c' := (407, [(3, .int i), (2, .ref 75), (1, .ref 0), (0, .ref x_scr)], [.int (xs ((i + 1)).toNatClampNeg), .ref 75], h, 98, 10728)) rfl h1 ?_
  exact kk

set_option maxRecDepth 100000 in
theorem x_c1d (h : xH) (L : Nat) (xs : Nat → Int32) (i : Int32) (h0 : ¬ (i < 0 ∨ L ≤ (i).toNatClampNeg)) (h1 : ¬ (i + 1 < 0 ∨ L ≤ (i + 1).toNatClampNeg)) (h2 : ¬ (i + 2 < 0 ∨ L ≤ (i + 2).toNatClampNeg)) (h3 : ¬ (i + 3 < 0 ∨ L ≤ (i + 3).toNatClampNeg)) (h4 : ¬ (i + 4 < 0 ∨ L ≤ (i + 4).toNatClampNeg)) (h5 : ¬ (i + 5 < 0 ∨ L ≤ (i + 5).toNatClampNeg)) (w : Int32) {P : Option Value × xH × Nat × Nat → Prop} (kk : x_R x_mt (some (L, xs)) 10 M_law (18, [(3, .int (i + Int32.ofInt (6))), (2, .ref 75), (1, .ref 0), (0, .ref x_scr)], [], h, 98, 10728) P) : x_R x_mt (some (L, xs)) 10 M_law (410, [(3, .int i), (2, .ref 75), (1, .ref 0), (0, .ref x_scr)], [.int w], h, 98, 10728) P := by
  refine x_R.steps 4 (c' := (18, [(3, .int (i + Int32.ofInt (6))), (2, .ref 75), (1, .ref 0), (0, .ref x_scr)], [], h, 98, 10728)) rfl ?_
  exact kk

set_option maxRecDepth 100000 in
theorem x_c2a (h : xH) (L : Nat) (xs : Nat → Int32) (i : Int32) (h0 : ¬ (i < 0 ∨ L ≤ (i).toNatClampNeg)) (h1 : ¬ (i + 1 < 0 ∨ L ≤ (i + 1).toNatClampNeg)) (h2 : ¬ (i + 2 < 0 ∨ L ≤ (i + 2).toNatClampNeg)) (h3 : ¬ (i + 3 < 0 ∨ L ≤ (i + 3).toNatClampNeg)) (h4 : ¬ (i + 4 < 0 ∨ L ≤ (i + 4).toNatClampNeg)) (h5 : ¬ (i + 5 < 0 ∨ L ≤ (i + 5).toNatClampNeg)) {P : Option Value × xH × Nat × Nat → Prop} (kk : x_R x_mt (some (L, xs)) 10 M_law (415, [(3, .int i), (2, .ref 75), (1, .ref 0), (0, .ref x_scr)], [.ref 0], h, 98, 10728) P) : x_R x_mt (some (L, xs)) 10 M_law (414, [(3, .int i), (2, .ref 75), (1, .ref 0), (0, .ref x_scr)], [], h, 98, 10728) P := by
  refine x_R.steps 1 (c' := (415, [(3, .int i), (2, .ref 75), (1, .ref 0), (0, .ref x_scr)], [.ref 0], h, 98, 10728)) rfl ?_
  exact kk

set_option maxRecDepth 100000 in
theorem x_c2b (h : xH) (L : Nat) (xs : Nat → Int32) (i : Int32) (h0 : ¬ (i < 0 ∨ L ≤ (i).toNatClampNeg)) (h1 : ¬ (i + 1 < 0 ∨ L ≤ (i + 1).toNatClampNeg)) (h2 : ¬ (i + 2 < 0 ∨ L ≤ (i + 2).toNatClampNeg)) (h3 : ¬ (i + 3 < 0 ∨ L ≤ (i + 3).toNatClampNeg)) (h4 : ¬ (i + 4 < 0 ∨ L ≤ (i + 4).toNatClampNeg)) (h5 : ¬ (i + 5 < 0 ∨ L ≤ (i + 5).toNatClampNeg)) (v : Int32) {P : Option Value × xH × Nat × Nat → Prop} (kk : x_R x_mt (some (L, xs)) 10 M_law (420, [(3, .int i), (2, .ref 75), (1, .ref 0), (0, .ref x_scr)], [.ref 75], h, 98, 10728) P) : x_R x_mt (some (L, xs)) 10 M_law (418, [(3, .int i), (2, .ref 75), (1, .ref 0), (0, .ref x_scr)], [.int v], h, 98, 10728) P := by
  refine x_R.steps 2 (c' := (420, [(3, .int i), (2, .ref 75), (1, .ref 0), (0, .ref x_scr)], [.ref 75], h, 98, 10728)) rfl ?_
  exact kk

set_option maxRecDepth 100000 in
theorem x_c2d (h : xH) (L : Nat) (xs : Nat → Int32) (i : Int32) (h0 : ¬ (i < 0 ∨ L ≤ (i).toNatClampNeg)) (h1 : ¬ (i + 1 < 0 ∨ L ≤ (i + 1).toNatClampNeg)) (h2 : ¬ (i + 2 < 0 ∨ L ≤ (i + 2).toNatClampNeg)) (h3 : ¬ (i + 3 < 0 ∨ L ≤ (i + 3).toNatClampNeg)) (h4 : ¬ (i + 4 < 0 ∨ L ≤ (i + 4).toNatClampNeg)) (h5 : ¬ (i + 5 < 0 ∨ L ≤ (i + 5).toNatClampNeg)) (w : Int32) {P : Option Value × xH × Nat × Nat → Prop} (kk : x_R x_mt (some (L, xs)) 10 M_law (18, [(3, .int (i + Int32.ofInt (6))), (2, .ref 75), (1, .ref 0), (0, .ref x_scr)], [], h, 98, 10728) P) : x_R x_mt (some (L, xs)) 10 M_law (423, [(3, .int i), (2, .ref 75), (1, .ref 0), (0, .ref x_scr)], [.int w], h, 98, 10728) P := by
  refine x_R.steps 4 (c' := (18, [(3, .int (i + Int32.ofInt (6))), (2, .ref 75), (1, .ref 0), (0, .ref x_scr)], [], h, 98, 10728)) rfl ?_
  exact kk

set_option maxRecDepth 100000 in
theorem x_c3a (h : xH) (L : Nat) (xs : Nat → Int32) (i : Int32) (h0 : ¬ (i < 0 ∨ L ≤ (i).toNatClampNeg)) (h1 : ¬ (i + 1 < 0 ∨ L ≤ (i + 1).toNatClampNeg)) (h2 : ¬ (i + 2 < 0 ∨ L ≤ (i + 2).toNatClampNeg)) (h3 : ¬ (i + 3 < 0 ∨ L ≤ (i + 3).toNatClampNeg)) (h4 : ¬ (i + 4 < 0 ∨ L ≤ (i + 4).toNatClampNeg)) (h5 : ¬ (i + 5 < 0 ∨ L ≤ (i + 5).toNatClampNeg)) {P : Option Value × xH × Nat × Nat → Prop} (kk : x_R x_mt (some (L, xs)) 10 M_law (433, [(3, .int i), (2, .ref 75), (1, .ref 0), (0, .ref x_scr)], [.int (xs ((i + 1)).toNatClampNeg), .ref 0], h, 98, 10728) P) : x_R x_mt (some (L, xs)) 10 M_law (427, [(3, .int i), (2, .ref 75), (1, .ref 0), (0, .ref x_scr)], [], h, 98, 10728) P := by
  refine x_R.steps 5 (c' := (432, [(3, .int i), (2, .ref 75), (1, .ref 0), (0, .ref x_scr)], [.int (i + 1), .ref x_scr, .ref 0], h, 98, 10728)) rfl ?_
  refine j_Rsld (c' := (433, [(3, .int i), (2, .ref 75), (1, .ref 0), (0, .ref x_scr)], [.int (xs ((i + 1)).toNatClampNeg), .ref 0], h, 98, 10728)) rfl h1 ?_
  exact kk

set_option maxRecDepth 100000 in
theorem x_c3b (h : xH) (L : Nat) (xs : Nat → Int32) (i : Int32) (h0 : ¬ (i < 0 ∨ L ≤ (i).toNatClampNeg)) (h1 : ¬ (i + 1 < 0 ∨ L ≤ (i + 1).toNatClampNeg)) (h2 : ¬ (i + 2 < 0 ∨ L ≤ (i + 2).toNatClampNeg)) (h3 : ¬ (i + 3 < 0 ∨ L ≤ (i + 3).toNatClampNeg)) (h4 : ¬ (i + 4 < 0 ∨ L ≤ (i + 4).toNatClampNeg)) (h5 : ¬ (i + 5 < 0 ∨ L ≤ (i + 5).toNatClampNeg)) (v : Int32) {P : Option Value × xH × Nat × Nat → Prop} (kk : x_R x_mt (some (L, xs)) 10 M_law (443, [(3, .int i), (2, .ref 75), (1, .ref 0), (0, .ref x_scr)], [.int (xs ((i + 1)).toNatClampNeg), .ref 75], h, 98, 10728) P) : x_R x_mt (some (L, xs)) 10 M_law (436, [(3, .int i), (2, .ref 75), (1, .ref 0), (0, .ref x_scr)], [.int v], h, 98, 10728) P := by
  refine x_R.steps 6 (c' := (442, [(3, .int i), (2, .ref 75), (1, .ref 0), (0, .ref x_scr)], [.int (i + 1), .ref x_scr, .ref 75], h, 98, 10728)) rfl ?_
  refine j_Rsld (c' := (443, [(3, .int i), (2, .ref 75), (1, .ref 0), (0, .ref x_scr)], [.int (xs ((i + 1)).toNatClampNeg), .ref 75], h, 98, 10728)) rfl h1 ?_
  exact kk

set_option maxRecDepth 100000 in
theorem x_c3d (h : xH) (L : Nat) (xs : Nat → Int32) (i : Int32) (h0 : ¬ (i < 0 ∨ L ≤ (i).toNatClampNeg)) (h1 : ¬ (i + 1 < 0 ∨ L ≤ (i + 1).toNatClampNeg)) (h2 : ¬ (i + 2 < 0 ∨ L ≤ (i + 2).toNatClampNeg)) (h3 : ¬ (i + 3 < 0 ∨ L ≤ (i + 3).toNatClampNeg)) (h4 : ¬ (i + 4 < 0 ∨ L ≤ (i + 4).toNatClampNeg)) (h5 : ¬ (i + 5 < 0 ∨ L ≤ (i + 5).toNatClampNeg)) (w : Int32) {P : Option Value × xH × Nat × Nat → Prop} (kk : x_R x_mt (some (L, xs)) 10 M_law (18, [(3, .int (i + Int32.ofInt (6))), (2, .ref 75), (1, .ref 0), (0, .ref x_scr)], [], h, 98, 10728) P) : x_R x_mt (some (L, xs)) 10 M_law (446, [(3, .int i), (2, .ref 75), (1, .ref 0), (0, .ref x_scr)], [.int w], h, 98, 10728) P := by
  refine x_R.steps 4 (c' := (18, [(3, .int (i + Int32.ofInt (6))), (2, .ref 75), (1, .ref 0), (0, .ref x_scr)], [], h, 98, 10728)) rfl ?_
  exact kk

set_option maxRecDepth 100000 in
theorem x_c4a (h : xH) (L : Nat) (xs : Nat → Int32) (i : Int32) (h0 : ¬ (i < 0 ∨ L ≤ (i).toNatClampNeg)) (h1 : ¬ (i + 1 < 0 ∨ L ≤ (i + 1).toNatClampNeg)) (h2 : ¬ (i + 2 < 0 ∨ L ≤ (i + 2).toNatClampNeg)) (h3 : ¬ (i + 3 < 0 ∨ L ≤ (i + 3).toNatClampNeg)) (h4 : ¬ (i + 4 < 0 ∨ L ≤ (i + 4).toNatClampNeg)) (h5 : ¬ (i + 5 < 0 ∨ L ≤ (i + 5).toNatClampNeg)) {P : Option Value × xH × Nat × Nat → Prop} (kk : x_R x_mt (some (L, xs)) 10 M_law (461, [(3, .int i), (2, .ref 75), (1, .ref 0), (0, .ref x_scr)], [.int (xs ((i + 2)).toNatClampNeg), .int (xs ((i + 1)).toNatClampNeg), .ref 0], h, 98, 10728) P) : x_R x_mt (some (L, xs)) 10 M_law (450, [(3, .int i), (2, .ref 75), (1, .ref 0), (0, .ref x_scr)], [], h, 98, 10728) P := by
  refine x_R.steps 5 (c' := (455, [(3, .int i), (2, .ref 75), (1, .ref 0), (0, .ref x_scr)], [.int (i + 1), .ref x_scr, .ref 0], h, 98, 10728)) rfl ?_
  refine j_Rsld (c' := (456, [(3, .int i), (2, .ref 75), (1, .ref 0), (0, .ref x_scr)], [.int (xs ((i + 1)).toNatClampNeg), .ref 0], h, 98, 10728)) rfl h1 ?_
  refine x_R.steps 4 (c' := (460, [(3, .int i), (2, .ref 75), (1, .ref 0), (0, .ref x_scr)], [.int (i + 2), .ref x_scr, .int (xs ((i + 1)).toNatClampNeg), .ref 0], h, 98, 10728)) rfl ?_
  refine j_Rsld (c' := (461, [(3, .int i), (2, .ref 75), (1, .ref 0), (0, .ref x_scr)], [.int (xs ((i + 2)).toNatClampNeg), .int (xs ((i + 1)).toNatClampNeg), .ref 0], h, 98, 10728)) rfl h2 ?_
  exact kk

set_option maxRecDepth 100000 in
theorem x_c4b (h : xH) (L : Nat) (xs : Nat → Int32) (i : Int32) (h0 : ¬ (i < 0 ∨ L ≤ (i).toNatClampNeg)) (h1 : ¬ (i + 1 < 0 ∨ L ≤ (i + 1).toNatClampNeg)) (h2 : ¬ (i + 2 < 0 ∨ L ≤ (i + 2).toNatClampNeg)) (h3 : ¬ (i + 3 < 0 ∨ L ≤ (i + 3).toNatClampNeg)) (h4 : ¬ (i + 4 < 0 ∨ L ≤ (i + 4).toNatClampNeg)) (h5 : ¬ (i + 5 < 0 ∨ L ≤ (i + 5).toNatClampNeg)) (v : Int32) {P : Option Value × xH × Nat × Nat → Prop} (kk : x_R x_mt (some (L, xs)) 10 M_law (476, [(3, .int i), (2, .ref 75), (1, .ref 0), (0, .ref x_scr)], [.int (xs ((i + 2)).toNatClampNeg), .int (xs ((i + 1)).toNatClampNeg), .ref 75], h, 98, 10728) P) : x_R x_mt (some (L, xs)) 10 M_law (464, [(3, .int i), (2, .ref 75), (1, .ref 0), (0, .ref x_scr)], [.int v], h, 98, 10728) P := by
  refine x_R.steps 6 (c' := (470, [(3, .int i), (2, .ref 75), (1, .ref 0), (0, .ref x_scr)], [.int (i + 1), .ref x_scr, .ref 75], h, 98, 10728)) rfl ?_
  refine j_Rsld (c' := (471, [(3, .int i), (2, .ref 75), (1, .ref 0), (0, .ref x_scr)], [.int (xs ((i + 1)).toNatClampNeg), .ref 75], h, 98, 10728)) rfl h1 ?_
  refine x_R.steps 4 (c' := (475, [(3, .int i), (2, .ref 75), (1, .ref 0), (0, .ref x_scr)], [.int (i + 2), .ref x_scr, .int (xs ((i + 1)).toNatClampNeg), .ref 75], h, 98, 10728)) rfl ?_
  refine j_Rsld (c' := (476, [(3, .int i), (2, .ref 75), (1, .ref 0), (0, .ref x_scr)], [.int (xs ((i + 2)).toNatClampNeg), .int (xs ((i + 1)).toNatClampNeg), .ref 75], h, 98, 10728)) rfl h2 ?_
  exact kk

set_option maxRecDepth 100000 in
theorem x_c4d (h : xH) (L : Nat) (xs : Nat → Int32) (i : Int32) (h0 : ¬ (i < 0 ∨ L ≤ (i).toNatClampNeg)) (h1 : ¬ (i + 1 < 0 ∨ L ≤ (i + 1).toNatClampNeg)) (h2 : ¬ (i + 2 < 0 ∨ L ≤ (i + 2).toNatClampNeg)) (h3 : ¬ (i + 3 < 0 ∨ L ≤ (i + 3).toNatClampNeg)) (h4 : ¬ (i + 4 < 0 ∨ L ≤ (i + 4).toNatClampNeg)) (h5 : ¬ (i + 5 < 0 ∨ L ≤ (i + 5).toNatClampNeg)) (w : Int32) {P : Option Value × xH × Nat × Nat → Prop} (kk : x_R x_mt (some (L, xs)) 10 M_law (18, [(3, .int (i + Int32.ofInt (6))), (2, .ref 75), (1, .ref 0), (0, .ref x_scr)], [], h, 98, 10728) P) : x_R x_mt (some (L, xs)) 10 M_law (479, [(3, .int i), (2, .ref 75), (1, .ref 0), (0, .ref x_scr)], [.int w], h, 98, 10728) P := by
  refine x_R.steps 4 (c' := (18, [(3, .int (i + Int32.ofInt (6))), (2, .ref 75), (1, .ref 0), (0, .ref x_scr)], [], h, 98, 10728)) rfl ?_
  exact kk

set_option maxRecDepth 100000 in
theorem x_c5a (h : xH) (L : Nat) (xs : Nat → Int32) (i : Int32) (h0 : ¬ (i < 0 ∨ L ≤ (i).toNatClampNeg)) (h1 : ¬ (i + 1 < 0 ∨ L ≤ (i + 1).toNatClampNeg)) (h2 : ¬ (i + 2 < 0 ∨ L ≤ (i + 2).toNatClampNeg)) (h3 : ¬ (i + 3 < 0 ∨ L ≤ (i + 3).toNatClampNeg)) (h4 : ¬ (i + 4 < 0 ∨ L ≤ (i + 4).toNatClampNeg)) (h5 : ¬ (i + 5 < 0 ∨ L ≤ (i + 5).toNatClampNeg)) {P : Option Value × xH × Nat × Nat → Prop} (kk : x_R x_mt (some (L, xs)) 10 M_law (494, [(3, .int i), (2, .ref 75), (1, .ref 0), (0, .ref x_scr)], [.int (xs ((i + 2)).toNatClampNeg), .int (xs ((i + 1)).toNatClampNeg), .ref 0], h, 98, 10728) P) : x_R x_mt (some (L, xs)) 10 M_law (483, [(3, .int i), (2, .ref 75), (1, .ref 0), (0, .ref x_scr)], [], h, 98, 10728) P := by
  refine x_R.steps 5 (c' := (488, [(3, .int i), (2, .ref 75), (1, .ref 0), (0, .ref x_scr)], [.int (i + 1), .ref x_scr, .ref 0], h, 98, 10728)) rfl ?_
  refine j_Rsld (c' := (489, [(3, .int i), (2, .ref 75), (1, .ref 0), (0, .ref x_scr)], [.int (xs ((i + 1)).toNatClampNeg), .ref 0], h, 98, 10728)) rfl h1 ?_
  refine x_R.steps 4 (c' := (493, [(3, .int i), (2, .ref 75), (1, .ref 0), (0, .ref x_scr)], [.int (i + 2), .ref x_scr, .int (xs ((i + 1)).toNatClampNeg), .ref 0], h, 98, 10728)) rfl ?_
  refine j_Rsld (c' := (494, [(3, .int i), (2, .ref 75), (1, .ref 0), (0, .ref x_scr)], [.int (xs ((i + 2)).toNatClampNeg), .int (xs ((i + 1)).toNatClampNeg), .ref 0], h, 98, 10728)) rfl h2 ?_
  exact kk

set_option maxRecDepth 100000 in
theorem x_c5b (h : xH) (L : Nat) (xs : Nat → Int32) (i : Int32) (h0 : ¬ (i < 0 ∨ L ≤ (i).toNatClampNeg)) (h1 : ¬ (i + 1 < 0 ∨ L ≤ (i + 1).toNatClampNeg)) (h2 : ¬ (i + 2 < 0 ∨ L ≤ (i + 2).toNatClampNeg)) (h3 : ¬ (i + 3 < 0 ∨ L ≤ (i + 3).toNatClampNeg)) (h4 : ¬ (i + 4 < 0 ∨ L ≤ (i + 4).toNatClampNeg)) (h5 : ¬ (i + 5 < 0 ∨ L ≤ (i + 5).toNatClampNeg)) (v : Int32) {P : Option Value × xH × Nat × Nat → Prop} (kk : x_R x_mt (some (L, xs)) 10 M_law (509, [(3, .int i), (2, .ref 75), (1, .ref 0), (0, .ref x_scr)], [.int (xs ((i + 2)).toNatClampNeg), .int (xs ((i + 1)).toNatClampNeg), .ref 75], h, 98, 10728) P) : x_R x_mt (some (L, xs)) 10 M_law (497, [(3, .int i), (2, .ref 75), (1, .ref 0), (0, .ref x_scr)], [.int v], h, 98, 10728) P := by
  refine x_R.steps 6 (c' := (503, [(3, .int i), (2, .ref 75), (1, .ref 0), (0, .ref x_scr)], [.int (i + 1), .ref x_scr, .ref 75], h, 98, 10728)) rfl ?_
  refine j_Rsld (c' := (504, [(3, .int i), (2, .ref 75), (1, .ref 0), (0, .ref x_scr)], [.int (xs ((i + 1)).toNatClampNeg), .ref 75], h, 98, 10728)) rfl h1 ?_
  refine x_R.steps 4 (c' := (508, [(3, .int i), (2, .ref 75), (1, .ref 0), (0, .ref x_scr)], [.int (i + 2), .ref x_scr, .int (xs ((i + 1)).toNatClampNeg), .ref 75], h, 98, 10728)) rfl ?_
  refine j_Rsld (c' := (509, [(3, .int i), (2, .ref 75), (1, .ref 0), (0, .ref x_scr)], [.int (xs ((i + 2)).toNatClampNeg), .int (xs ((i + 1)).toNatClampNeg), .ref 75], h, 98, 10728)) rfl h2 ?_
  exact kk

set_option maxRecDepth 100000 in
theorem x_c5d (h : xH) (L : Nat) (xs : Nat → Int32) (i : Int32) (h0 : ¬ (i < 0 ∨ L ≤ (i).toNatClampNeg)) (h1 : ¬ (i + 1 < 0 ∨ L ≤ (i + 1).toNatClampNeg)) (h2 : ¬ (i + 2 < 0 ∨ L ≤ (i + 2).toNatClampNeg)) (h3 : ¬ (i + 3 < 0 ∨ L ≤ (i + 3).toNatClampNeg)) (h4 : ¬ (i + 4 < 0 ∨ L ≤ (i + 4).toNatClampNeg)) (h5 : ¬ (i + 5 < 0 ∨ L ≤ (i + 5).toNatClampNeg)) (w : Int32) {P : Option Value × xH × Nat × Nat → Prop} (kk : x_R x_mt (some (L, xs)) 10 M_law (18, [(3, .int (i + Int32.ofInt (6))), (2, .ref 75), (1, .ref 0), (0, .ref x_scr)], [], h, 98, 10728) P) : x_R x_mt (some (L, xs)) 10 M_law (512, [(3, .int i), (2, .ref 75), (1, .ref 0), (0, .ref x_scr)], [.int w], h, 98, 10728) P := by
  refine x_R.steps 4 (c' := (18, [(3, .int (i + Int32.ofInt (6))), (2, .ref 75), (1, .ref 0), (0, .ref x_scr)], [], h, 98, 10728)) rfl ?_
  exact kk

set_option maxRecDepth 100000 in
theorem x_c6a (h : xH) (L : Nat) (xs : Nat → Int32) (i : Int32) (h0 : ¬ (i < 0 ∨ L ≤ (i).toNatClampNeg)) (h1 : ¬ (i + 1 < 0 ∨ L ≤ (i + 1).toNatClampNeg)) (h2 : ¬ (i + 2 < 0 ∨ L ≤ (i + 2).toNatClampNeg)) (h3 : ¬ (i + 3 < 0 ∨ L ≤ (i + 3).toNatClampNeg)) (h4 : ¬ (i + 4 < 0 ∨ L ≤ (i + 4).toNatClampNeg)) (h5 : ¬ (i + 5 < 0 ∨ L ≤ (i + 5).toNatClampNeg)) {P : Option Value × xH × Nat × Nat → Prop} (kk : x_R x_mt (some (L, xs)) 10 M_law (522, [(3, .int i), (2, .ref 75), (1, .ref 0), (0, .ref x_scr)], [.int (xs ((i + 1)).toNatClampNeg), .ref 0], h, 98, 10728) P) : x_R x_mt (some (L, xs)) 10 M_law (516, [(3, .int i), (2, .ref 75), (1, .ref 0), (0, .ref x_scr)], [], h, 98, 10728) P := by
  refine x_R.steps 5 (c' := (521, [(3, .int i), (2, .ref 75), (1, .ref 0), (0, .ref x_scr)], [.int (i + 1), .ref x_scr, .ref 0], h, 98, 10728)) rfl ?_
  refine j_Rsld (c' := (522, [(3, .int i), (2, .ref 75), (1, .ref 0), (0, .ref x_scr)], [.int (xs ((i + 1)).toNatClampNeg), .ref 0], h, 98, 10728)) rfl h1 ?_
  exact kk

set_option maxRecDepth 100000 in
theorem x_c6b (h : xH) (L : Nat) (xs : Nat → Int32) (i : Int32) (h0 : ¬ (i < 0 ∨ L ≤ (i).toNatClampNeg)) (h1 : ¬ (i + 1 < 0 ∨ L ≤ (i + 1).toNatClampNeg)) (h2 : ¬ (i + 2 < 0 ∨ L ≤ (i + 2).toNatClampNeg)) (h3 : ¬ (i + 3 < 0 ∨ L ≤ (i + 3).toNatClampNeg)) (h4 : ¬ (i + 4 < 0 ∨ L ≤ (i + 4).toNatClampNeg)) (h5 : ¬ (i + 5 < 0 ∨ L ≤ (i + 5).toNatClampNeg)) (v : Int32) {P : Option Value × xH × Nat × Nat → Prop} (kk : x_R x_mt (some (L, xs)) 10 M_law (532, [(3, .int i), (2, .ref 75), (1, .ref 0), (0, .ref x_scr)], [.int (xs ((i + 1)).toNatClampNeg), .ref 75], h, 98, 10728) P) : x_R x_mt (some (L, xs)) 10 M_law (525, [(3, .int i), (2, .ref 75), (1, .ref 0), (0, .ref x_scr)], [.int v], h, 98, 10728) P := by
  refine x_R.steps 6 (c' := (531, [(3, .int i), (2, .ref 75), (1, .ref 0), (0, .ref x_scr)], [.int (i + 1), .ref x_scr, .ref 75], h, 98, 10728)) rfl ?_
  refine j_Rsld (c' := (532, [(3, .int i), (2, .ref 75), (1, .ref 0), (0, .ref x_scr)], [.int (xs ((i + 1)).toNatClampNeg), .ref 75], h, 98, 10728)) rfl h1 ?_
  exact kk

set_option maxRecDepth 100000 in
theorem x_c6d (h : xH) (L : Nat) (xs : Nat → Int32) (i : Int32) (h0 : ¬ (i < 0 ∨ L ≤ (i).toNatClampNeg)) (h1 : ¬ (i + 1 < 0 ∨ L ≤ (i + 1).toNatClampNeg)) (h2 : ¬ (i + 2 < 0 ∨ L ≤ (i + 2).toNatClampNeg)) (h3 : ¬ (i + 3 < 0 ∨ L ≤ (i + 3).toNatClampNeg)) (h4 : ¬ (i + 4 < 0 ∨ L ≤ (i + 4).toNatClampNeg)) (h5 : ¬ (i + 5 < 0 ∨ L ≤ (i + 5).toNatClampNeg)) (w : Int32) {P : Option Value × xH × Nat × Nat → Prop} (kk : x_R x_mt (some (L, xs)) 10 M_law (18, [(3, .int (i + Int32.ofInt (6))), (2, .ref 75), (1, .ref 0), (0, .ref x_scr)], [], h, 98, 10728) P) : x_R x_mt (some (L, xs)) 10 M_law (535, [(3, .int i), (2, .ref 75), (1, .ref 0), (0, .ref x_scr)], [.int w], h, 98, 10728) P := by
  refine x_R.steps 4 (c' := (18, [(3, .int (i + Int32.ofInt (6))), (2, .ref 75), (1, .ref 0), (0, .ref x_scr)], [], h, 98, 10728)) rfl ?_
  exact kk

set_option maxRecDepth 100000 in
theorem x_c7a (h : xH) (L : Nat) (xs : Nat → Int32) (i : Int32) (h0 : ¬ (i < 0 ∨ L ≤ (i).toNatClampNeg)) (h1 : ¬ (i + 1 < 0 ∨ L ≤ (i + 1).toNatClampNeg)) (h2 : ¬ (i + 2 < 0 ∨ L ≤ (i + 2).toNatClampNeg)) (h3 : ¬ (i + 3 < 0 ∨ L ≤ (i + 3).toNatClampNeg)) (h4 : ¬ (i + 4 < 0 ∨ L ≤ (i + 4).toNatClampNeg)) (h5 : ¬ (i + 5 < 0 ∨ L ≤ (i + 5).toNatClampNeg)) {P : Option Value × xH × Nat × Nat → Prop} (kk : x_R x_mt (some (L, xs)) 10 M_law (540, [(3, .int i), (2, .ref 75), (1, .ref 0), (0, .ref x_scr)], [.ref 0], h, 98, 10728) P) : x_R x_mt (some (L, xs)) 10 M_law (539, [(3, .int i), (2, .ref 75), (1, .ref 0), (0, .ref x_scr)], [], h, 98, 10728) P := by
  refine x_R.steps 1 (c' := (540, [(3, .int i), (2, .ref 75), (1, .ref 0), (0, .ref x_scr)], [.ref 0], h, 98, 10728)) rfl ?_
  exact kk

set_option maxRecDepth 100000 in
theorem x_c7b (h : xH) (L : Nat) (xs : Nat → Int32) (i : Int32) (h0 : ¬ (i < 0 ∨ L ≤ (i).toNatClampNeg)) (h1 : ¬ (i + 1 < 0 ∨ L ≤ (i + 1).toNatClampNeg)) (h2 : ¬ (i + 2 < 0 ∨ L ≤ (i + 2).toNatClampNeg)) (h3 : ¬ (i + 3 < 0 ∨ L ≤ (i + 3).toNatClampNeg)) (h4 : ¬ (i + 4 < 0 ∨ L ≤ (i + 4).toNatClampNeg)) (h5 : ¬ (i + 5 < 0 ∨ L ≤ (i + 5).toNatClampNeg)) (v : Int32) {P : Option Value × xH × Nat × Nat → Prop} (kk : x_R x_mt (some (L, xs)) 10 M_law (545, [(3, .int i), (2, .ref 75), (1, .ref 0), (0, .ref x_scr)], [.ref 75], h, 98, 10728) P) : x_R x_mt (some (L, xs)) 10 M_law (543, [(3, .int i), (2, .ref 75), (1, .ref 0), (0, .ref x_scr)], [.int v], h, 98, 10728) P := by
  refine x_R.steps 2 (c' := (545, [(3, .int i), (2, .ref 75), (1, .ref 0), (0, .ref x_scr)], [.ref 75], h, 98, 10728)) rfl ?_
  exact kk

set_option maxRecDepth 100000 in
theorem x_c7d (h : xH) (L : Nat) (xs : Nat → Int32) (i : Int32) (h0 : ¬ (i < 0 ∨ L ≤ (i).toNatClampNeg)) (h1 : ¬ (i + 1 < 0 ∨ L ≤ (i + 1).toNatClampNeg)) (h2 : ¬ (i + 2 < 0 ∨ L ≤ (i + 2).toNatClampNeg)) (h3 : ¬ (i + 3 < 0 ∨ L ≤ (i + 3).toNatClampNeg)) (h4 : ¬ (i + 4 < 0 ∨ L ≤ (i + 4).toNatClampNeg)) (h5 : ¬ (i + 5 < 0 ∨ L ≤ (i + 5).toNatClampNeg)) (w : Int32) {P : Option Value × xH × Nat × Nat → Prop} (kk : x_R x_mt (some (L, xs)) 10 M_law (18, [(3, .int (i + Int32.ofInt (6))), (2, .ref 75), (1, .ref 0), (0, .ref x_scr)], [], h, 98, 10728) P) : x_R x_mt (some (L, xs)) 10 M_law (548, [(3, .int i), (2, .ref 75), (1, .ref 0), (0, .ref x_scr)], [.int w], h, 98, 10728) P := by
  refine x_R.steps 4 (c' := (18, [(3, .int (i + Int32.ofInt (6))), (2, .ref 75), (1, .ref 0), (0, .ref x_scr)], [], h, 98, 10728)) rfl ?_
  exact kk

set_option maxRecDepth 100000 in
theorem x_c8a (h : xH) (L : Nat) (xs : Nat → Int32) (i : Int32) (h0 : ¬ (i < 0 ∨ L ≤ (i).toNatClampNeg)) (h1 : ¬ (i + 1 < 0 ∨ L ≤ (i + 1).toNatClampNeg)) (h2 : ¬ (i + 2 < 0 ∨ L ≤ (i + 2).toNatClampNeg)) (h3 : ¬ (i + 3 < 0 ∨ L ≤ (i + 3).toNatClampNeg)) (h4 : ¬ (i + 4 < 0 ∨ L ≤ (i + 4).toNatClampNeg)) (h5 : ¬ (i + 5 < 0 ∨ L ≤ (i + 5).toNatClampNeg)) {P : Option Value × xH × Nat × Nat → Prop} (kk : x_R x_mt (some (L, xs)) 10 M_law (563, [(3, .int i), (2, .ref 75), (1, .ref 0), (0, .ref x_scr)], [.int (xs ((i + 2)).toNatClampNeg), .int (xs ((i + 1)).toNatClampNeg), .ref 0], h, 98, 10728) P) : x_R x_mt (some (L, xs)) 10 M_law (552, [(3, .int i), (2, .ref 75), (1, .ref 0), (0, .ref x_scr)], [], h, 98, 10728) P := by
  refine x_R.steps 5 (c' := (557, [(3, .int i), (2, .ref 75), (1, .ref 0), (0, .ref x_scr)], [.int (i + 1), .ref x_scr, .ref 0], h, 98, 10728)) rfl ?_
  refine j_Rsld (c' := (558, [(3, .int i), (2, .ref 75), (1, .ref 0), (0, .ref x_scr)], [.int (xs ((i + 1)).toNatClampNeg), .ref 0], h, 98, 10728)) rfl h1 ?_
  refine x_R.steps 4 (c' := (562, [(3, .int i), (2, .ref 75), (1, .ref 0), (0, .ref x_scr)], [.int (i + 2), .ref x_scr, .int (xs ((i + 1)).toNatClampNeg), .ref 0], h, 98, 10728)) rfl ?_
  refine j_Rsld (c' := (563, [(3, .int i), (2, .ref 75), (1, .ref 0), (0, .ref x_scr)], [.int (xs ((i + 2)).toNatClampNeg), .int (xs ((i + 1)).toNatClampNeg), .ref 0], h, 98, 10728)) rfl h2 ?_
  exact kk

set_option maxRecDepth 100000 in
theorem x_c8b (h : xH) (L : Nat) (xs : Nat → Int32) (i : Int32) (h0 : ¬ (i < 0 ∨ L ≤ (i).toNatClampNeg)) (h1 : ¬ (i + 1 < 0 ∨ L ≤ (i + 1).toNatClampNeg)) (h2 : ¬ (i + 2 < 0 ∨ L ≤ (i + 2).toNatClampNeg)) (h3 : ¬ (i + 3 < 0 ∨ L ≤ (i + 3).toNatClampNeg)) (h4 : ¬ (i + 4 < 0 ∨ L ≤ (i + 4).toNatClampNeg)) (h5 : ¬ (i + 5 < 0 ∨ L ≤ (i + 5).toNatClampNeg)) (v : Int32) {P : Option Value × xH × Nat × Nat → Prop} (kk : x_R x_mt (some (L, xs)) 10 M_law (578, [(3, .int i), (2, .ref 75), (1, .ref 0), (0, .ref x_scr)], [.int (xs ((i + 2)).toNatClampNeg), .int (xs ((i + 1)).toNatClampNeg), .ref 75], h, 98, 10728) P) : x_R x_mt (some (L, xs)) 10 M_law (566, [(3, .int i), (2, .ref 75), (1, .ref 0), (0, .ref x_scr)], [.int v], h, 98, 10728) P := by
  refine x_R.steps 6 (c' := (572, [(3, .int i), (2, .ref 75), (1, .ref 0), (0, .ref x_scr)], [.int (i + 1), .ref x_scr, .ref 75], h, 98, 10728)) rfl ?_
  refine j_Rsld (c' := (573, [(3, .int i), (2, .ref 75), (1, .ref 0), (0, .ref x_scr)], [.int (xs ((i + 1)).toNatClampNeg), .ref 75], h, 98, 10728)) rfl h1 ?_
  refine x_R.steps 4 (c' := (577, [(3, .int i), (2, .ref 75), (1, .ref 0), (0, .ref x_scr)], [.int (i + 2), .ref x_scr, .int (xs ((i + 1)).toNatClampNeg), .ref 75], h, 98, 10728)) rfl ?_
  refine j_Rsld (c' := (578, [(3, .int i), (2, .ref 75), (1, .ref 0), (0, .ref x_scr)], [.int (xs ((i + 2)).toNatClampNeg), .int (xs ((i + 1)).toNatClampNeg), .ref 75], h, 98, 10728)) rfl h2 ?_
  exact kk

set_option maxRecDepth 100000 in
theorem x_c8d (h : xH) (L : Nat) (xs : Nat → Int32) (i : Int32) (h0 : ¬ (i < 0 ∨ L ≤ (i).toNatClampNeg)) (h1 : ¬ (i + 1 < 0 ∨ L ≤ (i + 1).toNatClampNeg)) (h2 : ¬ (i + 2 < 0 ∨ L ≤ (i + 2).toNatClampNeg)) (h3 : ¬ (i + 3 < 0 ∨ L ≤ (i + 3).toNatClampNeg)) (h4 : ¬ (i + 4 < 0 ∨ L ≤ (i + 4).toNatClampNeg)) (h5 : ¬ (i + 5 < 0 ∨ L ≤ (i + 5).toNatClampNeg)) (w : Int32) {P : Option Value × xH × Nat × Nat → Prop} (kk : x_R x_mt (some (L, xs)) 10 M_law (18, [(3, .int (i + Int32.ofInt (6))), (2, .ref 75), (1, .ref 0), (0, .ref x_scr)], [], h, 98, 10728) P) : x_R x_mt (some (L, xs)) 10 M_law (581, [(3, .int i), (2, .ref 75), (1, .ref 0), (0, .ref x_scr)], [.int w], h, 98, 10728) P := by
  refine x_R.steps 4 (c' := (18, [(3, .int (i + Int32.ofInt (6))), (2, .ref 75), (1, .ref 0), (0, .ref x_scr)], [], h, 98, 10728)) rfl ?_
  exact kk

set_option maxRecDepth 100000 in
theorem x_c9a (h : xH) (L : Nat) (xs : Nat → Int32) (i : Int32) (h0 : ¬ (i < 0 ∨ L ≤ (i).toNatClampNeg)) (h1 : ¬ (i + 1 < 0 ∨ L ≤ (i + 1).toNatClampNeg)) (h2 : ¬ (i + 2 < 0 ∨ L ≤ (i + 2).toNatClampNeg)) (h3 : ¬ (i + 3 < 0 ∨ L ≤ (i + 3).toNatClampNeg)) (h4 : ¬ (i + 4 < 0 ∨ L ≤ (i + 4).toNatClampNeg)) (h5 : ¬ (i + 5 < 0 ∨ L ≤ (i + 5).toNatClampNeg)) {P : Option Value × xH × Nat × Nat → Prop} (kk : x_R x_mt (some (L, xs)) 10 M_law (591, [(3, .int i), (2, .ref 75), (1, .ref 0), (0, .ref x_scr)], [.int (xs ((i + 1)).toNatClampNeg), .ref 0], h, 98, 10728) P) : x_R x_mt (some (L, xs)) 10 M_law (585, [(3, .int i), (2, .ref 75), (1, .ref 0), (0, .ref x_scr)], [], h, 98, 10728) P := by
  refine x_R.steps 5 (c' := (590, [(3, .int i), (2, .ref 75), (1, .ref 0), (0, .ref x_scr)], [.int (i + 1), .ref x_scr, .ref 0], h, 98, 10728)) rfl ?_
  refine j_Rsld (c' := (591, [(3, .int i), (2, .ref 75), (1, .ref 0), (0, .ref x_scr)], [.int (xs ((i + 1)).toNatClampNeg), .ref 0], h, 98, 10728)) rfl h1 ?_
  exact kk

set_option maxRecDepth 100000 in
theorem x_c9b (h : xH) (L : Nat) (xs : Nat → Int32) (i : Int32) (h0 : ¬ (i < 0 ∨ L ≤ (i).toNatClampNeg)) (h1 : ¬ (i + 1 < 0 ∨ L ≤ (i + 1).toNatClampNeg)) (h2 : ¬ (i + 2 < 0 ∨ L ≤ (i + 2).toNatClampNeg)) (h3 : ¬ (i + 3 < 0 ∨ L ≤ (i + 3).toNatClampNeg)) (h4 : ¬ (i + 4 < 0 ∨ L ≤ (i + 4).toNatClampNeg)) (h5 : ¬ (i + 5 < 0 ∨ L ≤ (i + 5).toNatClampNeg)) (v : Int32) {P : Option Value × xH × Nat × Nat → Prop} (kk : x_R x_mt (some (L, xs)) 10 M_law (601, [(3, .int i), (2, .ref 75), (1, .ref 0), (0, .ref x_scr)], [.int (xs ((i + 1)).toNatClampNeg), .ref 75], h, 98, 10728) P) : x_R x_mt (some (L, xs)) 10 M_law (594, [(3, .int i), (2, .ref 75), (1, .ref 0), (0, .ref x_scr)], [.int v], h, 98, 10728) P := by
  refine x_R.steps 6 (c' := (600, [(3, .int i), (2, .ref 75), (1, .ref 0), (0, .ref x_scr)], [.int (i + 1), .ref x_scr, .ref 75], h, 98, 10728)) rfl ?_
  refine j_Rsld (c' := (601, [(3, .int i), (2, .ref 75), (1, .ref 0), (0, .ref x_scr)], [.int (xs ((i + 1)).toNatClampNeg), .ref 75], h, 98, 10728)) rfl h1 ?_
  exact kk

set_option maxRecDepth 100000 in
theorem x_c9d (h : xH) (L : Nat) (xs : Nat → Int32) (i : Int32) (h0 : ¬ (i < 0 ∨ L ≤ (i).toNatClampNeg)) (h1 : ¬ (i + 1 < 0 ∨ L ≤ (i + 1).toNatClampNeg)) (h2 : ¬ (i + 2 < 0 ∨ L ≤ (i + 2).toNatClampNeg)) (h3 : ¬ (i + 3 < 0 ∨ L ≤ (i + 3).toNatClampNeg)) (h4 : ¬ (i + 4 < 0 ∨ L ≤ (i + 4).toNatClampNeg)) (h5 : ¬ (i + 5 < 0 ∨ L ≤ (i + 5).toNatClampNeg)) (w : Int32) {P : Option Value × xH × Nat × Nat → Prop} (kk : x_R x_mt (some (L, xs)) 10 M_law (18, [(3, .int (i + Int32.ofInt (6))), (2, .ref 75), (1, .ref 0), (0, .ref x_scr)], [], h, 98, 10728) P) : x_R x_mt (some (L, xs)) 10 M_law (604, [(3, .int i), (2, .ref 75), (1, .ref 0), (0, .ref x_scr)], [.int w], h, 98, 10728) P := by
  refine x_R.steps 4 (c' := (18, [(3, .int (i + Int32.ofInt (6))), (2, .ref 75), (1, .ref 0), (0, .ref x_scr)], [], h, 98, 10728)) rfl ?_
  exact kk

set_option maxRecDepth 100000 in
theorem x_c10a (h : xH) (L : Nat) (xs : Nat → Int32) (i : Int32) (h0 : ¬ (i < 0 ∨ L ≤ (i).toNatClampNeg)) (h1 : ¬ (i + 1 < 0 ∨ L ≤ (i + 1).toNatClampNeg)) (h2 : ¬ (i + 2 < 0 ∨ L ≤ (i + 2).toNatClampNeg)) (h3 : ¬ (i + 3 < 0 ∨ L ≤ (i + 3).toNatClampNeg)) (h4 : ¬ (i + 4 < 0 ∨ L ≤ (i + 4).toNatClampNeg)) (h5 : ¬ (i + 5 < 0 ∨ L ≤ (i + 5).toNatClampNeg)) {P : Option Value × xH × Nat × Nat → Prop} (kk : x_R x_mt (some (L, xs)) 10 M_law (609, [(3, .int i), (2, .ref 75), (1, .ref 0), (0, .ref x_scr)], [.ref 0], h, 98, 10728) P) : x_R x_mt (some (L, xs)) 10 M_law (608, [(3, .int i), (2, .ref 75), (1, .ref 0), (0, .ref x_scr)], [], h, 98, 10728) P := by
  refine x_R.steps 1 (c' := (609, [(3, .int i), (2, .ref 75), (1, .ref 0), (0, .ref x_scr)], [.ref 0], h, 98, 10728)) rfl ?_
  exact kk

set_option maxRecDepth 100000 in
theorem x_c10b (h : xH) (L : Nat) (xs : Nat → Int32) (i : Int32) (h0 : ¬ (i < 0 ∨ L ≤ (i).toNatClampNeg)) (h1 : ¬ (i + 1 < 0 ∨ L ≤ (i + 1).toNatClampNeg)) (h2 : ¬ (i + 2 < 0 ∨ L ≤ (i + 2).toNatClampNeg)) (h3 : ¬ (i + 3 < 0 ∨ L ≤ (i + 3).toNatClampNeg)) (h4 : ¬ (i + 4 < 0 ∨ L ≤ (i + 4).toNatClampNeg)) (h5 : ¬ (i + 5 < 0 ∨ L ≤ (i + 5).toNatClampNeg)) (v : Int32) {P : Option Value × xH × Nat × Nat → Prop} (kk : x_R x_mt (some (L, xs)) 10 M_law (614, [(3, .int i), (2, .ref 75), (1, .ref 0), (0, .ref x_scr)], [.ref 75], h, 98, 10728) P) : x_R x_mt (some (L, xs)) 10 M_law (612, [(3, .int i), (2, .ref 75), (1, .ref 0), (0, .ref x_scr)], [.int v], h, 98, 10728) P := by
  refine x_R.steps 2 (c' := (614, [(3, .int i), (2, .ref 75), (1, .ref 0), (0, .ref x_scr)], [.ref 75], h, 98, 10728)) rfl ?_
  exact kk

set_option maxRecDepth 100000 in
theorem x_c10d (h : xH) (L : Nat) (xs : Nat → Int32) (i : Int32) (h0 : ¬ (i < 0 ∨ L ≤ (i).toNatClampNeg)) (h1 : ¬ (i + 1 < 0 ∨ L ≤ (i + 1).toNatClampNeg)) (h2 : ¬ (i + 2 < 0 ∨ L ≤ (i + 2).toNatClampNeg)) (h3 : ¬ (i + 3 < 0 ∨ L ≤ (i + 3).toNatClampNeg)) (h4 : ¬ (i + 4 < 0 ∨ L ≤ (i + 4).toNatClampNeg)) (h5 : ¬ (i + 5 < 0 ∨ L ≤ (i + 5).toNatClampNeg)) (w : Int32) {P : Option Value × xH × Nat × Nat → Prop} (kk : x_R x_mt (some (L, xs)) 10 M_law (18, [(3, .int (i + Int32.ofInt (6))), (2, .ref 75), (1, .ref 0), (0, .ref x_scr)], [], h, 98, 10728) P) : x_R x_mt (some (L, xs)) 10 M_law (617, [(3, .int i), (2, .ref 75), (1, .ref 0), (0, .ref x_scr)], [.int w], h, 98, 10728) P := by
  refine x_R.steps 4 (c' := (18, [(3, .int (i + Int32.ofInt (6))), (2, .ref 75), (1, .ref 0), (0, .ref x_scr)], [], h, 98, 10728)) rfl ?_
  exact kk
