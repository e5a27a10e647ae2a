/-! ===== the law, piece by piece ===== -/
set_option maxRecDepth 100000 in
theorem x_hd (h : xH) (L : Nat) (xs : Nat → Int32) (i : Int32) {P : Option Value × xH × Nat × Nat → Prop} (k1 : Int32.ofNat L - 6 < i → x_R x_mt (some (L, xs)) 10 M_law (2374, [(3, .int i), (2, .ref 75), (1, .ref 0), (0, .ref x_scr)], [], h, 98, 10728) P) (k2 : ¬ Int32.ofNat L - 6 < i → x_R x_mt (some (L, xs)) 10 M_law (27, [(3, .int i), (2, .ref 75), (1, .ref 0), (0, .ref x_scr)], [], h, 98, 10728) P) : x_R x_mt (some (L, xs)) 10 M_law (18, [(3, .int i), (2, .ref 75), (1, .ref 0), (0, .ref x_scr)], [], h, 98, 10728) P := by
  refine x_R.steps 5 (c' := (24, [(3, .int i), (2, .ref 75), (1, .ref 0), (0, .ref x_scr)], [.int (Int32.ofNat L - 6), .int i], h, 98, 10728)) rfl ?_
  exact x_R.ite (p := Int32.ofNat L - 6 < i) (c1 := (2374, [(3, .int i), (2, .ref 75), (1, .ref 0), (0, .ref x_scr)], [], h, 98, 10728)) (c2 := (27, [(3, .int i), (2, .ref 75), (1, .ref 0), (0, .ref x_scr)], [], h, 98, 10728)) rfl k1 k2

set_option maxRecDepth 100000 in
theorem x_sw (h : xH) (L : Nat) (xs : Nat → Int32) (i : Int32) (h0 : ¬ (i < 0 ∨ L ≤ (i).toNatClampNeg)) (h1 : ¬ (i + 1 < 0 ∨ L ≤ (i + 1).toNatClampNeg)) (h2 : ¬ (i + 2 < 0 ∨ L ≤ (i + 2).toNatClampNeg)) (h3 : ¬ (i + 3 < 0 ∨ L ≤ (i + 3).toNatClampNeg)) (h4 : ¬ (i + 4 < 0 ∨ L ≤ (i + 4).toNatClampNeg)) (h5 : ¬ (i + 5 < 0 ∨ L ≤ (i + 5).toNatClampNeg)) {P : Option Value × xH × Nat × Nat → Prop} (kk : x_R x_mt (some (L, xs)) 10 M_law (33, [(3, .int i), (2, .ref 75), (1, .ref 0), (0, .ref x_scr)], [.int ((xs (i).toNatClampNeg) &&& 127)], h, 98, 10728) P) : x_R x_mt (some (L, xs)) 10 M_law (27, [(3, .int i), (2, .ref 75), (1, .ref 0), (0, .ref x_scr)], [], h, 98, 10728) P := by
  refine x_R.steps 2 (c' := (29, [(3, .int i), (2, .ref 75), (1, .ref 0), (0, .ref x_scr)], [.int i, .ref x_scr], h, 98, 10728)) rfl ?_
  refine j_Rsld (c' := (30, [(3, .int i), (2, .ref 75), (1, .ref 0), (0, .ref x_scr)], [.int (xs (i).toNatClampNeg)], h, 98, 10728)) rfl h0 ?_
  refine x_R.steps 2 (c' := (33, [(3, .int i), (2, .ref 75), (1, .ref 0), (0, .ref x_scr)], [.int ((xs (i).toNatClampNeg) &&& 127)], h, 98, 10728)) rfl ?_
  exact kk

set_option maxRecDepth 100000 in
theorem x_c0a (h : xH) (L : Nat) (xs : Nat → Int32) (i : Int32) (h0 : ¬ (i < 0 ∨ L ≤ (i).toNatClampNeg)) (h1 : ¬ (i + 1 < 0 ∨ L ≤ (i + 1).toNatClampNeg)) (h2 : ¬ (i + 2 < 0 ∨ L ≤ (i + 2).toNatClampNeg)) (h3 : ¬ (i + 3 < 0 ∨ L ≤ (i + 3).toNatClampNeg)) (h4 : ¬ (i + 4 < 0 ∨ L ≤ (i + 4).toNatClampNeg)) (h5 : ¬ (i + 5 < 0 ∨ L ≤ (i + 5).toNatClampNeg)) {P : Option Value × xH × Nat × Nat → Prop} (kk : x_R x_mt (some (L, xs)) 10 M_law (354, [(3, .int i), (2, .ref 75), (1, .ref 0), (0, .ref x_scr)], [.int (xs ((i + 5)).toNatClampNeg), .int (xs ((i + 4)).toNatClampNeg), .int (xs ((i + 3)).toNatClampNeg), .int (xs ((i + 2)).toNatClampNeg), .int (xs ((i + 1)).toNatClampNeg), .ref 0], h, 98, 10728) P) : x_R x_mt (some (L, xs)) 10 M_law (328, [(3, .int i), (2, .ref 75), (1, .ref 0), (0, .ref x_scr)], [], h, 98, 10728) P := by
  refine x_R.steps 5 (c' := (333, [(3, .int i), (2, .ref 75), (1, .ref 0), (0, .ref x_scr)], [.int (i + 1), .ref x_scr, .ref 0], h, 98, 10728)) rfl ?_
  refine j_Rsld (c' := (334, [(3, .int i), (2, .ref 75), (1, .ref 0), (0, .ref x_scr)], [.int (xs ((i + 1)).toNatClampNeg), .ref 0], h, 98, 10728)) rfl h1 ?_
  refine x_R.steps 4 (c' := (338, [(3, .int i), (2, .ref 75), (1, .ref 0), (0, .ref x_scr)], [.int (i + 2), .ref x_scr, .int (xs ((i + 1)).toNatClampNeg), .ref 0], h, 98, 10728)) rfl ?_
  refine j_Rsld (c' := (339, [(3, .int i), (2, .ref 75), (1, .ref 0), (0, .ref x_scr)], [.int (xs ((i + 2)).toNatClampNeg), .int (xs ((i + 1)).toNatClampNeg), .ref 0], h, 98, 10728)) rfl h2 ?_
  refine x_R.steps 4 (c' := (343, [(3, .int i), (2, .ref 75), (1, .ref 0), (0, .ref x_scr)], [.int (i + 3), .ref x_scr, .int (xs ((i + 2)).toNatClampNeg), .int (xs ((i + 1)).toNatClampNeg), .ref 0], h, 98, 10728)) rfl ?_
  refine j_Rsld (c' := (344, [(3, .int i), (2, .ref 75), (1, .ref 0), (0, .ref x_scr)], [.int (xs ((i + 3)).toNatClampNeg), .int (xs ((i + 2)).toNatClampNeg), .int (xs ((i + 1)).toNatClampNeg), .ref 0], h, 98, 10728)) rfl h3 ?_
  refine x_R.steps 4 (c' := (348, [(3, .int i), (2, .ref 75), (1, .ref 0), (0, .ref x_scr)], [.int (i + 4), .ref x_scr, .int (xs ((i + 3)).toNatClampNeg), .int (xs ((i + 2)).toNatClampNeg), .int (xs ((i + 1)).toNatClampNeg), .ref 0], h, 98, 10728)) rfl ?_
  refine j_Rsld (c' := (349, [(3, .int i), (2, .ref 75), (1, .ref 0), (0, .ref x_scr)], [.int (xs ((i + 4)).toNatClampNeg), .int (xs ((i + 3)).toNatClampNeg), .int (xs ((i + 2)).toNatClampNeg), .int (xs ((i + 1)).toNatClampNeg), .ref 0], h, 98, 10728)) rfl h4 ?_
  refine x_R.steps 4 (c' := (353, [(3, .int i), (2, .ref 75), (1, .ref 0), (0, .ref x_scr)], [.int (i + 5), .ref x_scr, .int (xs ((i + 4)).toNatClampNeg), .int (xs ((i + 3)).toNatClampNeg), .int (xs ((i + 2)).toNatClampNeg), .int (xs ((i + 1)).toNatClampNeg), .ref 0], h, 98, 10728)) rfl ?_
  refine j_Rsld (c' := (354, [(3, .int i), (2, .ref 75), (1, .ref 0), (0, .ref x_scr)], [.int (xs ((i + 5)).toNatClampNeg), .int (xs ((i + 4)).toNatClampNeg), .int (xs ((i + 3)).toNatClampNeg), .int (xs ((i + 2)).toNatClampNeg), .int (xs ((i + 1)).toNatClampNeg), .ref 0], h, 98, 10728)) rfl h5 ?_
  exact kk

set_option maxRecDepth 100000 in
theorem x_c0b (h : xH) (L : Nat) (xs : Nat → Int32) (i : Int32) (h0 : ¬ (i < 0 ∨ L ≤ (i).toNatClampNeg)) (h1 : ¬ (i + 1 < 0 ∨ L ≤ (i + 1).toNatClampNeg)) (h2 : ¬ (i + 2 < 0 ∨ L ≤ (i + 2).toNatClampNeg)) (h3 : ¬ (i + 3 < 0 ∨ L ≤ (i + 3).toNatClampNeg)) (h4 : ¬ (i + 4 < 0 ∨ L ≤ (i + 4).toNatClampNeg)) (h5 : ¬ (i + 5 < 0 ∨ L ≤ (i + 5).toNatClampNeg)) (v : Int32) {P : Option Value × xH × Nat × Nat → Prop} (kk : x_R x_mt (some (L, xs)) 10 M_law (384, [(3, .int i), (2, .ref 75), (1, .ref 0), (0, .ref x_scr)], [.int (xs ((i + 5)).toNatClampNeg), .int (xs ((i + 4)).toNatClampNeg), .int (xs ((i + 3)).toNatClampNeg), .int (xs ((i + 2)).toNatClampNeg), .int (xs ((i + 1)).toNatClampNeg), .ref 75], h, 98, 10728) P) : x_R x_mt (some (L, xs)) 10 M_law (357, [(3, .int i), (2, .ref 75), (1, .ref 0), (0, .ref x_scr)], [.int v], h, 98, 10728) P := by
  refine x_R.steps 6 (c' := (363, [(3, .int i), (2, .ref 75), (1, .ref 0), (0, .ref x_scr)], [.int (i + 1), .ref x_scr, .ref 75], h, 98, 10728)) rfl ?_
  refine j_Rsld (c' := (364, [(3, .int i), (2, .ref 75), (1, .ref 0), (0, .ref x_scr)], [.int (xs ((i + 1)).toNatClampNeg), .ref 75], h, 98, 10728)) rfl h1 ?_
  refine x_R.steps 4 (c' := (368, [(3, .int i), (2, .ref 75), (1, .ref 0), (0, .ref x_scr)], [.int (i + 2), .ref x_scr, .int (xs ((i + 1)).toNatClampNeg), .ref 75], h, 98, 10728)) rfl ?_
  refine j_Rsld (c' := (369, [(3, .int i), (2, .ref 75), (1, .ref 0), (0, .ref x_scr)], [.int (xs ((i + 2)).toNatClampNeg), .int (xs ((i + 1)).toNatClampNeg), .ref 75], h, 98, 10728)) rfl h2 ?_
  refine x_R.steps 4 (c' := (373, [(3, .int i), (2, .ref 75), (1, .ref 0), (0, .ref x_scr)], [.int (i + 3), .ref x_scr, .int (xs ((i + 2)).toNatClampNeg), .int (xs ((i + 1)).toNatClampNeg), .ref 75], h, 98, 10728)) rfl ?_
  refine j_Rsld (c' := (374, [(3, .int i), (2, .ref 75), (1, .ref 0), (0, .ref x_scr)], [.int (xs ((i + 3)).toNatClampNeg), .int (xs ((i + 2)).toNatClampNeg), .int (xs ((i + 1)).toNatClampNeg), .ref 75], h, 98, 10728)) rfl h3 ?_
  refine x_R.steps 4 (c' := (378, [(3, .int i), (2, .ref 75), (1, .ref 0), (0, .ref x_scr)], [.int (i + 4), .ref x_scr, .int (xs ((i + 3)).toNatClampNeg), .int (xs ((i + 2)).toNatClampNeg), .int (xs ((i + 1)).toNatClampNeg), .ref 75], h, 98, 10728)) rfl ?_
  refine j_Rsld (c' := (379, [(3, .int i), (2, .ref 75), (1, .ref 0), (0, .ref x_scr)], [.int (xs ((i + 4)).toNatClampNeg), .int (xs ((i + 3)).toNatClampNeg), .int (xs ((i + 2)).toNatClampNeg), .int (xs ((i + 1)).toNatClampNeg), .ref 75], h, 98, 10728)) rfl h4 ?_
  refine x_R.steps 4 (c' := (383, [(3, .int i), (2, .ref 75), (1, .ref 0), (0, .ref x_scr)], [.int (i + 5), .ref x_scr, .int (xs ((i + 4)).toNatClampNeg), .int (xs ((i + 3)).toNatClampNeg), .int (xs ((i + 2)).toNatClampNeg), .int (xs ((i + 1)).toNatClampNeg), .ref 75], h, 98, 10728)) rfl ?_
  refine j_Rsld (c' := (384, [(3, .int i), (2, .ref 75), (1, .ref 0), (0, .ref x_scr)], [.int (xs ((i + 5)).toNatClampNeg), .int (xs ((i + 4)).toNatClampNeg), .int (xs ((i + 3)).toNatClampNeg), .int (xs ((i + 2)).toNatClampNeg), .int (xs ((i + 1)).toNatClampNeg), .ref 75], h, 98, 10728)) rfl h5 ?_
  exact kk

set_option maxRecDepth 100000 in
theorem x_c0d (h : xH) (L : Nat) (xs : Nat → Int32) (i : Int32) (h0 : ¬ (i < 0 ∨ L ≤ (i).toNatClampNeg)) (h1 : ¬ (i + 1 < 0 ∨ L ≤ (i + 1).toNatClampNeg)) (h2 : ¬ (i + 2 < 0 ∨ L ≤ (i + 2).toNatClampNeg)) (h3 : ¬ (i + 3 < 0 ∨ L ≤ (i + 3).toNatClampNeg)) (h4 : ¬ (i + 4 < 0 ∨ L ≤ (i + 4).toNatClampNeg)) (h5 : ¬ (i + 5 < 0 ∨ L ≤ (i + 5).toNatClampNeg)) (w : Int32) {P : Option Value × xH × Nat × Nat → Prop} (kk : x_R x_mt (some (L, xs)) 10 M_law (18, [(3, .int (i + Int32.ofInt (6))), (2, .ref 75), (1, .ref 0), (0, .ref x_scr)], [], h, 98, 10728) P) : x_R x_mt (some (L, xs)) 10 M_law (387, [(3, .int i), (2, .ref 75), (1, .ref 0), (0, .ref x_scr)], [.int w], h, 98, 10728) P := by
  refine x_R.steps 4 (c' := (18, [(3, .int (i + Int32.ofInt (6))), (2, .ref 75), (1, .ref 0), (0, .ref x_scr)], [], h, 98, 10728)) rfl ?_
  exact kk

set_option maxRecDepth 100000 in
theorem x_c1a (h : xH) (L : Nat) (xs : Nat → Int32) (i : Int32) (h0 : ¬ (i < 0 ∨ L ≤ (i).toNatClampNeg)) (h1 : ¬ (i + 1 < 0 ∨ L ≤ (i + 1).toNatClampNeg)) (h2 : ¬ (i + 2 < 0 ∨ L ≤ (i + 2).toNatClampNeg)) (h3 : ¬ (i + 3 < 0 ∨ L ≤ (i + 3).toNatClampNeg)) (h4 : ¬ (i + 4 < 0 ∨ L ≤ (i + 4).toNatClampNeg)) (h5 : ¬ (i + 5 < 0 ∨ L ≤ (i + 5).toNatClampNeg)) {P : Option Value × xH × Nat × Nat → Prop} (kk : x_R x_mt (some (L, xs)) 10 M_law (397, [(3, .int i), (2, .ref 75), (1, .ref 0), (0, .ref x_scr)], [.int (xs ((i + 1)).toNatClampNeg), .ref 0], h, 98, 10728) P) : x_R x_mt (some (L, xs)) 10 M_law (391, [(3, .int i), (2, .ref 75), (1, .ref 0), (0, .ref x_scr)], [], h, 98, 10728) P := by
  refine x_R.steps 5 (c' := (396, [(3, .int i), (2, .ref 75), (1, .ref 0), (0, .ref x_scr)], [.int (i + 1), .ref x_scr, .ref 0], h, 98, 10728)) rfl ?_
  refine j_Rsld (c' := (397, [(3, .int i), (2, .ref 75), (1, .ref 0), (0, .ref x_scr)], [.int (xs ((i + 1)).toNatClampNeg), .ref 0], h, 98, 10728)) rfl h1 ?_
  exact kk

set_option maxRecDepth 100000 in
theorem x_c1b (h : xH) (L : Nat) (xs : Nat → Int32) (i : Int32) (h0 : ¬ (i < 0 ∨ L ≤ (i).toNatClampNeg)) (h1 : ¬ (i + 1 < 0 ∨ L ≤ (i + 1).toNatClampNeg)) (h2 : ¬ (i + 2 < 0 ∨ L ≤ (i + 2).toNatClampNeg)) (h3 : ¬ (i + 3 < 0 ∨ L ≤ (i + 3).toNatClampNeg)) (h4 : ¬ (i + 4 < 0 ∨ L ≤ (i + 4).toNatClampNeg)) (h5 : ¬ (i + 5 < 0 ∨ L ≤ (i + 5).toNatClampNeg)) (v : Int32) {P : Option Value × xH × Nat × Nat → Prop} (kk : x_R x_mt (some (L, xs)) 10 M_law (407, [(3, .int i), (2, .ref 75), (1, .ref 0), (0, .ref x_scr)], [.int (xs ((i + 1)).toNatClampNeg), .ref 75], h, 98, 10728) P) : x_R x_mt (some (L, xs)) 10 M_law (400, [(3, .int i), (2, .ref 75), (1, .ref 0), (0, .ref x_scr)], [.int v], h, 98, 10728) P := by
  refine x_R.steps 6 (c' := (406, [(3, .int i), (2, .ref 75), (1, .ref 0), (0, .ref x_scr)], [.int (i + 1), .ref x_scr, .ref 75], h, 98, 10728)) rfl ?_
  refine j_Rsld (c' := (407, [(3, .int i), (2, .ref 75), (1, .ref 0), (0, .ref x_scr)], [.int (xs ((i + 1)).toNatClampNeg), .ref 75], h, 98, 10728)) rfl h1 ?_
  exact kk

set_option maxRecDepth 100000 in
theorem x_c1d (h : xH) (L : Nat) (xs : Nat → Int32) (i : Int32) (h0 : ¬ (i < 0 ∨ L ≤ (i).toNatClampNeg)) (h1 : ¬ (i + 1 < 0 ∨ L ≤ (i + 1).toNatClampNeg)) (h2 : ¬ (i + 2 < 0 ∨ L ≤ (i + 2).toNatClampNeg)) (h3 : ¬ (i + 3 < 0 ∨ L ≤ (i + 3).toNatClampNeg)) (h4 : ¬ (i + 4 < 0 ∨ L ≤ (i + 4).toNatClampNeg)) (h5 : ¬ (i + 5 < 0 ∨ L ≤ (i + 5).toNatClampNeg)) (w : Int32) {P : Option Value × xH × Nat × Nat → Prop} (kk : x_R x_mt (some (L, xs)) 10 M_law (18, [(3, .int (i + Int32.ofInt (6))), (2, .ref 75), (1, .ref 0), (0, .ref x_scr)], [], h, 98, 10728) P) : x_R x_mt (some (L, xs)) 10 M_law (410, [(3, .int i), (2, .ref 75), (1, .ref 0), (0, .ref x_scr)], [.int w], h, 98, 10728) P := by
  refine x_R.steps 4 (c' := (18, [(3, .int (i + Int32.ofInt (6))), (2, .ref 75), (1, .ref 0), (0, .ref x_scr)], [], h, 98, 10728)) rfl ?_
  exact kk

set_option maxRecDepth 100000 in
theorem x_c2a (h : xH) (L : Nat) (xs : Nat → Int32) (i : Int32) (h0 : ¬ (i < 0 ∨ L ≤ (i).toNatClampNeg)) (h1 : ¬ (i + 1 < 0 ∨ L ≤ (i + 1).toNatClampNeg)) (h2 : ¬ (i + 2 < 0 ∨ L ≤ (i + 2).toNatClampNeg)) (h3 : ¬ (i + 3 < 0 ∨ L ≤ (i + 3).toNatClampNeg)) (h4 : ¬ (i + 4 < 0 ∨ L ≤ (i + 4).toNatClampNeg)) (h5 : ¬ (i + 5 < 0 ∨ L ≤ (i + 5).toNatClampNeg)) {P : Option Value × xH × Nat × Nat → Prop} (kk : x_R x_mt (some (L, xs)) 10 M_law (415, [(3, .int i), (2, .ref 75), (1, .ref 0), (0, .ref x_scr)], [.ref 0], h, 98, 10728) P) : x_R x_mt (some (L, xs)) 10 M_law (414, [(3, .int i), (2, .ref 75), (1, .ref 0), (0, .ref x_scr)], [], h, 98, 10728) P := by
  refine x_R.steps 1 (c' := (415, [(3, .int i), (2, .ref 75), (1, .ref 0), (0, .ref x_scr)], [.ref 0], h, 98, 10728)) rfl ?_
  exact kk

set_option maxRecDepth 100000 in
theorem x_c2b (h : xH) (L : Nat) (xs : Nat → Int32) (i : Int32) (h0 : ¬ (i < 0 ∨ L ≤ (i).toNatClampNeg)) (h1 : ¬ (i + 1 < 0 ∨ L ≤ (i + 1).toNatClampNeg)) (h2 : ¬ (i + 2 < 0 ∨ L ≤ (i + 2).toNatClampNeg)) (h3 : ¬ (i + 3 < 0 ∨ L ≤ (i + 3).toNatClampNeg)) (h4 : ¬ (i + 4 < 0 ∨ L ≤ (i + 4).toNatClampNeg)) (h5 : ¬ (i + 5 < 0 ∨ L ≤ (i + 5).toNatClampNeg)) (v : Int32) {P : Option Value × xH × Nat × Nat → Prop} (kk : x_R x_mt (some (L, xs)) 10 M_law (420, [(3, .int i), (2, .ref 75), (1, .ref 0), (0, .ref x_scr)], [.ref 75], h, 98, 10728) P) : x_R x_mt (some (L, xs)) 10 M_law (418, [(3, .int i), (2, .ref 75), (1, .ref 0), (0, .ref x_scr)], [.int v], h, 98, 10728) P := by
  refine x_R.steps 2 (c' := (420, [(3, .int i), (2, .ref 75), (1, .ref 0), (0, .ref x_scr)], [.ref 75], h, 98, 10728)) rfl ?_
  exact kk

set_option maxRecDepth 100000 in
theorem x_c2d (h : xH) (L : Nat) (xs : Nat → Int32) (i : Int32) (h0 : ¬ (i < 0 ∨ L ≤ (i).toNatClampNeg)) (h1 : ¬ (i + 1 < 0 ∨ L ≤ (i + 1).toNatClampNeg)) (h2 : ¬ (i + 2 < 0 ∨ L ≤ (i + 2).toNatClampNeg)) (h3 : ¬ (i + 3 < 0 ∨ L ≤ (i + 3).toNatClampNeg)) (h4 : ¬ (i + 4 < 0 ∨ L ≤ (i + 4).toNatClampNeg)) (h5 : ¬ (i + 5 < 0 ∨ L ≤ (i + 5).toNatClampNeg)) (w : Int32) {P : Option Value × xH × Nat × Nat → Prop} (kk : x_R x_mt (some (L, xs)) 10 M_law (18, [(3, .int (i + Int32.ofInt (6))), (2, .ref 75), (1, .ref 0), (0, .ref x_scr)], [], h, 98, 10728) P) : x_R x_mt (some (L, xs)) 10 M_law (423, [(3, .int i), (2, .ref 75), (1, .ref 0), (0, .ref x_scr)], [.int w], h, 98, 10728) P := by
  refine x_R.steps 4 (c' := (18, [(3, .int (i + Int32.ofInt (6))), (2, .ref 75), (1, .ref 0), (0, .ref x_scr)], [], h, 98, 10728)) rfl ?_
  exact kk

set_option maxRecDepth 100000 in
theorem x_c3a (h : xH) (L : Nat) (xs : Nat → Int32) (i : Int32) (h0 : ¬ (i < 0 ∨ L ≤ (i).toNatClampNeg)) (h1 : ¬ (i + 1 < 0 ∨ L ≤ (i + 1).toNatClampNeg)) (h2 : ¬ (i + 2 < 0 ∨ L ≤ (i + 2).toNatClampNeg)) (h3 : ¬ (i + 3 < 0 ∨ L ≤ (i + 3).toNatClampNeg)) (h4 : ¬ (i + 4 < 0 ∨ L ≤ (i + 4).toNatClampNeg)) (h5 : ¬ (i + 5 < 0 ∨ L ≤ (i + 5).toNatClampNeg)) {P : Option Value × xH × Nat × Nat → Prop} (kk : x_R x_mt (some (L, xs)) 10 M_law (433, [(3, .int i), (2, .ref 75), (1, .ref 0), (0, .ref x_scr)], [.int (xs ((i + 1)).toNatClampNeg), .ref 0], h, 98, 10728) P) : x_R x_mt (some (L, xs)) 10 M_law (427, [(3, .int i), (2, .ref 75), (1, .ref 0), (0, .ref x_scr)], [], h, 98, 10728) P := by
  refine x_R.steps 5 (c' := (432, [(3, .int i), (2, .ref 75), (1, .ref 0), (0, .ref x_scr)], [.int (i + 1), .ref x_scr, .ref 0], h, 98, 10728)) rfl ?_
  refine j_Rsld (c' := (433, [(3, .int i), (2, .ref 75), (1, .ref 0), (0, .ref x_scr)], [.int (xs ((i + 1)).toNatClampNeg), .ref 0], h, 98, 10728)) rfl h1 ?_
  exact kk

set_option maxRecDepth 100000 in
theorem x_c3b (h : xH) (L : Nat) (xs : Nat → Int32) (i : Int32) (h0 : ¬ (i < 0 ∨ L ≤ (i).toNatClampNeg)) (h1 : ¬ (i + 1 < 0 ∨ L ≤ (i + 1).toNatClampNeg)) (h2 : ¬ (i + 2 < 0 ∨ L ≤ (i + 2).toNatClampNeg)) (h3 : ¬ (i + 3 < 0 ∨ L ≤ (i + 3).toNatClampNeg)) (h4 : ¬ (i + 4 < 0 ∨ L ≤ (i + 4).toNatClampNeg)) (h5 : ¬ (i + 5 < 0 ∨ L ≤ (i + 5).toNatClampNeg)) (v : Int32) {P : Option Value × xH × Nat × Nat → Prop} (kk : x_R x_mt (some (L, xs)) 10 M_law (443, [(3, .int i), (2, .ref 75), (1, .ref 0), (0, .ref x_scr)], [.int (xs ((i + 1)).toNatClampNeg), .ref 75], h, 98, 10728) P) : x_R x_mt (some (L, xs)) 10 M_law (436, [(3, .int i), (2, .ref 75), (1, .ref 0), (0, .ref x_scr)], [.int v], h, 98, 10728) P := by
  refine x_R.steps 6 (c' := (442, [(3, .int i), (2, .ref 75), (1, .ref 0), (0, .ref x_scr)], [.int (i + 1), .ref x_scr, .ref 75], h, 98, 10728)) rfl ?_
  refine j_Rsld (c' := (443, [(3, .int i), (2, .ref 75), (1, .ref 0), (0, .ref x_scr)], [.int (xs ((i + 1)).toNatClampNeg), .ref 75], h, 98, 10728)) rfl h1 ?_
  exact kk

set_option maxRecDepth 100000 in
theorem x_c3d (h : xH) (L : Nat) (xs : Nat → Int32) (i : Int32) (h0 : ¬ (i < 0 ∨ L ≤ (i).toNatClampNeg)) (h1 : ¬ (i + 1 < 0 ∨ L ≤ (i + 1).toNatClampNeg)) (h2 : ¬ (i + 2 < 0 ∨ L ≤ (i + 2).toNatClampNeg)) (h3 : ¬ (i + 3 < 0 ∨ L ≤ (i + 3).toNatClampNeg)) (h4 : ¬ (i + 4 < 0 ∨ L ≤ (i + 4).toNatClampNeg)) (h5 : ¬ (i + 5 < 0 ∨ L ≤ (i + 5).toNatClampNeg)) (w : Int32) {P : Option Value × xH × Nat × Nat → Prop} (kk : x_R x_mt (some (L, xs)) 10 M_law (18, [(3, .int (i + Int32.ofInt (6))), (2, .ref 75), (1, .ref 0), (0, .ref x_scr)], [], h, 98, 10728) P) : x_R x_mt (some (L, xs)) 10 M_law (446, [(3, .int i), (2, .ref 75), (1, .ref 0), (0, .ref x_scr)], [.int w], h, 98, 10728) P := by
  refine x_R.steps 4 (c' := (18, [(3, .int (i + Int32.ofInt (6))), (2, .ref 75), (1, .ref 0), (0, .ref x_scr)], [], h, 98, 10728)) rfl ?_
  exact kk

set_option maxRecDepth 100000 in
theorem x_c4a (h : xH) (L : Nat) (xs : Nat → Int32) (i : Int32) (h0 : ¬ (i < 0 ∨ L ≤ (i).toNatClampNeg)) (h1 : ¬ (i + 1 < 0 ∨ L ≤ (i + 1).toNatClampNeg)) (h2 : ¬ (i + 2 < 0 ∨ L ≤ (i + 2).toNatClampNeg)) (h3 : ¬ (i + 3 < 0 ∨ L ≤ (i + 3).toNatClampNeg)) (h4 : ¬ (i + 4 < 0 ∨ L ≤ (i + 4).toNatClampNeg)) (h5 : ¬ (i + 5 < 0 ∨ L ≤ (i + 5).toNatClampNeg)) {P : Option Value × xH × Nat × Nat → Prop} (kk : x_R x_mt (some (L, xs)) 10 M_law (461, [(3, .int i), (2, .ref 75), (1, .ref 0), (0, .ref x_scr)], [.int (xs ((i + 2)).toNatClampNeg), .int (xs ((i + 1)).toNatClampNeg), .ref 0], h, 98, 10728) P) : x_R x_mt (some (L, xs)) 10 M_law (450, [(3, .int i), (2, .ref 75), (1, .ref 0), (0, .ref x_scr)], [], h, 98, 10728) P := by
  refine x_R.steps 5 (c' := (455, [(3, .int i), (2, .ref 75), (1, .ref 0), (0, .ref x_scr)], [.int (i + 1), .ref x_scr, .ref 0], h, 98, 10728)) rfl ?_
  refine j_Rsld (c' := (456, [(3, .int i), (2, .ref 75), (1, .ref 0), (0, .ref x_scr)], [.int (xs ((i + 1)).toNatClampNeg), .ref 0], h, 98, 10728)) rfl h1 ?_
  refine x_R.steps 4 (c' := (460, [(3, .int i), (2, .ref 75), (1, .ref 0), (0, .ref x_scr)], [.int (i + 2), .ref x_scr, .int (xs ((i + 1)).toNatClampNeg), .ref 0], h, 98, 10728)) rfl ?_
  refine j_Rsld (c' := (461, [(3, .int i), (2, .ref 75), (1, .ref 0), (0, .ref x_scr)], [.int (xs ((i + 2)).toNatClampNeg), .int (xs ((i + 1)).toNatClampNeg), .ref 0], h, 98, 10728)) rfl h2 ?_
  exact kk

set_option maxRecDepth 100000 in
theorem x_c4b (h : xH) (L : Nat) (xs : Nat → Int32) (i : Int32) (h0 : ¬ (i < 0 ∨ L ≤ (i).toNatClampNeg)) (h1 : ¬ (i + 1 < 0 ∨ L ≤ (i + 1).toNatClampNeg)) (h2 : ¬ (i + 2 < 0 ∨ L ≤ (i + 2).toNatClampNeg)) (h3 : ¬ (i + 3 < 0 ∨ L ≤ (i + 3).toNatClampNeg)) (h4 : ¬ (i + 4 < 0 ∨ L ≤ (i + 4).toNatClampNeg)) (h5 : ¬ (i + 5 < 0 ∨ L ≤ (i + 5).toNatClampNeg)) (v : Int32) {P : Option Value × xH × Nat × Nat → Prop} (kk : x_R x_mt (some (L, xs)) 10 M_law (476, [(3, .int i), (2, .ref 75), (1, .ref 0), (0, .ref x_scr)], [.int (xs ((i + 2)).toNatClampNeg), .int (xs ((i + 1)).toNatClampNeg), .ref 75], h, 98, 10728) P) : x_R x_mt (some (L, xs)) 10 M_law (464, [(3, .int i), (2, .ref 75), (1, .ref 0), (0, .ref x_scr)], [.int v], h, 98, 10728) P := by
  refine x_R.steps 6 (c' := (470, [(3, .int i), (2, .ref 75), (1, .ref 0), (0, .ref x_scr)], [.int (i + 1), .ref x_scr, .ref 75], h, 98, 10728)) rfl ?_
  refine j_Rsld (c' := (471, [(3, .int i), (2, .ref 75), (1, .ref 0), (0, .ref x_scr)], [.int (xs ((i + 1)).toNatClampNeg), .ref 75], h, 98, 10728)) rfl h1 ?_
  refine x_R.steps 4 (c' := (475, [(3, .int i), (2, .ref 75), (1, .ref 0), (0, .ref x_scr)], [.int (i + 2), .ref x_scr, .int (xs ((i + 1)).toNatClampNeg), .ref 75], h, 98, 10728)) rfl ?_
  refine j_Rsld (c' := (476, [(3, .int i), (2, .ref 75), (1, .ref 0), (0, .ref x_scr)], [.int (xs ((i + 2)).toNatClampNeg), .int (xs ((i + 1)).toNatClampNeg), .ref 75], h, 98, 10728)) rfl h2 ?_
  exact kk

set_option maxRecDepth 100000 in
theorem x_c4d (h : xH) (L : Nat) (xs : Nat → Int32) (i : Int32) (h0 : ¬ (i < 0 ∨ L ≤ (i).toNatClampNeg)) (h1 : ¬ (i + 1 < 0 ∨ L ≤ (i + 1).toNatClampNeg)) (h2 : ¬ (i + 2 < 0 ∨ L ≤ (i + 2).toNatClampNeg)) (h3 : ¬ (i + 3 < 0 ∨ L ≤ (i + 3).toNatClampNeg)) (h4 : ¬ (i + 4 < 0 ∨ L ≤ (i + 4).toNatClampNeg)) (h5 : ¬ (i + 5 < 0 ∨ L ≤ (i + 5).toNatClampNeg)) (w : Int32) {P : Option Value × xH × Nat × Nat → Prop} (kk : x_R x_mt (some (L, xs)) 10 M_law (18, [(3, .int (i + Int32.ofInt (6))), (2, .ref 75), (1, .ref 0), (0, .ref x_scr)], [], h, 98, 10728) P) : x_R x_mt (some (L, xs)) 10 M_law (479, [(3, .int i), (2, .ref 75), (1, .ref 0), (0, .ref x_scr)], [.int w], h, 98, 10728) P := by
  refine x_R.steps 4 (c' := (18, [(3, .int (i + Int32.ofInt (6))), (2, .ref 75), (1, .ref 0), (0, .ref x_scr)], [], h, 98, 10728)) rfl ?_
  exact kk

set_option maxRecDepth 100000 in
theorem x_c5a (h : xH) (L : Nat) (xs : Nat → Int32) (i : Int32) (h0 : ¬ (i < 0 ∨ L ≤ (i).toNatClampNeg)) (h1 : ¬ (i + 1 < 0 ∨ L ≤ (i + 1).toNatClampNeg)) (h2 : ¬ (i + 2 < 0 ∨ L ≤ (i + 2).toNatClampNeg)) (h3 : ¬ (i + 3 < 0 ∨ L ≤ (i + 3).toNatClampNeg)) (h4 : ¬ (i + 4 < 0 ∨ L ≤ (i + 4).toNatClampNeg)) (h5 : ¬ (i + 5 < 0 ∨ L ≤ (i + 5).toNatClampNeg)) {P : Option Value × xH × Nat × Nat → Prop} (kk : x_R x_mt (some (L, xs)) 10 M_law (494, [(3, .int i), (2, .ref 75), (1, .ref 0), (0, .ref x_scr)], [.int (xs ((i + 2)).toNatClampNeg), .int (xs ((i + 1)).toNatClampNeg), .ref 0], h, 98, 10728) P) : x_R x_mt (some (L, xs)) 10 M_law (483, [(3, .int i), (2, .ref 75), (1, .ref 0), (0, .ref x_scr)], [], h, 98, 10728) P := by
  refine x_R.steps 5 (c' := (488, [(3, .int i), (2, .ref 75), (1, .ref 0), (0, .ref x_scr)], [.int (i + 1), .ref x_scr, .ref 0], h, 98, 10728)) rfl ?_
  refine j_Rsld (c' := (489, [(3, .int i), (2, .ref 75), (1, .ref 0), (0, .ref x_scr)], [.int (xs ((i + 1)).toNatClampNeg), .ref 0], h, 98, 10728)) rfl h1 ?_
  refine x_R.steps 4 (c' := (493, [(3, .int i), (2, .ref 75), (1, .ref 0), (0, .ref x_scr)], [.int (i + 2), .ref x_scr, .int (xs ((i + 1)).toNatClampNeg), .ref 0], h, 98, 10728)) rfl ?_
  refine j_Rsld (c' := (494, [(3, .int i), (2, .ref 75), (1, .ref 0), (0, .ref x_scr)], [.int (xs ((i + 2)).toNatClampNeg), .int (xs ((i + 1)).toNatClampNeg), .ref 0], h, 98, 10728)) rfl h2 ?_
  exact kk

set_option maxRecDepth 100000 in
theorem x_c5b (h : xH) (L : Nat) (xs : Nat → Int32) (i : Int32) (h0 : ¬ (i < 0 ∨ L ≤ (i).toNatClampNeg)) (h1 : ¬ (i + 1 < 0 ∨ L ≤ (i + 1).toNatClampNeg)) (h2 : ¬ (i + 2 < 0 ∨ L ≤ (i + 2).toNatClampNeg)) (h3 : ¬ (i + 3 < 0 ∨ L ≤ (i + 3).toNatClampNeg)) (h4 : ¬ (i + 4 < 0 ∨ L ≤ (i + 4).toNatClampNeg)) (h5 : ¬ (i + 5 < 0 ∨ L ≤ (i + 5).toNatClampNeg)) (v : Int32) {P : Option Value × xH × Nat × Nat → Prop} (kk : x_R x_mt (some (L, xs)) 10 M_law (509, [(3, .int i), (2, .ref 75), (1, .ref 0), (0, .ref x_scr)], [.int (xs ((i + 2)).toNatClampNeg), .int (xs ((i + 1)).toNatClampNeg), .ref 75], h, 98, 10728) P) : x_R x_mt (some (L, xs)) 10 M_law (497, [(3, .int i), (2, .ref 75), (1, .ref 0), (0, .ref x_scr)], [.int v], h, 98, 10728) P := by
  refine x_R.steps 6 (c' := (503, [(3, .int i), (2, .ref 75), (1, .ref 0), (0, .ref x_scr)], [.int (i + 1), .ref x_scr, .ref 75], h, 98, 10728)) rfl ?_
  refine j_Rsld (c' := (504, [(3, .int i), (2, .ref 75), (1, .ref 0), (0, .ref x_scr)], [.int (xs ((i + 1)).toNatClampNeg), .ref 75], h, 98, 10728)) rfl h1 ?_
  refine x_R.steps 4 (c' := (508, [(3, .int i), (2, .ref 75), (1, .ref 0), (0, .ref x_scr)], [.int (i + 2), .ref x_scr, .int (xs ((i + 1)).toNatClampNeg), .ref 75], h, 98, 10728)) rfl ?_
  refine j_Rsld (c' := (509, [(3, .int i), (2, .ref 75), (1, .ref 0), (0, .ref x_scr)], [.int (xs ((i + 2)).toNatClampNeg), .int (xs ((i + 1)).toNatClampNeg), .ref 75], h, 98, 10728)) rfl h2 ?_
  exact kk

set_option maxRecDepth 100000 in
theorem x_c5d (h : xH) (L : Nat) (xs : Nat → Int32) (i : Int32) (h0 : ¬ (i < 0 ∨ L ≤ (i).toNatClampNeg)) (h1 : ¬ (i + 1 < 0 ∨ L ≤ (i + 1).toNatClampNeg)) (h2 : ¬ (i + 2 < 0 ∨ L ≤ (i + 2).toNatClampNeg)) (h3 : ¬ (i + 3 < 0 ∨ L ≤ (i + 3).toNatClampNeg)) (h4 : ¬ (i + 4 < 0 ∨ L ≤ (i + 4).toNatClampNeg)) (h5 : ¬ (i + 5 < 0 ∨ L ≤ (i + 5).toNatClampNeg)) (w : Int32) {P : Option Value × xH × Nat × Nat → Prop} (kk : x_R x_mt (some (L, xs)) 10 M_law (18, [(3, .int (i + Int32.ofInt (6))), (2, .ref 75), (1, .ref 0), (0, .ref x_scr)], [], h, 98, 10728) P) : x_R x_mt (some (L, xs)) 10 M_law (512, [(3, .int i), (2, .ref 75), (1, .ref 0), (0, .ref x_scr)], [.int w], h, 98, 10728) P := by
  refine x_R.steps 4 (c' := (18, [(3, .int (i + Int32.ofInt (6))), (2, .ref 75), (1, .ref 0), (0, .ref x_scr)], [], h, 98, 10728)) rfl ?_
  exact kk

set_option maxRecDepth 100000 in
theorem x_c6a (h : xH) (L : Nat) (xs : Nat → Int32) (i : Int32) (h0 : ¬ (i < 0 ∨ L ≤ (i).toNatClampNeg)) (h1 : ¬ (i + 1 < 0 ∨ L ≤ (i + 1).toNatClampNeg)) (h2 : ¬ (i + 2 < 0 ∨ L ≤ (i + 2).toNatClampNeg)) (h3 : ¬ (i + 3 < 0 ∨ L ≤ (i + 3).toNatClampNeg)) (h4 : ¬ (i + 4 < 0 ∨ L ≤ (i + 4).toNatClampNeg)) (h5 : ¬ (i + 5 < 0 ∨ L ≤ (i + 5).toNatClampNeg)) {P : Option Value × xH × Nat × Nat → Prop} (kk : x_R x_mt (some (L, xs)) 10 M_law (522, [(3, .int i), (2, .ref 75), (1, .ref 0), (0, .ref x_scr)], [.int (xs ((i + 1)).toNatClampNeg), .ref 0], h, 98, 10728) P) : x_R x_mt (some (L, xs)) 10 M_law (516, [(3, .int i), (2, .ref 75), (1, .ref 0), (0, .ref x_scr)], [], h, 98, 10728) P := by
  refine x_R.steps 5 (c' := (521, [(3, .int i), (2, .ref 75), (1, .ref 0), (0, .ref x_scr)], [.int (i + 1), .ref x_scr, .ref 0], h, 98, 10728)) rfl ?_
  refine j_Rsld (c' := (522, [(3, .int i), (2, .ref 75), (1, .ref 0), (0, .ref x_scr)], [.int (xs ((i + 1)).toNatClampNeg), .ref 0], h, 98, 10728)) rfl h1 ?_
  exact kk

set_option maxRecDepth 100000 in
theorem x_c6b (h : xH) (L : Nat) (xs : Nat → Int32) (i : Int32) (h0 : ¬ (i < 0 ∨ L ≤ (i).toNatClampNeg)) (h1 : ¬ (i + 1 < 0 ∨ L ≤ (i + 1).toNatClampNeg)) (h2 : ¬ (i + 2 < 0 ∨ L ≤ (i + 2).toNatClampNeg)) (h3 : ¬ (i + 3 < 0 ∨ L ≤ (i + 3).toNatClampNeg)) (h4 : ¬ (i + 4 < 0 ∨ L ≤ (i + 4).toNatClampNeg)) (h5 : ¬ (i + 5 < 0 ∨ L ≤ (i + 5).toNatClampNeg)) (v : Int32) {P : Option Value × xH × Nat × Nat → Prop} (kk : x_R x_mt (some (L, xs)) 10 M_law (532, [(3, .int i), (2, .ref 75), (1, .ref 0), (0, .ref x_scr)], [.int (xs ((i + 1)).toNatClampNeg), .ref 75], h, 98, 10728) P) : x_R x_mt (some (L, xs)) 10 M_law (525, [(3, .int i), (2, .ref 75), (1, .ref 0), (0, .ref x_scr)], [.int v], h, 98, 10728) P := by
  refine x_R.steps 6 (c' := (531, [(3, .int i), (2, .ref 75), (1, .ref 0), (0, .ref x_scr)], [.int (i + 1), .ref x_scr, .ref 75], h, 98, 10728)) rfl ?_
  refine j_Rsld (c' := (532, [(3, .int i), (2, .ref 75), (1, .ref 0), (0, .ref x_scr)], [.int (xs ((i + 1)).toNatClampNeg), .ref 75], h, 98, 10728)) rfl h1 ?_
  exact kk

set_option maxRecDepth 100000 in
theorem x_c6d (h : xH) (L : Nat) (xs : Nat → Int32) (i : Int32) (h0 : ¬ (i < 0 ∨ L ≤ (i).toNatClampNeg)) (h1 : ¬ (i + 1 < 0 ∨ L ≤ (i + 1).toNatClampNeg)) (h2 : ¬ (i + 2 < 0 ∨ L ≤ (i + 2).toNatClampNeg)) (h3 : ¬ (i + 3 < 0 ∨ L ≤ (i + 3).toNatClampNeg)) (h4 : ¬ (i + 4 < 0 ∨ L ≤ (i + 4).toNatClampNeg)) (h5 : ¬ (i + 5 < 0 ∨ L ≤ (i + 5).toNatClampNeg)) (w : Int32) {P : Option Value × xH × Nat × Nat → Prop} (kk : x_R x_mt (some (L, xs)) 10 M_law (18, [(3, .int (i + Int32.ofInt (6))), (2, .ref 75), (1, .ref 0), (0, .ref x_scr)], [], h, 98, 10728) P) : x_R x_mt (some (L, xs)) 10 M_law (535, [(3, .int i), (2, .ref 75), (1, .ref 0), (0, .ref x_scr)], [.int w], h, 98, 10728) P := by
  refine x_R.steps 4 (c' := (18, [(3, .int (i + Int32.ofInt (6))), (2, .ref 75), (1, .ref 0), (0, .ref x_scr)], [], h, 98, 10728)) rfl ?_
  exact kk

set_option maxRecDepth 100000 in
theorem x_c7a (h : xH) (L : Nat) (xs : Nat → Int32) (i : Int32) (h0 : ¬ (i < 0 ∨ L ≤ (i).toNatClampNeg)) (h1 : ¬ (i + 1 < 0 ∨ L ≤ (i + 1).toNatClampNeg)) (h2 : ¬ (i + 2 < 0 ∨ L ≤ (i + 2).toNatClampNeg)) (h3 : ¬ (i + 3 < 0 ∨ L ≤ (i + 3).toNatClampNeg)) (h4 : ¬ (i + 4 < 0 ∨ L ≤ (i + 4).toNatClampNeg)) (h5 : ¬ (i + 5 < 0 ∨ L ≤ (i + 5).toNatClampNeg)) {P : Option Value × xH × Nat × Nat → Prop} (kk : x_R x_mt (some (L, xs)) 10 M_law (540, [(3, .int i), (2, .ref 75), (1, .ref 0), (0, .ref x_scr)], [.ref 0], h, 98, 10728) P) : x_R x_mt (some (L, xs)) 10 M_law (539, [(3, .int i), (2, .ref 75), (1, .ref 0), (0, .ref x_scr)], [], h, 98, 10728) P := by
  refine x_R.steps 1 (c' := (540, [(3, .int i), (2, .ref 75), (1, .ref 0), (0, .ref x_scr)], [.ref 0], h, 98, 10728)) rfl ?_
  exact kk

set_option maxRecDepth 100000 in
theorem x_c7b (h : xH) (L : Nat) (xs : Nat → Int32) (i : Int32) (h0 : ¬ (i < 0 ∨ L ≤ (i).toNatClampNeg)) (h1 : ¬ (i + 1 < 0 ∨ L ≤ (i + 1).toNatClampNeg)) (h2 : ¬ (i + 2 < 0 ∨ L ≤ (i + 2).toNatClampNeg)) (h3 : ¬ (i + 3 < 0 ∨ L ≤ (i + 3).toNatClampNeg)) (h4 : ¬ (i + 4 < 0 ∨ L ≤ (i + 4).toNatClampNeg)) (h5 : ¬ (i + 5 < 0 ∨ L ≤ (i + 5).toNatClampNeg)) (v : Int32) {P : Option Value × xH × Nat × Nat → Prop} (kk : x_R x_mt (some (L, xs)) 10 M_law (545, [(3, .int i), (2, .ref 75), (1, .ref 0), (0, .ref x_scr)], [.ref 75], h, 98, 10728) P) : x_R x_mt (some (L, xs)) 10 M_law (543, [(3, .int i), (2, .ref 75), (1, .ref 0), (0, .ref x_scr)], [.int v], h, 98, 10728) P := by
  refine x_R.steps 2 (c' := (545, [(3, .int i), (2, .ref 75), (1, .ref 0), (0, .ref x_scr)], [.ref 75], h, 98, 10728)) rfl ?_
  exact kk

set_option maxRecDepth 100000 in
theorem x_c7d (h : xH) (L : Nat) (xs : Nat → Int32) (i : Int32) (h0 : ¬ (i < 0 ∨ L ≤ (i).toNatClampNeg)) (h1 : ¬ (i + 1 < 0 ∨ L ≤ (i + 1).toNatClampNeg)) (h2 : ¬ (i + 2 < 0 ∨ L ≤ (i + 2).toNatClampNeg)) (h3 : ¬ (i + 3 < 0 ∨ L ≤ (i + 3).toNatClampNeg)) (h4 : ¬ (i + 4 < 0 ∨ L ≤ (i + 4).toNatClampNeg)) (h5 : ¬ (i + 5 < 0 ∨ L ≤ (i + 5).toNatClampNeg)) (w : Int32) {P : Option Value × xH × Nat × Nat → Prop} (kk : x_R x_mt (some (L, xs)) 10 M_law (18, [(3, .int (i + Int32.ofInt (6))), (2, .ref 75), (1, .ref 0), (0, .ref x_scr)], [], h, 98, 10728) P) : x_R x_mt (some (L, xs)) 10 M_law (548, [(3, .int i), (2, .ref 75), (1, .ref 0), (0, .ref x_scr)], [.int w], h, 98, 10728) P := by
  refine x_R.steps 4 (c' := (18, [(3, .int (i + Int32.ofInt (6))), (2, .ref 75), (1, .ref 0), (0, .ref x_scr)], [], h, 98, 10728)) rfl ?_
  exact kk

set_option maxRecDepth 100000 in
theorem x_c8a (h : xH) (L : Nat) (xs : Nat → Int32) (i : Int32) (h0 : ¬ (i < 0 ∨ L ≤ (i).toNatClampNeg)) (h1 : ¬ (i + 1 < 0 ∨ L ≤ (i + 1).toNatClampNeg)) (h2 : ¬ (i + 2 < 0 ∨ L ≤ (i + 2).toNatClampNeg)) (h3 : ¬ (i + 3 < 0 ∨ L ≤ (i + 3).toNatClampNeg)) (h4 : ¬ (i + 4 < 0 ∨ L ≤ (i + 4).toNatClampNeg)) (h5 : ¬ (i + 5 < 0 ∨ L ≤ (i + 5).toNatClampNeg)) {P : Option Value × xH × Nat × Nat → Prop} (kk : x_R x_mt (some (L, xs)) 10 M_law (563, [(3, .int i), (2, .ref 75), (1, .ref 0), (0, .ref x_scr)], [.int (xs ((i + 2)).toNatClampNeg), .int (xs ((i + 1)).toNatClampNeg), .ref 0], h, 98, 10728) P) : x_R x_mt (some (L, xs)) 10 M_law (552, [(3, .int i), (2, .ref 75), (1, .ref 0), (0, .ref x_scr)], [], h, 98, 10728) P := by
  refine x_R.steps 5 (c' := (557, [(3, .int i), (2, .ref 75), (1, .ref 0), (0, .ref x_scr)], [.int (i + 1), .ref x_scr, .ref 0], h, 98, 10728)) rfl ?_
  refine j_Rsld (c' := (558, [(3, .int i), (2, .ref 75), (1, .ref 0), (0, .ref x_scr)], [.int (xs ((i + 1)).toNatClampNeg), .ref 0], h, 98, 10728)) rfl h1 ?_
  refine x_R.steps 4 (c' := (562, [(3, .int i), (2, .ref 75), (1, .ref 0), (0, .ref x_scr)], [.int (i + 2), .ref x_scr, .int (xs ((i + 1)).toNatClampNeg), .ref 0], h, 98, 10728)) rfl ?_
  refine j_Rsld (c' := (563, [(3, .int i), (2, .ref 75), (1, .ref 0), (0, .ref x_scr)], [.int (xs ((i + 2)).toNatClampNeg), .int (xs ((i + 1)).toNatClampNeg), .ref 0], h, 98, 10728)) rfl h2 ?_
  exact kk

set_option maxRecDepth 100000 in
theorem x_c8b (h : xH) (L : Nat) (xs : Nat → Int32) (i : Int32) (h0 : ¬ (i < 0 ∨ L ≤ (i).toNatClampNeg)) (h1 : ¬ (i + 1 < 0 ∨ L ≤ (i + 1).toNatClampNeg)) (h2 : ¬ (i + 2 < 0 ∨ L ≤ (i + 2).toNatClampNeg)) (h3 : ¬ (i + 3 < 0 ∨ L ≤ (i + 3).toNatClampNeg)) (h4 : ¬ (i + 4 < 0 ∨ L ≤ (i + 4).toNatClampNeg)) (h5 : ¬ (i + 5 < 0 ∨ L ≤ (i + 5).toNatClampNeg)) (v : Int32) {P : Option Value × xH × Nat × Nat → Prop} (kk : x_R x_mt (some (L, xs)) 10 M_law (578, [(3, .int i), (2, .ref 75), (1, .ref 0), (0, .ref x_scr)], [.int (xs ((i + 2)).toNatClampNeg), .int (xs ((i + 1)).toNatClampNeg), .ref 75], h, 98, 10728) P) : x_R x_mt (some (L, xs)) 10 M_law (566, [(3, .int i), (2, .ref 75), (1, .ref 0), (0, .ref x_scr)], [.int v], h, 98, 10728) P := by
  refine x_R.steps 6 (c' := (572, [(3, .int i), (2, .ref 75), (1, .ref 0), (0, .ref x_scr)], [.int (i + 1), .ref x_scr, .ref 75], h, 98, 10728)) rfl ?_
  refine j_Rsld (c' := (573, [(3, .int i), (2, .ref 75), (1, .ref 0), (0, .ref x_scr)], [.int (xs ((i + 1)).toNatClampNeg), .ref 75], h, 98, 10728)) rfl h1 ?_
  refine x_R.steps 4 (c' := (577, [(3, .int i), (2, .ref 75), (1, .ref 0), (0, .ref x_scr)], [.int (i + 2), .ref x_scr, .int (xs ((i + 1)).toNatClampNeg), .ref 75], h, 98, 10728)) rfl ?_
  refine j_Rsld (c' := (578, [(3, .int i), (2, .ref 75), (1, .ref 0), (0, .ref x_scr)], [.int (xs ((i + 2)).toNatClampNeg), .int (xs ((i + 1)).toNatClampNeg), .ref 75], h, 98, 10728)) rfl h2 ?_
  exact kk

set_option maxRecDepth 100000 in
theorem x_c8d (h : xH) (L : Nat) (xs : Nat → Int32) (i : Int32) (h0 : ¬ (i < 0 ∨ L ≤ (i).toNatClampNeg)) (h1 : ¬ (i + 1 < 0 ∨ L ≤ (i + 1).toNatClampNeg)) (h2 : ¬ (i + 2 < 0 ∨ L ≤ (i + 2).toNatClampNeg)) (h3 : ¬ (i + 3 < 0 ∨ L ≤ (i + 3).toNatClampNeg)) (h4 : ¬ (i + 4 < 0 ∨ L ≤ (i + 4).toNatClampNeg)) (h5 : ¬ (i + 5 < 0 ∨ L ≤ (i + 5).toNatClampNeg)) (w : Int32) {P : Option Value × xH × Nat × Nat → Prop} (kk : x_R x_mt (some (L, xs)) 10 M_law (18, [(3, .int (i + Int32.ofInt (6))), (2, .ref 75), (1, .ref 0), (0, .ref x_scr)], [], h, 98, 10728) P) : x_R x_mt (some (L, xs)) 10 M_law (581, [(3, .int i), (2, .ref 75), (1, .ref 0), (0, .ref x_scr)], [.int w], h, 98, 10728) P := by
  refine x_R.steps 4 (c' := (18, [(3, .int (i + Int32.ofInt (6))), (2, .ref 75), (1, .ref 0), (0, .ref x_scr)], [], h, 98, 10728)) rfl ?_
  exact kk

set_option maxRecDepth 100000 in
theorem x_c9a (h : xH) (L : Nat) (xs : Nat → Int32) (i : Int32) (h0 : ¬ (i < 0 ∨ L ≤ (i).toNatClampNeg)) (h1 : ¬ (i + 1 < 0 ∨ L ≤ (i + 1).toNatClampNeg)) (h2 : ¬ (i + 2 < 0 ∨ L ≤ (i + 2).toNatClampNeg)) (h3 : ¬ (i + 3 < 0 ∨ L ≤ (i + 3).toNatClampNeg)) (h4 : ¬ (i + 4 < 0 ∨ L ≤ (i + 4).toNatClampNeg)) (h5 : ¬ (i + 5 < 0 ∨ L ≤ (i + 5).toNatClampNeg)) {P : Option Value × xH × Nat × Nat → Prop} (kk : x_R x_mt (some (L, xs)) 10 M_law (591, [(3, .int i), (2, .ref 75), (1, .ref 0), (0, .ref x_scr)], [.int (xs ((i + 1)).toNatClampNeg), .ref 0], h, 98, 10728) P) : x_R x_mt (some (L, xs)) 10 M_law (585, [(3, .int i), (2, .ref 75), (1, .ref 0), (0, .ref x_scr)], [], h, 98, 10728) P := by
  refine x_R.steps 5 (c' := (590, [(3, .int i), (2, .ref 75), (1, .ref 0), (0, .ref x_scr)], [.int (i + 1), .ref x_scr, .ref 0], h, 98, 10728)) rfl ?_
  refine j_Rsld (c' := (591, [(3, .int i), (2, .ref 75), (1, .ref 0), (0, .ref x_scr)], [.int (xs ((i + 1)).toNatClampNeg), .ref 0], h, 98, 10728)) rfl h1 ?_
  exact kk

set_option maxRecDepth 100000 in
theorem x_c9b (h : xH) (L : Nat) (xs : Nat → Int32) (i : Int32) (h0 : ¬ (i < 0 ∨ L ≤ (i).toNatClampNeg)) (h1 : ¬ (i + 1 < 0 ∨ L ≤ (i + 1).toNatClampNeg)) (h2 : ¬ (i + 2 < 0 ∨ L ≤ (i + 2).toNatClampNeg)) (h3 : ¬ (i + 3 < 0 ∨ L ≤ (i + 3).toNatClampNeg)) (h4 : ¬ (i + 4 < 0 ∨ L ≤ (i + 4).toNatClampNeg)) (h5 : ¬ (i + 5 < 0 ∨ L ≤ (i + 5).toNatClampNeg)) (v : Int32) {P : Option Value × xH × Nat × Nat → Prop} (kk : x_R x_mt (some (L, xs)) 10 M_law (601, [(3, .int i), (2, .ref 75), (1, .ref 0), (0, .ref x_scr)], [.int (xs ((i + 1)).toNatClampNeg), .ref 75], h, 98, 10728) P) : x_R x_mt (some (L, xs)) 10 M_law (594, [(3, .int i), (2, .ref 75), (1, .ref 0), (0, .ref x_scr)], [.int v], h, 98, 10728) P := by
  refine x_R.steps 6 (c' := (600, [(3, .int i), (2, .ref 75), (1, .ref 0), (0, .ref x_scr)], [.int (i + 1), .ref x_scr, .ref 75], h, 98, 10728)) rfl ?_
  refine j_Rsld (c' := (601, [(3, .int i), (2, .ref 75), (1, .ref 0), (0, .ref x_scr)], [.int (xs ((i + 1)).toNatClampNeg), .ref 75], h, 98, 10728)) rfl h1 ?_
  exact kk

set_option maxRecDepth 100000 in
theorem x_c9d (h : xH) (L : Nat) (xs : Nat → Int32) (i : Int32) (h0 : ¬ (i < 0 ∨ L ≤ (i).toNatClampNeg)) (h1 : ¬ (i + 1 < 0 ∨ L ≤ (i + 1).toNatClampNeg)) (h2 : ¬ (i + 2 < 0 ∨ L ≤ (i + 2).toNatClampNeg)) (h3 : ¬ (i + 3 < 0 ∨ L ≤ (i + 3).toNatClampNeg)) (h4 : ¬ (i + 4 < 0 ∨ L ≤ (i + 4).toNatClampNeg)) (h5 : ¬ (i + 5 < 0 ∨ L ≤ (i + 5).toNatClampNeg)) (w : Int32) {P : Option Value × xH × Nat × Nat → Prop} (kk : x_R x_mt (some (L, xs)) 10 M_law (18, [(3, .int (i + Int32.ofInt (6))), (2, .ref 75), (1, .ref 0), (0, .ref x_scr)], [], h, 98, 10728) P) : x_R x_mt (some (L, xs)) 10 M_law (604, [(3, .int i), (2, .ref 75), (1, .ref 0), (0, .ref x_scr)], [.int w], h, 98, 10728) P := by
  refine x_R.steps 4 (c' := (18, [(3, .int (i + Int32.ofInt (6))), (2, .ref 75), (1, .ref 0), (0, .ref x_scr)], [], h, 98, 10728)) rfl ?_
  exact kk

set_option maxRecDepth 100000 in
theorem x_c10a (h : xH) (L : Nat) (xs : Nat → Int32) (i : Int32) (h0 : ¬ (i < 0 ∨ L ≤ (i).toNatClampNeg)) (h1 : ¬ (i + 1 < 0 ∨ L ≤ (i + 1).toNatClampNeg)) (h2 : ¬ (i + 2 < 0 ∨ L ≤ (i + 2).toNatClampNeg)) (h3 : ¬ (i + 3 < 0 ∨ L ≤ (i + 3).toNatClampNeg)) (h4 : ¬ (i + 4 < 0 ∨ L ≤ (i + 4).toNatClampNeg)) (h5 : ¬ (i + 5 < 0 ∨ L ≤ (i + 5).toNatClampNeg)) {P : Option Value × xH × Nat × Nat → Prop} (kk : x_R x_mt (some (L, xs)) 10 M_law (609, [(3, .int i), (2, .ref 75), (1, .ref 0), (0, .ref x_scr)], [.ref 0], h, 98, 10728) P) : x_R x_mt (some (L, xs)) 10 M_law (608, [(3, .int i), (2, .ref 75), (1, .ref 0), (0, .ref x_scr)], [], h, 98, 10728) P := by
  refine x_R.steps 1 (c' := (609, [(3, .int i), (2, .ref 75), (1, .ref 0), (0, .ref x_scr)], [.ref 0], h, 98, 10728)) rfl ?_
  exact kk

set_option maxRecDepth 100000 in
theorem x_c10b (h : xH) (L : Nat) (xs : Nat → Int32) (i : Int32) (h0 : ¬ (i < 0 ∨ L ≤ (i).toNatClampNeg)) (h1 : ¬ (i + 1 < 0 ∨ L ≤ (i + 1).toNatClampNeg)) (h2 : ¬ (i + 2 < 0 ∨ L ≤ (i + 2).toNatClampNeg)) (h3 : ¬ (i + 3 < 0 ∨ L ≤ (i + 3).toNatClampNeg)) (h4 : ¬ (i + 4 < 0 ∨ L ≤ (i + 4).toNatClampNeg)) (h5 : ¬ (i + 5 < 0 ∨ L ≤ (i + 5).toNatClampNeg)) (v : Int32) {P : Option Value × xH × Nat × Nat → Prop} (kk : x_R x_mt (some (L, xs)) 10 M_law (614, [(3, .int i), (2, .ref 75), (1, .ref 0), (0, .ref x_scr)], [.ref 75], h, 98, 10728) P) : x_R x_mt (some (L, xs)) 10 M_law (612, [(3, .int i), (2, .ref 75), (1, .ref 0), (0, .ref x_scr)], [.int v], h, 98, 10728) P := by
  refine x_R.steps 2 (c' := (614, [(3, .int i), (2, .ref 75), (1, .ref 0), (0, .ref x_scr)], [.ref 75], h, 98, 10728)) rfl ?_
  exact kk

set_option maxRecDepth 100000 in
theorem x_c10d (h : xH) (L : Nat) (xs : Nat → Int32) (i : Int32) (h0 : ¬ (i < 0 ∨ L ≤ (i).toNatClampNeg)) (h1 : ¬ (i + 1 < 0 ∨ L ≤ (i + 1).toNatClampNeg)) (h2 : ¬ (i + 2 < 0 ∨ L ≤ (i + 2).toNatClampNeg)) (h3 : ¬ (i + 3 < 0 ∨ L ≤ (i + 3).toNatClampNeg)) (h4 : ¬ (i + 4 < 0 ∨ L ≤ (i + 4).toNatClampNeg)) (h5 : ¬ (i + 5 < 0 ∨ L ≤ (i + 5).toNatClampNeg)) (w : Int32) {P : Option Value × xH × Nat × Nat → Prop} (kk : x_R x_mt (some (L, xs)) 10 M_law (18, [(3, .int (i + Int32.ofInt (6))), (2, .ref 75), (1, .ref 0), (0, .ref x_scr)], [], h, 98, 10728) P) : x_R x_mt (some (L, xs)) 10 M_law (617, [(3, .int i), (2, .ref 75), (1, .ref 0), (0, .ref x_scr)], [.int w], h, 98, 10728) P := by
  refine x_R.steps 4 (c' := (18, [(3, .int (i + Int32.ofInt (6))), (2, .ref 75), (1, .ref 0), (0, .ref x_scr)], [], h, 98, 10728)) rfl ?_
  exact kk

set_option maxRecDepth 100000 in
theorem x_c11a (h : xH) (L : Nat) (xs : Nat → Int32) (i : Int32) (h0 : ¬ (i < 0 ∨ L ≤ (i).toNatClampNeg)) (h1 : ¬ (i + 1 < 0 ∨ L ≤ (i + 1).toNatClampNeg)) (h2 : ¬ (i + 2 < 0 ∨ L ≤ (i + 2).toNatClampNeg)) (h3 : ¬ (i + 3 < 0 ∨ L ≤ (i + 3).toNatClampNeg)) (h4 : ¬ (i + 4 < 0 ∨ L ≤ (i + 4).toNatClampNeg)) (h5 : ¬ (i + 5 < 0 ∨ L ≤ (i + 5).toNatClampNeg)) {P : Option Value × xH × Nat × Nat → Prop} (kk : x_R x_mt (some (L, xs)) 10 M_law (632, [(3, .int i), (2, .ref 75), (1, .ref 0), (0, .ref x_scr)], [.int (xs ((i + 2)).toNatClampNeg), .int (xs ((i + 1)).toNatClampNeg), .ref 0], h, 98, 10728) P) : x_R x_mt (some (L, xs)) 10 M_law (621, [(3, .int i), (2, .ref 75), (1, .ref 0), (0, .ref x_scr)], [], h, 98, 10728) P := by
  refine x_R.steps 5 (c' := (626, [(3, .int i), (2, .ref 75), (1, .ref 0), (0, .ref x_scr)], [.int (i + 1), .ref x_scr, .ref 0], h, 98, 10728)) rfl ?_
  refine j_Rsld (c' := (627, [(3, .int i), (2, .ref 75), (1, .ref 0), (0, .ref x_scr)], [.int (xs ((i + 1)).toNatClampNeg), .ref 0], h, 98, 10728)) rfl h1 ?_
  refine x_R.steps 4 (c' := (631, [(3, .int i), (2, .ref 75), (1, .ref 0), (0, .ref x_scr)], [.int (i + 2), .ref x_scr, .int (xs ((i + 1)).toNatClampNeg), .ref 0], h, 98, 10728)) rfl ?_
  refine j_Rsld (c' := (632, [(3, .int i), (2, .ref 75), (1, .ref 0), (0, .ref x_scr)], [.int (xs ((i + 2)).toNatClampNeg), .int (xs ((i + 1)).toNatClampNeg), .ref 0], h, 98, 10728)) rfl h2 ?_
  exact kk

set_option maxRecDepth 100000 in
theorem x_c11b (h : xH) (L : Nat) (xs : Nat → Int32) (i : Int32) (h0 : ¬ (i < 0 ∨ L ≤ (i).toNatClampNeg)) (h1 : ¬ (i + 1 < 0 ∨ L ≤ (i + 1).toNatClampNeg)) (h2 : ¬ (i + 2 < 0 ∨ L ≤ (i + 2).toNatClampNeg)) (h3 : ¬ (i + 3 < 0 ∨ L ≤ (i + 3).toNatClampNeg)) (h4 : ¬ (i + 4 < 0 ∨ L ≤ (i + 4).toNatClampNeg)) (h5 : ¬ (i + 5 < 0 ∨ L ≤ (i + 5).toNatClampNeg)) (v : Int32) {P : Option Value × xH × Nat × Nat → Prop} (kk : x_R x_mt (some (L, xs)) 10 M_law (647, [(3, .int i), (2, .ref 75), (1, .ref 0), (0, .ref x_scr)], [.int (xs ((i + 2)).toNatClampNeg), .int (xs ((i + 1)).toNatClampNeg), .ref 75], h, 98, 10728) P) : x_R x_mt (some (L, xs)) 10 M_law (635, [(3, .int i), (2, .ref 75), (1, .ref 0), (0, .ref x_scr)], [.int v], h, 98, 10728) P := by
  refine x_R.steps 6 (c' := (641, [(3, .int i), (2, .ref 75), (1, .ref 0), (0, .ref x_scr)], [.int (i + 1), .ref x_scr, .ref 75], h, 98, 10728)) rfl ?_
  refine j_Rsld (c' := (642, [(3, .int i), (2, .ref 75), (1, .ref 0), (0, .ref x_scr)], [.int (xs ((i + 1)).toNatClampNeg), .ref 75], h, 98, 10728)) rfl h1 ?_
  refine x_R.steps 4 (c' := (646, [(3, .int i), (2, .ref 75), (1, .ref 0), (0, .ref x_scr)], [.int (i + 2), .ref x_scr, .int (xs ((i + 1)).toNatClampNeg), .ref 75], h, 98, 10728)) rfl ?_
  refine j_Rsld (c' := (647, [(3, .int i), (2, .ref 75), (1, .ref 0), (0, .ref x_scr)], [.int (xs ((i + 2)).toNatClampNeg), .int (xs ((i + 1)).toNatClampNeg), .ref 75], h, 98, 10728)) rfl h2 ?_
  exact kk

set_option maxRecDepth 100000 in
theorem x_c11d (h : xH) (L : Nat) (xs : Nat → Int32) (i : Int32) (h0 : ¬ (i < 0 ∨ L ≤ (i).toNatClampNeg)) (h1 : ¬ (i + 1 < 0 ∨ L ≤ (i + 1).toNatClampNeg)) (h2 : ¬ (i + 2 < 0 ∨ L ≤ (i + 2).toNatClampNeg)) (h3 : ¬ (i + 3 < 0 ∨ L ≤ (i + 3).toNatClampNeg)) (h4 : ¬ (i + 4 < 0 ∨ L ≤ (i + 4).toNatClampNeg)) (h5 : ¬ (i + 5 < 0 ∨ L ≤ (i + 5).toNatClampNeg)) (w : Int32) {P : Option Value × xH × Nat × Nat → Prop} (kk : x_R x_mt (some (L, xs)) 10 M_law (18, [(3, .int (i + Int32.ofInt (6))), (2, .ref 75), (1, .ref 0), (0, .ref x_scr)], [], h, 98, 10728) P) : x_R x_mt (some (L, xs)) 10 M_law (650, [(3, .int i), (2, .ref 75), (1, .ref 0), (0, .ref x_scr)], [.int w], h, 98, 10728) P := by
  refine x_R.steps 4 (c' := (18, [(3, .int (i + Int32.ofInt (6))), (2, .ref 75), (1, .ref 0), (0, .ref x_scr)], [], h, 98, 10728)) rfl ?_
  exact kk

set_option maxRecDepth 100000 in
theorem x_c12a (h : xH) (L : Nat) (xs : Nat → Int32) (i : Int32) (h0 : ¬ (i < 0 ∨ L ≤ (i).toNatClampNeg)) (h1 : ¬ (i + 1 < 0 ∨ L ≤ (i + 1).toNatClampNeg)) (h2 : ¬ (i + 2 < 0 ∨ L ≤ (i + 2).toNatClampNeg)) (h3 : ¬ (i + 3 < 0 ∨ L ≤ (i + 3).toNatClampNeg)) (h4 : ¬ (i + 4 < 0 ∨ L ≤ (i + 4).toNatClampNeg)) (h5 : ¬ (i + 5 < 0 ∨ L ≤ (i + 5).toNatClampNeg)) {P : Option Value × xH × Nat × Nat → Prop} (kk : x_R x_mt (some (L, xs)) 10 M_law (665, [(3, .int i), (2, .ref 75), (1, .ref 0), (0, .ref x_scr)], [.int (xs ((i + 2)).toNatClampNeg), .int (xs ((i + 1)).toNatClampNeg), .ref 0], h, 98, 10728) P) : x_R x_mt (some (L, xs)) 10 M_law (654, [(3, .int i), (2, .ref 75), (1, .ref 0), (0, .ref x_scr)], [], h, 98, 10728) P := by
  refine x_R.steps 5 (c' := (659, [(3, .int i), (2, .ref 75), (1, .ref 0), (0, .ref x_scr)], [.int (i + 1), .ref x_scr, .ref 0], h, 98, 10728)) rfl ?_
  refine j_Rsld (c' := (660, [(3, .int i), (2, .ref 75), (1, .ref 0), (0, .ref x_scr)], [.int (xs ((i + 1)).toNatClampNeg), .ref 0], h, 98, 10728)) rfl h1 ?_
  refine x_R.steps 4 (c' := (664, [(3, .int i), (2, .ref 75), (1, .ref 0), (0, .ref x_scr)], [.int (i + 2), .ref x_scr, .int (xs ((i + 1)).toNatClampNeg), .ref 0], h, 98, 10728)) rfl ?_
  refine j_Rsld (c' := (665, [(3, .int i), (2, .ref 75), (1, .ref 0), (0, .ref x_scr)], [.int (xs ((i + 2)).toNatClampNeg), .int (xs ((i + 1)).toNatClampNeg), .ref 0], h, 98, 10728)) rfl h2 ?_
  exact kk

set_option maxRecDepth 100000 in
theorem x_c12b (h : xH) (L : Nat) (xs : Nat → Int32) (i : Int32) (h0 : ¬ (i < 0 ∨ L ≤ (i).toNatClampNeg)) (h1 : ¬ (i + 1 < 0 ∨ L ≤ (i + 1).toNatClampNeg)) (h2 : ¬ (i + 2 < 0 ∨ L ≤ (i + 2).toNatClampNeg)) (h3 : ¬ (i + 3 < 0 ∨ L ≤ (i + 3).toNatClampNeg)) (h4 : ¬ (i + 4 < 0 ∨ L ≤ (i + 4).toNatClampNeg)) (h5 : ¬ (i + 5 < 0 ∨ L ≤ (i + 5).toNatClampNeg)) (v : Int32) {P : Option Value × xH × Nat × Nat → Prop} (kk : x_R x_mt (some (L, xs)) 10 M_law (680, [(3, .int i), (2, .ref 75), (1, .ref 0), (0, .ref x_scr)], [.int (xs ((i + 2)).toNatClampNeg), .int (xs ((i + 1)).toNatClampNeg), .ref 75], h, 98, 10728) P) : x_R x_mt (some (L, xs)) 10 M_law (668, [(3, .int i), (2, .ref 75), (1, .ref 0), (0, .ref x_scr)], [.int v], h, 98, 10728) P := by
  refine x_R.steps 6 (c' := (674, [(3, .int i), (2, .ref 75), (1, .ref 0), (0, .ref x_scr)], [.int (i + 1), .ref x_scr, .ref 75], h, 98, 10728)) rfl ?_
  refine j_Rsld (c' := (675, [(3, .int i), (2, .ref 75), (1, .ref 0), (0, .ref x_scr)], [.int (xs ((i + 1)).toNatClampNeg), .ref 75], h, 98, 10728)) rfl h1 ?_
  refine x_R.steps 4 (c' := (679, [(3, .int i), (2, .ref 75), (1, .ref 0), (0, .ref x_scr)], [.int (i + 2), .ref x_scr, .int (xs ((i + 1)).toNatClampNeg), .ref 75], h, 98, 10728)) rfl ?_
  refine j_Rsld (c' := (680, [(3, .int i), (2, .ref 75), (1, .ref 0), (0, .ref x_scr)], [.int (xs ((i + 2)).toNatClampNeg), .int (xs ((i + 1)).toNatClampNeg), .ref 75], h, 98, 10728)) rfl h2 ?_
  exact kk

set_option maxRecDepth 100000 in
theorem x_c12d (h : xH) (L : Nat) (xs : Nat → Int32) (i : Int32) (h0 : ¬ (i < 0 ∨ L ≤ (i).toNatClampNeg)) (h1 : ¬ (i + 1 < 0 ∨ L ≤ (i + 1).toNatClampNeg)) (h2 : ¬ (i + 2 < 0 ∨ L ≤ (i + 2).toNatClampNeg)) (h3 : ¬ (i + 3 < 0 ∨ L ≤ (i + 3).toNatClampNeg)) (h4 : ¬ (i + 4 < 0 ∨ L ≤ (i + 4).toNatClampNeg)) (h5 : ¬ (i + 5 < 0 ∨ L ≤ (i + 5).toNatClampNeg)) (w : Int32) {P : Option Value × xH × Nat × Nat → Prop} (kk : x_R x_mt (some (L, xs)) 10 M_law (18, [(3, .int (i + Int32.ofInt (6))), (2, .ref 75), (1, .ref 0), (0, .ref x_scr)], [], h, 98, 10728) P) : x_R x_mt (some (L, xs)) 10 M_law (683, [(3, .int i), (2, .ref 75), (1, .ref 0), (0, .ref x_scr)], [.int w], h, 98, 10728) P := by
  refine x_R.steps 4 (c' := (18, [(3, .int (i + Int32.ofInt (6))), (2, .ref 75), (1, .ref 0), (0, .ref x_scr)], [], h, 98, 10728)) rfl ?_
  exact kk

set_option maxRecDepth 100000 in
theorem x_c13a (h : xH) (L : Nat) (xs : Nat → Int32) (i : Int32) (h0 : ¬ (i < 0 ∨ L ≤ (i).toNatClampNeg)) (h1 : ¬ (i + 1 < 0 ∨ L ≤ (i + 1).toNatClampNeg)) (h2 : ¬ (i + 2 < 0 ∨ L ≤ (i + 2).toNatClampNeg)) (h3 : ¬ (i + 3 < 0 ∨ L ≤ (i + 3).toNatClampNeg)) (h4 : ¬ (i + 4 < 0 ∨ L ≤ (i + 4).toNatClampNeg)) (h5 : ¬ (i + 5 < 0 ∨ L ≤ (i + 5).toNatClampNeg)) {P : Option Value × xH × Nat × Nat → Prop} (kk : x_R x_mt (some (L, xs)) 10 M_law (698, [(3, .int i), (2, .ref 75), (1, .ref 0), (0, .ref x_scr)], [.int (xs ((i + 2)).toNatClampNeg), .int (xs ((i + 1)).toNatClampNeg), .ref 0], h, 98, 10728) P) : x_R x_mt (some (L, xs)) 10 M_law (687, [(3, .int i), (2, .ref 75), (1, .ref 0), (0, .ref x_scr)], [], h, 98, 10728) P := by
  refine x_R.steps 5 (c' := (692, [(3, .int i), (2, .ref 75), (1, .ref 0), (0, .ref x_scr)], [.int (i + 1), .ref x_scr, .ref 0], h, 98, 10728)) rfl ?_
  refine j_Rsld (c' := (693, [(3, .int i), (2, .ref 75), (1, .ref 0), (0, .ref x_scr)], [.int (xs ((i + 1)).toNatClampNeg), .ref 0], h, 98, 10728)) rfl h1 ?_
  refine x_R.steps 4 (c' := (697, [(3, .int i), (2, .ref 75), (1, .ref 0), (0, .ref x_scr)], [.int (i + 2), .ref x_scr, .int (xs ((i + 1)).toNatClampNeg), .ref 0], h, 98, 10728)) rfl ?_
  refine j_Rsld (c' := (698, [(3, .int i), (2, .ref 75), (1, .ref 0), (0, .ref x_scr)], [.int (xs ((i + 2)).toNatClampNeg), .int (xs ((i + 1)).toNatClampNeg), .ref 0], h, 98, 10728)) rfl h2 ?_
  exact kk

set_option maxRecDepth 100000 in
theorem x_c13b (h : xH) (L : Nat) (xs : Nat → Int32) (i : Int32) (h0 : ¬ (i < 0 ∨ L ≤ (i).toNatClampNeg)) (h1 : ¬ (i + 1 < 0 ∨ L ≤ (i + 1).toNatClampNeg)) (h2 : ¬ (i + 2 < 0 ∨ L ≤ (i + 2).toNatClampNeg)) (h3 : ¬ (i + 3 < 0 ∨ L ≤ (i + 3).toNatClampNeg)) (h4 : ¬ (i + 4 < 0 ∨ L ≤ (i + 4).toNatClampNeg)) (h5 : ¬ (i + 5 < 0 ∨ L ≤ (i + 5).toNatClampNeg)) (v : Int32) {P : Option Value × xH × Nat × Nat → Prop} (kk : x_R x_mt (some (L, xs)) 10 M_law (713, [(3, .int i), (2, .ref 75), (1, .ref 0), (0, .ref x_scr)], [.int (xs ((i + 2)).toNatClampNeg), .int (xs ((i + 1)).toNatClampNeg), .ref 75], h, 98, 10728) P) : x_R x_mt (some (L, xs)) 10 M_law (701, [(3, .int i), (2, .ref 75), (1, .ref 0), (0, .ref x_scr)], [.int v], h, 98, 10728) P := by
  refine x_R.steps 6 (c' := (707, [(3, .int i), (2, .ref 75), (1, .ref 0), (0, .ref x_scr)], [.int (i + 1), .ref x_scr, .ref 75], h, 98, 10728)) rfl ?_
  refine j_Rsld (c' := (708, [(3, .int i), (2, .ref 75), (1, .ref 0), (0, .ref x_scr)], [.int (xs ((i + 1)).toNatClampNeg), .ref 75], h, 98, 10728)) rfl h1 ?_
  refine x_R.steps 4 (c' := (712, [(3, .int i), (2, .ref 75), (1, .ref 0), (0, .ref x_scr)], [.int (i + 2), .ref x_scr, .int (xs ((i + 1)).toNatClampNeg), .ref 75], h, 98, 10728)) rfl ?_
  refine j_Rsld (c' := (713, [(3, .int i), (2, .ref 75), (1, .ref 0), (0, .ref x_scr)], [.int (xs ((i + 2)).toNatClampNeg), .int (xs ((i + 1)).toNatClampNeg), .ref 75], h, 98, 10728)) rfl h2 ?_
  exact kk

set_option maxRecDepth 100000 in
theorem x_c13d (h : xH) (L : Nat) (xs : Nat → Int32) (i : Int32) (h0 : ¬ (i < 0 ∨ L ≤ (i).toNatClampNeg)) (h1 : ¬ (i + 1 < 0 ∨ L ≤ (i + 1).toNatClampNeg)) (h2 : ¬ (i + 2 < 0 ∨ L ≤ (i + 2).toNatClampNeg)) (h3 : ¬ (i + 3 < 0 ∨ L ≤ (i + 3).toNatClampNeg)) (h4 : ¬ (i + 4 < 0 ∨ L ≤ (i + 4).toNatClampNeg)) (h5 : ¬ (i + 5 < 0 ∨ L ≤ (i + 5).toNatClampNeg)) (w : Int32) {P : Option Value × xH × Nat × Nat → Prop} (kk : x_R x_mt (some (L, xs)) 10 M_law (18, [(3, .int (i + Int32.ofInt (6))), (2, .ref 75), (1, .ref 0), (0, .ref x_scr)], [], h, 98, 10728) P) : x_R x_mt (some (L, xs)) 10 M_law (716, [(3, .int i), (2, .ref 75), (1, .ref 0), (0, .ref x_scr)], [.int w], h, 98, 10728) P := by
  refine x_R.steps 4 (c' := (18, [(3, .int (i + Int32.ofInt (6))), (2, .ref 75), (1, .ref 0), (0, .ref x_scr)], [], h, 98, 10728)) rfl ?_
  exact kk

set_option maxRecDepth 100000 in
theorem x_c14a (h : xH) (L : Nat) (xs : Nat → Int32) (i : Int32) (h0 : ¬ (i < 0 ∨ L ≤ (i).toNatClampNeg)) (h1 : ¬ (i + 1 < 0 ∨ L ≤ (i + 1).toNatClampNeg)) (h2 : ¬ (i + 2 < 0 ∨ L ≤ (i + 2).toNatClampNeg)) (h3 : ¬ (i + 3 < 0 ∨ L ≤ (i + 3).toNatClampNeg)) (h4 : ¬ (i + 4 < 0 ∨ L ≤ (i + 4).toNatClampNeg)) (h5 : ¬ (i + 5 < 0 ∨ L ≤ (i + 5).toNatClampNeg)) {P : Option Value × xH × Nat × Nat → Prop} (kk : x_R x_mt (some (L, xs)) 10 M_law (726, [(3, .int i), (2, .ref 75), (1, .ref 0), (0, .ref x_scr)], [.int (xs ((i + 1)).toNatClampNeg), .ref 0], h, 98, 10728) P) : x_R x_mt (some (L, xs)) 10 M_law (720, [(3, .int i), (2, .ref 75), (1, .ref 0), (0, .ref x_scr)], [], h, 98, 10728) P := by
  refine x_R.steps 5 (c' := (725, [(3, .int i), (2, .ref 75), (1, .ref 0), (0, .ref x_scr)], [.int (i + 1), .ref x_scr, .ref 0], h, 98, 10728)) rfl ?_
  refine j_Rsld (c' := (726, [(3, .int i), (2, .ref 75), (1, .ref 0), (0, .ref x_scr)], [.int (xs ((i + 1)).toNatClampNeg), .ref 0], h, 98, 10728)) rfl h1 ?_
  exact kk

set_option maxRecDepth 100000 in
theorem x_c14b (h : xH) (L : Nat) (xs : Nat → Int32) (i : Int32) (h0 : ¬ (i < 0 ∨ L ≤ (i).toNatClampNeg)) (h1 : ¬ (i + 1 < 0 ∨ L ≤ (i + 1).toNatClampNeg)) (h2 : ¬ (i + 2 < 0 ∨ L ≤ (i + 2).toNatClampNeg)) (h3 : ¬ (i + 3 < 0 ∨ L ≤ (i + 3).toNatClampNeg)) (h4 : ¬ (i + 4 < 0 ∨ L ≤ (i + 4).toNatClampNeg)) (h5 : ¬ (i + 5 < 0 ∨ L ≤ (i + 5).toNatClampNeg)) (v : Int32) {P : Option Value × xH × Nat × Nat → Prop} (kk : x_R x_mt (some (L, xs)) 10 M_law (736, [(3, .int i), (2, .ref 75), (1, .ref 0), (0, .ref x_scr)], [.int (xs ((i + 1)).toNatClampNeg), .ref 75], h, 98, 10728) P) : x_R x_mt (some (L, xs)) 10 M_law (729, [(3, .int i), (2, .ref 75), (1, .ref 0), (0, .ref x_scr)], [.int v], h, 98, 10728) P := by
  refine x_R.steps 6 (c' := (735, [(3, .int i), (2, .ref 75), (1, .ref 0), (0, .ref x_scr)], [.int (i + 1), .ref x_scr, .ref 75], h, 98, 10728)) rfl ?_
  refine j_Rsld (c' := (736, [(3, .int i), (2, .ref 75), (1, .ref 0), (0, .ref x_scr)], [.int (xs ((i + 1)).toNatClampNeg), .ref 75], h, 98, 10728)) rfl h1 ?_
  exact kk

set_option maxRecDepth 100000 in
theorem x_c14d (h : xH) (L : Nat) (xs : Nat → Int32) (i : Int32) (h0 : ¬ (i < 0 ∨ L ≤ (i).toNatClampNeg)) (h1 : ¬ (i + 1 < 0 ∨ L ≤ (i + 1).toNatClampNeg)) (h2 : ¬ (i + 2 < 0 ∨ L ≤ (i + 2).toNatClampNeg)) (h3 : ¬ (i + 3 < 0 ∨ L ≤ (i + 3).toNatClampNeg)) (h4 : ¬ (i + 4 < 0 ∨ L ≤ (i + 4).toNatClampNeg)) (h5 : ¬ (i + 5 < 0 ∨ L ≤ (i + 5).toNatClampNeg)) (w : Int32) {P : Option Value × xH × Nat × Nat → Prop} (kk : x_R x_mt (some (L, xs)) 10 M_law (18, [(3, .int (i + Int32.ofInt (6))), (2, .ref 75), (1, .ref 0), (0, .ref x_scr)], [], h, 98, 10728) P) : x_R x_mt (some (L, xs)) 10 M_law (739, [(3, .int i), (2, .ref 75), (1, .ref 0), (0, .ref x_scr)], [.int w], h, 98, 10728) P := by
  refine x_R.steps 4 (c' := (18, [(3, .int (i + Int32.ofInt (6))), (2, .ref 75), (1, .ref 0), (0, .ref x_scr)], [], h, 98, 10728)) rfl ?_
  exact kk

set_option maxRecDepth 100000 in
theorem x_c15a (h : xH) (L : Nat) (xs : Nat → Int32) (i : Int32) (h0 : ¬ (i < 0 ∨ L ≤ (i).toNatClampNeg)) (h1 : ¬ (i + 1 < 0 ∨ L ≤ (i + 1).toNatClampNeg)) (h2 : ¬ (i + 2 < 0 ∨ L ≤ (i + 2).toNatClampNeg)) (h3 : ¬ (i + 3 < 0 ∨ L ≤ (i + 3).toNatClampNeg)) (h4 : ¬ (i + 4 < 0 ∨ L ≤ (i + 4).toNatClampNeg)) (h5 : ¬ (i + 5 < 0 ∨ L ≤ (i + 5).toNatClampNeg)) {P : Option Value × xH × Nat × Nat → Prop} (kk : x_R x_mt (some (L, xs)) 10 M_law (754, [(3, .int i), (2, .ref 75), (1, .ref 0), (0, .ref x_scr)], [.int (xs ((i + 2)).toNatClampNeg), .int (xs ((i + 1)).toNatClampNeg), .ref 0], h, 98, 10728) P) : x_R x_mt (some (L, xs)) 10 M_law (743, [(3, .int i), (2, .ref 75), (1, .ref 0), (0, .ref x_scr)], [], h, 98, 10728) P := by
  refine x_R.steps 5 (c' := (748, [(3, .int i), (2, .ref 75), (1, .ref 0), (0, .ref x_scr)], [.int (i + 1), .ref x_scr, .ref 0], h, 98, 10728)) rfl ?_
  refine j_Rsld (c' := (749, [(3, .int i), (2, .ref 75), (1, .ref 0), (0, .ref x_scr)], [.int (xs ((i + 1)).toNatClampNeg), .ref 0], h, 98, 10728)) rfl h1 ?_
  refine x_R.steps 4 (c' := (753, [(3, .int i), (2, .ref 75), (1, .ref 0), (0, .ref x_scr)], [.int (i + 2), .ref x_scr, .int (xs ((i + 1)).toNatClampNeg), .ref 0], h, 98, 10728)) rfl ?_
  refine j_Rsld (c' := (754, [(3, .int i), (2, .ref 75), (1, .ref 0), (0, .ref x_scr)], [.int (xs ((i + 2)).toNatClampNeg), .int (xs ((i + 1)).toNatClampNeg), .ref 0], h, 98, 10728)) rfl h2 ?_
  exact kk

set_option maxRecDepth 100000 in
theorem x_c15b (h : xH) (L : Nat) (xs : Nat → Int32) (i : Int32) (h0 : ¬ (i < 0 ∨ L ≤ (i).toNatClampNeg)) (h1 : ¬ (i + 1 < 0 ∨ L ≤ (i + 1).toNatClampNeg)) (h2 : ¬ (i + 2 < 0 ∨ L ≤ (i + 2).toNatClampNeg)) (h3 : ¬ (i + 3 < 0 ∨ L ≤ (i + 3).toNatClampNeg)) (h4 : ¬ (i + 4 < 0 ∨ L ≤ (i + 4).toNatClampNeg)) (h5 : ¬ (i + 5 < 0 ∨ L ≤ (i + 5).toNatClampNeg)) (v : Int32) {P : Option Value × xH × Nat × Nat → Prop} (kk : x_R x_mt (some (L, xs)) 10 M_law (769, [(3, .int i), (2, .ref 75), (1, .ref 0), (0, .ref x_scr)], [.int (xs ((i + 2)).toNatClampNeg), .int (xs ((i + 1)).toNatClampNeg), .ref 75], h, 98, 10728) P) : x_R x_mt (some (L, xs)) 10 M_law (757, [(3, .int i), (2, .ref 75), (1, .ref 0), (0, .ref x_scr)], [.int v], h, 98, 10728) P := by
  refine x_R.steps 6 (c' := (763, [(3, .int i), (2, .ref 75), (1, .ref 0), (0, .ref x_scr)], [.int (i + 1), .ref x_scr, .ref 75], h, 98, 10728)) rfl ?_
  refine j_Rsld (c' := (764, [(3, .int i), (2, .ref 75), (1, .ref 0), (0, .ref x_scr)], [.int (xs ((i + 1)).toNatClampNeg), .ref 75], h, 98, 10728)) rfl h1 ?_
  refine x_R.steps 4 (c' := (768, [(3, .int i), (2, .ref 75), (1, .ref 0), (0, .ref x_scr)], [.int (i + 2), .ref x_scr, .int (xs ((i + 1)).toNatClampNeg), .ref 75], h, 98, 10728)) rfl ?_
  refine j_Rsld (c' := (769, [(3, .int i), (2, .ref 75), (1, .ref 0), (0, .ref x_scr)], [.int (xs ((i + 2)).toNatClampNeg), .int (xs ((i + 1)).toNatClampNeg), .ref 75], h, 98, 10728)) rfl h2 ?_
  exact kk

set_option maxRecDepth 100000 in
theorem x_c15d (h : xH) (L : Nat) (xs : Nat → Int32) (i : Int32) (h0 : ¬ (i < 0 ∨ L ≤ (i).toNatClampNeg)) (h1 : ¬ (i + 1 < 0 ∨ L ≤ (i + 1).toNatClampNeg)) (h2 : ¬ (i + 2 < 0 ∨ L ≤ (i + 2).toNatClampNeg)) (h3 : ¬ (i + 3 < 0 ∨ L ≤ (i + 3).toNatClampNeg)) (h4 : ¬ (i + 4 < 0 ∨ L ≤ (i + 4).toNatClampNeg)) (h5 : ¬ (i + 5 < 0 ∨ L ≤ (i + 5).toNatClampNeg)) (w : Int32) {P : Option Value × xH × Nat × Nat → Prop} (kk : x_R x_mt (some (L, xs)) 10 M_law (18, [(3, .int (i + Int32.ofInt (6))), (2, .ref 75), (1, .ref 0), (0, .ref x_scr)], [], h, 98, 10728) P) : x_R x_mt (some (L, xs)) 10 M_law (772, [(3, .int i), (2, .ref 75), (1, .ref 0), (0, .ref x_scr)], [.int w], h, 98, 10728) P := by
  refine x_R.steps 4 (c' := (18, [(3, .int (i + Int32.ofInt (6))), (2, .ref 75), (1, .ref 0), (0, .ref x_scr)], [], h, 98, 10728)) rfl ?_
  exact kk

set_option maxRecDepth 100000 in
theorem x_c16a (h : xH) (L : Nat) (xs : Nat → Int32) (i : Int32) (h0 : ¬ (i < 0 ∨ L ≤ (i).toNatClampNeg)) (h1 : ¬ (i + 1 < 0 ∨ L ≤ (i + 1).toNatClampNeg)) (h2 : ¬ (i + 2 < 0 ∨ L ≤ (i + 2).toNatClampNeg)) (h3 : ¬ (i + 3 < 0 ∨ L ≤ (i + 3).toNatClampNeg)) (h4 : ¬ (i + 4 < 0 ∨ L ≤ (i + 4).toNatClampNeg)) (h5 : ¬ (i + 5 < 0 ∨ L ≤ (i + 5).toNatClampNeg)) {P : Option Value × xH × Nat × Nat → Prop} (kk : x_R x_mt (some (L, xs)) 10 M_law (787, [(3, .int i), (2, .ref 75), (1, .ref 0), (0, .ref x_scr)], [.int (xs ((i + 2)).toNatClampNeg), .int (xs ((i + 1)).toNatClampNeg), .ref 0], h, 98, 10728) P) : x_R x_mt (some (L, xs)) 10 M_law (776, [(3, .int i), (2, .ref 75), (1, .ref 0), (0, .ref x_scr)], [], h, 98, 10728) P := by
  refine x_R.steps 5 (c' := (781, [(3, .int i), (2, .ref 75), (1, .ref 0), (0, .ref x_scr)], [.int (i + 1), .ref x_scr, .ref 0], h, 98, 10728)) rfl ?_
  refine j_Rsld (c' := (782, [(3, .int i), (2, .ref 75), (1, .ref 0), (0, .ref x_scr)], [.int (xs ((i + 1)).toNatClampNeg), .ref 0], h, 98, 10728)) rfl h1 ?_
  refine x_R.steps 4 (c' := (786, [(3, .int i), (2, .ref 75), (1, .ref 0), (0, .ref x_scr)], [.int (i + 2), .ref x_scr, .int (xs ((i + 1)).toNatClampNeg), .ref 0], h, 98, 10728)) rfl ?_
  refine j_Rsld (c' := (787, [(3, .int i), (2, .ref 75), (1, .ref 0), (0, .ref x_scr)], [.int (xs ((i + 2)).toNatClampNeg), .int (xs ((i + 1)).toNatClampNeg), .ref 0], h, 98, 10728)) rfl h2 ?_
  exact kk

set_option maxRecDepth 100000 in
theorem x_c16b (h : xH) (L : Nat) (xs : Nat → Int32) (i : Int32) (h0 : ¬ (i < 0 ∨ L ≤ (i).toNatClampNeg)) (h1 : ¬ (i + 1 < 0 ∨ L ≤ (i + 1).toNatClampNeg)) (h2 : ¬ (i + 2 < 0 ∨ L ≤ (i + 2).toNatClampNeg)) (h3 : ¬ (i + 3 < 0 ∨ L ≤ (i + 3).toNatClampNeg)) (h4 : ¬ (i + 4 < 0 ∨ L ≤ (i + 4).toNatClampNeg)) (h5 : ¬ (i + 5 < 0 ∨ L ≤ (i + 5).toNatClampNeg)) (v : Int32) {P : Option Value × xH × Nat × Nat → Prop} (kk : x_R x_mt (some (L, xs)) 10 M_law (802, [(3, .int i), (2, .ref 75), (1, .ref 0), (0, .ref x_scr)], [.int (xs ((i + 2)).toNatClampNeg), .int (xs ((i + 1)).toNatClampNeg), .ref 75], h, 98, 10728) P) : x_R x_mt (some (L, xs)) 10 M_law (790, [(3, .int i), (2, .ref 75), (1, .ref 0), (0, .ref x_scr)], [.int v], h, 98, 10728) P := by
  refine x_R.steps 6 (c' := (796, [(3, .int i), (2, .ref 75), (1, .ref 0), (0, .ref x_scr)], [.int (i + 1), .ref x_scr, .ref 75], h, 98, 10728)) rfl ?_
  refine j_Rsld (c' := (797, [(3, .int i), (2, .ref 75), (1, .ref 0), (0, .ref x_scr)], [.int (xs ((i + 1)).toNatClampNeg), .ref 75], h, 98, 10728)) rfl h1 ?_
  refine x_R.steps 4 (c' := (801, [(3, .int i), (2, .ref 75), (1, .ref 0), (0, .ref x_scr)], [.int (i + 2), .ref x_scr, .int (xs ((i + 1)).toNatClampNeg), .ref 75], h, 98, 10728)) rfl ?_
  refine j_Rsld (c' := (802, [(3, .int i), (2, .ref 75), (1, .ref 0), (0, .ref x_scr)], [.int (xs ((i + 2)).toNatClampNeg), .int (xs ((i + 1)).toNatClampNeg), .ref 75], h, 98, 10728)) rfl h2 ?_
  exact kk

set_option maxRecDepth 100000 in
theorem x_c16d (h : xH) (L : Nat) (xs : Nat → Int32) (i : Int32) (h0 : ¬ (i < 0 ∨ L ≤ (i).toNatClampNeg)) (h1 : ¬ (i + 1 < 0 ∨ L ≤ (i + 1).toNatClampNeg)) (h2 : ¬ (i + 2 < 0 ∨ L ≤ (i + 2).toNatClampNeg)) (h3 : ¬ (i + 3 < 0 ∨ L ≤ (i + 3).toNatClampNeg)) (h4 : ¬ (i + 4 < 0 ∨ L ≤ (i + 4).toNatClampNeg)) (h5 : ¬ (i + 5 < 0 ∨ L ≤ (i + 5).toNatClampNeg)) (w : Int32) {P : Option Value × xH × Nat × Nat → Prop} (kk : x_R x_mt (some (L, xs)) 10 M_law (18, [(3, .int (i + Int32.ofInt (6))), (2, .ref 75), (1, .ref 0), (0, .ref x_scr)], [], h, 98, 10728) P) : x_R x_mt (some (L, xs)) 10 M_law (805, [(3, .int i), (2, .ref 75), (1, .ref 0), (0, .ref x_scr)], [.int w], h, 98, 10728) P := by
  refine x_R.steps 4 (c' := (18, [(3, .int (i + Int32.ofInt (6))), (2, .ref 75), (1, .ref 0), (0, .ref x_scr)], [], h, 98, 10728)) rfl ?_
  exact kk

set_option maxRecDepth 100000 in
theorem x_c17a (h : xH) (L : Nat) (xs : Nat → Int32) (i : Int32) (h0 : ¬ (i < 0 ∨ L ≤ (i).toNatClampNeg)) (h1 : ¬ (i + 1 < 0 ∨ L ≤ (i + 1).toNatClampNeg)) (h2 : ¬ (i + 2 < 0 ∨ L ≤ (i + 2).toNatClampNeg)) (h3 : ¬ (i + 3 < 0 ∨ L ≤ (i + 3).toNatClampNeg)) (h4 : ¬ (i + 4 < 0 ∨ L ≤ (i + 4).toNatClampNeg)) (h5 : ¬ (i + 5 < 0 ∨ L ≤ (i + 5).toNatClampNeg)) {P : Option Value × xH × Nat × Nat → Prop} (kk : x_R x_mt (some (L, xs)) 10 M_law (820, [(3, .int i), (2, .ref 75), (1, .ref 0), (0, .ref x_scr)], [.int (xs ((i + 2)).toNatClampNeg), .int (xs ((i + 1)).toNatClampNeg), .ref 0], h, 98, 10728) P) : x_R x_mt (some (L, xs)) 10 M_law (809, [(3, .int i), (2, .ref 75), (1, .ref 0), (0, .ref x_scr)], [], h, 98, 10728) P := by
  refine x_R.steps 5 (c' := (814, [(3, .int i), (2, .ref 75), (1, .ref 0), (0, .ref x_scr)], [.int (i + 1), .ref x_scr, .ref 0], h, 98, 10728)) rfl ?_
  refine j_Rsld (c' := (815, [(3, .int i), (2, .ref 75), (1, .ref 0), (0, .ref x_scr)], [.int (xs ((i + 1)).toNatClampNeg), .ref 0], h, 98, 10728)) rfl h1 ?_
  refine x_R.steps 4 (c' := (819, [(3, .int i), (2, .ref 75), (1, .ref 0), (0, .ref x_scr)], [.int (i + 2), .ref x_scr, .int (xs ((i + 1)).toNatClampNeg), .ref 0], h, 98, 10728)) rfl ?_
  refine j_Rsld (c' := (820, [(3, .int i), (2, .ref 75), (1, .ref 0), (0, .ref x_scr)], [.int (xs ((i + 2)).toNatClampNeg), .int (xs ((i + 1)).toNatClampNeg), .ref 0], h, 98, 10728)) rfl h2 ?_
  exact kk

set_option maxRecDepth 100000 in
theorem x_c17b (h : xH) (L : Nat) (xs : Nat → Int32) (i : Int32) (h0 : ¬ (i < 0 ∨ L ≤ (i).toNatClampNeg)) (h1 : ¬ (i + 1 < 0 ∨ L ≤ (i + 1).toNatClampNeg)) (h2 : ¬ (i + 2 < 0 ∨ L ≤ (i + 2).toNatClampNeg)) (h3 : ¬ (i + 3 < 0 ∨ L ≤ (i + 3).toNatClampNeg)) (h4 : ¬ (i + 4 < 0 ∨ L ≤ (i + 4).toNatClampNeg)) (h5 : ¬ (i + 5 < 0 ∨ L ≤ (i + 5).toNatClampNeg)) (v : Int32) {P : Option Value × xH × Nat × Nat → Prop} (kk : x_R x_mt (some (L, xs)) 10 M_law (835, [(3, .int i), (2, .ref 75), (1, .ref 0), (0, .ref x_scr)], [.int (xs ((i + 2)).toNatClampNeg), .int (xs ((i + 1)).toNatClampNeg), .ref 75], h, 98, 10728) P) : x_R x_mt (some (L, xs)) 10 M_law (823, [(3, .int i), (2, .ref 75), (1, .ref 0), (0, .ref x_scr)], [.int v], h, 98, 10728) P := by
  refine x_R.steps 6 (c' := (829, [(3, .int i), (2, .ref 75), (1, .ref 0), (0, .ref x_scr)], [.int (i + 1), .ref x_scr, .ref 75], h, 98, 10728)) rfl ?_
  refine j_Rsld (c' := (830, [(3, .int i), (2, .ref 75), (1, .ref 0), (0, .ref x_scr)], [.int (xs ((i + 1)).toNatClampNeg), .ref 75], h, 98, 10728)) rfl h1 ?_
  refine x_R.steps 4 (c' := (834, [(3, .int i), (2, .ref 75), (1, .ref 0), (0, .ref x_scr)], [.int (i + 2), .ref x_scr, .int (xs ((i + 1)).toNatClampNeg), .ref 75], h, 98, 10728)) rfl ?_
  refine j_Rsld (c' := (835, [(3, .int i), (2, .ref 75), (1, .ref 0), (0, .ref x_scr)], [.int (xs ((i + 2)).toNatClampNeg), .int (xs ((i + 1)).toNatClampNeg), .ref 75], h, 98, 10728)) rfl h2 ?_
  exact kk

set_option maxRecDepth 100000 in
theorem x_c17d (h : xH) (L : Nat) (xs : Nat → Int32) (i : Int32) (h0 : ¬ (i < 0 ∨ L ≤ (i).toNatClampNeg)) (h1 : ¬ (i + 1 < 0 ∨ L ≤ (i + 1).toNatClampNeg)) (h2 : ¬ (i + 2 < 0 ∨ L ≤ (i + 2).toNatClampNeg)) (h3 : ¬ (i + 3 < 0 ∨ L ≤ (i + 3).toNatClampNeg)) (h4 : ¬ (i + 4 < 0 ∨ L ≤ (i + 4).toNatClampNeg)) (h5 : ¬ (i + 5 < 0 ∨ L ≤ (i + 5).toNatClampNeg)) (w : Int32) {P : Option Value × xH × Nat × Nat → Prop} (kk : x_R x_mt (some (L, xs)) 10 M_law (18, [(3, .int (i + Int32.ofInt (6))), (2, .ref 75), (1, .ref 0), (0, .ref x_scr)], [], h, 98, 10728) P) : x_R x_mt (some (L, xs)) 10 M_law (838, [(3, .int i), (2, .ref 75), (1, .ref 0), (0, .ref x_scr)], [.int w], h, 98, 10728) P := by
  refine x_R.steps 4 (c' := (18, [(3, .int (i + Int32.ofInt (6))), (2, .ref 75), (1, .ref 0), (0, .ref x_scr)], [], h, 98, 10728)) rfl ?_
  exact kk

set_option maxRecDepth 100000 in
theorem x_c18a (h : xH) (L : Nat) (xs : Nat → Int32) (i : Int32) (h0 : ¬ (i < 0 ∨ L ≤ (i).toNatClampNeg)) (h1 : ¬ (i + 1 < 0 ∨ L ≤ (i + 1).toNatClampNeg)) (h2 : ¬ (i + 2 < 0 ∨ L ≤ (i + 2).toNatClampNeg)) (h3 : ¬ (i + 3 < 0 ∨ L ≤ (i + 3).toNatClampNeg)) (h4 : ¬ (i + 4 < 0 ∨ L ≤ (i + 4).toNatClampNeg)) (h5 : ¬ (i + 5 < 0 ∨ L ≤ (i + 5).toNatClampNeg)) {P : Option Value × xH × Nat × Nat → Prop} (kk : x_R x_mt (some (L, xs)) 10 M_law (848, [(3, .int i), (2, .ref 75), (1, .ref 0), (0, .ref x_scr)], [.int (xs ((i + 1)).toNatClampNeg), .ref 0], h, 98, 10728) P) : x_R x_mt (some (L, xs)) 10 M_law (842, [(3, .int i), (2, .ref 75), (1, .ref 0), (0, .ref x_scr)], [], h, 98, 10728) P := by
  refine x_R.steps 5 (c' := (847, [(3, .int i), (2, .ref 75), (1, .ref 0), (0, .ref x_scr)], [.int (i + 1), .ref x_scr, .ref 0], h, 98, 10728)) rfl ?_
  refine j_Rsld (c' := (848, [(3, .int i), (2, .ref 75), (1, .ref 0), (0, .ref x_scr)], [.int (xs ((i + 1)).toNatClampNeg), .ref 0], h, 98, 10728)) rfl h1 ?_
  exact kk

set_option maxRecDepth 100000 in
theorem x_c18b (h : xH) (L : Nat) (xs : Nat → Int32) (i : Int32) (h0 : ¬ (i < 0 ∨ L ≤ (i).toNatClampNeg)) (h1 : ¬ (i + 1 < 0 ∨ L ≤ (i + 1).toNatClampNeg)) (h2 : ¬ (i + 2 < 0 ∨ L ≤ (i + 2).toNatClampNeg)) (h3 : ¬ (i + 3 < 0 ∨ L ≤ (i + 3).toNatClampNeg)) (h4 : ¬ (i + 4 < 0 ∨ L ≤ (i + 4).toNatClampNeg)) (h5 : ¬ (i + 5 < 0 ∨ L ≤ (i + 5).toNatClampNeg)) (v : Int32) {P : Option Value × xH × Nat × Nat → Prop} (kk : x_R x_mt (some (L, xs)) 10 M_law (858, [(3, .int i), (2, .ref 75), (1, .ref 0), (0, .ref x_scr)], [.int (xs ((i + 1)).toNatClampNeg), .ref 75], h, 98, 10728) P) : x_R x_mt (some (L, xs)) 10 M_law (851, [(3, .int i), (2, .ref 75), (1, .ref 0), (0, .ref x_scr)], [.int v], h, 98, 10728) P := by
  refine x_R.steps 6 (c' := (857, [(3, .int i), (2, .ref 75), (1, .ref 0), (0, .ref x_scr)], [.int (i + 1), .ref x_scr, .ref 75], h, 98, 10728)) rfl ?_
  refine j_Rsld (c' := (858, [(3, .int i), (2, .ref 75), (1, .ref 0), (0, .ref x_scr)], [.int (xs ((i + 1)).toNatClampNeg), .ref 75], h, 98, 10728)) rfl h1 ?_
  exact kk

set_option maxRecDepth 100000 in
theorem x_c18d (h : xH) (L : Nat) (xs : Nat → Int32) (i : Int32) (h0 : ¬ (i < 0 ∨ L ≤ (i).toNatClampNeg)) (h1 : ¬ (i + 1 < 0 ∨ L ≤ (i + 1).toNatClampNeg)) (h2 : ¬ (i + 2 < 0 ∨ L ≤ (i + 2).toNatClampNeg)) (h3 : ¬ (i + 3 < 0 ∨ L ≤ (i + 3).toNatClampNeg)) (h4 : ¬ (i + 4 < 0 ∨ L ≤ (i + 4).toNatClampNeg)) (h5 : ¬ (i + 5 < 0 ∨ L ≤ (i + 5).toNatClampNeg)) (w : Int32) {P : Option Value × xH × Nat × Nat → Prop} (kk : x_R x_mt (some (L, xs)) 10 M_law (18, [(3, .int (i + Int32.ofInt (6))), (2, .ref 75), (1, .ref 0), (0, .ref x_scr)], [], h, 98, 10728) P) : x_R x_mt (some (L, xs)) 10 M_law (861, [(3, .int i), (2, .ref 75), (1, .ref 0), (0, .ref x_scr)], [.int w], h, 98, 10728) P := by
  refine x_R.steps 4 (c' := (18, [(3, .int (i + Int32.ofInt (6))), (2, .ref 75), (1, .ref 0), (0, .ref x_scr)], [], h, 98, 10728)) rfl ?_
  exact kk

set_option maxRecDepth 100000 in
theorem x_c19a (h : xH) (L : Nat) (xs : Nat → Int32) (i : Int32) (h0 : ¬ (i < 0 ∨ L ≤ (i).toNatClampNeg)) (h1 : ¬ (i + 1 < 0 ∨ L ≤ (i + 1).toNatClampNeg)) (h2 : ¬ (i + 2 < 0 ∨ L ≤ (i + 2).toNatClampNeg)) (h3 : ¬ (i + 3 < 0 ∨ L ≤ (i + 3).toNatClampNeg)) (h4 : ¬ (i + 4 < 0 ∨ L ≤ (i + 4).toNatClampNeg)) (h5 : ¬ (i + 5 < 0 ∨ L ≤ (i + 5).toNatClampNeg)) {P : Option Value × xH × Nat × Nat → Prop} (kk : x_R x_mt (some (L, xs)) 10 M_law (871, [(3, .int i), (2, .ref 75), (1, .ref 0), (0, .ref x_scr)], [.int (xs ((i + 1)).toNatClampNeg), .ref 0], h, 98, 10728) P) : x_R x_mt (some (L, xs)) 10 M_law (865, [(3, .int i), (2, .ref 75), (1, .ref 0), (0, .ref x_scr)], [], h, 98, 10728) P := by
  refine x_R.steps 5 (c' := (870, [(3, .int i), (2, .ref 75), (1, .ref 0), (0, .ref x_scr)], [.int (i + 1), .ref x_scr, .ref 0], h, 98, 10728)) rfl ?_
  refine j_Rsld (c' := (871, [(3, .int i), (2, .ref 75), (1, .ref 0), (0, .ref x_scr)], [.int (xs ((i + 1)).toNatClampNeg), .ref 0], h, 98, 10728)) rfl h1 ?_
  exact kk

set_option maxRecDepth 100000 in
theorem x_c19b (h : xH) (L : Nat) (xs : Nat → Int32) (i : Int32) (h0 : ¬ (i < 0 ∨ L ≤ (i).toNatClampNeg)) (h1 : ¬ (i + 1 < 0 ∨ L ≤ (i + 1).toNatClampNeg)) (h2 : ¬ (i + 2 < 0 ∨ L ≤ (i + 2).toNatClampNeg)) (h3 : ¬ (i + 3 < 0 ∨ L ≤ (i + 3).toNatClampNeg)) (h4 : ¬ (i + 4 < 0 ∨ L ≤ (i + 4).toNatClampNeg)) (h5 : ¬ (i + 5 < 0 ∨ L ≤ (i + 5).toNatClampNeg)) (v : Int32) {P : Option Value × xH × Nat × Nat → Prop} (kk : x_R x_mt (some (L, xs)) 10 M_law (881, [(3, .int i), (2, .ref 75), (1, .ref 0), (0, .ref x_scr)], [.int (xs ((i + 1)).toNatClampNeg), .ref 75], h, 98, 10728) P) : x_R x_mt (some (L, xs)) 10 M_law (874, [(3, .int i), (2, .ref 75), (1, .ref 0), (0, .ref x_scr)], [.int v], h, 98, 10728) P := by
  refine x_R.steps 6 (c' := (880, [(3, .int i), (2, .ref 75), (1, .ref 0), (0, .ref x_scr)], [.int (i + 1), .ref x_scr, .ref 75], h, 98, 10728)) rfl ?_
  refine j_Rsld (c' := (881, [(3, .int i), (2, .ref 75), (1, .ref 0), (0, .ref x_scr)], [.int (xs ((i + 1)).toNatClampNeg), .ref 75], h, 98, 10728)) rfl h1 ?_
  exact kk

set_option maxRecDepth 100000 in
theorem x_c19d (h : xH) (L : Nat) (xs : Nat → Int32) (i : Int32) (h0 : ¬ (i < 0 ∨ L ≤ (i).toNatClampNeg)) (h1 : ¬ (i + 1 < 0 ∨ L ≤ (i + 1).toNatClampNeg)) (h2 : ¬ (i + 2 < 0 ∨ L ≤ (i + 2).toNatClampNeg)) (h3 : ¬ (i + 3 < 0 ∨ L ≤ (i + 3).toNatClampNeg)) (h4 : ¬ (i + 4 < 0 ∨ L ≤ (i + 4).toNatClampNeg)) (h5 : ¬ (i + 5 < 0 ∨ L ≤ (i + 5).toNatClampNeg)) (w : Int32) {P : Option Value × xH × Nat × Nat → Prop} (kk : x_R x_mt (some (L, xs)) 10 M_law (18, [(3, .int (i + Int32.ofInt (6))), (2, .ref 75), (1, .ref 0), (0, .ref x_scr)], [], h, 98, 10728) P) : x_R x_mt (some (L, xs)) 10 M_law (884, [(3, .int i), (2, .ref 75), (1, .ref 0), (0, .ref x_scr)], [.int w], h, 98, 10728) P := by
  refine x_R.steps 4 (c' := (18, [(3, .int (i + Int32.ofInt (6))), (2, .ref 75), (1, .ref 0), (0, .ref x_scr)], [], h, 98, 10728)) rfl ?_
  exact kk

set_option maxRecDepth 100000 in
theorem x_c20a (h : xH) (L : Nat) (xs : Nat → Int32) (i : Int32) (h0 : ¬ (i < 0 ∨ L ≤ (i).toNatClampNeg)) (h1 : ¬ (i + 1 < 0 ∨ L ≤ (i + 1).toNatClampNeg)) (h2 : ¬ (i + 2 < 0 ∨ L ≤ (i + 2).toNatClampNeg)) (h3 : ¬ (i + 3 < 0 ∨ L ≤ (i + 3).toNatClampNeg)) (h4 : ¬ (i + 4 < 0 ∨ L ≤ (i + 4).toNatClampNeg)) (h5 : ¬ (i + 5 < 0 ∨ L ≤ (i + 5).toNatClampNeg)) {P : Option Value × xH × Nat × Nat → Prop} (kk : x_R x_mt (some (L, xs)) 10 M_law (894, [(3, .int i), (2, .ref 75), (1, .ref 0), (0, .ref x_scr)], [.int (xs ((i + 1)).toNatClampNeg), .ref 0], h, 98, 10728) P) : x_R x_mt (some (L, xs)) 10 M_law (888, [(3, .int i), (2, .ref 75), (1, .ref 0), (0, .ref x_scr)], [], h, 98, 10728) P := by
  refine x_R.steps 5 (c' := (893, [(3, .int i), (2, .ref 75), (1, .ref 0), (0, .ref x_scr)], [.int (i + 1), .ref x_scr, .ref 0], h, 98, 10728)) rfl ?_
  refine j_Rsld (c' := (894, [(3, .int i), (2, .ref 75), (1, .ref 0), (0, .ref x_scr)], [.int (xs ((i + 1)).toNatClampNeg), .ref 0], h, 98, 10728)) rfl h1 ?_
  exact kk

set_option maxRecDepth 100000 in
theorem x_c20b (h : xH) (L : Nat) (xs : Nat → Int32) (i : Int32) (h0 : ¬ (i < 0 ∨ L ≤ (i).toNatClampNeg)) (h1 : ¬ (i + 1 < 0 ∨ L ≤ (i + 1).toNatClampNeg)) (h2 : ¬ (i + 2 < 0 ∨ L ≤ (i + 2).toNatClampNeg)) (h3 : ¬ (i + 3 < 0 ∨ L ≤ (i + 3).toNatClampNeg)) (h4 : ¬ (i + 4 < 0 ∨ L ≤ (i + 4).toNatClampNeg)) (h5 : ¬ (i + 5 < 0 ∨ L ≤ (i + 5).toNatClampNeg)) (v : Int32) {P : Option Value × xH × Nat × Nat → Prop} (kk : x_R x_mt (some (L, xs)) 10 M_law (904, [(3, .int i), (2, .ref 75), (1, .ref 0), (0, .ref x_scr)], [.int (xs ((i + 1)).toNatClampNeg), .ref 75], h, 98, 10728) P) : x_R x_mt (some (L, xs)) 10 M_law (897, [(3, .int i), (2, .ref 75), (1, .ref 0), (0, .ref x_scr)], [.int v], h, 98, 10728) P := by
  refine x_R.steps 6 (c' := (903, [(3, .int i), (2, .ref 75), (1, .ref 0), (0, .ref x_scr)], [.int (i + 1), .ref x_scr, .ref 75], h, 98, 10728)) rfl ?_
  refine j_Rsld (c' := (904, [(3, .int i), (2, .ref 75), (1, .ref 0), (0, .ref x_scr)], [.int (xs ((i + 1)).toNatClampNeg), .ref 75], h, 98, 10728)) rfl h1 ?_
  exact kk

set_option maxRecDepth 100000 in
theorem x_c20d (h : xH) (L : Nat) (xs : Nat → Int32) (i : Int32) (h0 : ¬ (i < 0 ∨ L ≤ (i).toNatClampNeg)) (h1 : ¬ (i + 1 < 0 ∨ L ≤ (i + 1).toNatClampNeg)) (h2 : ¬ (i + 2 < 0 ∨ L ≤ (i + 2).toNatClampNeg)) (h3 : ¬ (i + 3 < 0 ∨ L ≤ (i + 3).toNatClampNeg)) (h4 : ¬ (i + 4 < 0 ∨ L ≤ (i + 4).toNatClampNeg)) (h5 : ¬ (i + 5 < 0 ∨ L ≤ (i + 5).toNatClampNeg)) (w : Int32) {P : Option Value × xH × Nat × Nat → Prop} (kk : x_R x_mt (some (L, xs)) 10 M_law (18, [(3, .int (i + Int32.ofInt (6))), (2, .ref 75), (1, .ref 0), (0, .ref x_scr)], [], h, 98, 10728) P) : x_R x_mt (some (L, xs)) 10 M_law (907, [(3, .int i), (2, .ref 75), (1, .ref 0), (0, .ref x_scr)], [.int w], h, 98, 10728) P := by
  refine x_R.steps 4 (c' := (18, [(3, .int (i + Int32.ofInt (6))), (2, .ref 75), (1, .ref 0), (0, .ref x_scr)], [], h, 98, 10728)) rfl ?_
  exact kk

set_option maxRecDepth 100000 in
theorem x_c21a (h : xH) (L : Nat) (xs : Nat → Int32) (i : Int32) (h0 : ¬ (i < 0 ∨ L ≤ (i).toNatClampNeg)) (h1 : ¬ (i + 1 < 0 ∨ L ≤ (i + 1).toNatClampNeg)) (h2 : ¬ (i + 2 < 0 ∨ L ≤ (i + 2).toNatClampNeg)) (h3 : ¬ (i + 3 < 0 ∨ L ≤ (i + 3).toNatClampNeg)) (h4 : ¬ (i + 4 < 0 ∨ L ≤ (i + 4).toNatClampNeg)) (h5 : ¬ (i + 5 < 0 ∨ L ≤ (i + 5).toNatClampNeg)) {P : Option Value × xH × Nat × Nat → Prop} (kk : x_R x_mt (some (L, xs)) 10 M_law (922, [(3, .int i), (2, .ref 75), (1, .ref 0), (0, .ref x_scr)], [.int (xs ((i + 2)).toNatClampNeg), .int (xs ((i + 1)).toNatClampNeg), .ref 0], h, 98, 10728) P) : x_R x_mt (some (L, xs)) 10 M_law (911, [(3, .int i), (2, .ref 75), (1, .ref 0), (0, .ref x_scr)], [], h, 98, 10728) P := by
  refine x_R.steps 5 (c' := (916, [(3, .int i), (2, .ref 75), (1, .ref 0), (0, .ref x_scr)], [.int (i + 1), .ref x_scr, .ref 0], h, 98, 10728)) rfl ?_
  refine j_Rsld (c' := (917, [(3, .int i), (2, .ref 75), (1, .ref 0), (0, .ref x_scr)], [.int (xs ((i + 1)).toNatClampNeg), .ref 0], h, 98, 10728)) rfl h1 ?_
  refine x_R.steps 4 (c' := (921, [(3, .int i), (2, .ref 75), (1, .ref 0), (0, .ref x_scr)], [.int (i + 2), .ref x_scr, .int (xs ((i + 1)).toNatClampNeg), .ref 0], h, 98, 10728)) rfl ?_
  refine j_Rsld (c' := (922, [(3, .int i), (2, .ref 75), (1, .ref 0), (0, .ref x_scr)], [.int (xs ((i + 2)).toNatClampNeg), .int (xs ((i + 1)).toNatClampNeg), .ref 0], h, 98, 10728)) rfl h2 ?_
  exact kk

set_option maxRecDepth 100000 in
theorem x_c21b (h : xH) (L : Nat) (xs : Nat → Int32) (i : Int32) (h0 : ¬ (i < 0 ∨ L ≤ (i).toNatClampNeg)) (h1 : ¬ (i + 1 < 0 ∨ L ≤ (i + 1).toNatClampNeg)) (h2 : ¬ (i + 2 < 0 ∨ L ≤ (i + 2).toNatClampNeg)) (h3 : ¬ (i + 3 < 0 ∨ L ≤ (i + 3).toNatClampNeg)) (h4 : ¬ (i + 4 < 0 ∨ L ≤ (i + 4).toNatClampNeg)) (h5 : ¬ (i + 5 < 0 ∨ L ≤ (i + 5).toNatClampNeg)) (v : Int32) {P : Option Value × xH × Nat × Nat → Prop} (kk : x_R x_mt (some (L, xs)) 10 M_law (937, [(3, .int i), (2, .ref 75), (1, .ref 0), (0, .ref x_scr)], [.int (xs ((i + 2)).toNatClampNeg), .int (xs ((i + 1)).toNatClampNeg), .ref 75], h, 98, 10728) P) : x_R x_mt (some (L, xs)) 10 M_law (925, [(3, .int i), (2, .ref 75), (1, .ref 0), (0, .ref x_scr)], [.int v], h, 98, 10728) P := by
  refine x_R.steps 6 (c' := (931, [(3, .int i), (2, .ref 75), (1, .ref 0), (0, .ref x_scr)], [.int (i + 1), .ref x_scr, .ref 75], h, 98, 10728)) rfl ?_
  refine j_Rsld (c' := (932, [(3, .int i), (2, .ref 75), (1, .ref 0), (0, .ref x_scr)], [.int (xs ((i + 1)).toNatClampNeg), .ref 75], h, 98, 10728)) rfl h1 ?_
  refine x_R.steps 4 (c' := (936, [(3, .int i), (2, .ref 75), (1, .ref 0), (0, .ref x_scr)], [.int (i + 2), .ref x_scr, .int (xs ((i + 1)).toNatClampNeg), .ref 75], h, 98, 10728)) rfl ?_
  refine j_Rsld (c' := (937, [(3, .int i), (2, .ref 75), (1, .ref 0), (0, .ref x_scr)], [.int (xs ((i + 2)).toNatClampNeg), .int (xs ((i + 1)).toNatClampNeg), .ref 75], h, 98, 10728)) rfl h2 ?_
  exact kk

set_option maxRecDepth 100000 in
theorem x_c21d (h : xH) (L : Nat) (xs : Nat → Int32) (i : Int32) (h0 : ¬ (i < 0 ∨ L ≤ (i).toNatClampNeg)) (h1 : ¬ (i + 1 < 0 ∨ L ≤ (i + 1).toNatClampNeg)) (h2 : ¬ (i + 2 < 0 ∨ L ≤ (i + 2).toNatClampNeg)) (h3 : ¬ (i + 3 < 0 ∨ L ≤ (i + 3).toNatClampNeg)) (h4 : ¬ (i + 4 < 0 ∨ L ≤ (i + 4).toNatClampNeg)) (h5 : ¬ (i + 5 < 0 ∨ L ≤ (i + 5).toNatClampNeg)) (w : Int32) {P : Option Value × xH × Nat × Nat → Prop} (kk : x_R x_mt (some (L, xs)) 10 M_law (18, [(3, .int (i + Int32.ofInt (6))), (2, .ref 75), (1, .ref 0), (0, .ref x_scr)], [], h, 98, 10728) P) : x_R x_mt (some (L, xs)) 10 M_law (940, [(3, .int i), (2, .ref 75), (1, .ref 0), (0, .ref x_scr)], [.int w], h, 98, 10728) P := by
  refine x_R.steps 4 (c' := (18, [(3, .int (i + Int32.ofInt (6))), (2, .ref 75), (1, .ref 0), (0, .ref x_scr)], [], h, 98, 10728)) rfl ?_
  exact kk

set_option maxRecDepth 100000 in
theorem x_c22a (h : xH) (L : Nat) (xs : Nat → Int32) (i : Int32) (h0 : ¬ (i < 0 ∨ L ≤ (i).toNatClampNeg)) (h1 : ¬ (i + 1 < 0 ∨ L ≤ (i + 1).toNatClampNeg)) (h2 : ¬ (i + 2 < 0 ∨ L ≤ (i + 2).toNatClampNeg)) (h3 : ¬ (i + 3 < 0 ∨ L ≤ (i + 3).toNatClampNeg)) (h4 : ¬ (i + 4 < 0 ∨ L ≤ (i + 4).toNatClampNeg)) (h5 : ¬ (i + 5 < 0 ∨ L ≤ (i + 5).toNatClampNeg)) {P : Option Value × xH × Nat × Nat → Prop} (kk : x_R x_mt (some (L, xs)) 10 M_law (955, [(3, .int i), (2, .ref 75), (1, .ref 0), (0, .ref x_scr)], [.int (xs ((i + 2)).toNatClampNeg), .int (xs ((i + 1)).toNatClampNeg), .ref 0], h, 98, 10728) P) : x_R x_mt (some (L, xs)) 10 M_law (944, [(3, .int i), (2, .ref 75), (1, .ref 0), (0, .ref x_scr)], [], h, 98, 10728) P := by
  refine x_R.steps 5 (c' := (949, [(3, .int i), (2, .ref 75), (1, .ref 0), (0, .ref x_scr)], [.int (i + 1), .ref x_scr, .ref 0], h, 98, 10728)) rfl ?_
  refine j_Rsld (c' := (950, [(3, .int i), (2, .ref 75), (1, .ref 0), (0, .ref x_scr)], [.int (xs ((i + 1)).toNatClampNeg), .ref 0], h, 98, 10728)) rfl h1 ?_
  refine x_R.steps 4 (c' := (954, [(3, .int i), (2, .ref 75), (1, .ref 0), (0, .ref x_scr)], [.int (i + 2), .ref x_scr, .int (xs ((i + 1)).toNatClampNeg), .ref 0], h, 98, 10728)) rfl ?_
  refine j_Rsld (c' := (955, [(3, .int i), (2, .ref 75), (1, .ref 0), (0, .ref x_scr)], [.int (xs ((i + 2)).toNatClampNeg), .int (xs ((i + 1)).toNatClampNeg), .ref 0], h, 98, 10728)) rfl h2 ?_
  exact kk

set_option maxRecDepth 100000 in
theorem x_c22b (h : xH) (L : Nat) (xs : Nat → Int32) (i : Int32) (h0 : ¬ (i < 0 ∨ L ≤ (i).toNatClampNeg)) (h1 : ¬ (i + 1 < 0 ∨ L ≤ (i + 1).toNatClampNeg)) (h2 : ¬ (i + 2 < 0 ∨ L ≤ (i + 2).toNatClampNeg)) (h3 : ¬ (i + 3 < 0 ∨ L ≤ (i + 3).toNatClampNeg)) (h4 : ¬ (i + 4 < 0 ∨ L ≤ (i + 4).toNatClampNeg)) (h5 : ¬ (i + 5 < 0 ∨ L ≤ (i + 5).toNatClampNeg)) (v : Int32) {P : Option Value × xH × Nat × Nat → Prop} (kk : x_R x_mt (some (L, xs)) 10 M_law (970, [(3, .int i), (2, .ref 75), (1, .ref 0), (0, .ref x_scr)], [.int (xs ((i + 2)).toNatClampNeg), .int (xs ((i + 1)).toNatClampNeg), .ref 75], h, 98, 10728) P) : x_R x_mt (some (L, xs)) 10 M_law (958, [(3, .int i), (2, .ref 75), (1, .ref 0), (0, .ref x_scr)], [.int v], h, 98, 10728) P := by
  refine x_R.steps 6 (c' := (964, [(3, .int i), (2, .ref 75), (1, .ref 0), (0, .ref x_scr)], [.int (i + 1), .ref x_scr, .ref 75], h, 98, 10728)) rfl ?_
  refine j_Rsld (c' := (965, [(3, .int i), (2, .ref 75), (1, .ref 0), (0, .ref x_scr)], [.int (xs ((i + 1)).toNatClampNeg), .ref 75], h, 98, 10728)) rfl h1 ?_
  refine x_R.steps 4 (c' := (969, [(3, .int i), (2, .ref 75), (1, .ref 0), (0, .ref x_scr)], [.int (i + 2), .ref x_scr, .int (xs ((i + 1)).toNatClampNeg), .ref 75], h, 98, 10728)) rfl ?_
  refine j_Rsld (c' := (970, [(3, .int i), (2, .ref 75), (1, .ref 0), (0, .ref x_scr)], [.int (xs ((i + 2)).toNatClampNeg), .int (xs ((i + 1)).toNatClampNeg), .ref 75], h, 98, 10728)) rfl h2 ?_
  exact kk

set_option maxRecDepth 100000 in
theorem x_c22d (h : xH) (L : Nat) (xs : Nat → Int32) (i : Int32) (h0 : ¬ (i < 0 ∨ L ≤ (i).toNatClampNeg)) (h1 : ¬ (i + 1 < 0 ∨ L ≤ (i + 1).toNatClampNeg)) (h2 : ¬ (i + 2 < 0 ∨ L ≤ (i + 2).toNatClampNeg)) (h3 : ¬ (i + 3 < 0 ∨ L ≤ (i + 3).toNatClampNeg)) (h4 : ¬ (i + 4 < 0 ∨ L ≤ (i + 4).toNatClampNeg)) (h5 : ¬ (i + 5 < 0 ∨ L ≤ (i + 5).toNatClampNeg)) (w : Int32) {P : Option Value × xH × Nat × Nat → Prop} (kk : x_R x_mt (some (L, xs)) 10 M_law (18, [(3, .int (i + Int32.ofInt (6))), (2, .ref 75), (1, .ref 0), (0, .ref x_scr)], [], h, 98, 10728) P) : x_R x_mt (some (L, xs)) 10 M_law (973, [(3, .int i), (2, .ref 75), (1, .ref 0), (0, .ref x_scr)], [.int w], h, 98, 10728) P := by
  refine x_R.steps 4 (c' := (18, [(3, .int (i + Int32.ofInt (6))), (2, .ref 75), (1, .ref 0), (0, .ref x_scr)], [], h, 98, 10728)) rfl ?_
  exact kk

set_option maxRecDepth 100000 in
theorem x_c23a (h : xH) (L : Nat) (xs : Nat → Int32) (i : Int32) (h0 : ¬ (i < 0 ∨ L ≤ (i).toNatClampNeg)) (h1 : ¬ (i + 1 < 0 ∨ L ≤ (i + 1).toNatClampNeg)) (h2 : ¬ (i + 2 < 0 ∨ L ≤ (i + 2).toNatClampNeg)) (h3 : ¬ (i + 3 < 0 ∨ L ≤ (i + 3).toNatClampNeg)) (h4 : ¬ (i + 4 < 0 ∨ L ≤ (i + 4).toNatClampNeg)) (h5 : ¬ (i + 5 < 0 ∨ L ≤ (i + 5).toNatClampNeg)) {P : Option Value × xH × Nat × Nat → Prop} (kk : x_R x_mt (some (L, xs)) 10 M_law (983, [(3, .int i), (2, .ref 75), (1, .ref 0), (0, .ref x_scr)], [.int (xs ((i + 1)).toNatClampNeg), .ref 0], h, 98, 10728) P) : x_R x_mt (some (L, xs)) 10 M_law (977, [(3, .int i), (2, .ref 75), (1, .ref 0), (0, .ref x_scr)], [], h, 98, 10728) P := by
  refine x_R.steps 5 (c' := (982, [(3, .int i), (2, .ref 75), (1, .ref 0), (0, .ref x_scr)], [.int (i + 1), .ref x_scr, .ref 0], h, 98, 10728)) rfl ?_
  refine j_Rsld (c' := (983, [(3, .int i), (2, .ref 75), (1, .ref 0), (0, .ref x_scr)], [.int (xs ((i + 1)).toNatClampNeg), .ref 0], h, 98, 10728)) rfl h1 ?_
  exact kk

set_option maxRecDepth 100000 in
theorem x_c23b (h : xH) (L : Nat) (xs : Nat → Int32) (i : Int32) (h0 : ¬ (i < 0 ∨ L ≤ (i).toNatClampNeg)) (h1 : ¬ (i + 1 < 0 ∨ L ≤ (i + 1).toNatClampNeg)) (h2 : ¬ (i + 2 < 0 ∨ L ≤ (i + 2).toNatClampNeg)) (h3 : ¬ (i + 3 < 0 ∨ L ≤ (i + 3).toNatClampNeg)) (h4 : ¬ (i + 4 < 0 ∨ L ≤ (i + 4).toNatClampNeg)) (h5 : ¬ (i + 5 < 0 ∨ L ≤ (i + 5).toNatClampNeg)) (v : Int32) {P : Option Value × xH × Nat × Nat → Prop} (kk : x_R x_mt (some (L, xs)) 10 M_law (993, [(3, .int i), (2, .ref 75), (1, .ref 0), (0, .ref x_scr)], [.int (xs ((i + 1)).toNatClampNeg), .ref 75], h, 98, 10728) P) : x_R x_mt (some (L, xs)) 10 M_law (986, [(3, .int i), (2, .ref 75), (1, .ref 0), (0, .ref x_scr)], [.int v], h, 98, 10728) P := by
  refine x_R.steps 6 (c' := (992, [(3, .int i), (2, .ref 75), (1, .ref 0), (0, .ref x_scr)], [.int (i + 1), .ref x_scr, .ref 75], h, 98, 10728)) rfl ?_
  refine j_Rsld (c' := (993, [(3, .int i), (2, .ref 75), (1, .ref 0), (0, .ref x_scr)], [.int (xs ((i + 1)).toNatClampNeg), .ref 75], h, 98, 10728)) rfl h1 ?_
  exact kk

set_option maxRecDepth 100000 in
theorem x_c23d (h : xH) (L : Nat) (xs : Nat → Int32) (i : Int32) (h0 : ¬ (i < 0 ∨ L ≤ (i).toNatClampNeg)) (h1 : ¬ (i + 1 < 0 ∨ L ≤ (i + 1).toNatClampNeg)) (h2 : ¬ (i + 2 < 0 ∨ L ≤ (i + 2).toNatClampNeg)) (h3 : ¬ (i + 3 < 0 ∨ L ≤ (i + 3).toNatClampNeg)) (h4 : ¬ (i + 4 < 0 ∨ L ≤ (i + 4).toNatClampNeg)) (h5 : ¬ (i + 5 < 0 ∨ L ≤ (i + 5).toNatClampNeg)) (w : Int32) {P : Option Value × xH × Nat × Nat → Prop} (kk : x_R x_mt (some (L, xs)) 10 M_law (18, [(3, .int (i + Int32.ofInt (6))), (2, .ref 75), (1, .ref 0), (0, .ref x_scr)], [], h, 98, 10728) P) : x_R x_mt (some (L, xs)) 10 M_law (996, [(3, .int i), (2, .ref 75), (1, .ref 0), (0, .ref x_scr)], [.int w], h, 98, 10728) P := by
  refine x_R.steps 4 (c' := (18, [(3, .int (i + Int32.ofInt (6))), (2, .ref 75), (1, .ref 0), (0, .ref x_scr)], [], h, 98, 10728)) rfl ?_
  exact kk

set_option maxRecDepth 100000 in
theorem x_c24a (h : xH) (L : Nat) (xs : Nat → Int32) (i : Int32) (h0 : ¬ (i < 0 ∨ L ≤ (i).toNatClampNeg)) (h1 : ¬ (i + 1 < 0 ∨ L ≤ (i + 1).toNatClampNeg)) (h2 : ¬ (i + 2 < 0 ∨ L ≤ (i + 2).toNatClampNeg)) (h3 : ¬ (i + 3 < 0 ∨ L ≤ (i + 3).toNatClampNeg)) (h4 : ¬ (i + 4 < 0 ∨ L ≤ (i + 4).toNatClampNeg)) (h5 : ¬ (i + 5 < 0 ∨ L ≤ (i + 5).toNatClampNeg)) {P : Option Value × xH × Nat × Nat → Prop} (kk : x_R x_mt (some (L, xs)) 10 M_law (1011, [(3, .int i), (2, .ref 75), (1, .ref 0), (0, .ref x_scr)], [.int (xs ((i + 2)).toNatClampNeg), .int (xs ((i + 1)).toNatClampNeg), .ref 0], h, 98, 10728) P) : x_R x_mt (some (L, xs)) 10 M_law (1000, [(3, .int i), (2, .ref 75), (1, .ref 0), (0, .ref x_scr)], [], h, 98, 10728) P := by
  refine x_R.steps 5 (c' := (1005, [(3, .int i), (2, .ref 75), (1, .ref 0), (0, .ref x_scr)], [.int (i + 1), .ref x_scr, .ref 0], h, 98, 10728)) rfl ?_
  refine j_Rsld (c' := (1006, [(3, .int i), (2, .ref 75), (1, .ref 0), (0, .ref x_scr)], [.int (xs ((i + 1)).toNatClampNeg), .ref 0], h, 98, 10728)) rfl h1 ?_
  refine x_R.steps 4 (c' := (1010, [(3, .int i), (2, .ref 75), (1, .ref 0), (0, .ref x_scr)], [.int (i + 2), .ref x_scr, .int (xs ((i + 1)).toNatClampNeg), .ref 0], h, 98, 10728)) rfl ?_
  refine j_Rsld (c' := (1011, [(3, .int i), (2, .ref 75), (1, .ref 0), (0, .ref x_scr)], [.int (xs ((i + 2)).toNatClampNeg), .int (xs ((i + 1)).toNatClampNeg), .ref 0], h, 98, 10728)) rfl h2 ?_
  exact kk

set_option maxRecDepth 100000 in
theorem x_c24b (h : xH) (L : Nat) (xs : Nat → Int32) (i : Int32) (h0 : ¬ (i < 0 ∨ L ≤ (i).toNatClampNeg)) (h1 : ¬ (i + 1 < 0 ∨ L ≤ (i + 1).toNatClampNeg)) (h2 : ¬ (i + 2 < 0 ∨ L ≤ (i + 2).toNatClampNeg)) (h3 : ¬ (i + 3 < 0 ∨ L ≤ (i + 3).toNatClampNeg)) (h4 : ¬ (i + 4 < 0 ∨ L ≤ (i + 4).toNatClampNeg)) (h5 : ¬ (i + 5 < 0 ∨ L ≤ (i + 5).toNatClampNeg)) (v : Int32) {P : Option Value × xH × Nat × Nat → Prop} (kk : x_R x_mt (some (L, xs)) 10 M_law (1026, [(3, .int i), (2, .ref 75), (1, .ref 0), (0, .ref x_scr)], [.int (xs ((i + 2)).toNatClampNeg), .int (xs ((i + 1)).toNatClampNeg), .ref 75], h, 98, 10728) P) : x_R x_mt (some (L, xs)) 10 M_law (1014, [(3, .int i), (2, .ref 75), (1, .ref 0), (0, .ref x_scr)], [.int v], h, 98, 10728) P := by
  refine x_R.steps 6 (c' := (1020, [(3, .int i), (2, .ref 75), (1, .ref 0), (0, .ref x_scr)], [.int (i + 1), .ref x_scr, .ref 75], h, 98, 10728)) rfl ?_
  refine j_Rsld (c' := (1021, [(3, .int i), (2, .ref 75), (1, .ref 0), (0, .ref x_scr)], [.int (xs ((i + 1)).toNatClampNeg), .ref 75], h, 98, 10728)) rfl h1 ?_
  refine x_R.steps 4 (c' := (1025, [(3, .int i), (2, .ref 75), (1, .ref 0), (0, .ref x_scr)], [.int (i + 2), .ref x_scr, .int (xs ((i + 1)).toNatClampNeg), .ref 75], h, 98, 10728)) rfl ?_
  refine j_Rsld (c' := (1026, [(3, .int i), (2, .ref 75), (1, .ref 0), (0, .ref x_scr)], [.int (xs ((i + 2)).toNatClampNeg), .int (xs ((i + 1)).toNatClampNeg), .ref 75], h, 98, 10728)) rfl h2 ?_
  exact kk

set_option maxRecDepth 100000 in
theorem x_c24d (h : xH) (L : Nat) (xs : Nat → Int32) (i : Int32) (h0 : ¬ (i < 0 ∨ L ≤ (i).toNatClampNeg)) (h1 : ¬ (i + 1 < 0 ∨ L ≤ (i + 1).toNatClampNeg)) (h2 : ¬ (i + 2 < 0 ∨ L ≤ (i + 2).toNatClampNeg)) (h3 : ¬ (i + 3 < 0 ∨ L ≤ (i + 3).toNatClampNeg)) (h4 : ¬ (i + 4 < 0 ∨ L ≤ (i + 4).toNatClampNeg)) (h5 : ¬ (i + 5 < 0 ∨ L ≤ (i + 5).toNatClampNeg)) (w : Int32) {P : Option Value × xH × Nat × Nat → Prop} (kk : x_R x_mt (some (L, xs)) 10 M_law (18, [(3, .int (i + Int32.ofInt (6))), (2, .ref 75), (1, .ref 0), (0, .ref x_scr)], [], h, 98, 10728) P) : x_R x_mt (some (L, xs)) 10 M_law (1029, [(3, .int i), (2, .ref 75), (1, .ref 0), (0, .ref x_scr)], [.int w], h, 98, 10728) P := by
  refine x_R.steps 4 (c' := (18, [(3, .int (i + Int32.ofInt (6))), (2, .ref 75), (1, .ref 0), (0, .ref x_scr)], [], h, 98, 10728)) rfl ?_
  exact kk

set_option maxRecDepth 100000 in
theorem x_c25a (h : xH) (L : Nat) (xs : Nat → Int32) (i : Int32) (h0 : ¬ (i < 0 ∨ L ≤ (i).toNatClampNeg)) (h1 : ¬ (i + 1 < 0 ∨ L ≤ (i + 1).toNatClampNeg)) (h2 : ¬ (i + 2 < 0 ∨ L ≤ (i + 2).toNatClampNeg)) (h3 : ¬ (i + 3 < 0 ∨ L ≤ (i + 3).toNatClampNeg)) (h4 : ¬ (i + 4 < 0 ∨ L ≤ (i + 4).toNatClampNeg)) (h5 : ¬ (i + 5 < 0 ∨ L ≤ (i + 5).toNatClampNeg)) {P : Option Value × xH × Nat × Nat → Prop} (kk : x_R x_mt (some (L, xs)) 10 M_law (1044, [(3, .int i), (2, .ref 75), (1, .ref 0), (0, .ref x_scr)], [.int (xs ((i + 2)).toNatClampNeg), .int (xs ((i + 1)).toNatClampNeg), .ref 0], h, 98, 10728) P) : x_R x_mt (some (L, xs)) 10 M_law (1033, [(3, .int i), (2, .ref 75), (1, .ref 0), (0, .ref x_scr)], [], h, 98, 10728) P := by
  refine x_R.steps 5 (c' := (1038, [(3, .int i), (2, .ref 75), (1, .ref 0), (0, .ref x_scr)], [.int (i + 1), .ref x_scr, .ref 0], h, 98, 10728)) rfl ?_
  refine j_Rsld (c' := (1039, [(3, .int i), (2, .ref 75), (1, .ref 0), (0, .ref x_scr)], [.int (xs ((i + 1)).toNatClampNeg), .ref 0], h, 98, 10728)) rfl h1 ?_
  refine x_R.steps 4 (c' := (1043, [(3, .int i), (2, .ref 75), (1, .ref 0), (0, .ref x_scr)], [.int (i + 2), .ref x_scr, .int (xs ((i + 1)).toNatClampNeg), .ref 0], h, 98, 10728)) rfl ?_
  refine j_Rsld (c' := (1044, [(3, .int i), (2, .ref 75), (1, .ref 0), (0, .ref x_scr)], [.int (xs ((i + 2)).toNatClampNeg), .int (xs ((i + 1)).toNatClampNeg), .ref 0], h, 98, 10728)) rfl h2 ?_
  exact kk

set_option maxRecDepth 100000 in
theorem x_c25b (h : xH) (L : Nat) (xs : Nat → Int32) (i : Int32) (h0 : ¬ (i < 0 ∨ L ≤ (i).toNatClampNeg)) (h1 : ¬ (i + 1 < 0 ∨ L ≤ (i + 1).toNatClampNeg)) (h2 : ¬ (i + 2 < 0 ∨ L ≤ (i + 2).toNatClampNeg)) (h3 : ¬ (i + 3 < 0 ∨ L ≤ (i + 3).toNatClampNeg)) (h4 : ¬ (i + 4 < 0 ∨ L ≤ (i + 4).toNatClampNeg)) (h5 : ¬ (i + 5 < 0 ∨ L ≤ (i + 5).toNatClampNeg)) (v : Int32) {P : Option Value × xH × Nat × Nat → Prop} (kk : x_R x_mt (some (L, xs)) 10 M_law (1059, [(3, .int i), (2, .ref 75), (1, .ref 0), (0, .ref x_scr)], [.int (xs ((i + 2)).toNatClampNeg), .int (xs ((i + 1)).toNatClampNeg), .ref 75], h, 98, 10728) P) : x_R x_mt (some (L, xs)) 10 M_law (1047, [(3, .int i), (2, .ref 75), (1, .ref 0), (0, .ref x_scr)], [.int v], h, 98, 10728) P := by
  refine x_R.steps 6 (c' := (1053, [(3, .int i), (2, .ref 75), (1, .ref 0), (0, .ref x_scr)], [.int (i + 1), .ref x_scr, .ref 75], h, 98, 10728)) rfl ?_
  refine j_Rsld (c' := (1054, [(3, .int i), (2, .ref 75), (1, .ref 0), (0, .ref x_scr)], [.int (xs ((i + 1)).toNatClampNeg), .ref 75], h, 98, 10728)) rfl h1 ?_
  refine x_R.steps 4 (c' := (1058, [(3, .int i), (2, .ref 75), (1, .ref 0), (0, .ref x_scr)], [.int (i + 2), .ref x_scr, .int (xs ((i + 1)).toNatClampNeg), .ref 75], h, 98, 10728)) rfl ?_
  refine j_Rsld (c' := (1059, [(3, .int i), (2, .ref 75), (1, .ref 0), (0, .ref x_scr)], [.int (xs ((i + 2)).toNatClampNeg), .int (xs ((i + 1)).toNatClampNeg), .ref 75], h, 98, 10728)) rfl h2 ?_
  exact kk

set_option maxRecDepth 100000 in
theorem x_c25d (h : xH) (L : Nat) (xs : Nat → Int32) (i : Int32) (h0 : ¬ (i < 0 ∨ L ≤ (i).toNatClampNeg)) (h1 : ¬ (i + 1 < 0 ∨ L ≤ (i + 1).toNatClampNeg)) (h2 : ¬ (i + 2 < 0 ∨ L ≤ (i + 2).toNatClampNeg)) (h3 : ¬ (i + 3 < 0 ∨ L ≤ (i + 3).toNatClampNeg)) (h4 : ¬ (i + 4 < 0 ∨ L ≤ (i + 4).toNatClampNeg)) (h5 : ¬ (i + 5 < 0 ∨ L ≤ (i + 5).toNatClampNeg)) (w : Int32) {P : Option Value × xH × Nat × Nat → Prop} (kk : x_R x_mt (some (L, xs)) 10 M_law (18, [(3, .int (i + Int32.ofInt (6))), (2, .ref 75), (1, .ref 0), (0, .ref x_scr)], [], h, 98, 10728) P) : x_R x_mt (some (L, xs)) 10 M_law (1062, [(3, .int i), (2, .ref 75), (1, .ref 0), (0, .ref x_scr)], [.int w], h, 98, 10728) P := by
  refine x_R.steps 4 (c' := (18, [(3, .int (i + Int32.ofInt (6))), (2, .ref 75), (1, .ref 0), (0, .ref x_scr)], [], h, 98, 10728)) rfl ?_
  exact kk

set_option maxRecDepth 100000 in
theorem x_c26a (h : xH) (L : Nat) (xs : Nat → Int32) (i : Int32) (h0 : ¬ (i < 0 ∨ L ≤ (i).toNatClampNeg)) (h1 : ¬ (i + 1 < 0 ∨ L ≤ (i + 1).toNatClampNeg)) (h2 : ¬ (i + 2 < 0 ∨ L ≤ (i + 2).toNatClampNeg)) (h3 : ¬ (i + 3 < 0 ∨ L ≤ (i + 3).toNatClampNeg)) (h4 : ¬ (i + 4 < 0 ∨ L ≤ (i + 4).toNatClampNeg)) (h5 : ¬ (i + 5 < 0 ∨ L ≤ (i + 5).toNatClampNeg)) {P : Option Value × xH × Nat × Nat → Prop} (kk : x_R x_mt (some (L, xs)) 10 M_law (1072, [(3, .int i), (2, .ref 75), (1, .ref 0), (0, .ref x_scr)], [.int (xs ((i + 1)).toNatClampNeg), .ref 0], h, 98, 10728) P) : x_R x_mt (some (L, xs)) 10 M_law (1066, [(3, .int i), (2, .ref 75), (1, .ref 0), (0, .ref x_scr)], [], h, 98, 10728) P := by
  refine x_R.steps 5 (c' := (1071, [(3, .int i), (2, .ref 75), (1, .ref 0), (0, .ref x_scr)], [.int (i + 1), .ref x_scr, .ref 0], h, 98, 10728)) rfl ?_
  refine j_Rsld (c' := (1072, [(3, .int i), (2, .ref 75), (1, .ref 0), (0, .ref x_scr)], [.int (xs ((i + 1)).toNatClampNeg), .ref 0], h, 98, 10728)) rfl h1 ?_
  exact kk

set_option maxRecDepth 100000 in
theorem x_c26b (h : xH) (L : Nat) (xs : Nat → Int32) (i : Int32) (h0 : ¬ (i < 0 ∨ L ≤ (i).toNatClampNeg)) (h1 : ¬ (i + 1 < 0 ∨ L ≤ (i + 1).toNatClampNeg)) (h2 : ¬ (i + 2 < 0 ∨ L ≤ (i + 2).toNatClampNeg)) (h3 : ¬ (i + 3 < 0 ∨ L ≤ (i + 3).toNatClampNeg)) (h4 : ¬ (i + 4 < 0 ∨ L ≤ (i + 4).toNatClampNeg)) (h5 : ¬ (i + 5 < 0 ∨ L ≤ (i + 5).toNatClampNeg)) (v : Int32) {P : Option Value × xH × Nat × Nat → Prop} (kk : x_R x_mt (some (L, xs)) 10 M_law (1082, [(3, .int i), (2, .ref 75), (1, .ref 0), (0, .ref x_scr)], [.int (xs ((i + 1)).toNatClampNeg), .ref 75], h, 98, 10728) P) : x_R x_mt (some (L, xs)) 10 M_law (1075, [(3, .int i), (2, .ref 75), (1, .ref 0), (0, .ref x_scr)], [.int v], h, 98, 10728) P := by
  refine x_R.steps 6 (c' := (1081, [(3, .int i), (2, .ref 75), (1, .ref 0), (0, .ref x_scr)], [.int (i + 1), .ref x_scr, .ref 75], h, 98, 10728)) rfl ?_
  refine j_Rsld (c' := (1082, [(3, .int i), (2, .ref 75), (1, .ref 0), (0, .ref x_scr)], [.int (xs ((i + 1)).toNatClampNeg), .ref 75], h, 98, 10728)) rfl h1 ?_
  exact kk

set_option maxRecDepth 100000 in
theorem x_c26d (h : xH) (L : Nat) (xs : Nat → Int32) (i : Int32) (h0 : ¬ (i < 0 ∨ L ≤ (i).toNatClampNeg)) (h1 : ¬ (i + 1 < 0 ∨ L ≤ (i + 1).toNatClampNeg)) (h2 : ¬ (i + 2 < 0 ∨ L ≤ (i + 2).toNatClampNeg)) (h3 : ¬ (i + 3 < 0 ∨ L ≤ (i + 3).toNatClampNeg)) (h4 : ¬ (i + 4 < 0 ∨ L ≤ (i + 4).toNatClampNeg)) (h5 : ¬ (i + 5 < 0 ∨ L ≤ (i + 5).toNatClampNeg)) (w : Int32) {P : Option Value × xH × Nat × Nat → Prop} (kk : x_R x_mt (some (L, xs)) 10 M_law (18, [(3, .int (i + Int32.ofInt (6))), (2, .ref 75), (1, .ref 0), (0, .ref x_scr)], [], h, 98, 10728) P) : x_R x_mt (some (L, xs)) 10 M_law (1085, [(3, .int i), (2, .ref 75), (1, .ref 0), (0, .ref x_scr)], [.int w], h, 98, 10728) P := by
  refine x_R.steps 4 (c' := (18, [(3, .int (i + Int32.ofInt (6))), (2, .ref 75), (1, .ref 0), (0, .ref x_scr)], [], h, 98, 10728)) rfl ?_
  exact kk

set_option maxRecDepth 100000 in
theorem x_c27a (h : xH) (L : Nat) (xs : Nat → Int32) (i : Int32) (h0 : ¬ (i < 0 ∨ L ≤ (i).toNatClampNeg)) (h1 : ¬ (i + 1 < 0 ∨ L ≤ (i + 1).toNatClampNeg)) (h2 : ¬ (i + 2 < 0 ∨ L ≤ (i + 2).toNatClampNeg)) (h3 : ¬ (i + 3 < 0 ∨ L ≤ (i + 3).toNatClampNeg)) (h4 : ¬ (i + 4 < 0 ∨ L ≤ (i + 4).toNatClampNeg)) (h5 : ¬ (i + 5 < 0 ∨ L ≤ (i + 5).toNatClampNeg)) {P : Option Value × xH × Nat × Nat → Prop} (kk : x_R x_mt (some (L, xs)) 10 M_law (1100, [(3, .int i), (2, .ref 75), (1, .ref 0), (0, .ref x_scr)], [.int (xs ((i + 2)).toNatClampNeg), .int (xs ((i + 1)).toNatClampNeg), .ref 0], h, 98, 10728) P) : x_R x_mt (some (L, xs)) 10 M_law (1089, [(3, .int i), (2, .ref 75), (1, .ref 0), (0, .ref x_scr)], [], h, 98, 10728) P := by
  refine x_R.steps 5 (c' := (1094, [(3, .int i), (2, .ref 75), (1, .ref 0), (0, .ref x_scr)], [.int (i + 1), .ref x_scr, .ref 0], h, 98, 10728)) rfl ?_
  refine j_Rsld (c' := (1095, [(3, .int i), (2, .ref 75), (1, .ref 0), (0, .ref x_scr)], [.int (xs ((i + 1)).toNatClampNeg), .ref 0], h, 98, 10728)) rfl h1 ?_
  refine x_R.steps 4 (c' := (1099, [(3, .int i), (2, .ref 75), (1, .ref 0), (0, .ref x_scr)], [.int (i + 2), .ref x_scr, .int (xs ((i + 1)).toNatClampNeg), .ref 0], h, 98, 10728)) rfl ?_
  refine j_Rsld (c' := (1100, [(3, .int i), (2, .ref 75), (1, .ref 0), (0, .ref x_scr)], [.int (xs ((i + 2)).toNatClampNeg), .int (xs ((i + 1)).toNatClampNeg), .ref 0], h, 98, 10728)) rfl h2 ?_
  exact kk

set_option maxRecDepth 100000 in
theorem x_c27b (h : xH) (L : Nat) (xs : Nat → Int32) (i : Int32) (h0 : ¬ (i < 0 ∨ L ≤ (i).toNatClampNeg)) (h1 : ¬ (i + 1 < 0 ∨ L ≤ (i + 1).toNatClampNeg)) (h2 : ¬ (i + 2 < 0 ∨ L ≤ (i + 2).toNatClampNeg)) (h3 : ¬ (i + 3 < 0 ∨ L ≤ (i + 3).toNatClampNeg)) (h4 : ¬ (i + 4 < 0 ∨ L ≤ (i + 4).toNatClampNeg)) (h5 : ¬ (i + 5 < 0 ∨ L ≤ (i + 5).toNatClampNeg)) (v : Int32) {P : Option Value × xH × Nat × Nat → Prop} (kk : x_R x_mt (some (L, xs)) 10 M_law (1115, [(3, .int i), (2, .ref 75), (1, .ref 0), (0, .ref x_scr)], [.int (xs ((i + 2)).toNatClampNeg), .int (xs ((i + 1)).toNatClampNeg), .ref 75], h, 98, 10728) P) : x_R x_mt (some (L, xs)) 10 M_law (1103, [(3, .int i), (2, .ref 75), (1, .ref 0), (0, .ref x_scr)], [.int v], h, 98, 10728) P := by
  refine x_R.steps 6 (c' := (1109, [(3, .int i), (2, .ref 75), (1, .ref 0), (0, .ref x_scr)], [.int (i + 1), .ref x_scr, .ref 75], h, 98, 10728)) rfl ?_
  refine j_Rsld (c' := (1110, [(3, .int i), (2, .ref 75), (1, .ref 0), (0, .ref x_scr)], [.int (xs ((i + 1)).toNatClampNeg), .ref 75], h, 98, 10728)) rfl h1 ?_
  refine x_R.steps 4 (c' := (1114, [(3, .int i), (2, .ref 75), (1, .ref 0), (0, .ref x_scr)], [.int (i + 2), .ref x_scr, .int (xs ((i + 1)).toNatClampNeg), .ref 75], h, 98, 10728)) rfl ?_
  refine j_Rsld (c' := (1115, [(3, .int i), (2, .ref 75), (1, .ref 0), (0, .ref x_scr)], [.int (xs ((i + 2)).toNatClampNeg), .int (xs ((i + 1)).toNatClampNeg), .ref 75], h, 98, 10728)) rfl h2 ?_
  exact kk

set_option maxRecDepth 100000 in
theorem x_c27d (h : xH) (L : Nat) (xs : Nat → Int32) (i : Int32) (h0 : ¬ (i < 0 ∨ L ≤ (i).toNatClampNeg)) (h1 : ¬ (i + 1 < 0 ∨ L ≤ (i + 1).toNatClampNeg)) (h2 : ¬ (i + 2 < 0 ∨ L ≤ (i + 2).toNatClampNeg)) (h3 : ¬ (i + 3 < 0 ∨ L ≤ (i + 3).toNatClampNeg)) (h4 : ¬ (i + 4 < 0 ∨ L ≤ (i + 4).toNatClampNeg)) (h5 : ¬ (i + 5 < 0 ∨ L ≤ (i + 5).toNatClampNeg)) (w : Int32) {P : Option Value × xH × Nat × Nat → Prop} (kk : x_R x_mt (some (L, xs)) 10 M_law (18, [(3, .int (i + Int32.ofInt (6))), (2, .ref 75), (1, .ref 0), (0, .ref x_scr)], [], h, 98, 10728) P) : x_R x_mt (some (L, xs)) 10 M_law (1118, [(3, .int i), (2, .ref 75), (1, .ref 0), (0, .ref x_scr)], [.int w], h, 98, 10728) P := by
  refine x_R.steps 4 (c' := (18, [(3, .int (i + Int32.ofInt (6))), (2, .ref 75), (1, .ref 0), (0, .ref x_scr)], [], h, 98, 10728)) rfl ?_
  exact kk

set_option maxRecDepth 100000 in
theorem x_c28a (h : xH) (L : Nat) (xs : Nat → Int32) (i : Int32) (h0 : ¬ (i < 0 ∨ L ≤ (i).toNatClampNeg)) (h1 : ¬ (i + 1 < 0 ∨ L ≤ (i + 1).toNatClampNeg)) (h2 : ¬ (i + 2 < 0 ∨ L ≤ (i + 2).toNatClampNeg)) (h3 : ¬ (i + 3 < 0 ∨ L ≤ (i + 3).toNatClampNeg)) (h4 : ¬ (i + 4 < 0 ∨ L ≤ (i + 4).toNatClampNeg)) (h5 : ¬ (i + 5 < 0 ∨ L ≤ (i + 5).toNatClampNeg)) {P : Option Value × xH × Nat × Nat → Prop} (kk : x_R x_mt (some (L, xs)) 10 M_law (1128, [(3, .int i), (2, .ref 75), (1, .ref 0), (0, .ref x_scr)], [.int (xs ((i + 1)).toNatClampNeg), .ref 0], h, 98, 10728) P) : x_R x_mt (some (L, xs)) 10 M_law (1122, [(3, .int i), (2, .ref 75), (1, .ref 0), (0, .ref x_scr)], [], h, 98, 10728) P := by
  refine x_R.steps 5 (c' := (1127, [(3, .int i), (2, .ref 75), (1, .ref 0), (0, .ref x_scr)], [.int (i + 1), .ref x_scr, .ref 0], h, 98, 10728)) rfl ?_
  refine j_Rsld (c' := (1128, [(3, .int i), (2, .ref 75), (1, .ref 0), (0, .ref x_scr)], [.int (xs ((i + 1)).toNatClampNeg), .ref 0], h, 98, 10728)) rfl h1 ?_
  exact kk

set_option maxRecDepth 100000 in
theorem x_c28b (h : xH) (L : Nat) (xs : Nat → Int32) (i : Int32) (h0 : ¬ (i < 0 ∨ L ≤ (i).toNatClampNeg)) (h1 : ¬ (i + 1 < 0 ∨ L ≤ (i + 1).toNatClampNeg)) (h2 : ¬ (i + 2 < 0 ∨ L ≤ (i + 2).toNatClampNeg)) (h3 : ¬ (i + 3 < 0 ∨ L ≤ (i + 3).toNatClampNeg)) (h4 : ¬ (i + 4 < 0 ∨ L ≤ (i + 4).toNatClampNeg)) (h5 : ¬ (i + 5 < 0 ∨ L ≤ (i + 5).toNatClampNeg)) (v : Int32) {P : Option Value × xH × Nat × Nat → Prop} (kk : x_R x_mt (some (L, xs)) 10 M_law (1138, [(3, .int i), (2, .ref 75), (1, .ref 0), (0, .ref x_scr)], [.int (xs ((i + 1)).toNatClampNeg), .ref 75], h, 98, 10728) P) : x_R x_mt (some (L, xs)) 10 M_law (1131, [(3, .int i), (2, .ref 75), (1, .ref 0), (0, .ref x_scr)], [.int v], h, 98, 10728) P := by
  refine x_R.steps 6 (c' := (1137, [(3, .int i), (2, .ref 75), (1, .ref 0), (0, .ref x_scr)], [.int (i + 1), .ref x_scr, .ref 75], h, 98, 10728)) rfl ?_
  refine j_Rsld (c' := (1138, [(3, .int i), (2, .ref 75), (1, .ref 0), (0, .ref x_scr)], [.int (xs ((i + 1)).toNatClampNeg), .ref 75], h, 98, 10728)) rfl h1 ?_
  exact kk

set_option maxRecDepth 100000 in
theorem x_c28d (h : xH) (L : Nat) (xs : Nat → Int32) (i : Int32) (h0 : ¬ (i < 0 ∨ L ≤ (i).toNatClampNeg)) (h1 : ¬ (i + 1 < 0 ∨ L ≤ (i + 1).toNatClampNeg)) (h2 : ¬ (i + 2 < 0 ∨ L ≤ (i + 2).toNatClampNeg)) (h3 : ¬ (i + 3 < 0 ∨ L ≤ (i + 3).toNatClampNeg)) (h4 : ¬ (i + 4 < 0 ∨ L ≤ (i + 4).toNatClampNeg)) (h5 : ¬ (i + 5 < 0 ∨ L ≤ (i + 5).toNatClampNeg)) (w : Int32) {P : Option Value × xH × Nat × Nat → Prop} (kk : x_R x_mt (some (L, xs)) 10 M_law (18, [(3, .int (i + Int32.ofInt (6))), (2, .ref 75), (1, .ref 0), (0, .ref x_scr)], [], h, 98, 10728) P) : x_R x_mt (some (L, xs)) 10 M_law (1141, [(3, .int i), (2, .ref 75), (1, .ref 0), (0, .ref x_scr)], [.int w], h, 98, 10728) P := by
  refine x_R.steps 4 (c' := (18, [(3, .int (i + Int32.ofInt (6))), (2, .ref 75), (1, .ref 0), (0, .ref x_scr)], [], h, 98, 10728)) rfl ?_
  exact kk

set_option maxRecDepth 100000 in
theorem x_c29a (h : xH) (L : Nat) (xs : Nat → Int32) (i : Int32) (h0 : ¬ (i < 0 ∨ L ≤ (i).toNatClampNeg)) (h1 : ¬ (i + 1 < 0 ∨ L ≤ (i + 1).toNatClampNeg)) (h2 : ¬ (i + 2 < 0 ∨ L ≤ (i + 2).toNatClampNeg)) (h3 : ¬ (i + 3 < 0 ∨ L ≤ (i + 3).toNatClampNeg)) (h4 : ¬ (i + 4 < 0 ∨ L ≤ (i + 4).toNatClampNeg)) (h5 : ¬ (i + 5 < 0 ∨ L ≤ (i + 5).toNatClampNeg)) {P : Option Value × xH × Nat × Nat → Prop} (kk : x_R x_mt (some (L, xs)) 10 M_law (1151, [(3, .int i), (2, .ref 75), (1, .ref 0), (0, .ref x_scr)], [.int (xs ((i + 1)).toNatClampNeg), .ref 0], h, 98, 10728) P) : x_R x_mt (some (L, xs)) 10 M_law (1145, [(3, .int i), (2, .ref 75), (1, .ref 0), (0, .ref x_scr)], [], h, 98, 10728) P := by
  refine x_R.steps 5 (c' := (1150, [(3, .int i), (2, .ref 75), (1, .ref 0), (0, .ref x_scr)], [.int (i + 1), .ref x_scr, .ref 0], h, 98, 10728)) rfl ?_
  refine j_Rsld (c' := (1151, [(3, .int i), (2, .ref 75), (1, .ref 0), (0, .ref x_scr)], [.int (xs ((i + 1)).toNatClampNeg), .ref 0], h, 98, 10728)) rfl h1 ?_
  exact kk

set_option maxRecDepth 100000 in
theorem x_c29b (h : xH) (L : Nat) (xs : Nat → Int32) (i : Int32) (h0 : ¬ (i < 0 ∨ L ≤ (i).toNatClampNeg)) (h1 : ¬ (i + 1 < 0 ∨ L ≤ (i + 1).toNatClampNeg)) (h2 : ¬ (i + 2 < 0 ∨ L ≤ (i + 2).toNatClampNeg)) (h3 : ¬ (i + 3 < 0 ∨ L ≤ (i + 3).toNatClampNeg)) (h4 : ¬ (i + 4 < 0 ∨ L ≤ (i + 4).toNatClampNeg)) (h5 : ¬ (i + 5 < 0 ∨ L ≤ (i + 5).toNatClampNeg)) (v : Int32) {P : Option Value × xH × Nat × Nat → Prop} (kk : x_R x_mt (some (L, xs)) 10 M_law (1161, [(3, .int i), (2, .ref 75), (1, .ref 0), (0, .ref x_scr)], [.int (xs ((i + 1)).toNatClampNeg), .ref 75], h, 98, 10728) P) : x_R x_mt (some (L, xs)) 10 M_law (1154, [(3, .int i), (2, .ref 75), (1, .ref 0), (0, .ref x_scr)], [.int v], h, 98, 10728) P := by
  refine x_R.steps 6 (c' := (1160, [(3, .int i), (2, .ref 75), (1, .ref 0), (0, .ref x_scr)], [.int (i + 1), .ref x_scr, .ref 75], h, 98, 10728)) rfl ?_
  refine j_Rsld (c' := (1161, [(3, .int i), (2, .ref 75), (1, .ref 0), (0, .ref x_scr)], [.int (xs ((i + 1)).toNatClampNeg), .ref 75], h, 98, 10728)) rfl h1 ?_
  exact kk

set_option maxRecDepth 100000 in
theorem x_c29d (h : xH) (L : Nat) (xs : Nat → Int32) (i : Int32) (h0 : ¬ (i < 0 ∨ L ≤ (i).toNatClampNeg)) (h1 : ¬ (i + 1 < 0 ∨ L ≤ (i + 1).toNatClampNeg)) (h2 : ¬ (i + 2 < 0 ∨ L ≤ (i + 2).toNatClampNeg)) (h3 : ¬ (i + 3 < 0 ∨ L ≤ (i + 3).toNatClampNeg)) (h4 : ¬ (i + 4 < 0 ∨ L ≤ (i + 4).toNatClampNeg)) (h5 : ¬ (i + 5 < 0 ∨ L ≤ (i + 5).toNatClampNeg)) (w : Int32) {P : Option Value × xH × Nat × Nat → Prop} (kk : x_R x_mt (some (L, xs)) 10 M_law (18, [(3, .int (i + Int32.ofInt (6))), (2, .ref 75), (1, .ref 0), (0, .ref x_scr)], [], h, 98, 10728) P) : x_R x_mt (some (L, xs)) 10 M_law (1164, [(3, .int i), (2, .ref 75), (1, .ref 0), (0, .ref x_scr)], [.int w], h, 98, 10728) P := by
  refine x_R.steps 4 (c' := (18, [(3, .int (i + Int32.ofInt (6))), (2, .ref 75), (1, .ref 0), (0, .ref x_scr)], [], h, 98, 10728)) rfl ?_
  exact kk

set_option maxRecDepth 100000 in
theorem x_c30a (h : xH) (L : Nat) (xs : Nat → Int32) (i : Int32) (h0 : ¬ (i < 0 ∨ L ≤ (i).toNatClampNeg)) (h1 : ¬ (i + 1 < 0 ∨ L ≤ (i + 1).toNatClampNeg)) (h2 : ¬ (i + 2 < 0 ∨ L ≤ (i + 2).toNatClampNeg)) (h3 : ¬ (i + 3 < 0 ∨ L ≤ (i + 3).toNatClampNeg)) (h4 : ¬ (i + 4 < 0 ∨ L ≤ (i + 4).toNatClampNeg)) (h5 : ¬ (i + 5 < 0 ∨ L ≤ (i + 5).toNatClampNeg)) {P : Option Value × xH × Nat × Nat → Prop} (kk : x_R x_mt (some (L, xs)) 10 M_law (1179, [(3, .int i), (2, .ref 75), (1, .ref 0), (0, .ref x_scr)], [.int (xs ((i + 2)).toNatClampNeg), .int (xs ((i + 1)).toNatClampNeg), .ref 0], h, 98, 10728) P) : x_R x_mt (some (L, xs)) 10 M_law (1168, [(3, .int i), (2, .ref 75), (1, .ref 0), (0, .ref x_scr)], [], h, 98, 10728) P := by
  refine x_R.steps 5 (c' := (1173, [(3, .int i), (2, .ref 75), (1, .ref 0), (0, .ref x_scr)], [.int (i + 1), .ref x_scr, .ref 0], h, 98, 10728)) rfl ?_
  refine j_Rsld (c' := (1174, [(3, .int i), (2, .ref 75), (1, .ref 0), (0, .ref x_scr)], [.int (xs ((i + 1)).toNatClampNeg), .ref 0], h, 98, 10728)) rfl h1 ?_
  refine x_R.steps 4 (c' := (1178, [(3, .int i), (2, .ref 75), (1, .ref 0), (0, .ref x_scr)], [.int (i + 2), .ref x_scr, .int (xs ((i + 1)).toNatClampNeg), .ref 0], h, 98, 10728)) rfl ?_
  refine j_Rsld (c' := (1179, [(3, .int i), (2, .ref 75), (1, .ref 0), (0, .ref x_scr)], [.int (xs ((i + 2)).toNatClampNeg), .int (xs ((i + 1)).toNatClampNeg), .ref 0], h, 98, 10728)) rfl h2 ?_
  exact kk

set_option maxRecDepth 100000 in
theorem x_c30b (h : xH) (L : Nat) (xs : Nat → Int32) (i : Int32) (h0 : ¬ (i < 0 ∨ L ≤ (i).toNatClampNeg)) (h1 : ¬ (i + 1 < 0 ∨ L ≤ (i + 1).toNatClampNeg)) (h2 : ¬ (i + 2 < 0 ∨ L ≤ (i + 2).toNatClampNeg)) (h3 : ¬ (i + 3 < 0 ∨ L ≤ (i + 3).toNatClampNeg)) (h4 : ¬ (i + 4 < 0 ∨ L ≤ (i + 4).toNatClampNeg)) (h5 : ¬ (i + 5 < 0 ∨ L ≤ (i + 5).toNatClampNeg)) (v : Int64) {P : Option Value × xH × Nat × Nat → Prop} (kk : x_R x_mt (some (L, xs)) 10 M_law (1194, [(3, .int i), (2, .ref 75), (1, .ref 0), (0, .ref x_scr)], [.int (xs ((i + 2)).toNatClampNeg), .int (xs ((i + 1)).toNatClampNeg), .ref 75], h, 98, 10728) P) : x_R x_mt (some (L, xs)) 10 M_law (1182, [(3, .int i), (2, .ref 75), (1, .ref 0), (0, .ref x_scr)], [.long v], h, 98, 10728) P := by
  refine x_R.steps 6 (c' := (1188, [(3, .int i), (2, .ref 75), (1, .ref 0), (0, .ref x_scr)], [.int (i + 1), .ref x_scr, .ref 75], h, 98, 10728)) rfl ?_
  refine j_Rsld (c' := (1189, [(3, .int i), (2, .ref 75), (1, .ref 0), (0, .ref x_scr)], [.int (xs ((i + 1)).toNatClampNeg), .ref 75], h, 98, 10728)) rfl h1 ?_
  refine x_R.steps 4 (c' := (1193, [(3, .int i), (2, .ref 75), (1, .ref 0), (0, .ref x_scr)], [.int (i + 2), .ref x_scr, .int (xs ((i + 1)).toNatClampNeg), .ref 75], h, 98, 10728)) rfl ?_
  refine j_Rsld (c' := (1194, [(3, .int i), (2, .ref 75), (1, .ref 0), (0, .ref x_scr)], [.int (xs ((i + 2)).toNatClampNeg), .int (xs ((i + 1)).toNatClampNeg), .ref 75], h, 98, 10728)) rfl h2 ?_
  exact kk

set_option maxRecDepth 100000 in
theorem x_c30d (h : xH) (L : Nat) (xs : Nat → Int32) (i : Int32) (h0 : ¬ (i < 0 ∨ L ≤ (i).toNatClampNeg)) (h1 : ¬ (i + 1 < 0 ∨ L ≤ (i + 1).toNatClampNeg)) (h2 : ¬ (i + 2 < 0 ∨ L ≤ (i + 2).toNatClampNeg)) (h3 : ¬ (i + 3 < 0 ∨ L ≤ (i + 3).toNatClampNeg)) (h4 : ¬ (i + 4 < 0 ∨ L ≤ (i + 4).toNatClampNeg)) (h5 : ¬ (i + 5 < 0 ∨ L ≤ (i + 5).toNatClampNeg)) (w : Int64) {P : Option Value × xH × Nat × Nat → Prop} (kk : x_R x_mt (some (L, xs)) 10 M_law (18, [(3, .int (i + Int32.ofInt (6))), (2, .ref 75), (1, .ref 0), (0, .ref x_scr)], [], h, 98, 10728) P) : x_R x_mt (some (L, xs)) 10 M_law (1197, [(3, .int i), (2, .ref 75), (1, .ref 0), (0, .ref x_scr)], [.long w], h, 98, 10728) P := by
  refine x_R.steps 4 (c' := (18, [(3, .int (i + Int32.ofInt (6))), (2, .ref 75), (1, .ref 0), (0, .ref x_scr)], [], h, 98, 10728)) rfl ?_
  exact kk

set_option maxRecDepth 100000 in
theorem x_c31a (h : xH) (L : Nat) (xs : Nat → Int32) (i : Int32) (h0 : ¬ (i < 0 ∨ L ≤ (i).toNatClampNeg)) (h1 : ¬ (i + 1 < 0 ∨ L ≤ (i + 1).toNatClampNeg)) (h2 : ¬ (i + 2 < 0 ∨ L ≤ (i + 2).toNatClampNeg)) (h3 : ¬ (i + 3 < 0 ∨ L ≤ (i + 3).toNatClampNeg)) (h4 : ¬ (i + 4 < 0 ∨ L ≤ (i + 4).toNatClampNeg)) (h5 : ¬ (i + 5 < 0 ∨ L ≤ (i + 5).toNatClampNeg)) {P : Option Value × xH × Nat × Nat → Prop} (kk : x_R x_mt (some (L, xs)) 10 M_law (1217, [(3, .int i), (2, .ref 75), (1, .ref 0), (0, .ref x_scr)], [.int (xs ((i + 3)).toNatClampNeg), .int (xs ((i + 2)).toNatClampNeg), .int (xs ((i + 1)).toNatClampNeg), .ref 0], h, 98, 10728) P) : x_R x_mt (some (L, xs)) 10 M_law (1201, [(3, .int i), (2, .ref 75), (1, .ref 0), (0, .ref x_scr)], [], h, 98, 10728) P := by
  refine x_R.steps 5 (c' := (1206, [(3, .int i), (2, .ref 75), (1, .ref 0), (0, .ref x_scr)], [.int (i + 1), .ref x_scr, .ref 0], h, 98, 10728)) rfl ?_
  refine j_Rsld (c' := (1207, [(3, .int i), (2, .ref 75), (1, .ref 0), (0, .ref x_scr)], [.int (xs ((i + 1)).toNatClampNeg), .ref 0], h, 98, 10728)) rfl h1 ?_
  refine x_R.steps 4 (c' := (1211, [(3, .int i), (2, .ref 75), (1, .ref 0), (0, .ref x_scr)], [.int (i + 2), .ref x_scr, .int (xs ((i + 1)).toNatClampNeg), .ref 0], h, 98, 10728)) rfl ?_
  refine j_Rsld (c' := (1212, [(3, .int i), (2, .ref 75), (1, .ref 0), (0, .ref x_scr)], [.int (xs ((i + 2)).toNatClampNeg), .int (xs ((i + 1)).toNatClampNeg), .ref 0], h, 98, 10728)) rfl h2 ?_
  refine x_R.steps 4 (c' := (1216, [(3, .int i), (2, .ref 75), (1, .ref 0), (0, .ref x_scr)], [.int (i + 3), .ref x_scr, .int (xs ((i + 2)).toNatClampNeg), .int (xs ((i + 1)).toNatClampNeg), .ref 0], h, 98, 10728)) rfl ?_
  refine j_Rsld (c' := (1217, [(3, .int i), (2, .ref 75), (1, .ref 0), (0, .ref x_scr)], [.int (xs ((i + 3)).toNatClampNeg), .int (xs ((i + 2)).toNatClampNeg), .int (xs ((i + 1)).toNatClampNeg), .ref 0], h, 98, 10728)) rfl h3 ?_
  exact kk

set_option maxRecDepth 100000 in
theorem x_c31b (h : xH) (L : Nat) (xs : Nat → Int32) (i : Int32) (h0 : ¬ (i < 0 ∨ L ≤ (i).toNatClampNeg)) (h1 : ¬ (i + 1 < 0 ∨ L ≤ (i + 1).toNatClampNeg)) (h2 : ¬ (i + 2 < 0 ∨ L ≤ (i + 2).toNatClampNeg)) (h3 : ¬ (i + 3 < 0 ∨ L ≤ (i + 3).toNatClampNeg)) (h4 : ¬ (i + 4 < 0 ∨ L ≤ (i + 4).toNatClampNeg)) (h5 : ¬ (i + 5 < 0 ∨ L ≤ (i + 5).toNatClampNeg)) (v : Int64) {P : Option Value × xH × Nat × Nat → Prop} (kk : x_R x_mt (some (L, xs)) 10 M_law (1237, [(3, .int i), (2, .ref 75), (1, .ref 0), (0, .ref x_scr)], [.int (xs ((i + 3)).toNatClampNeg), .int (xs ((i + 2)).toNatClampNeg), .int (xs ((i + 1)).toNatClampNeg), .ref 75], h, 98, 10728) P) : x_R x_mt (some (L, xs)) 10 M_law (1220, [(3, .int i), (2, .ref 75), (1, .ref 0), (0, .ref x_scr)], [.long v], h, 98, 10728) P := by
  refine x_R.steps 6 (c' := (1226, [(3, .int i), (2, .ref 75), (1, .ref 0), (0, .ref x_scr)], [.int (i + 1), .ref x_scr, .ref 75], h, 98, 10728)) rfl ?_
  refine j_Rsld (c' := (1227, [(3, .int i), (2, .ref 75), (1, .ref 0), (0, .ref x_scr)], [.int (xs ((i + 1)).toNatClampNeg), .ref 75], h, 98, 10728)) rfl h1 ?_
  refine x_R.steps 4 (c' := (1231, [(3, .int i), (2, .ref 75), (1, .ref 0), (0, .ref x_scr)], [.int (i + 2), .ref x_scr, .int (xs ((i + 1)).toNatClampNeg), .ref 75], h, 98, 10728)) rfl ?_
  refine j_Rsld (c' := (1232, [(3, .int i), (2, .ref 75), (1, .ref 0), (0, .ref x_scr)], [.int (xs ((i + 2)).toNatClampNeg), .int (xs ((i + 1)).toNatClampNeg), .ref 75], h, 98, 10728)) rfl h2 ?_
  refine x_R.steps 4 (c' := (1236, [(3, .int i), (2, .ref 75), (1, .ref 0), (0, .ref x_scr)], [.int (i + 3), .ref x_scr, .int (xs ((i + 2)).toNatClampNeg), .int (xs ((i + 1)).toNatClampNeg), .ref 75], h, 98, 10728)) rfl ?_
  refine j_Rsld (c' := (1237, [(3, .int i), (2, .ref 75), (1, .ref 0), (0, .ref x_scr)], [.int (xs ((i + 3)).toNatClampNeg), .int (xs ((i + 2)).toNatClampNeg), .int (xs ((i + 1)).toNatClampNeg), .ref 75], h, 98, 10728)) rfl h3 ?_
  exact kk

set_option maxRecDepth 100000 in
theorem x_c31d (h : xH) (L : Nat) (xs : Nat → Int32) (i : Int32) (h0 : ¬ (i < 0 ∨ L ≤ (i).toNatClampNeg)) (h1 : ¬ (i + 1 < 0 ∨ L ≤ (i + 1).toNatClampNeg)) (h2 : ¬ (i + 2 < 0 ∨ L ≤ (i + 2).toNatClampNeg)) (h3 : ¬ (i + 3 < 0 ∨ L ≤ (i + 3).toNatClampNeg)) (h4 : ¬ (i + 4 < 0 ∨ L ≤ (i + 4).toNatClampNeg)) (h5 : ¬ (i + 5 < 0 ∨ L ≤ (i + 5).toNatClampNeg)) (w : Int64) {P : Option Value × xH × Nat × Nat → Prop} (kk : x_R x_mt (some (L, xs)) 10 M_law (18, [(3, .int (i + Int32.ofInt (6))), (2, .ref 75), (1, .ref 0), (0, .ref x_scr)], [], h, 98, 10728) P) : x_R x_mt (some (L, xs)) 10 M_law (1240, [(3, .int i), (2, .ref 75), (1, .ref 0), (0, .ref x_scr)], [.long w], h, 98, 10728) P := by
  refine x_R.steps 4 (c' := (18, [(3, .int (i + Int32.ofInt (6))), (2, .ref 75), (1, .ref 0), (0, .ref x_scr)], [], h, 98, 10728)) rfl ?_
  exact kk

set_option maxRecDepth 100000 in
theorem x_c32a (h : xH) (L : Nat) (xs : Nat → Int32) (i : Int32) (h0 : ¬ (i < 0 ∨ L ≤ (i).toNatClampNeg)) (h1 : ¬ (i + 1 < 0 ∨ L ≤ (i + 1).toNatClampNeg)) (h2 : ¬ (i + 2 < 0 ∨ L ≤ (i + 2).toNatClampNeg)) (h3 : ¬ (i + 3 < 0 ∨ L ≤ (i + 3).toNatClampNeg)) (h4 : ¬ (i + 4 < 0 ∨ L ≤ (i + 4).toNatClampNeg)) (h5 : ¬ (i + 5 < 0 ∨ L ≤ (i + 5).toNatClampNeg)) {P : Option Value × xH × Nat × Nat → Prop} (kk : x_R x_mt (some (L, xs)) 10 M_law (1250, [(3, .int i), (2, .ref 75), (1, .ref 0), (0, .ref x_scr)], [.int (xs ((i + 1)).toNatClampNeg), .ref 0], h, 98, 10728) P) : x_R x_mt (some (L, xs)) 10 M_law (1244, [(3, .int i), (2, .ref 75), (1, .ref 0), (0, .ref x_scr)], [], h, 98, 10728) P := by
  refine x_R.steps 5 (c' := (1249, [(3, .int i), (2, .ref 75), (1, .ref 0), (0, .ref x_scr)], [.int (i + 1), .ref x_scr, .ref 0], h, 98, 10728)) rfl ?_
  refine j_Rsld (c' := (1250, [(3, .int i), (2, .ref 75), (1, .ref 0), (0, .ref x_scr)], [.int (xs ((i + 1)).toNatClampNeg), .ref 0], h, 98, 10728)) rfl h1 ?_
  exact kk

set_option maxRecDepth 100000 in
theorem x_c32b (h : xH) (L : Nat) (xs : Nat → Int32) (i : Int32) (h0 : ¬ (i < 0 ∨ L ≤ (i).toNatClampNeg)) (h1 : ¬ (i + 1 < 0 ∨ L ≤ (i + 1).toNatClampNeg)) (h2 : ¬ (i + 2 < 0 ∨ L ≤ (i + 2).toNatClampNeg)) (h3 : ¬ (i + 3 < 0 ∨ L ≤ (i + 3).toNatClampNeg)) (h4 : ¬ (i + 4 < 0 ∨ L ≤ (i + 4).toNatClampNeg)) (h5 : ¬ (i + 5 < 0 ∨ L ≤ (i + 5).toNatClampNeg)) (v : Int32) {P : Option Value × xH × Nat × Nat → Prop} (kk : x_R x_mt (some (L, xs)) 10 M_law (1260, [(3, .int i), (2, .ref 75), (1, .ref 0), (0, .ref x_scr)], [.int (xs ((i + 1)).toNatClampNeg), .ref 75], h, 98, 10728) P) : x_R x_mt (some (L, xs)) 10 M_law (1253, [(3, .int i), (2, .ref 75), (1, .ref 0), (0, .ref x_scr)], [.int v], h, 98, 10728) P := by
  refine x_R.steps 6 (c' := (1259, [(3, .int i), (2, .ref 75), (1, .ref 0), (0, .ref x_scr)], [.int (i + 1), .ref x_scr, .ref 75], h, 98, 10728)) rfl ?_
  refine j_Rsld (c' := (1260, [(3, .int i), (2, .ref 75), (1, .ref 0), (0, .ref x_scr)], [.int (xs ((i + 1)).toNatClampNeg), .ref 75], h, 98, 10728)) rfl h1 ?_
  exact kk

set_option maxRecDepth 100000 in
theorem x_c32d (h : xH) (L : Nat) (xs : Nat → Int32) (i : Int32) (h0 : ¬ (i < 0 ∨ L ≤ (i).toNatClampNeg)) (h1 : ¬ (i + 1 < 0 ∨ L ≤ (i + 1).toNatClampNeg)) (h2 : ¬ (i + 2 < 0 ∨ L ≤ (i + 2).toNatClampNeg)) (h3 : ¬ (i + 3 < 0 ∨ L ≤ (i + 3).toNatClampNeg)) (h4 : ¬ (i + 4 < 0 ∨ L ≤ (i + 4).toNatClampNeg)) (h5 : ¬ (i + 5 < 0 ∨ L ≤ (i + 5).toNatClampNeg)) (w : Int32) {P : Option Value × xH × Nat × Nat → Prop} (kk : x_R x_mt (some (L, xs)) 10 M_law (18, [(3, .int (i + Int32.ofInt (6))), (2, .ref 75), (1, .ref 0), (0, .ref x_scr)], [], h, 98, 10728) P) : x_R x_mt (some (L, xs)) 10 M_law (1263, [(3, .int i), (2, .ref 75), (1, .ref 0), (0, .ref x_scr)], [.int w], h, 98, 10728) P := by
  refine x_R.steps 4 (c' := (18, [(3, .int (i + Int32.ofInt (6))), (2, .ref 75), (1, .ref 0), (0, .ref x_scr)], [], h, 98, 10728)) rfl ?_
  exact kk

set_option maxRecDepth 100000 in
theorem x_c33a (h : xH) (L : Nat) (xs : Nat → Int32) (i : Int32) (h0 : ¬ (i < 0 ∨ L ≤ (i).toNatClampNeg)) (h1 : ¬ (i + 1 < 0 ∨ L ≤ (i + 1).toNatClampNeg)) (h2 : ¬ (i + 2 < 0 ∨ L ≤ (i + 2).toNatClampNeg)) (h3 : ¬ (i + 3 < 0 ∨ L ≤ (i + 3).toNatClampNeg)) (h4 : ¬ (i + 4 < 0 ∨ L ≤ (i + 4).toNatClampNeg)) (h5 : ¬ (i + 5 < 0 ∨ L ≤ (i + 5).toNatClampNeg)) {P : Option Value × xH × Nat × Nat → Prop} (kk : x_R x_mt (some (L, xs)) 10 M_law (1273, [(3, .int i), (2, .ref 75), (1, .ref 0), (0, .ref x_scr)], [.int (xs ((i + 1)).toNatClampNeg), .ref 0], h, 98, 10728) P) : x_R x_mt (some (L, xs)) 10 M_law (1267, [(3, .int i), (2, .ref 75), (1, .ref 0), (0, .ref x_scr)], [], h, 98, 10728) P := by
  refine x_R.steps 5 (c' := (1272, [(3, .int i), (2, .ref 75), (1, .ref 0), (0, .ref x_scr)], [.int (i + 1), .ref x_scr, .ref 0], h, 98, 10728)) rfl ?_
  refine j_Rsld (c' := (1273, [(3, .int i), (2, .ref 75), (1, .ref 0), (0, .ref x_scr)], [.int (xs ((i + 1)).toNatClampNeg), .ref 0], h, 98, 10728)) rfl h1 ?_
  exact kk

set_option maxRecDepth 100000 in
theorem x_c33b (h : xH) (L : Nat) (xs : Nat → Int32) (i : Int32) (h0 : ¬ (i < 0 ∨ L ≤ (i).toNatClampNeg)) (h1 : ¬ (i + 1 < 0 ∨ L ≤ (i + 1).toNatClampNeg)) (h2 : ¬ (i + 2 < 0 ∨ L ≤ (i + 2).toNatClampNeg)) (h3 : ¬ (i + 3 < 0 ∨ L ≤ (i + 3).toNatClampNeg)) (h4 : ¬ (i + 4 < 0 ∨ L ≤ (i + 4).toNatClampNeg)) (h5 : ¬ (i + 5 < 0 ∨ L ≤ (i + 5).toNatClampNeg)) (v : Int32) {P : Option Value × xH × Nat × Nat → Prop} (kk : x_R x_mt (some (L, xs)) 10 M_law (1283, [(3, .int i), (2, .ref 75), (1, .ref 0), (0, .ref x_scr)], [.int (xs ((i + 1)).toNatClampNeg), .ref 75], h, 98, 10728) P) : x_R x_mt (some (L, xs)) 10 M_law (1276, [(3, .int i), (2, .ref 75), (1, .ref 0), (0, .ref x_scr)], [.int v], h, 98, 10728) P := by
  refine x_R.steps 6 (c' := (1282, [(3, .int i), (2, .ref 75), (1, .ref 0), (0, .ref x_scr)], [.int (i + 1), .ref x_scr, .ref 75], h, 98, 10728)) rfl ?_
  refine j_Rsld (c' := (1283, [(3, .int i), (2, .ref 75), (1, .ref 0), (0, .ref x_scr)], [.int (xs ((i + 1)).toNatClampNeg), .ref 75], h, 98, 10728)) rfl h1 ?_
  exact kk

set_option maxRecDepth 100000 in
theorem x_c33d (h : xH) (L : Nat) (xs : Nat → Int32) (i : Int32) (h0 : ¬ (i < 0 ∨ L ≤ (i).toNatClampNeg)) (h1 : ¬ (i + 1 < 0 ∨ L ≤ (i + 1).toNatClampNeg)) (h2 : ¬ (i + 2 < 0 ∨ L ≤ (i + 2).toNatClampNeg)) (h3 : ¬ (i + 3 < 0 ∨ L ≤ (i + 3).toNatClampNeg)) (h4 : ¬ (i + 4 < 0 ∨ L ≤ (i + 4).toNatClampNeg)) (h5 : ¬ (i + 5 < 0 ∨ L ≤ (i + 5).toNatClampNeg)) (w : Int32) {P : Option Value × xH × Nat × Nat → Prop} (kk : x_R x_mt (some (L, xs)) 10 M_law (18, [(3, .int (i + Int32.ofInt (6))), (2, .ref 75), (1, .ref 0), (0, .ref x_scr)], [], h, 98, 10728) P) : x_R x_mt (some (L, xs)) 10 M_law (1286, [(3, .int i), (2, .ref 75), (1, .ref 0), (0, .ref x_scr)], [.int w], h, 98, 10728) P := by
  refine x_R.steps 4 (c' := (18, [(3, .int (i + Int32.ofInt (6))), (2, .ref 75), (1, .ref 0), (0, .ref x_scr)], [], h, 98, 10728)) rfl ?_
  exact kk

set_option maxRecDepth 100000 in
theorem x_c34a (h : xH) (L : Nat) (xs : Nat → Int32) (i : Int32) (h0 : ¬ (i < 0 ∨ L ≤ (i).toNatClampNeg)) (h1 : ¬ (i + 1 < 0 ∨ L ≤ (i + 1).toNatClampNeg)) (h2 : ¬ (i + 2 < 0 ∨ L ≤ (i + 2).toNatClampNeg)) (h3 : ¬ (i + 3 < 0 ∨ L ≤ (i + 3).toNatClampNeg)) (h4 : ¬ (i + 4 < 0 ∨ L ≤ (i + 4).toNatClampNeg)) (h5 : ¬ (i + 5 < 0 ∨ L ≤ (i + 5).toNatClampNeg)) {P : Option Value × xH × Nat × Nat → Prop} (kk : x_R x_mt (some (L, xs)) 10 M_law (1296, [(3, .int i), (2, .ref 75), (1, .ref 0), (0, .ref x_scr)], [.int (xs ((i + 1)).toNatClampNeg), .ref 0], h, 98, 10728) P) : x_R x_mt (some (L, xs)) 10 M_law (1290, [(3, .int i), (2, .ref 75), (1, .ref 0), (0, .ref x_scr)], [], h, 98, 10728) P := by
  refine x_R.steps 5 (c' := (1295, [(3, .int i), (2, .ref 75), (1, .ref 0), (0, .ref x_scr)], [.int (i + 1), .ref x_scr, .ref 0], h, 98, 10728)) rfl ?_
  refine j_Rsld (c' := (1296, [(3, .int i), (2, .ref 75), (1, .ref 0), (0, .ref x_scr)], [.int (xs ((i + 1)).toNatClampNeg), .ref 0], h, 98, 10728)) rfl h1 ?_
  exact kk

set_option maxRecDepth 100000 in
theorem x_c34b (h : xH) (L : Nat) (xs : Nat → Int32) (i : Int32) (h0 : ¬ (i < 0 ∨ L ≤ (i).toNatClampNeg)) (h1 : ¬ (i + 1 < 0 ∨ L ≤ (i + 1).toNatClampNeg)) (h2 : ¬ (i + 2 < 0 ∨ L ≤ (i + 2).toNatClampNeg)) (h3 : ¬ (i + 3 < 0 ∨ L ≤ (i + 3).toNatClampNeg)) (h4 : ¬ (i + 4 < 0 ∨ L ≤ (i + 4).toNatClampNeg)) (h5 : ¬ (i + 5 < 0 ∨ L ≤ (i + 5).toNatClampNeg)) (v : Int32) {P : Option Value × xH × Nat × Nat → Prop} (kk : x_R x_mt (some (L, xs)) 10 M_law (1306, [(3, .int i), (2, .ref 75), (1, .ref 0), (0, .ref x_scr)], [.int (xs ((i + 1)).toNatClampNeg), .ref 75], h, 98, 10728) P) : x_R x_mt (some (L, xs)) 10 M_law (1299, [(3, .int i), (2, .ref 75), (1, .ref 0), (0, .ref x_scr)], [.int v], h, 98, 10728) P := by
  refine x_R.steps 6 (c' := (1305, [(3, .int i), (2, .ref 75), (1, .ref 0), (0, .ref x_scr)], [.int (i + 1), .ref x_scr, .ref 75], h, 98, 10728)) rfl ?_
  refine j_Rsld (c' := (1306, [(3, .int i), (2, .ref 75), (1, .ref 0), (0, .ref x_scr)], [.int (xs ((i + 1)).toNatClampNeg), .ref 75], h, 98, 10728)) rfl h1 ?_
  exact kk

set_option maxRecDepth 100000 in
theorem x_c34d (h : xH) (L : Nat) (xs : Nat → Int32) (i : Int32) (h0 : ¬ (i < 0 ∨ L ≤ (i).toNatClampNeg)) (h1 : ¬ (i + 1 < 0 ∨ L ≤ (i + 1).toNatClampNeg)) (h2 : ¬ (i + 2 < 0 ∨ L ≤ (i + 2).toNatClampNeg)) (h3 : ¬ (i + 3 < 0 ∨ L ≤ (i + 3).toNatClampNeg)) (h4 : ¬ (i + 4 < 0 ∨ L ≤ (i + 4).toNatClampNeg)) (h5 : ¬ (i + 5 < 0 ∨ L ≤ (i + 5).toNatClampNeg)) (w : Int32) {P : Option Value × xH × Nat × Nat → Prop} (kk : x_R x_mt (some (L, xs)) 10 M_law (18, [(3, .int (i + Int32.ofInt (6))), (2, .ref 75), (1, .ref 0), (0, .ref x_scr)], [], h, 98, 10728) P) : x_R x_mt (some (L, xs)) 10 M_law (1309, [(3, .int i), (2, .ref 75), (1, .ref 0), (0, .ref x_scr)], [.int w], h, 98, 10728) P := by
  refine x_R.steps 4 (c' := (18, [(3, .int (i + Int32.ofInt (6))), (2, .ref 75), (1, .ref 0), (0, .ref x_scr)], [], h, 98, 10728)) rfl ?_
  exact kk

set_option maxRecDepth 100000 in
theorem x_c35a (h : xH) (L : Nat) (xs : Nat → Int32) (i : Int32) (h0 : ¬ (i < 0 ∨ L ≤ (i).toNatClampNeg)) (h1 : ¬ (i + 1 < 0 ∨ L ≤ (i + 1).toNatClampNeg)) (h2 : ¬ (i + 2 < 0 ∨ L ≤ (i + 2).toNatClampNeg)) (h3 : ¬ (i + 3 < 0 ∨ L ≤ (i + 3).toNatClampNeg)) (h4 : ¬ (i + 4 < 0 ∨ L ≤ (i + 4).toNatClampNeg)) (h5 : ¬ (i + 5 < 0 ∨ L ≤ (i + 5).toNatClampNeg)) {P : Option Value × xH × Nat × Nat → Prop} (kk : x_R x_mt (some (L, xs)) 10 M_law (1319, [(3, .int i), (2, .ref 75), (1, .ref 0), (0, .ref x_scr)], [.int (xs ((i + 1)).toNatClampNeg), .ref 0], h, 98, 10728) P) : x_R x_mt (some (L, xs)) 10 M_law (1313, [(3, .int i), (2, .ref 75), (1, .ref 0), (0, .ref x_scr)], [], h, 98, 10728) P := by
  refine x_R.steps 5 (c' := (1318, [(3, .int i), (2, .ref 75), (1, .ref 0), (0, .ref x_scr)], [.int (i + 1), .ref x_scr, .ref 0], h, 98, 10728)) rfl ?_
  refine j_Rsld (c' := (1319, [(3, .int i), (2, .ref 75), (1, .ref 0), (0, .ref x_scr)], [.int (xs ((i + 1)).toNatClampNeg), .ref 0], h, 98, 10728)) rfl h1 ?_
  exact kk

set_option maxRecDepth 100000 in
theorem x_c35b (h : xH) (L : Nat) (xs : Nat → Int32) (i : Int32) (h0 : ¬ (i < 0 ∨ L ≤ (i).toNatClampNeg)) (h1 : ¬ (i + 1 < 0 ∨ L ≤ (i + 1).toNatClampNeg)) (h2 : ¬ (i + 2 < 0 ∨ L ≤ (i + 2).toNatClampNeg)) (h3 : ¬ (i + 3 < 0 ∨ L ≤ (i + 3).toNatClampNeg)) (h4 : ¬ (i + 4 < 0 ∨ L ≤ (i + 4).toNatClampNeg)) (h5 : ¬ (i + 5 < 0 ∨ L ≤ (i + 5).toNatClampNeg)) (v : Int32) {P : Option Value × xH × Nat × Nat → Prop} (kk : x_R x_mt (some (L, xs)) 10 M_law (1329, [(3, .int i), (2, .ref 75), (1, .ref 0), (0, .ref x_scr)], [.int (xs ((i + 1)).toNatClampNeg), .ref 75], h, 98, 10728) P) : x_R x_mt (some (L, xs)) 10 M_law (1322, [(3, .int i), (2, .ref 75), (1, .ref 0), (0, .ref x_scr)], [.int v], h, 98, 10728) P := by
  refine x_R.steps 6 (c' := (1328, [(3, .int i), (2, .ref 75), (1, .ref 0), (0, .ref x_scr)], [.int (i + 1), .ref x_scr, .ref 75], h, 98, 10728)) rfl ?_
  refine j_Rsld (c' := (1329, [(3, .int i), (2, .ref 75), (1, .ref 0), (0, .ref x_scr)], [.int (xs ((i + 1)).toNatClampNeg), .ref 75], h, 98, 10728)) rfl h1 ?_
  exact kk

set_option maxRecDepth 100000 in
theorem x_c35d (h : xH) (L : Nat) (xs : Nat → Int32) (i : Int32) (h0 : ¬ (i < 0 ∨ L ≤ (i).toNatClampNeg)) (h1 : ¬ (i + 1 < 0 ∨ L ≤ (i + 1).toNatClampNeg)) (h2 : ¬ (i + 2 < 0 ∨ L ≤ (i + 2).toNatClampNeg)) (h3 : ¬ (i + 3 < 0 ∨ L ≤ (i + 3).toNatClampNeg)) (h4 : ¬ (i + 4 < 0 ∨ L ≤ (i + 4).toNatClampNeg)) (h5 : ¬ (i + 5 < 0 ∨ L ≤ (i + 5).toNatClampNeg)) (w : Int32) {P : Option Value × xH × Nat × Nat → Prop} (kk : x_R x_mt (some (L, xs)) 10 M_law (18, [(3, .int (i + Int32.ofInt (6))), (2, .ref 75), (1, .ref 0), (0, .ref x_scr)], [], h, 98, 10728) P) : x_R x_mt (some (L, xs)) 10 M_law (1332, [(3, .int i), (2, .ref 75), (1, .ref 0), (0, .ref x_scr)], [.int w], h, 98, 10728) P := by
  refine x_R.steps 4 (c' := (18, [(3, .int (i + Int32.ofInt (6))), (2, .ref 75), (1, .ref 0), (0, .ref x_scr)], [], h, 98, 10728)) rfl ?_
  exact kk

set_option maxRecDepth 100000 in
theorem x_c36a (h : xH) (L : Nat) (xs : Nat → Int32) (i : Int32) (h0 : ¬ (i < 0 ∨ L ≤ (i).toNatClampNeg)) (h1 : ¬ (i + 1 < 0 ∨ L ≤ (i + 1).toNatClampNeg)) (h2 : ¬ (i + 2 < 0 ∨ L ≤ (i + 2).toNatClampNeg)) (h3 : ¬ (i + 3 < 0 ∨ L ≤ (i + 3).toNatClampNeg)) (h4 : ¬ (i + 4 < 0 ∨ L ≤ (i + 4).toNatClampNeg)) (h5 : ¬ (i + 5 < 0 ∨ L ≤ (i + 5).toNatClampNeg)) {P : Option Value × xH × Nat × Nat → Prop} (kk : x_R x_mt (some (L, xs)) 10 M_law (1342, [(3, .int i), (2, .ref 75), (1, .ref 0), (0, .ref x_scr)], [.int (xs ((i + 1)).toNatClampNeg), .ref 0], h, 98, 10728) P) : x_R x_mt (some (L, xs)) 10 M_law (1336, [(3, .int i), (2, .ref 75), (1, .ref 0), (0, .ref x_scr)], [], h, 98, 10728) P := by
  refine x_R.steps 5 (c' := (1341, [(3, .int i), (2, .ref 75), (1, .ref 0), (0, .ref x_scr)], [.int (i + 1), .ref x_scr, .ref 0], h, 98, 10728)) rfl ?_
  refine j_Rsld (c' := (1342, [(3, .int i), (2, .ref 75), (1, .ref 0), (0, .ref x_scr)], [.int (xs ((i + 1)).toNatClampNeg), .ref 0], h, 98, 10728)) rfl h1 ?_
  exact kk

set_option maxRecDepth 100000 in
theorem x_c36b (h : xH) (L : Nat) (xs : Nat → Int32) (i : Int32) (h0 : ¬ (i < 0 ∨ L ≤ (i).toNatClampNeg)) (h1 : ¬ (i + 1 < 0 ∨ L ≤ (i + 1).toNatClampNeg)) (h2 : ¬ (i + 2 < 0 ∨ L ≤ (i + 2).toNatClampNeg)) (h3 : ¬ (i + 3 < 0 ∨ L ≤ (i + 3).toNatClampNeg)) (h4 : ¬ (i + 4 < 0 ∨ L ≤ (i + 4).toNatClampNeg)) (h5 : ¬ (i + 5 < 0 ∨ L ≤ (i + 5).toNatClampNeg)) (v : Int32) {P : Option Value × xH × Nat × Nat → Prop} (kk : x_R x_mt (some (L, xs)) 10 M_law (1352, [(3, .int i), (2, .ref 75), (1, .ref 0), (0, .ref x_scr)], [.int (xs ((i + 1)).toNatClampNeg), .ref 75], h, 98, 10728) P) : x_R x_mt (some (L, xs)) 10 M_law (1345, [(3, .int i), (2, .ref 75), (1, .ref 0), (0, .ref x_scr)], [.int v], h, 98, 10728) P := by
  refine x_R.steps 6 (c' := (1351, [(3, .int i), (2, .ref 75), (1, .ref 0), (0, .ref x_scr)], [.int (i + 1), .ref x_scr, .ref 75], h, 98, 10728)) rfl ?_
  refine j_Rsld (c' := (1352, [(3, .int i), (2, .ref 75), (1, .ref 0), (0, .ref x_scr)], [.int (xs ((i + 1)).toNatClampNeg), .ref 75], h, 98, 10728)) rfl h1 ?_
  exact kk

set_option maxRecDepth 100000 in
theorem x_c36d (h : xH) (L : Nat) (xs : Nat → Int32) (i : Int32) (h0 : ¬ (i < 0 ∨ L ≤ (i).toNatClampNeg)) (h1 : ¬ (i + 1 < 0 ∨ L ≤ (i + 1).toNatClampNeg)) (h2 : ¬ (i + 2 < 0 ∨ L ≤ (i + 2).toNatClampNeg)) (h3 : ¬ (i + 3 < 0 ∨ L ≤ (i + 3).toNatClampNeg)) (h4 : ¬ (i + 4 < 0 ∨ L ≤ (i + 4).toNatClampNeg)) (h5 : ¬ (i + 5 < 0 ∨ L ≤ (i + 5).toNatClampNeg)) (w : Int32) {P : Option Value × xH × Nat × Nat → Prop} (kk : x_R x_mt (some (L, xs)) 10 M_law (18, [(3, .int (i + Int32.ofInt (6))), (2, .ref 75), (1, .ref 0), (0, .ref x_scr)], [], h, 98, 10728) P) : x_R x_mt (some (L, xs)) 10 M_law (1355, [(3, .int i), (2, .ref 75), (1, .ref 0), (0, .ref x_scr)], [.int w], h, 98, 10728) P := by
  refine x_R.steps 4 (c' := (18, [(3, .int (i + Int32.ofInt (6))), (2, .ref 75), (1, .ref 0), (0, .ref x_scr)], [], h, 98, 10728)) rfl ?_
  exact kk

set_option maxRecDepth 100000 in
theorem x_c37a (h : xH) (L : Nat) (xs : Nat → Int32) (i : Int32) (h0 : ¬ (i < 0 ∨ L ≤ (i).toNatClampNeg)) (h1 : ¬ (i + 1 < 0 ∨ L ≤ (i + 1).toNatClampNeg)) (h2 : ¬ (i + 2 < 0 ∨ L ≤ (i + 2).toNatClampNeg)) (h3 : ¬ (i + 3 < 0 ∨ L ≤ (i + 3).toNatClampNeg)) (h4 : ¬ (i + 4 < 0 ∨ L ≤ (i + 4).toNatClampNeg)) (h5 : ¬ (i + 5 < 0 ∨ L ≤ (i + 5).toNatClampNeg)) {P : Option Value × xH × Nat × Nat → Prop} (kk : x_R x_mt (some (L, xs)) 10 M_law (1365, [(3, .int i), (2, .ref 75), (1, .ref 0), (0, .ref x_scr)], [.int (xs ((i + 1)).toNatClampNeg), .ref 0], h, 98, 10728) P) : x_R x_mt (some (L, xs)) 10 M_law (1359, [(3, .int i), (2, .ref 75), (1, .ref 0), (0, .ref x_scr)], [], h, 98, 10728) P := by
  refine x_R.steps 5 (c' := (1364, [(3, .int i), (2, .ref 75), (1, .ref 0), (0, .ref x_scr)], [.int (i + 1), .ref x_scr, .ref 0], h, 98, 10728)) rfl ?_
  refine j_Rsld (c' := (1365, [(3, .int i), (2, .ref 75), (1, .ref 0), (0, .ref x_scr)], [.int (xs ((i + 1)).toNatClampNeg), .ref 0], h, 98, 10728)) rfl h1 ?_
  exact kk

set_option maxRecDepth 100000 in
theorem x_c37b (h : xH) (L : Nat) (xs : Nat → Int32) (i : Int32) (h0 : ¬ (i < 0 ∨ L ≤ (i).toNatClampNeg)) (h1 : ¬ (i + 1 < 0 ∨ L ≤ (i + 1).toNatClampNeg)) (h2 : ¬ (i + 2 < 0 ∨ L ≤ (i + 2).toNatClampNeg)) (h3 : ¬ (i + 3 < 0 ∨ L ≤ (i + 3).toNatClampNeg)) (h4 : ¬ (i + 4 < 0 ∨ L ≤ (i + 4).toNatClampNeg)) (h5 : ¬ (i + 5 < 0 ∨ L ≤ (i + 5).toNatClampNeg)) (v : Int32) {P : Option Value × xH × Nat × Nat → Prop} (kk : x_R x_mt (some (L, xs)) 10 M_law (1375, [(3, .int i), (2, .ref 75), (1, .ref 0), (0, .ref x_scr)], [.int (xs ((i + 1)).toNatClampNeg), .ref 75], h, 98, 10728) P) : x_R x_mt (some (L, xs)) 10 M_law (1368, [(3, .int i), (2, .ref 75), (1, .ref 0), (0, .ref x_scr)], [.int v], h, 98, 10728) P := by
  refine x_R.steps 6 (c' := (1374, [(3, .int i), (2, .ref 75), (1, .ref 0), (0, .ref x_scr)], [.int (i + 1), .ref x_scr, .ref 75], h, 98, 10728)) rfl ?_
  refine j_Rsld (c' := (1375, [(3, .int i), (2, .ref 75), (1, .ref 0), (0, .ref x_scr)], [.int (xs ((i + 1)).toNatClampNeg), .ref 75], h, 98, 10728)) rfl h1 ?_
  exact kk

set_option maxRecDepth 100000 in
theorem x_c37d (h : xH) (L : Nat) (xs : Nat → Int32) (i : Int32) (h0 : ¬ (i < 0 ∨ L ≤ (i).toNatClampNeg)) (h1 : ¬ (i + 1 < 0 ∨ L ≤ (i + 1).toNatClampNeg)) (h2 : ¬ (i + 2 < 0 ∨ L ≤ (i + 2).toNatClampNeg)) (h3 : ¬ (i + 3 < 0 ∨ L ≤ (i + 3).toNatClampNeg)) (h4 : ¬ (i + 4 < 0 ∨ L ≤ (i + 4).toNatClampNeg)) (h5 : ¬ (i + 5 < 0 ∨ L ≤ (i + 5).toNatClampNeg)) (w : Int32) {P : Option Value × xH × Nat × Nat → Prop} (kk : x_R x_mt (some (L, xs)) 10 M_law (18, [(3, .int (i + Int32.ofInt (6))), (2, .ref 75), (1, .ref 0), (0, .ref x_scr)], [], h, 98, 10728) P) : x_R x_mt (some (L, xs)) 10 M_law (1378, [(3, .int i), (2, .ref 75), (1, .ref 0), (0, .ref x_scr)], [.int w], h, 98, 10728) P := by
  refine x_R.steps 4 (c' := (18, [(3, .int (i + Int32.ofInt (6))), (2, .ref 75), (1, .ref 0), (0, .ref x_scr)], [], h, 98, 10728)) rfl ?_
  exact kk

set_option maxRecDepth 100000 in
theorem x_c38a (h : xH) (L : Nat) (xs : Nat → Int32) (i : Int32) (h0 : ¬ (i < 0 ∨ L ≤ (i).toNatClampNeg)) (h1 : ¬ (i + 1 < 0 ∨ L ≤ (i + 1).toNatClampNeg)) (h2 : ¬ (i + 2 < 0 ∨ L ≤ (i + 2).toNatClampNeg)) (h3 : ¬ (i + 3 < 0 ∨ L ≤ (i + 3).toNatClampNeg)) (h4 : ¬ (i + 4 < 0 ∨ L ≤ (i + 4).toNatClampNeg)) (h5 : ¬ (i + 5 < 0 ∨ L ≤ (i + 5).toNatClampNeg)) {P : Option Value × xH × Nat × Nat → Prop} (kk : x_R x_mt (some (L, xs)) 10 M_law (1393, [(3, .int i), (2, .ref 75), (1, .ref 0), (0, .ref x_scr)], [.int (xs ((i + 2)).toNatClampNeg), .int (xs ((i + 1)).toNatClampNeg), .ref 0], h, 98, 10728) P) : x_R x_mt (some (L, xs)) 10 M_law (1382, [(3, .int i), (2, .ref 75), (1, .ref 0), (0, .ref x_scr)], [], h, 98, 10728) P := by
  refine x_R.steps 5 (c' := (1387, [(3, .int i), (2, .ref 75), (1, .ref 0), (0, .ref x_scr)], [.int (i + 1), .ref x_scr, .ref 0], h, 98, 10728)) rfl ?_
  refine j_Rsld (c' := (1388, [(3, .int i), (2, .ref 75), (1, .ref 0), (0, .ref x_scr)], [.int (xs ((i + 1)).toNatClampNeg), .ref 0], h, 98, 10728)) rfl h1 ?_
  refine x_R.steps 4 (c' := (1392, [(3, .int i), (2, .ref 75), (1, .ref 0), (0, .ref x_scr)], [.int (i + 2), .ref x_scr, .int (xs ((i + 1)).toNatClampNeg), .ref 0], h, 98, 10728)) rfl ?_
  refine j_Rsld (c' := (1393, [(3, .int i), (2, .ref 75), (1, .ref 0), (0, .ref x_scr)], [.int (xs ((i + 2)).toNatClampNeg), .int (xs ((i + 1)).toNatClampNeg), .ref 0], h, 98, 10728)) rfl h2 ?_
  exact kk

set_option maxRecDepth 100000 in
theorem x_c38b (h : xH) (L : Nat) (xs : Nat → Int32) (i : Int32) (h0 : ¬ (i < 0 ∨ L ≤ (i).toNatClampNeg)) (h1 : ¬ (i + 1 < 0 ∨ L ≤ (i + 1).toNatClampNeg)) (h2 : ¬ (i + 2 < 0 ∨ L ≤ (i + 2).toNatClampNeg)) (h3 : ¬ (i + 3 < 0 ∨ L ≤ (i + 3).toNatClampNeg)) (h4 : ¬ (i + 4 < 0 ∨ L ≤ (i + 4).toNatClampNeg)) (h5 : ¬ (i + 5 < 0 ∨ L ≤ (i + 5).toNatClampNeg)) (v : Int32) {P : Option Value × xH × Nat × Nat → Prop} (kk : x_R x_mt (some (L, xs)) 10 M_law (1408, [(3, .int i), (2, .ref 75), (1, .ref 0), (0, .ref x_scr)], [.int (xs ((i + 2)).toNatClampNeg), .int (xs ((i + 1)).toNatClampNeg), .ref 75], h, 98, 10728) P) : x_R x_mt (some (L, xs)) 10 M_law (1396, [(3, .int i), (2, .ref 75), (1, .ref 0), (0, .ref x_scr)], [.int v], h, 98, 10728) P := by
  refine x_R.steps 6 (c' := (1402, [(3, .int i), (2, .ref 75), (1, .ref 0), (0, .ref x_scr)], [.int (i + 1), .ref x_scr, .ref 75], h, 98, 10728)) rfl ?_
  refine j_Rsld (c' := (1403, [(3, .int i), (2, .ref 75), (1, .ref 0), (0, .ref x_scr)], [.int (xs ((i + 1)).toNatClampNeg), .ref 75], h, 98, 10728)) rfl h1 ?_
  refine x_R.steps 4 (c' := (1407, [(3, .int i), (2, .ref 75), (1, .ref 0), (0, .ref x_scr)], [.int (i + 2), .ref x_scr, .int (xs ((i + 1)).toNatClampNeg), .ref 75], h, 98, 10728)) rfl ?_
  refine j_Rsld (c' := (1408, [(3, .int i), (2, .ref 75), (1, .ref 0), (0, .ref x_scr)], [.int (xs ((i + 2)).toNatClampNeg), .int (xs ((i + 1)).toNatClampNeg), .ref 75], h, 98, 10728)) rfl h2 ?_
  exact kk

set_option maxRecDepth 100000 in
theorem x_c38d (h : xH) (L : Nat) (xs : Nat → Int32) (i : Int32) (h0 : ¬ (i < 0 ∨ L ≤ (i).toNatClampNeg)) (h1 : ¬ (i + 1 < 0 ∨ L ≤ (i + 1).toNatClampNeg)) (h2 : ¬ (i + 2 < 0 ∨ L ≤ (i + 2).toNatClampNeg)) (h3 : ¬ (i + 3 < 0 ∨ L ≤ (i + 3).toNatClampNeg)) (h4 : ¬ (i + 4 < 0 ∨ L ≤ (i + 4).toNatClampNeg)) (h5 : ¬ (i + 5 < 0 ∨ L ≤ (i + 5).toNatClampNeg)) (w : Int32) {P : Option Value × xH × Nat × Nat → Prop} (kk : x_R x_mt (some (L, xs)) 10 M_law (18, [(3, .int (i + Int32.ofInt (6))), (2, .ref 75), (1, .ref 0), (0, .ref x_scr)], [], h, 98, 10728) P) : x_R x_mt (some (L, xs)) 10 M_law (1411, [(3, .int i), (2, .ref 75), (1, .ref 0), (0, .ref x_scr)], [.int w], h, 98, 10728) P := by
  refine x_R.steps 4 (c' := (18, [(3, .int (i + Int32.ofInt (6))), (2, .ref 75), (1, .ref 0), (0, .ref x_scr)], [], h, 98, 10728)) rfl ?_
  exact kk

set_option maxRecDepth 100000 in
theorem x_c39a (h : xH) (L : Nat) (xs : Nat → Int32) (i : Int32) (h0 : ¬ (i < 0 ∨ L ≤ (i).toNatClampNeg)) (h1 : ¬ (i + 1 < 0 ∨ L ≤ (i + 1).toNatClampNeg)) (h2 : ¬ (i + 2 < 0 ∨ L ≤ (i + 2).toNatClampNeg)) (h3 : ¬ (i + 3 < 0 ∨ L ≤ (i + 3).toNatClampNeg)) (h4 : ¬ (i + 4 < 0 ∨ L ≤ (i + 4).toNatClampNeg)) (h5 : ¬ (i + 5 < 0 ∨ L ≤ (i + 5).toNatClampNeg)) {P : Option Value × xH × Nat × Nat → Prop} (kk : x_R x_mt (some (L, xs)) 10 M_law (1421, [(3, .int i), (2, .ref 75), (1, .ref 0), (0, .ref x_scr)], [.int (xs ((i + 1)).toNatClampNeg), .ref 0], h, 98, 10728) P) : x_R x_mt (some (L, xs)) 10 M_law (1415, [(3, .int i), (2, .ref 75), (1, .ref 0), (0, .ref x_scr)], [], h, 98, 10728) P := by
  refine x_R.steps 5 (c' := (1420, [(3, .int i), (2, .ref 75), (1, .ref 0), (0, .ref x_scr)], [.int (i + 1), .ref x_scr, .ref 0], h, 98, 10728)) rfl ?_
  refine j_Rsld (c' := (1421, [(3, .int i), (2, .ref 75), (1, .ref 0), (0, .ref x_scr)], [.int (xs ((i + 1)).toNatClampNeg), .ref 0], h, 98, 10728)) rfl h1 ?_
  exact kk

set_option maxRecDepth 100000 in
theorem x_c39b (h : xH) (L : Nat) (xs : Nat → Int32) (i : Int32) (h0 : ¬ (i < 0 ∨ L ≤ (i).toNatClampNeg)) (h1 : ¬ (i + 1 < 0 ∨ L ≤ (i + 1).toNatClampNeg)) (h2 : ¬ (i + 2 < 0 ∨ L ≤ (i + 2).toNatClampNeg)) (h3 : ¬ (i + 3 < 0 ∨ L ≤ (i + 3).toNatClampNeg)) (h4 : ¬ (i + 4 < 0 ∨ L ≤ (i + 4).toNatClampNeg)) (h5 : ¬ (i + 5 < 0 ∨ L ≤ (i + 5).toNatClampNeg)) (v : Int32) {P : Option Value × xH × Nat × Nat → Prop} (kk : x_R x_mt (some (L, xs)) 10 M_law (1431, [(3, .int i), (2, .ref 75), (1, .ref 0), (0, .ref x_scr)], [.int (xs ((i + 1)).toNatClampNeg), .ref 75], h, 98, 10728) P) : x_R x_mt (some (L, xs)) 10 M_law (1424, [(3, .int i), (2, .ref 75), (1, .ref 0), (0, .ref x_scr)], [.int v], h, 98, 10728) P := by
  refine x_R.steps 6 (c' := (1430, [(3, .int i), (2, .ref 75), (1, .ref 0), (0, .ref x_scr)], [.int (i + 1), .ref x_scr, .ref 75], h, 98, 10728)) rfl ?_
  refine j_Rsld (c' := (1431, [(3, .int i), (2, .ref 75), (1, .ref 0), (0, .ref x_scr)], [.int (xs ((i + 1)).toNatClampNeg), .ref 75], h, 98, 10728)) rfl h1 ?_
  exact kk

set_option maxRecDepth 100000 in
theorem x_c39d (h : xH) (L : Nat) (xs : Nat → Int32) (i : Int32) (h0 : ¬ (i < 0 ∨ L ≤ (i).toNatClampNeg)) (h1 : ¬ (i + 1 < 0 ∨ L ≤ (i + 1).toNatClampNeg)) (h2 : ¬ (i + 2 < 0 ∨ L ≤ (i + 2).toNatClampNeg)) (h3 : ¬ (i + 3 < 0 ∨ L ≤ (i + 3).toNatClampNeg)) (h4 : ¬ (i + 4 < 0 ∨ L ≤ (i + 4).toNatClampNeg)) (h5 : ¬ (i + 5 < 0 ∨ L ≤ (i + 5).toNatClampNeg)) (w : Int32) {P : Option Value × xH × Nat × Nat → Prop} (kk : x_R x_mt (some (L, xs)) 10 M_law (18, [(3, .int (i + Int32.ofInt (6))), (2, .ref 75), (1, .ref 0), (0, .ref x_scr)], [], h, 98, 10728) P) : x_R x_mt (some (L, xs)) 10 M_law (1434, [(3, .int i), (2, .ref 75), (1, .ref 0), (0, .ref x_scr)], [.int w], h, 98, 10728) P := by
  refine x_R.steps 4 (c' := (18, [(3, .int (i + Int32.ofInt (6))), (2, .ref 75), (1, .ref 0), (0, .ref x_scr)], [], h, 98, 10728)) rfl ?_
  exact kk

set_option maxRecDepth 100000 in
theorem x_c40a (h : xH) (L : Nat) (xs : Nat → Int32) (i : Int32) (h0 : ¬ (i < 0 ∨ L ≤ (i).toNatClampNeg)) (h1 : ¬ (i + 1 < 0 ∨ L ≤ (i + 1).toNatClampNeg)) (h2 : ¬ (i + 2 < 0 ∨ L ≤ (i + 2).toNatClampNeg)) (h3 : ¬ (i + 3 < 0 ∨ L ≤ (i + 3).toNatClampNeg)) (h4 : ¬ (i + 4 < 0 ∨ L ≤ (i + 4).toNatClampNeg)) (h5 : ¬ (i + 5 < 0 ∨ L ≤ (i + 5).toNatClampNeg)) {P : Option Value × xH × Nat × Nat → Prop} (kk : x_R x_mt (some (L, xs)) 10 M_law (1444, [(3, .int i), (2, .ref 75), (1, .ref 0), (0, .ref x_scr)], [.int (xs ((i + 1)).toNatClampNeg), .ref 0], h, 98, 10728) P) : x_R x_mt (some (L, xs)) 10 M_law (1438, [(3, .int i), (2, .ref 75), (1, .ref 0), (0, .ref x_scr)], [], h, 98, 10728) P := by
  refine x_R.steps 5 (c' := (1443, [(3, .int i), (2, .ref 75), (1, .ref 0), (0, .ref x_scr)], [.int (i + 1), .ref x_scr, .ref 0], h, 98, 10728)) rfl ?_
  refine j_Rsld (c' := (1444, [(3, .int i), (2, .ref 75), (1, .ref 0), (0, .ref x_scr)], [.int (xs ((i + 1)).toNatClampNeg), .ref 0], h, 98, 10728)) rfl h1 ?_
  exact kk

set_option maxRecDepth 100000 in
theorem x_c40b (h : xH) (L : Nat) (xs : Nat → Int32) (i : Int32) (h0 : ¬ (i < 0 ∨ L ≤ (i).toNatClampNeg)) (h1 : ¬ (i + 1 < 0 ∨ L ≤ (i + 1).toNatClampNeg)) (h2 : ¬ (i + 2 < 0 ∨ L ≤ (i + 2).toNatClampNeg)) (h3 : ¬ (i + 3 < 0 ∨ L ≤ (i + 3).toNatClampNeg)) (h4 : ¬ (i + 4 < 0 ∨ L ≤ (i + 4).toNatClampNeg)) (h5 : ¬ (i + 5 < 0 ∨ L ≤ (i + 5).toNatClampNeg)) (v : Int32) {P : Option Value × xH × Nat × Nat → Prop} (kk : x_R x_mt (some (L, xs)) 10 M_law (1454, [(3, .int i), (2, .ref 75), (1, .ref 0), (0, .ref x_scr)], [.int (xs ((i + 1)).toNatClampNeg), .ref 75], h, 98, 10728) P) : x_R x_mt (some (L, xs)) 10 M_law (1447, [(3, .int i), (2, .ref 75), (1, .ref 0), (0, .ref x_scr)], [.int v], h, 98, 10728) P := by
  refine x_R.steps 6 (c' := (1453, [(3, .int i), (2, .ref 75), (1, .ref 0), (0, .ref x_scr)], [.int (i + 1), .ref x_scr, .ref 75], h, 98, 10728)) rfl ?_
  refine j_Rsld (c' := (1454, [(3, .int i), (2, .ref 75), (1, .ref 0), (0, .ref x_scr)], [.int (xs ((i + 1)).toNatClampNeg), .ref 75], h, 98, 10728)) rfl h1 ?_
  exact kk

set_option maxRecDepth 100000 in
theorem x_c40d (h : xH) (L : Nat) (xs : Nat → Int32) (i : Int32) (h0 : ¬ (i < 0 ∨ L ≤ (i).toNatClampNeg)) (h1 : ¬ (i + 1 < 0 ∨ L ≤ (i + 1).toNatClampNeg)) (h2 : ¬ (i + 2 < 0 ∨ L ≤ (i + 2).toNatClampNeg)) (h3 : ¬ (i + 3 < 0 ∨ L ≤ (i + 3).toNatClampNeg)) (h4 : ¬ (i + 4 < 0 ∨ L ≤ (i + 4).toNatClampNeg)) (h5 : ¬ (i + 5 < 0 ∨ L ≤ (i + 5).toNatClampNeg)) (w : Int32) {P : Option Value × xH × Nat × Nat → Prop} (kk : x_R x_mt (some (L, xs)) 10 M_law (18, [(3, .int (i + Int32.ofInt (6))), (2, .ref 75), (1, .ref 0), (0, .ref x_scr)], [], h, 98, 10728) P) : x_R x_mt (some (L, xs)) 10 M_law (1457, [(3, .int i), (2, .ref 75), (1, .ref 0), (0, .ref x_scr)], [.int w], h, 98, 10728) P := by
  refine x_R.steps 4 (c' := (18, [(3, .int (i + Int32.ofInt (6))), (2, .ref 75), (1, .ref 0), (0, .ref x_scr)], [], h, 98, 10728)) rfl ?_
  exact kk

set_option maxRecDepth 100000 in
theorem x_c41a (h : xH) (L : Nat) (xs : Nat → Int32) (i : Int32) (h0 : ¬ (i < 0 ∨ L ≤ (i).toNatClampNeg)) (h1 : ¬ (i + 1 < 0 ∨ L ≤ (i + 1).toNatClampNeg)) (h2 : ¬ (i + 2 < 0 ∨ L ≤ (i + 2).toNatClampNeg)) (h3 : ¬ (i + 3 < 0 ∨ L ≤ (i + 3).toNatClampNeg)) (h4 : ¬ (i + 4 < 0 ∨ L ≤ (i + 4).toNatClampNeg)) (h5 : ¬ (i + 5 < 0 ∨ L ≤ (i + 5).toNatClampNeg)) {P : Option Value × xH × Nat × Nat → Prop} (kk : x_R x_mt (some (L, xs)) 10 M_law (1462, [(3, .int i), (2, .ref 75), (1, .ref 0), (0, .ref x_scr)], [.ref 0], h, 98, 10728) P) : x_R x_mt (some (L, xs)) 10 M_law (1461, [(3, .int i), (2, .ref 75), (1, .ref 0), (0, .ref x_scr)], [], h, 98, 10728) P := by
  refine x_R.steps 1 (c' := (1462, [(3, .int i), (2, .ref 75), (1, .ref 0), (0, .ref x_scr)], [.ref 0], h, 98, 10728)) rfl ?_
  exact kk

set_option maxRecDepth 100000 in
theorem x_c41b (h : xH) (L : Nat) (xs : Nat → Int32) (i : Int32) (h0 : ¬ (i < 0 ∨ L ≤ (i).toNatClampNeg)) (h1 : ¬ (i + 1 < 0 ∨ L ≤ (i + 1).toNatClampNeg)) (h2 : ¬ (i + 2 < 0 ∨ L ≤ (i + 2).toNatClampNeg)) (h3 : ¬ (i + 3 < 0 ∨ L ≤ (i + 3).toNatClampNeg)) (h4 : ¬ (i + 4 < 0 ∨ L ≤ (i + 4).toNatClampNeg)) (h5 : ¬ (i + 5 < 0 ∨ L ≤ (i + 5).toNatClampNeg)) (v : Int32) {P : Option Value × xH × Nat × Nat → Prop} (kk : x_R x_mt (some (L, xs)) 10 M_law (1467, [(3, .int i), (2, .ref 75), (1, .ref 0), (0, .ref x_scr)], [.ref 75], h, 98, 10728) P) : x_R x_mt (some (L, xs)) 10 M_law (1465, [(3, .int i), (2, .ref 75), (1, .ref 0), (0, .ref x_scr)], [.int v], h, 98, 10728) P := by
  refine x_R.steps 2 (c' := (1467, [(3, .int i), (2, .ref 75), (1, .ref 0), (0, .ref x_scr)], [.ref 75], h, 98, 10728)) rfl ?_
  exact kk

set_option maxRecDepth 100000 in
theorem x_c41d (h : xH) (L : Nat) (xs : Nat → Int32) (i : Int32) (h0 : ¬ (i < 0 ∨ L ≤ (i).toNatClampNeg)) (h1 : ¬ (i + 1 < 0 ∨ L ≤ (i + 1).toNatClampNeg)) (h2 : ¬ (i + 2 < 0 ∨ L ≤ (i + 2).toNatClampNeg)) (h3 : ¬ (i + 3 < 0 ∨ L ≤ (i + 3).toNatClampNeg)) (h4 : ¬ (i + 4 < 0 ∨ L ≤ (i + 4).toNatClampNeg)) (h5 : ¬ (i + 5 < 0 ∨ L ≤ (i + 5).toNatClampNeg)) (w : Int32) {P : Option Value × xH × Nat × Nat → Prop} (kk : x_R x_mt (some (L, xs)) 10 M_law (18, [(3, .int (i + Int32.ofInt (6))), (2, .ref 75), (1, .ref 0), (0, .ref x_scr)], [], h, 98, 10728) P) : x_R x_mt (some (L, xs)) 10 M_law (1470, [(3, .int i), (2, .ref 75), (1, .ref 0), (0, .ref x_scr)], [.int w], h, 98, 10728) P := by
  refine x_R.steps 4 (c' := (18, [(3, .int (i + Int32.ofInt (6))), (2, .ref 75), (1, .ref 0), (0, .ref x_scr)], [], h, 98, 10728)) rfl ?_
  exact kk

set_option maxRecDepth 100000 in
theorem x_c42a (h : xH) (L : Nat) (xs : Nat → Int32) (i : Int32) (h0 : ¬ (i < 0 ∨ L ≤ (i).toNatClampNeg)) (h1 : ¬ (i + 1 < 0 ∨ L ≤ (i + 1).toNatClampNeg)) (h2 : ¬ (i + 2 < 0 ∨ L ≤ (i + 2).toNatClampNeg)) (h3 : ¬ (i + 3 < 0 ∨ L ≤ (i + 3).toNatClampNeg)) (h4 : ¬ (i + 4 < 0 ∨ L ≤ (i + 4).toNatClampNeg)) (h5 : ¬ (i + 5 < 0 ∨ L ≤ (i + 5).toNatClampNeg)) {P : Option Value × xH × Nat × Nat → Prop} (kk : x_R x_mt (some (L, xs)) 10 M_law (1480, [(3, .int i), (2, .ref 75), (1, .ref 0), (0, .ref x_scr)], [.int (xs ((i + 1)).toNatClampNeg), .ref 0], h, 98, 10728) P) : x_R x_mt (some (L, xs)) 10 M_law (1474, [(3, .int i), (2, .ref 75), (1, .ref 0), (0, .ref x_scr)], [], h, 98, 10728) P := by
  refine x_R.steps 5 (c' := (1479, [(3, .int i), (2, .ref 75), (1, .ref 0), (0, .ref x_scr)], [.int (i + 1), .ref x_scr, .ref 0], h, 98, 10728)) rfl ?_
  refine j_Rsld (c' := (1480, [(3, .int i), (2, .ref 75), (1, .ref 0), (0, .ref x_scr)], [.int (xs ((i + 1)).toNatClampNeg), .ref 0], h, 98, 10728)) rfl h1 ?_
  exact kk

set_option maxRecDepth 100000 in
theorem x_c42b (h : xH) (L : Nat) (xs : Nat → Int32) (i : Int32) (h0 : ¬ (i < 0 ∨ L ≤ (i).toNatClampNeg)) (h1 : ¬ (i + 1 < 0 ∨ L ≤ (i + 1).toNatClampNeg)) (h2 : ¬ (i + 2 < 0 ∨ L ≤ (i + 2).toNatClampNeg)) (h3 : ¬ (i + 3 < 0 ∨ L ≤ (i + 3).toNatClampNeg)) (h4 : ¬ (i + 4 < 0 ∨ L ≤ (i + 4).toNatClampNeg)) (h5 : ¬ (i + 5 < 0 ∨ L ≤ (i + 5).toNatClampNeg)) (v : Int32) {P : Option Value × xH × Nat × Nat → Prop} (kk : x_R x_mt (some (L, xs)) 10 M_law (1490, [(3, .int i), (2, .ref 75), (1, .ref 0), (0, .ref x_scr)], [.int (xs ((i + 1)).toNatClampNeg), .ref 75], h, 98, 10728) P) : x_R x_mt (some (L, xs)) 10 M_law (1483, [(3, .int i), (2, .ref 75), (1, .ref 0), (0, .ref x_scr)], [.int v], h, 98, 10728) P := by
  refine x_R.steps 6 (c' := (1489, [(3, .int i), (2, .ref 75), (1, .ref 0), (0, .ref x_scr)], [.int (i + 1), .ref x_scr, .ref 75], h, 98, 10728)) rfl ?_
  refine j_Rsld (c' := (1490, [(3, .int i), (2, .ref 75), (1, .ref 0), (0, .ref x_scr)], [.int (xs ((i + 1)).toNatClampNeg), .ref 75], h, 98, 10728)) rfl h1 ?_
  exact kk

set_option maxRecDepth 100000 in
theorem x_c42d (h : xH) (L : Nat) (xs : Nat → Int32) (i : Int32) (h0 : ¬ (i < 0 ∨ L ≤ (i).toNatClampNeg)) (h1 : ¬ (i + 1 < 0 ∨ L ≤ (i + 1).toNatClampNeg)) (h2 : ¬ (i + 2 < 0 ∨ L ≤ (i + 2).toNatClampNeg)) (h3 : ¬ (i + 3 < 0 ∨ L ≤ (i + 3).toNatClampNeg)) (h4 : ¬ (i + 4 < 0 ∨ L ≤ (i + 4).toNatClampNeg)) (h5 : ¬ (i + 5 < 0 ∨ L ≤ (i + 5).toNatClampNeg)) (w : Int32) {P : Option Value × xH × Nat × Nat → Prop} (kk : x_R x_mt (some (L, xs)) 10 M_law (18, [(3, .int (i + Int32.ofInt (6))), (2, .ref 75), (1, .ref 0), (0, .ref x_scr)], [], h, 98, 10728) P) : x_R x_mt (some (L, xs)) 10 M_law (1493, [(3, .int i), (2, .ref 75), (1, .ref 0), (0, .ref x_scr)], [.int w], h, 98, 10728) P := by
  refine x_R.steps 4 (c' := (18, [(3, .int (i + Int32.ofInt (6))), (2, .ref 75), (1, .ref 0), (0, .ref x_scr)], [], h, 98, 10728)) rfl ?_
  exact kk

set_option maxRecDepth 100000 in
theorem x_c43a (h : xH) (L : Nat) (xs : Nat → Int32) (i : Int32) (h0 : ¬ (i < 0 ∨ L ≤ (i).toNatClampNeg)) (h1 : ¬ (i + 1 < 0 ∨ L ≤ (i + 1).toNatClampNeg)) (h2 : ¬ (i + 2 < 0 ∨ L ≤ (i + 2).toNatClampNeg)) (h3 : ¬ (i + 3 < 0 ∨ L ≤ (i + 3).toNatClampNeg)) (h4 : ¬ (i + 4 < 0 ∨ L ≤ (i + 4).toNatClampNeg)) (h5 : ¬ (i + 5 < 0 ∨ L ≤ (i + 5).toNatClampNeg)) {P : Option Value × xH × Nat × Nat → Prop} (kk : x_R x_mt (some (L, xs)) 10 M_law (1508, [(3, .int i), (2, .ref 75), (1, .ref 0), (0, .ref x_scr)], [.int (xs ((i + 2)).toNatClampNeg), .int (xs ((i + 1)).toNatClampNeg), .ref 0], h, 98, 10728) P) : x_R x_mt (some (L, xs)) 10 M_law (1497, [(3, .int i), (2, .ref 75), (1, .ref 0), (0, .ref x_scr)], [], h, 98, 10728) P := by
  refine x_R.steps 5 (c' := (1502, [(3, .int i), (2, .ref 75), (1, .ref 0), (0, .ref x_scr)], [.int (i + 1), .ref x_scr, .ref 0], h, 98, 10728)) rfl ?_
  refine j_Rsld (c' := (1503, [(3, .int i), (2, .ref 75), (1, .ref 0), (0, .ref x_scr)], [.int (xs ((i + 1)).toNatClampNeg), .ref 0], h, 98, 10728)) rfl h1 ?_
  refine x_R.steps 4 (c' := (1507, [(3, .int i), (2, .ref 75), (1, .ref 0), (0, .ref x_scr)], [.int (i + 2), .ref x_scr, .int (xs ((i + 1)).toNatClampNeg), .ref 0], h, 98, 10728)) rfl ?_
  refine j_Rsld (c' := (1508, [(3, .int i), (2, .ref 75), (1, .ref 0), (0, .ref x_scr)], [.int (xs ((i + 2)).toNatClampNeg), .int (xs ((i + 1)).toNatClampNeg), .ref 0], h, 98, 10728)) rfl h2 ?_
  exact kk

set_option maxRecDepth 100000 in
theorem x_c43b (h : xH) (L : Nat) (xs : Nat → Int32) (i : Int32) (h0 : ¬ (i < 0 ∨ L ≤ (i).toNatClampNeg)) (h1 : ¬ (i + 1 < 0 ∨ L ≤ (i + 1).toNatClampNeg)) (h2 : ¬ (i + 2 < 0 ∨ L ≤ (i + 2).toNatClampNeg)) (h3 : ¬ (i + 3 < 0 ∨ L ≤ (i + 3).toNatClampNeg)) (h4 : ¬ (i + 4 < 0 ∨ L ≤ (i + 4).toNatClampNeg)) (h5 : ¬ (i + 5 < 0 ∨ L ≤ (i + 5).toNatClampNeg)) (v : Int32) {P : Option Value × xH × Nat × Nat → Prop} (kk : x_R x_mt (some (L, xs)) 10 M_law (1523, [(3, .int i), (2, .ref 75), (1, .ref 0), (0, .ref x_scr)], [.int (xs ((i + 2)).toNatClampNeg), .int (xs ((i + 1)).toNatClampNeg), .ref 75], h, 98, 10728) P) : x_R x_mt (some (L, xs)) 10 M_law (1511, [(3, .int i), (2, .ref 75), (1, .ref 0), (0, .ref x_scr)], [.int v], h, 98, 10728) P := by
  refine x_R.steps 6 (c' := (1517, [(3, .int i), (2, .ref 75), (1, .ref 0), (0, .ref x_scr)], [.int (i + 1), .ref x_scr, .ref 75], h, 98, 10728)) rfl ?_
  refine j_Rsld (c' := (1518, [(3, .int i), (2, .ref 75), (1, .ref 0), (0, .ref x_scr)], [.int (xs ((i + 1)).toNatClampNeg), .ref 75], h, 98, 10728)) rfl h1 ?_
  refine x_R.steps 4 (c' := (1522, [(3, .int i), (2, .ref 75), (1, .ref 0), (0, .ref x_scr)], [.int (i + 2), .ref x_scr, .int (xs ((i + 1)).toNatClampNeg), .ref 75], h, 98, 10728)) rfl ?_
  refine j_Rsld (c' := (1523, [(3, .int i), (2, .ref 75), (1, .ref 0), (0, .ref x_scr)], [.int (xs ((i + 2)).toNatClampNeg), .int (xs ((i + 1)).toNatClampNeg), .ref 75], h, 98, 10728)) rfl h2 ?_
  exact kk

set_option maxRecDepth 100000 in
theorem x_c43d (h : xH) (L : Nat) (xs : Nat → Int32) (i : Int32) (h0 : ¬ (i < 0 ∨ L ≤ (i).toNatClampNeg)) (h1 : ¬ (i + 1 < 0 ∨ L ≤ (i + 1).toNatClampNeg)) (h2 : ¬ (i + 2 < 0 ∨ L ≤ (i + 2).toNatClampNeg)) (h3 : ¬ (i + 3 < 0 ∨ L ≤ (i + 3).toNatClampNeg)) (h4 : ¬ (i + 4 < 0 ∨ L ≤ (i + 4).toNatClampNeg)) (h5 : ¬ (i + 5 < 0 ∨ L ≤ (i + 5).toNatClampNeg)) (w : Int32) {P : Option Value × xH × Nat × Nat → Prop} (kk : x_R x_mt (some (L, xs)) 10 M_law (18, [(3, .int (i + Int32.ofInt (6))), (2, .ref 75), (1, .ref 0), (0, .ref x_scr)], [], h, 98, 10728) P) : x_R x_mt (some (L, xs)) 10 M_law (1526, [(3, .int i), (2, .ref 75), (1, .ref 0), (0, .ref x_scr)], [.int w], h, 98, 10728) P := by
  refine x_R.steps 4 (c' := (18, [(3, .int (i + Int32.ofInt (6))), (2, .ref 75), (1, .ref 0), (0, .ref x_scr)], [], h, 98, 10728)) rfl ?_
  exact kk

set_option maxRecDepth 100000 in
theorem x_c44a (h : xH) (L : Nat) (xs : Nat → Int32) (i : Int32) (h0 : ¬ (i < 0 ∨ L ≤ (i).toNatClampNeg)) (h1 : ¬ (i + 1 < 0 ∨ L ≤ (i + 1).toNatClampNeg)) (h2 : ¬ (i + 2 < 0 ∨ L ≤ (i + 2).toNatClampNeg)) (h3 : ¬ (i + 3 < 0 ∨ L ≤ (i + 3).toNatClampNeg)) (h4 : ¬ (i + 4 < 0 ∨ L ≤ (i + 4).toNatClampNeg)) (h5 : ¬ (i + 5 < 0 ∨ L ≤ (i + 5).toNatClampNeg)) {P : Option Value × xH × Nat × Nat → Prop} (kk : x_R x_mt (some (L, xs)) 10 M_law (1536, [(3, .int i), (2, .ref 75), (1, .ref 0), (0, .ref x_scr)], [.int (xs ((i + 1)).toNatClampNeg), .ref 0], h, 98, 10728) P) : x_R x_mt (some (L, xs)) 10 M_law (1530, [(3, .int i), (2, .ref 75), (1, .ref 0), (0, .ref x_scr)], [], h, 98, 10728) P := by
  refine x_R.steps 5 (c' := (1535, [(3, .int i), (2, .ref 75), (1, .ref 0), (0, .ref x_scr)], [.int (i + 1), .ref x_scr, .ref 0], h, 98, 10728)) rfl ?_
  refine j_Rsld (c' := (1536, [(3, .int i), (2, .ref 75), (1, .ref 0), (0, .ref x_scr)], [.int (xs ((i + 1)).toNatClampNeg), .ref 0], h, 98, 10728)) rfl h1 ?_
  exact kk

set_option maxRecDepth 100000 in
theorem x_c44b (h : xH) (L : Nat) (xs : Nat → Int32) (i : Int32) (h0 : ¬ (i < 0 ∨ L ≤ (i).toNatClampNeg)) (h1 : ¬ (i + 1 < 0 ∨ L ≤ (i + 1).toNatClampNeg)) (h2 : ¬ (i + 2 < 0 ∨ L ≤ (i + 2).toNatClampNeg)) (h3 : ¬ (i + 3 < 0 ∨ L ≤ (i + 3).toNatClampNeg)) (h4 : ¬ (i + 4 < 0 ∨ L ≤ (i + 4).toNatClampNeg)) (h5 : ¬ (i + 5 < 0 ∨ L ≤ (i + 5).toNatClampNeg)) (v : Int32) {P : Option Value × xH × Nat × Nat → Prop} (kk : x_R x_mt (some (L, xs)) 10 M_law (1546, [(3, .int i), (2, .ref 75), (1, .ref 0), (0, .ref x_scr)], [.int (xs ((i + 1)).toNatClampNeg), .ref 75], h, 98, 10728) P) : x_R x_mt (some (L, xs)) 10 M_law (1539, [(3, .int i), (2, .ref 75), (1, .ref 0), (0, .ref x_scr)], [.int v], h, 98, 10728) P := by
  refine x_R.steps 6 (c' := (1545, [(3, .int i), (2, .ref 75), (1, .ref 0), (0, .ref x_scr)], [.int (i + 1), .ref x_scr, .ref 75], h, 98, 10728)) rfl ?_
  refine j_Rsld (c' := (1546, [(3, .int i), (2, .ref 75), (1, .ref 0), (0, .ref x_scr)], [.int (xs ((i + 1)).toNatClampNeg), .ref 75], h, 98, 10728)) rfl h1 ?_
  exact kk

set_option maxRecDepth 100000 in
theorem x_c44d (h : xH) (L : Nat) (xs : Nat → Int32) (i : Int32) (h0 : ¬ (i < 0 ∨ L ≤ (i).toNatClampNeg)) (h1 : ¬ (i + 1 < 0 ∨ L ≤ (i + 1).toNatClampNeg)) (h2 : ¬ (i + 2 < 0 ∨ L ≤ (i + 2).toNatClampNeg)) (h3 : ¬ (i + 3 < 0 ∨ L ≤ (i + 3).toNatClampNeg)) (h4 : ¬ (i + 4 < 0 ∨ L ≤ (i + 4).toNatClampNeg)) (h5 : ¬ (i + 5 < 0 ∨ L ≤ (i + 5).toNatClampNeg)) (w : Int32) {P : Option Value × xH × Nat × Nat → Prop} (kk : x_R x_mt (some (L, xs)) 10 M_law (18, [(3, .int (i + Int32.ofInt (6))), (2, .ref 75), (1, .ref 0), (0, .ref x_scr)], [], h, 98, 10728) P) : x_R x_mt (some (L, xs)) 10 M_law (1549, [(3, .int i), (2, .ref 75), (1, .ref 0), (0, .ref x_scr)], [.int w], h, 98, 10728) P := by
  refine x_R.steps 4 (c' := (18, [(3, .int (i + Int32.ofInt (6))), (2, .ref 75), (1, .ref 0), (0, .ref x_scr)], [], h, 98, 10728)) rfl ?_
  exact kk

set_option maxRecDepth 100000 in
theorem x_c45a (h : xH) (L : Nat) (xs : Nat → Int32) (i : Int32) (h0 : ¬ (i < 0 ∨ L ≤ (i).toNatClampNeg)) (h1 : ¬ (i + 1 < 0 ∨ L ≤ (i + 1).toNatClampNeg)) (h2 : ¬ (i + 2 < 0 ∨ L ≤ (i + 2).toNatClampNeg)) (h3 : ¬ (i + 3 < 0 ∨ L ≤ (i + 3).toNatClampNeg)) (h4 : ¬ (i + 4 < 0 ∨ L ≤ (i + 4).toNatClampNeg)) (h5 : ¬ (i + 5 < 0 ∨ L ≤ (i + 5).toNatClampNeg)) {P : Option Value × xH × Nat × Nat → Prop} (kk : x_R x_mt (some (L, xs)) 10 M_law (1569, [(3, .int i), (2, .ref 75), (1, .ref 0), (0, .ref x_scr)], [.int (xs ((i + 3)).toNatClampNeg), .int (xs ((i + 2)).toNatClampNeg), .int (xs ((i + 1)).toNatClampNeg), .ref 0], h, 98, 10728) P) : x_R x_mt (some (L, xs)) 10 M_law (1553, [(3, .int i), (2, .ref 75), (1, .ref 0), (0, .ref x_scr)], [], h, 98, 10728) P := by
  refine x_R.steps 5 (c' := (1558, [(3, .int i), (2, .ref 75), (1, .ref 0), (0, .ref x_scr)], [.int (i + 1), .ref x_scr, .ref 0], h, 98, 10728)) rfl ?_
  refine j_Rsld (c' := (1559, [(3, .int i), (2, .ref 75), (1, .ref 0), (0, .ref x_scr)], [.int (xs ((i + 1)).toNatClampNeg), .ref 0], h, 98, 10728)) rfl h1 ?_
  refine x_R.steps 4 (c' := (1563, [(3, .int i), (2, .ref 75), (1, .ref 0), (0, .ref x_scr)], [.int (i + 2), .ref x_scr, .int (xs ((i + 1)).toNatClampNeg), .ref 0], h, 98, 10728)) rfl ?_
  refine j_Rsld (c' := (1564, [(3, .int i), (2, .ref 75), (1, .ref 0), (0, .ref x_scr)], [.int (xs ((i + 2)).toNatClampNeg), .int (xs ((i + 1)).toNatClampNeg), .ref 0], h, 98, 10728)) rfl h2 ?_
  refine x_R.steps 4 (c' := (1568, [(3, .int i), (2, .ref 75), (1, .ref 0), (0, .ref x_scr)], [.int (i + 3), .ref x_scr, .int (xs ((i + 2)).toNatClampNeg), .int (xs ((i + 1)).toNatClampNeg), .ref 0], h, 98, 10728)) rfl ?_
  refine j_Rsld (c' := (1569, [(3, .int i), (2, .ref 75), (1, .ref 0), (0, .ref x_scr)], [.int (xs ((i + 3)).toNatClampNeg), .int (xs ((i + 2)).toNatClampNeg), .int (xs ((i + 1)).toNatClampNeg), .ref 0], h, 98, 10728)) rfl h3 ?_
  exact kk

set_option maxRecDepth 100000 in
theorem x_c45b (h : xH) (L : Nat) (xs : Nat → Int32) (i : Int32) (h0 : ¬ (i < 0 ∨ L ≤ (i).toNatClampNeg)) (h1 : ¬ (i + 1 < 0 ∨ L ≤ (i + 1).toNatClampNeg)) (h2 : ¬ (i + 2 < 0 ∨ L ≤ (i + 2).toNatClampNeg)) (h3 : ¬ (i + 3 < 0 ∨ L ≤ (i + 3).toNatClampNeg)) (h4 : ¬ (i + 4 < 0 ∨ L ≤ (i + 4).toNatClampNeg)) (h5 : ¬ (i + 5 < 0 ∨ L ≤ (i + 5).toNatClampNeg)) (v : Int32) {P : Option Value × xH × Nat × Nat → Prop} (kk : x_R x_mt (some (L, xs)) 10 M_law (1589, [(3, .int i), (2, .ref 75), (1, .ref 0), (0, .ref x_scr)], [.int (xs ((i + 3)).toNatClampNeg), .int (xs ((i + 2)).toNatClampNeg), .int (xs ((i + 1)).toNatClampNeg), .ref 75], h, 98, 10728) P) : x_R x_mt (some (L, xs)) 10 M_law (1572, [(3, .int i), (2, .ref 75), (1, .ref 0), (0, .ref x_scr)], [.int v], h, 98, 10728) P := by
  refine x_R.steps 6 (c' := (1578, [(3, .int i), (2, .ref 75), (1, .ref 0), (0, .ref x_scr)], [.int (i + 1), .ref x_scr, .ref 75], h, 98, 10728)) rfl ?_
  refine j_Rsld (c' := (1579, [(3, .int i), (2, .ref 75), (1, .ref 0), (0, .ref x_scr)], [.int (xs ((i + 1)).toNatClampNeg), .ref 75], h, 98, 10728)) rfl h1 ?_
  refine x_R.steps 4 (c' := (1583, [(3, .int i), (2, .ref 75), (1, .ref 0), (0, .ref x_scr)], [.int (i + 2), .ref x_scr, .int (xs ((i + 1)).toNatClampNeg), .ref 75], h, 98, 10728)) rfl ?_
  refine j_Rsld (c' := (1584, [(3, .int i), (2, .ref 75), (1, .ref 0), (0, .ref x_scr)], [.int (xs ((i + 2)).toNatClampNeg), .int (xs ((i + 1)).toNatClampNeg), .ref 75], h, 98, 10728)) rfl h2 ?_
  refine x_R.steps 4 (c' := (1588, [(3, .int i), (2, .ref 75), (1, .ref 0), (0, .ref x_scr)], [.int (i + 3), .ref x_scr, .int (xs ((i + 2)).toNatClampNeg), .int (xs ((i + 1)).toNatClampNeg), .ref 75], h, 98, 10728)) rfl ?_
  refine j_Rsld (c' := (1589, [(3, .int i), (2, .ref 75), (1, .ref 0), (0, .ref x_scr)], [.int (xs ((i + 3)).toNatClampNeg), .int (xs ((i + 2)).toNatClampNeg), .int (xs ((i + 1)).toNatClampNeg), .ref 75], h, 98, 10728)) rfl h3 ?_
  exact kk

set_option maxRecDepth 100000 in
theorem x_c45d (h : xH) (L : Nat) (xs : Nat → Int32) (i : Int32) (h0 : ¬ (i < 0 ∨ L ≤ (i).toNatClampNeg)) (h1 : ¬ (i + 1 < 0 ∨ L ≤ (i + 1).toNatClampNeg)) (h2 : ¬ (i + 2 < 0 ∨ L ≤ (i + 2).toNatClampNeg)) (h3 : ¬ (i + 3 < 0 ∨ L ≤ (i + 3).toNatClampNeg)) (h4 : ¬ (i + 4 < 0 ∨ L ≤ (i + 4).toNatClampNeg)) (h5 : ¬ (i + 5 < 0 ∨ L ≤ (i + 5).toNatClampNeg)) (w : Int32) {P : Option Value × xH × Nat × Nat → Prop} (kk : x_R x_mt (some (L, xs)) 10 M_law (18, [(3, .int (i + Int32.ofInt (6))), (2, .ref 75), (1, .ref 0), (0, .ref x_scr)], [], h, 98, 10728) P) : x_R x_mt (some (L, xs)) 10 M_law (1592, [(3, .int i), (2, .ref 75), (1, .ref 0), (0, .ref x_scr)], [.int w], h, 98, 10728) P := by
  refine x_R.steps 4 (c' := (18, [(3, .int (i + Int32.ofInt (6))), (2, .ref 75), (1, .ref 0), (0, .ref x_scr)], [], h, 98, 10728)) rfl ?_
  exact kk

set_option maxRecDepth 100000 in
theorem x_c46a (h : xH) (L : Nat) (xs : Nat → Int32) (i : Int32) (h0 : ¬ (i < 0 ∨ L ≤ (i).toNatClampNeg)) (h1 : ¬ (i + 1 < 0 ∨ L ≤ (i + 1).toNatClampNeg)) (h2 : ¬ (i + 2 < 0 ∨ L ≤ (i + 2).toNatClampNeg)) (h3 : ¬ (i + 3 < 0 ∨ L ≤ (i + 3).toNatClampNeg)) (h4 : ¬ (i + 4 < 0 ∨ L ≤ (i + 4).toNatClampNeg)) (h5 : ¬ (i + 5 < 0 ∨ L ≤ (i + 5).toNatClampNeg)) {P : Option Value × xH × Nat × Nat → Prop} (kk : x_R x_mt (some (L, xs)) 10 M_law (1602, [(3, .int i), (2, .ref 75), (1, .ref 0), (0, .ref x_scr)], [.int (xs ((i + 1)).toNatClampNeg), .ref 0], h, 98, 10728) P) : x_R x_mt (some (L, xs)) 10 M_law (1596, [(3, .int i), (2, .ref 75), (1, .ref 0), (0, .ref x_scr)], [], h, 98, 10728) P := by
  refine x_R.steps 5 (c' := (1601, [(3, .int i), (2, .ref 75), (1, .ref 0), (0, .ref x_scr)], [.int (i + 1), .ref x_scr, .ref 0], h, 98, 10728)) rfl ?_
  refine j_Rsld (c' := (1602, [(3, .int i), (2, .ref 75), (1, .ref 0), (0, .ref x_scr)], [.int (xs ((i + 1)).toNatClampNeg), .ref 0], h, 98, 10728)) rfl h1 ?_
  exact kk

set_option maxRecDepth 100000 in
theorem x_c46b (h : xH) (L : Nat) (xs : Nat → Int32) (i : Int32) (h0 : ¬ (i < 0 ∨ L ≤ (i).toNatClampNeg)) (h1 : ¬ (i + 1 < 0 ∨ L ≤ (i + 1).toNatClampNeg)) (h2 : ¬ (i + 2 < 0 ∨ L ≤ (i + 2).toNatClampNeg)) (h3 : ¬ (i + 3 < 0 ∨ L ≤ (i + 3).toNatClampNeg)) (h4 : ¬ (i + 4 < 0 ∨ L ≤ (i + 4).toNatClampNeg)) (h5 : ¬ (i + 5 < 0 ∨ L ≤ (i + 5).toNatClampNeg)) (v : Int32) {P : Option Value × xH × Nat × Nat → Prop} (kk : x_R x_mt (some (L, xs)) 10 M_law (1612, [(3, .int i), (2, .ref 75), (1, .ref 0), (0, .ref x_scr)], [.int (xs ((i + 1)).toNatClampNeg), .ref 75], h, 98, 10728) P) : x_R x_mt (some (L, xs)) 10 M_law (1605, [(3, .int i), (2, .ref 75), (1, .ref 0), (0, .ref x_scr)], [.int v], h, 98, 10728) P := by
  refine x_R.steps 6 (c' := (1611, [(3, .int i), (2, .ref 75), (1, .ref 0), (0, .ref x_scr)], [.int (i + 1), .ref x_scr, .ref 75], h, 98, 10728)) rfl ?_
  refine j_Rsld (c' := (1612, [(3, .int i), (2, .ref 75), (1, .ref 0), (0, .ref x_scr)], [.int (xs ((i + 1)).toNatClampNeg), .ref 75], h, 98, 10728)) rfl h1 ?_
  exact kk

set_option maxRecDepth 100000 in
theorem x_c46d (h : xH) (L : Nat) (xs : Nat → Int32) (i : Int32) (h0 : ¬ (i < 0 ∨ L ≤ (i).toNatClampNeg)) (h1 : ¬ (i + 1 < 0 ∨ L ≤ (i + 1).toNatClampNeg)) (h2 : ¬ (i + 2 < 0 ∨ L ≤ (i + 2).toNatClampNeg)) (h3 : ¬ (i + 3 < 0 ∨ L ≤ (i + 3).toNatClampNeg)) (h4 : ¬ (i + 4 < 0 ∨ L ≤ (i + 4).toNatClampNeg)) (h5 : ¬ (i + 5 < 0 ∨ L ≤ (i + 5).toNatClampNeg)) (w : Int32) {P : Option Value × xH × Nat × Nat → Prop} (kk : x_R x_mt (some (L, xs)) 10 M_law (18, [(3, .int (i + Int32.ofInt (6))), (2, .ref 75), (1, .ref 0), (0, .ref x_scr)], [], h, 98, 10728) P) : x_R x_mt (some (L, xs)) 10 M_law (1615, [(3, .int i), (2, .ref 75), (1, .ref 0), (0, .ref x_scr)], [.int w], h, 98, 10728) P := by
  refine x_R.steps 4 (c' := (18, [(3, .int (i + Int32.ofInt (6))), (2, .ref 75), (1, .ref 0), (0, .ref x_scr)], [], h, 98, 10728)) rfl ?_
  exact kk

set_option maxRecDepth 100000 in
theorem x_c47a (h : xH) (L : Nat) (xs : Nat → Int32) (i : Int32) (h0 : ¬ (i < 0 ∨ L ≤ (i).toNatClampNeg)) (h1 : ¬ (i + 1 < 0 ∨ L ≤ (i + 1).toNatClampNeg)) (h2 : ¬ (i + 2 < 0 ∨ L ≤ (i + 2).toNatClampNeg)) (h3 : ¬ (i + 3 < 0 ∨ L ≤ (i + 3).toNatClampNeg)) (h4 : ¬ (i + 4 < 0 ∨ L ≤ (i + 4).toNatClampNeg)) (h5 : ¬ (i + 5 < 0 ∨ L ≤ (i + 5).toNatClampNeg)) {P : Option Value × xH × Nat × Nat → Prop} (kk : x_R x_mt (some (L, xs)) 10 M_law (1625, [(3, .int i), (2, .ref 75), (1, .ref 0), (0, .ref x_scr)], [.int (xs ((i + 1)).toNatClampNeg), .ref 0], h, 98, 10728) P) : x_R x_mt (some (L, xs)) 10 M_law (1619, [(3, .int i), (2, .ref 75), (1, .ref 0), (0, .ref x_scr)], [], h, 98, 10728) P := by
  refine x_R.steps 5 (c' := (1624, [(3, .int i), (2, .ref 75), (1, .ref 0), (0, .ref x_scr)], [.int (i + 1), .ref x_scr, .ref 0], h, 98, 10728)) rfl ?_
  refine j_Rsld (c' := (1625, [(3, .int i), (2, .ref 75), (1, .ref 0), (0, .ref x_scr)], [.int (xs ((i + 1)).toNatClampNeg), .ref 0], h, 98, 10728)) rfl h1 ?_
  exact kk

set_option maxRecDepth 100000 in
theorem x_c47b (h : xH) (L : Nat) (xs : Nat → Int32) (i : Int32) (h0 : ¬ (i < 0 ∨ L ≤ (i).toNatClampNeg)) (h1 : ¬ (i + 1 < 0 ∨ L ≤ (i + 1).toNatClampNeg)) (h2 : ¬ (i + 2 < 0 ∨ L ≤ (i + 2).toNatClampNeg)) (h3 : ¬ (i + 3 < 0 ∨ L ≤ (i + 3).toNatClampNeg)) (h4 : ¬ (i + 4 < 0 ∨ L ≤ (i + 4).toNatClampNeg)) (h5 : ¬ (i + 5 < 0 ∨ L ≤ (i + 5).toNatClampNeg)) (v : Int32) {P : Option Value × xH × Nat × Nat → Prop} (kk : x_R x_mt (some (L, xs)) 10 M_law (1635, [(3, .int i), (2, .ref 75), (1, .ref 0), (0, .ref x_scr)], [.int (xs ((i + 1)).toNatClampNeg), .ref 75], h, 98, 10728) P) : x_R x_mt (some (L, xs)) 10 M_law (1628, [(3, .int i), (2, .ref 75), (1, .ref 0), (0, .ref x_scr)], [.int v], h, 98, 10728) P := by
  refine x_R.steps 6 (c' := (1634, [(3, .int i), (2, .ref 75), (1, .ref 0), (0, .ref x_scr)], [.int (i + 1), .ref x_scr, .ref 75], h, 98, 10728)) rfl ?_
  refine j_Rsld (c' := (1635, [(3, .int i), (2, .ref 75), (1, .ref 0), (0, .ref x_scr)], [.int (xs ((i + 1)).toNatClampNeg), .ref 75], h, 98, 10728)) rfl h1 ?_
  exact kk

set_option maxRecDepth 100000 in
theorem x_c47d (h : xH) (L : Nat) (xs : Nat → Int32) (i : Int32) (h0 : ¬ (i < 0 ∨ L ≤ (i).toNatClampNeg)) (h1 : ¬ (i + 1 < 0 ∨ L ≤ (i + 1).toNatClampNeg)) (h2 : ¬ (i + 2 < 0 ∨ L ≤ (i + 2).toNatClampNeg)) (h3 : ¬ (i + 3 < 0 ∨ L ≤ (i + 3).toNatClampNeg)) (h4 : ¬ (i + 4 < 0 ∨ L ≤ (i + 4).toNatClampNeg)) (h5 : ¬ (i + 5 < 0 ∨ L ≤ (i + 5).toNatClampNeg)) (w : Int32) {P : Option Value × xH × Nat × Nat → Prop} (kk : x_R x_mt (some (L, xs)) 10 M_law (18, [(3, .int (i + Int32.ofInt (6))), (2, .ref 75), (1, .ref 0), (0, .ref x_scr)], [], h, 98, 10728) P) : x_R x_mt (some (L, xs)) 10 M_law (1638, [(3, .int i), (2, .ref 75), (1, .ref 0), (0, .ref x_scr)], [.int w], h, 98, 10728) P := by
  refine x_R.steps 4 (c' := (18, [(3, .int (i + Int32.ofInt (6))), (2, .ref 75), (1, .ref 0), (0, .ref x_scr)], [], h, 98, 10728)) rfl ?_
  exact kk

set_option maxRecDepth 100000 in
theorem x_c48a (h : xH) (L : Nat) (xs : Nat → Int32) (i : Int32) (h0 : ¬ (i < 0 ∨ L ≤ (i).toNatClampNeg)) (h1 : ¬ (i + 1 < 0 ∨ L ≤ (i + 1).toNatClampNeg)) (h2 : ¬ (i + 2 < 0 ∨ L ≤ (i + 2).toNatClampNeg)) (h3 : ¬ (i + 3 < 0 ∨ L ≤ (i + 3).toNatClampNeg)) (h4 : ¬ (i + 4 < 0 ∨ L ≤ (i + 4).toNatClampNeg)) (h5 : ¬ (i + 5 < 0 ∨ L ≤ (i + 5).toNatClampNeg)) {P : Option Value × xH × Nat × Nat → Prop} (kk : x_R x_mt (some (L, xs)) 10 M_law (1648, [(3, .int i), (2, .ref 75), (1, .ref 0), (0, .ref x_scr)], [.int (xs ((i + 1)).toNatClampNeg), .ref 0], h, 98, 10728) P) : x_R x_mt (some (L, xs)) 10 M_law (1642, [(3, .int i), (2, .ref 75), (1, .ref 0), (0, .ref x_scr)], [], h, 98, 10728) P := by
  refine x_R.steps 5 (c' := (1647, [(3, .int i), (2, .ref 75), (1, .ref 0), (0, .ref x_scr)], [.int (i + 1), .ref x_scr, .ref 0], h, 98, 10728)) rfl ?_
  refine j_Rsld (c' := (1648, [(3, .int i), (2, .ref 75), (1, .ref 0), (0, .ref x_scr)], [.int (xs ((i + 1)).toNatClampNeg), .ref 0], h, 98, 10728)) rfl h1 ?_
  exact kk

set_option maxRecDepth 100000 in
theorem x_c48b (h : xH) (L : Nat) (xs : Nat → Int32) (i : Int32) (h0 : ¬ (i < 0 ∨ L ≤ (i).toNatClampNeg)) (h1 : ¬ (i + 1 < 0 ∨ L ≤ (i + 1).toNatClampNeg)) (h2 : ¬ (i + 2 < 0 ∨ L ≤ (i + 2).toNatClampNeg)) (h3 : ¬ (i + 3 < 0 ∨ L ≤ (i + 3).toNatClampNeg)) (h4 : ¬ (i + 4 < 0 ∨ L ≤ (i + 4).toNatClampNeg)) (h5 : ¬ (i + 5 < 0 ∨ L ≤ (i + 5).toNatClampNeg)) (v : Int32) {P : Option Value × xH × Nat × Nat → Prop} (kk : x_R x_mt (some (L, xs)) 10 M_law (1658, [(3, .int i), (2, .ref 75), (1, .ref 0), (0, .ref x_scr)], [.int (xs ((i + 1)).toNatClampNeg), .ref 75], h, 98, 10728) P) : x_R x_mt (some (L, xs)) 10 M_law (1651, [(3, .int i), (2, .ref 75), (1, .ref 0), (0, .ref x_scr)], [.int v], h, 98, 10728) P := by
  refine x_R.steps 6 (c' := (1657, [(3, .int i), (2, .ref 75), (1, .ref 0), (0, .ref x_scr)], [.int (i + 1), .ref x_scr, .ref 75], h, 98, 10728)) rfl ?_
  refine j_Rsld (c' := (1658, [(3, .int i), (2, .ref 75), (1, .ref 0), (0, .ref x_scr)], [.int (xs ((i + 1)).toNatClampNeg), .ref 75], h, 98, 10728)) rfl h1 ?_
  exact kk

set_option maxRecDepth 100000 in
theorem x_c48d (h : xH) (L : Nat) (xs : Nat → Int32) (i : Int32) (h0 : ¬ (i < 0 ∨ L ≤ (i).toNatClampNeg)) (h1 : ¬ (i + 1 < 0 ∨ L ≤ (i + 1).toNatClampNeg)) (h2 : ¬ (i + 2 < 0 ∨ L ≤ (i + 2).toNatClampNeg)) (h3 : ¬ (i + 3 < 0 ∨ L ≤ (i + 3).toNatClampNeg)) (h4 : ¬ (i + 4 < 0 ∨ L ≤ (i + 4).toNatClampNeg)) (h5 : ¬ (i + 5 < 0 ∨ L ≤ (i + 5).toNatClampNeg)) (w : Int32) {P : Option Value × xH × Nat × Nat → Prop} (kk : x_R x_mt (some (L, xs)) 10 M_law (18, [(3, .int (i + Int32.ofInt (6))), (2, .ref 75), (1, .ref 0), (0, .ref x_scr)], [], h, 98, 10728) P) : x_R x_mt (some (L, xs)) 10 M_law (1661, [(3, .int i), (2, .ref 75), (1, .ref 0), (0, .ref x_scr)], [.int w], h, 98, 10728) P := by
  refine x_R.steps 4 (c' := (18, [(3, .int (i + Int32.ofInt (6))), (2, .ref 75), (1, .ref 0), (0, .ref x_scr)], [], h, 98, 10728)) rfl ?_
  exact kk

set_option maxRecDepth 100000 in
theorem x_c49a (h : xH) (L : Nat) (xs : Nat → Int32) (i : Int32) (h0 : ¬ (i < 0 ∨ L ≤ (i).toNatClampNeg)) (h1 : ¬ (i + 1 < 0 ∨ L ≤ (i + 1).toNatClampNeg)) (h2 : ¬ (i + 2 < 0 ∨ L ≤ (i + 2).toNatClampNeg)) (h3 : ¬ (i + 3 < 0 ∨ L ≤ (i + 3).toNatClampNeg)) (h4 : ¬ (i + 4 < 0 ∨ L ≤ (i + 4).toNatClampNeg)) (h5 : ¬ (i + 5 < 0 ∨ L ≤ (i + 5).toNatClampNeg)) {P : Option Value × xH × Nat × Nat → Prop} (kk : x_R x_mt (some (L, xs)) 10 M_law (1671, [(3, .int i), (2, .ref 75), (1, .ref 0), (0, .ref x_scr)], [.int (xs ((i + 1)).toNatClampNeg), .ref 0], h, 98, 10728) P) : x_R x_mt (some (L, xs)) 10 M_law (1665, [(3, .int i), (2, .ref 75), (1, .ref 0), (0, .ref x_scr)], [], h, 98, 10728) P := by
  refine x_R.steps 5 (c' := (1670, [(3, .int i), (2, .ref 75), (1, .ref 0), (0, .ref x_scr)], [.int (i + 1), .ref x_scr, .ref 0], h, 98, 10728)) rfl ?_
  refine j_Rsld (c' := (1671, [(3, .int i), (2, .ref 75), (1, .ref 0), (0, .ref x_scr)], [.int (xs ((i + 1)).toNatClampNeg), .ref 0], h, 98, 10728)) rfl h1 ?_
  exact kk

set_option maxRecDepth 100000 in
theorem x_c49b (h : xH) (L : Nat) (xs : Nat → Int32) (i : Int32) (h0 : ¬ (i < 0 ∨ L ≤ (i).toNatClampNeg)) (h1 : ¬ (i + 1 < 0 ∨ L ≤ (i + 1).toNatClampNeg)) (h2 : ¬ (i + 2 < 0 ∨ L ≤ (i + 2).toNatClampNeg)) (h3 : ¬ (i + 3 < 0 ∨ L ≤ (i + 3).toNatClampNeg)) (h4 : ¬ (i + 4 < 0 ∨ L ≤ (i + 4).toNatClampNeg)) (h5 : ¬ (i + 5 < 0 ∨ L ≤ (i + 5).toNatClampNeg)) (v : Int32) {P : Option Value × xH × Nat × Nat → Prop} (kk : x_R x_mt (some (L, xs)) 10 M_law (1681, [(3, .int i), (2, .ref 75), (1, .ref 0), (0, .ref x_scr)], [.int (xs ((i + 1)).toNatClampNeg), .ref 75], h, 98, 10728) P) : x_R x_mt (some (L, xs)) 10 M_law (1674, [(3, .int i), (2, .ref 75), (1, .ref 0), (0, .ref x_scr)], [.int v], h, 98, 10728) P := by
  refine x_R.steps 6 (c' := (1680, [(3, .int i), (2, .ref 75), (1, .ref 0), (0, .ref x_scr)], [.int (i + 1), .ref x_scr, .ref 75], h, 98, 10728)) rfl ?_
  refine j_Rsld (c' := (1681, [(3, .int i), (2, .ref 75), (1, .ref 0), (0, .ref x_scr)], [.int (xs ((i + 1)).toNatClampNeg), .ref 75], h, 98, 10728)) rfl h1 ?_
  exact kk

set_option maxRecDepth 100000 in
theorem x_c49d (h : xH) (L : Nat) (xs : Nat → Int32) (i : Int32) (h0 : ¬ (i < 0 ∨ L ≤ (i).toNatClampNeg)) (h1 : ¬ (i + 1 < 0 ∨ L ≤ (i + 1).toNatClampNeg)) (h2 : ¬ (i + 2 < 0 ∨ L ≤ (i + 2).toNatClampNeg)) (h3 : ¬ (i + 3 < 0 ∨ L ≤ (i + 3).toNatClampNeg)) (h4 : ¬ (i + 4 < 0 ∨ L ≤ (i + 4).toNatClampNeg)) (h5 : ¬ (i + 5 < 0 ∨ L ≤ (i + 5).toNatClampNeg)) (w : Int32) {P : Option Value × xH × Nat × Nat → Prop} (kk : x_R x_mt (some (L, xs)) 10 M_law (18, [(3, .int (i + Int32.ofInt (6))), (2, .ref 75), (1, .ref 0), (0, .ref x_scr)], [], h, 98, 10728) P) : x_R x_mt (some (L, xs)) 10 M_law (1684, [(3, .int i), (2, .ref 75), (1, .ref 0), (0, .ref x_scr)], [.int w], h, 98, 10728) P := by
  refine x_R.steps 4 (c' := (18, [(3, .int (i + Int32.ofInt (6))), (2, .ref 75), (1, .ref 0), (0, .ref x_scr)], [], h, 98, 10728)) rfl ?_
  exact kk

set_option maxRecDepth 100000 in
theorem x_c50a (h : xH) (L : Nat) (xs : Nat → Int32) (i : Int32) (h0 : ¬ (i < 0 ∨ L ≤ (i).toNatClampNeg)) (h1 : ¬ (i + 1 < 0 ∨ L ≤ (i + 1).toNatClampNeg)) (h2 : ¬ (i + 2 < 0 ∨ L ≤ (i + 2).toNatClampNeg)) (h3 : ¬ (i + 3 < 0 ∨ L ≤ (i + 3).toNatClampNeg)) (h4 : ¬ (i + 4 < 0 ∨ L ≤ (i + 4).toNatClampNeg)) (h5 : ¬ (i + 5 < 0 ∨ L ≤ (i + 5).toNatClampNeg)) {P : Option Value × xH × Nat × Nat → Prop} (kk : x_R x_mt (some (L, xs)) 10 M_law (1699, [(3, .int i), (2, .ref 75), (1, .ref 0), (0, .ref x_scr)], [.int (xs ((i + 2)).toNatClampNeg), .int (xs ((i + 1)).toNatClampNeg), .ref 0], h, 98, 10728) P) : x_R x_mt (some (L, xs)) 10 M_law (1688, [(3, .int i), (2, .ref 75), (1, .ref 0), (0, .ref x_scr)], [], h, 98, 10728) P := by
  refine x_R.steps 5 (c' := (1693, [(3, .int i), (2, .ref 75), (1, .ref 0), (0, .ref x_scr)], [.int (i + 1), .ref x_scr, .ref 0], h, 98, 10728)) rfl ?_
  refine j_Rsld (c' := (1694, [(3, .int i), (2, .ref 75), (1, .ref 0), (0, .ref x_scr)], [.int (xs ((i + 1)).toNatClampNeg), .ref 0], h, 98, 10728)) rfl h1 ?_
  refine x_R.steps 4 (c' := (1698, [(3, .int i), (2, .ref 75), (1, .ref 0), (0, .ref x_scr)], [.int (i + 2), .ref x_scr, .int (xs ((i + 1)).toNatClampNeg), .ref 0], h, 98, 10728)) rfl ?_
  refine j_Rsld (c' := (1699, [(3, .int i), (2, .ref 75), (1, .ref 0), (0, .ref x_scr)], [.int (xs ((i + 2)).toNatClampNeg), .int (xs ((i + 1)).toNatClampNeg), .ref 0], h, 98, 10728)) rfl h2 ?_
  exact kk

set_option maxRecDepth 100000 in
theorem x_c50b (h : xH) (L : Nat) (xs : Nat → Int32) (i : Int32) (h0 : ¬ (i < 0 ∨ L ≤ (i).toNatClampNeg)) (h1 : ¬ (i + 1 < 0 ∨ L ≤ (i + 1).toNatClampNeg)) (h2 : ¬ (i + 2 < 0 ∨ L ≤ (i + 2).toNatClampNeg)) (h3 : ¬ (i + 3 < 0 ∨ L ≤ (i + 3).toNatClampNeg)) (h4 : ¬ (i + 4 < 0 ∨ L ≤ (i + 4).toNatClampNeg)) (h5 : ¬ (i + 5 < 0 ∨ L ≤ (i + 5).toNatClampNeg)) (v : Int32) {P : Option Value × xH × Nat × Nat → Prop} (kk : x_R x_mt (some (L, xs)) 10 M_law (1714, [(3, .int i), (2, .ref 75), (1, .ref 0), (0, .ref x_scr)], [.int (xs ((i + 2)).toNatClampNeg), .int (xs ((i + 1)).toNatClampNeg), .ref 75], h, 98, 10728) P) : x_R x_mt (some (L, xs)) 10 M_law (1702, [(3, .int i), (2, .ref 75), (1, .ref 0), (0, .ref x_scr)], [.int v], h, 98, 10728) P := by
  refine x_R.steps 6 (c' := (1708, [(3, .int i), (2, .ref 75), (1, .ref 0), (0, .ref x_scr)], [.int (i + 1), .ref x_scr, .ref 75], h, 98, 10728)) rfl ?_
  refine j_Rsld (c' := (1709, [(3, .int i), (2, .ref 75), (1, .ref 0), (0, .ref x_scr)], [.int (xs ((i + 1)).toNatClampNeg), .ref 75], h, 98, 10728)) rfl h1 ?_
  refine x_R.steps 4 (c' := (1713, [(3, .int i), (2, .ref 75), (1, .ref 0), (0, .ref x_scr)], [.int (i + 2), .ref x_scr, .int (xs ((i + 1)).toNatClampNeg), .ref 75], h, 98, 10728)) rfl ?_
  refine j_Rsld (c' := (1714, [(3, .int i), (2, .ref 75), (1, .ref 0), (0, .ref x_scr)], [.int (xs ((i + 2)).toNatClampNeg), .int (xs ((i + 1)).toNatClampNeg), .ref 75], h, 98, 10728)) rfl h2 ?_
  exact kk

set_option maxRecDepth 100000 in
theorem x_c50d (h : xH) (L : Nat) (xs : Nat → Int32) (i : Int32) (h0 : ¬ (i < 0 ∨ L ≤ (i).toNatClampNeg)) (h1 : ¬ (i + 1 < 0 ∨ L ≤ (i + 1).toNatClampNeg)) (h2 : ¬ (i + 2 < 0 ∨ L ≤ (i + 2).toNatClampNeg)) (h3 : ¬ (i + 3 < 0 ∨ L ≤ (i + 3).toNatClampNeg)) (h4 : ¬ (i + 4 < 0 ∨ L ≤ (i + 4).toNatClampNeg)) (h5 : ¬ (i + 5 < 0 ∨ L ≤ (i + 5).toNatClampNeg)) (w : Int32) {P : Option Value × xH × Nat × Nat → Prop} (kk : x_R x_mt (some (L, xs)) 10 M_law (18, [(3, .int (i + Int32.ofInt (6))), (2, .ref 75), (1, .ref 0), (0, .ref x_scr)], [], h, 98, 10728) P) : x_R x_mt (some (L, xs)) 10 M_law (1717, [(3, .int i), (2, .ref 75), (1, .ref 0), (0, .ref x_scr)], [.int w], h, 98, 10728) P := by
  refine x_R.steps 4 (c' := (18, [(3, .int (i + Int32.ofInt (6))), (2, .ref 75), (1, .ref 0), (0, .ref x_scr)], [], h, 98, 10728)) rfl ?_
  exact kk

set_option maxRecDepth 100000 in
theorem x_c51a (h : xH) (L : Nat) (xs : Nat → Int32) (i : Int32) (h0 : ¬ (i < 0 ∨ L ≤ (i).toNatClampNeg)) (h1 : ¬ (i + 1 < 0 ∨ L ≤ (i + 1).toNatClampNeg)) (h2 : ¬ (i + 2 < 0 ∨ L ≤ (i + 2).toNatClampNeg)) (h3 : ¬ (i + 3 < 0 ∨ L ≤ (i + 3).toNatClampNeg)) (h4 : ¬ (i + 4 < 0 ∨ L ≤ (i + 4).toNatClampNeg)) (h5 : ¬ (i + 5 < 0 ∨ L ≤ (i + 5).toNatClampNeg)) {P : Option Value × xH × Nat × Nat → Prop} (kk : x_R x_mt (some (L, xs)) 10 M_law (1727, [(3, .int i), (2, .ref 75), (1, .ref 0), (0, .ref x_scr)], [.int (xs ((i + 1)).toNatClampNeg), .ref 0], h, 98, 10728) P) : x_R x_mt (some (L, xs)) 10 M_law (1721, [(3, .int i), (2, .ref 75), (1, .ref 0), (0, .ref x_scr)], [], h, 98, 10728) P := by
  refine x_R.steps 5 (c' := (1726, [(3, .int i), (2, .ref 75), (1, .ref 0), (0, .ref x_scr)], [.int (i + 1), .ref x_scr, .ref 0], h, 98, 10728)) rfl ?_
  refine j_Rsld (c' := (1727, [(3, .int i), (2, .ref 75), (1, .ref 0), (0, .ref x_scr)], [.int (xs ((i + 1)).toNatClampNeg), .ref 0], h, 98, 10728)) rfl h1 ?_
  exact kk

set_option maxRecDepth 100000 in
theorem x_c51b (h : xH) (L : Nat) (xs : Nat → Int32) (i : Int32) (h0 : ¬ (i < 0 ∨ L ≤ (i).toNatClampNeg)) (h1 : ¬ (i + 1 < 0 ∨ L ≤ (i + 1).toNatClampNeg)) (h2 : ¬ (i + 2 < 0 ∨ L ≤ (i + 2).toNatClampNeg)) (h3 : ¬ (i + 3 < 0 ∨ L ≤ (i + 3).toNatClampNeg)) (h4 : ¬ (i + 4 < 0 ∨ L ≤ (i + 4).toNatClampNeg)) (h5 : ¬ (i + 5 < 0 ∨ L ≤ (i + 5).toNatClampNeg)) (v : Int32) {P : Option Value × xH × Nat × Nat → Prop} (kk : x_R x_mt (some (L, xs)) 10 M_law (1737, [(3, .int i), (2, .ref 75), (1, .ref 0), (0, .ref x_scr)], [.int (xs ((i + 1)).toNatClampNeg), .ref 75], h, 98, 10728) P) : x_R x_mt (some (L, xs)) 10 M_law (1730, [(3, .int i), (2, .ref 75), (1, .ref 0), (0, .ref x_scr)], [.int v], h, 98, 10728) P := by
  refine x_R.steps 6 (c' := (1736, [(3, .int i), (2, .ref 75), (1, .ref 0), (0, .ref x_scr)], [.int (i + 1), .ref x_scr, .ref 75], h, 98, 10728)) rfl ?_
  refine j_Rsld (c' := (1737, [(3, .int i), (2, .ref 75), (1, .ref 0), (0, .ref x_scr)], [.int (xs ((i + 1)).toNatClampNeg), .ref 75], h, 98, 10728)) rfl h1 ?_
  exact kk

set_option maxRecDepth 100000 in
theorem x_c51d (h : xH) (L : Nat) (xs : Nat → Int32) (i : Int32) (h0 : ¬ (i < 0 ∨ L ≤ (i).toNatClampNeg)) (h1 : ¬ (i + 1 < 0 ∨ L ≤ (i + 1).toNatClampNeg)) (h2 : ¬ (i + 2 < 0 ∨ L ≤ (i + 2).toNatClampNeg)) (h3 : ¬ (i + 3 < 0 ∨ L ≤ (i + 3).toNatClampNeg)) (h4 : ¬ (i + 4 < 0 ∨ L ≤ (i + 4).toNatClampNeg)) (h5 : ¬ (i + 5 < 0 ∨ L ≤ (i + 5).toNatClampNeg)) (w : Int32) {P : Option Value × xH × Nat × Nat → Prop} (kk : x_R x_mt (some (L, xs)) 10 M_law (18, [(3, .int (i + Int32.ofInt (6))), (2, .ref 75), (1, .ref 0), (0, .ref x_scr)], [], h, 98, 10728) P) : x_R x_mt (some (L, xs)) 10 M_law (1740, [(3, .int i), (2, .ref 75), (1, .ref 0), (0, .ref x_scr)], [.int w], h, 98, 10728) P := by
  refine x_R.steps 4 (c' := (18, [(3, .int (i + Int32.ofInt (6))), (2, .ref 75), (1, .ref 0), (0, .ref x_scr)], [], h, 98, 10728)) rfl ?_
  exact kk

set_option maxRecDepth 100000 in
theorem x_c52a (h : xH) (L : Nat) (xs : Nat → Int32) (i : Int32) (h0 : ¬ (i < 0 ∨ L ≤ (i).toNatClampNeg)) (h1 : ¬ (i + 1 < 0 ∨ L ≤ (i + 1).toNatClampNeg)) (h2 : ¬ (i + 2 < 0 ∨ L ≤ (i + 2).toNatClampNeg)) (h3 : ¬ (i + 3 < 0 ∨ L ≤ (i + 3).toNatClampNeg)) (h4 : ¬ (i + 4 < 0 ∨ L ≤ (i + 4).toNatClampNeg)) (h5 : ¬ (i + 5 < 0 ∨ L ≤ (i + 5).toNatClampNeg)) {P : Option Value × xH × Nat × Nat → Prop} (kk : x_R x_mt (some (L, xs)) 10 M_law (1745, [(3, .int i), (2, .ref 75), (1, .ref 0), (0, .ref x_scr)], [.ref 0], h, 98, 10728) P) : x_R x_mt (some (L, xs)) 10 M_law (1744, [(3, .int i), (2, .ref 75), (1, .ref 0), (0, .ref x_scr)], [], h, 98, 10728) P := by
  refine x_R.steps 1 (c' := (1745, [(3, .int i), (2, .ref 75), (1, .ref 0), (0, .ref x_scr)], [.ref 0], h, 98, 10728)) rfl ?_
  exact kk

set_option maxRecDepth 100000 in
theorem x_c52b (h : xH) (L : Nat) (xs : Nat → Int32) (i : Int32) (h0 : ¬ (i < 0 ∨ L ≤ (i).toNatClampNeg)) (h1 : ¬ (i + 1 < 0 ∨ L ≤ (i + 1).toNatClampNeg)) (h2 : ¬ (i + 2 < 0 ∨ L ≤ (i + 2).toNatClampNeg)) (h3 : ¬ (i + 3 < 0 ∨ L ≤ (i + 3).toNatClampNeg)) (h4 : ¬ (i + 4 < 0 ∨ L ≤ (i + 4).toNatClampNeg)) (h5 : ¬ (i + 5 < 0 ∨ L ≤ (i + 5).toNatClampNeg)) (v : Int32) {P : Option Value × xH × Nat × Nat → Prop} (kk : x_R x_mt (some (L, xs)) 10 M_law (1750, [(3, .int i), (2, .ref 75), (1, .ref 0), (0, .ref x_scr)], [.ref 75], h, 98, 10728) P) : x_R x_mt (some (L, xs)) 10 M_law (1748, [(3, .int i), (2, .ref 75), (1, .ref 0), (0, .ref x_scr)], [.int v], h, 98, 10728) P := by
  refine x_R.steps 2 (c' := (1750, [(3, .int i), (2, .ref 75), (1, .ref 0), (0, .ref x_scr)], [.ref 75], h, 98, 10728)) rfl ?_
  exact kk

set_option maxRecDepth 100000 in
theorem x_c52d (h : xH) (L : Nat) (xs : Nat → Int32) (i : Int32) (h0 : ¬ (i < 0 ∨ L ≤ (i).toNatClampNeg)) (h1 : ¬ (i + 1 < 0 ∨ L ≤ (i + 1).toNatClampNeg)) (h2 : ¬ (i + 2 < 0 ∨ L ≤ (i + 2).toNatClampNeg)) (h3 : ¬ (i + 3 < 0 ∨ L ≤ (i + 3).toNatClampNeg)) (h4 : ¬ (i + 4 < 0 ∨ L ≤ (i + 4).toNatClampNeg)) (h5 : ¬ (i + 5 < 0 ∨ L ≤ (i + 5).toNatClampNeg)) (w : Int32) {P : Option Value × xH × Nat × Nat → Prop} (kk : x_R x_mt (some (L, xs)) 10 M_law (18, [(3, .int (i + Int32.ofInt (6))), (2, .ref 75), (1, .ref 0), (0, .ref x_scr)], [], h, 98, 10728) P) : x_R x_mt (some (L, xs)) 10 M_law (1753, [(3, .int i), (2, .ref 75), (1, .ref 0), (0, .ref x_scr)], [.int w], h, 98, 10728) P := by
  refine x_R.steps 4 (c' := (18, [(3, .int (i + Int32.ofInt (6))), (2, .ref 75), (1, .ref 0), (0, .ref x_scr)], [], h, 98, 10728)) rfl ?_
  exact kk

set_option maxRecDepth 100000 in
theorem x_c53a (h : xH) (L : Nat) (xs : Nat → Int32) (i : Int32) (h0 : ¬ (i < 0 ∨ L ≤ (i).toNatClampNeg)) (h1 : ¬ (i + 1 < 0 ∨ L ≤ (i + 1).toNatClampNeg)) (h2 : ¬ (i + 2 < 0 ∨ L ≤ (i + 2).toNatClampNeg)) (h3 : ¬ (i + 3 < 0 ∨ L ≤ (i + 3).toNatClampNeg)) (h4 : ¬ (i + 4 < 0 ∨ L ≤ (i + 4).toNatClampNeg)) (h5 : ¬ (i + 5 < 0 ∨ L ≤ (i + 5).toNatClampNeg)) {P : Option Value × xH × Nat × Nat → Prop} (kk : x_R x_mt (some (L, xs)) 10 M_law (1758, [(3, .int i), (2, .ref 75), (1, .ref 0), (0, .ref x_scr)], [.ref 0], h, 98, 10728) P) : x_R x_mt (some (L, xs)) 10 M_law (1757, [(3, .int i), (2, .ref 75), (1, .ref 0), (0, .ref x_scr)], [], h, 98, 10728) P := by
  refine x_R.steps 1 (c' := (1758, [(3, .int i), (2, .ref 75), (1, .ref 0), (0, .ref x_scr)], [.ref 0], h, 98, 10728)) rfl ?_
  exact kk

set_option maxRecDepth 100000 in
theorem x_c53b (h : xH) (L : Nat) (xs : Nat → Int32) (i : Int32) (h0 : ¬ (i < 0 ∨ L ≤ (i).toNatClampNeg)) (h1 : ¬ (i + 1 < 0 ∨ L ≤ (i + 1).toNatClampNeg)) (h2 : ¬ (i + 2 < 0 ∨ L ≤ (i + 2).toNatClampNeg)) (h3 : ¬ (i + 3 < 0 ∨ L ≤ (i + 3).toNatClampNeg)) (h4 : ¬ (i + 4 < 0 ∨ L ≤ (i + 4).toNatClampNeg)) (h5 : ¬ (i + 5 < 0 ∨ L ≤ (i + 5).toNatClampNeg)) (v : Int32) {P : Option Value × xH × Nat × Nat → Prop} (kk : x_R x_mt (some (L, xs)) 10 M_law (1763, [(3, .int i), (2, .ref 75), (1, .ref 0), (0, .ref x_scr)], [.ref 75], h, 98, 10728) P) : x_R x_mt (some (L, xs)) 10 M_law (1761, [(3, .int i), (2, .ref 75), (1, .ref 0), (0, .ref x_scr)], [.int v], h, 98, 10728) P := by
  refine x_R.steps 2 (c' := (1763, [(3, .int i), (2, .ref 75), (1, .ref 0), (0, .ref x_scr)], [.ref 75], h, 98, 10728)) rfl ?_
  exact kk

set_option maxRecDepth 100000 in
theorem x_c53d (h : xH) (L : Nat) (xs : Nat → Int32) (i : Int32) (h0 : ¬ (i < 0 ∨ L ≤ (i).toNatClampNeg)) (h1 : ¬ (i + 1 < 0 ∨ L ≤ (i + 1).toNatClampNeg)) (h2 : ¬ (i + 2 < 0 ∨ L ≤ (i + 2).toNatClampNeg)) (h3 : ¬ (i + 3 < 0 ∨ L ≤ (i + 3).toNatClampNeg)) (h4 : ¬ (i + 4 < 0 ∨ L ≤ (i + 4).toNatClampNeg)) (h5 : ¬ (i + 5 < 0 ∨ L ≤ (i + 5).toNatClampNeg)) (w : Int32) {P : Option Value × xH × Nat × Nat → Prop} (kk : x_R x_mt (some (L, xs)) 10 M_law (18, [(3, .int (i + Int32.ofInt (6))), (2, .ref 75), (1, .ref 0), (0, .ref x_scr)], [], h, 98, 10728) P) : x_R x_mt (some (L, xs)) 10 M_law (1766, [(3, .int i), (2, .ref 75), (1, .ref 0), (0, .ref x_scr)], [.int w], h, 98, 10728) P := by
  refine x_R.steps 4 (c' := (18, [(3, .int (i + Int32.ofInt (6))), (2, .ref 75), (1, .ref 0), (0, .ref x_scr)], [], h, 98, 10728)) rfl ?_
  exact kk

set_option maxRecDepth 100000 in
theorem x_c54a (h : xH) (L : Nat) (xs : Nat → Int32) (i : Int32) (h0 : ¬ (i < 0 ∨ L ≤ (i).toNatClampNeg)) (h1 : ¬ (i + 1 < 0 ∨ L ≤ (i + 1).toNatClampNeg)) (h2 : ¬ (i + 2 < 0 ∨ L ≤ (i + 2).toNatClampNeg)) (h3 : ¬ (i + 3 < 0 ∨ L ≤ (i + 3).toNatClampNeg)) (h4 : ¬ (i + 4 < 0 ∨ L ≤ (i + 4).toNatClampNeg)) (h5 : ¬ (i + 5 < 0 ∨ L ≤ (i + 5).toNatClampNeg)) {P : Option Value × xH × Nat × Nat → Prop} (kk : x_R x_mt (some (L, xs)) 10 M_law (1776, [(3, .int i), (2, .ref 75), (1, .ref 0), (0, .ref x_scr)], [.int (xs ((i + 1)).toNatClampNeg), .ref 0], h, 98, 10728) P) : x_R x_mt (some (L, xs)) 10 M_law (1770, [(3, .int i), (2, .ref 75), (1, .ref 0), (0, .ref x_scr)], [], h, 98, 10728) P := by
  refine x_R.steps 5 (c' := (1775, [(3, .int i), (2, .ref 75), (1, .ref 0), (0, .ref x_scr)], [.int (i + 1), .ref x_scr, .ref 0], h, 98, 10728)) rfl ?_
  refine j_Rsld (c' := (1776, [(3, .int i), (2, .ref 75), (1, .ref 0), (0, .ref x_scr)], [.int (xs ((i + 1)).toNatClampNeg), .ref 0], h, 98, 10728)) rfl h1 ?_
  exact kk

set_option maxRecDepth 100000 in
theorem x_c54b (h : xH) (L : Nat) (xs : Nat → Int32) (i : Int32) (h0 : ¬ (i < 0 ∨ L ≤ (i).toNatClampNeg)) (h1 : ¬ (i + 1 < 0 ∨ L ≤ (i + 1).toNatClampNeg)) (h2 : ¬ (i + 2 < 0 ∨ L ≤ (i + 2).toNatClampNeg)) (h3 : ¬ (i + 3 < 0 ∨ L ≤ (i + 3).toNatClampNeg)) (h4 : ¬ (i + 4 < 0 ∨ L ≤ (i + 4).toNatClampNeg)) (h5 : ¬ (i + 5 < 0 ∨ L ≤ (i + 5).toNatClampNeg)) (v : Int32) {P : Option Value × xH × Nat × Nat → Prop} (kk : x_R x_mt (some (L, xs)) 10 M_law (1786, [(3, .int i), (2, .ref 75), (1, .ref 0), (0, .ref x_scr)], [.int (xs ((i + 1)).toNatClampNeg), .ref 75], h, 98, 10728) P) : x_R x_mt (some (L, xs)) 10 M_law (1779, [(3, .int i), (2, .ref 75), (1, .ref 0), (0, .ref x_scr)], [.int v], h, 98, 10728) P := by
  refine x_R.steps 6 (c' := (1785, [(3, .int i), (2, .ref 75), (1, .ref 0), (0, .ref x_scr)], [.int (i + 1), .ref x_scr, .ref 75], h, 98, 10728)) rfl ?_
  refine j_Rsld (c' := (1786, [(3, .int i), (2, .ref 75), (1, .ref 0), (0, .ref x_scr)], [.int (xs ((i + 1)).toNatClampNeg), .ref 75], h, 98, 10728)) rfl h1 ?_
  exact kk

set_option maxRecDepth 100000 in
theorem x_c54d (h : xH) (L : Nat) (xs : Nat → Int32) (i : Int32) (h0 : ¬ (i < 0 ∨ L ≤ (i).toNatClampNeg)) (h1 : ¬ (i + 1 < 0 ∨ L ≤ (i + 1).toNatClampNeg)) (h2 : ¬ (i + 2 < 0 ∨ L ≤ (i + 2).toNatClampNeg)) (h3 : ¬ (i + 3 < 0 ∨ L ≤ (i + 3).toNatClampNeg)) (h4 : ¬ (i + 4 < 0 ∨ L ≤ (i + 4).toNatClampNeg)) (h5 : ¬ (i + 5 < 0 ∨ L ≤ (i + 5).toNatClampNeg)) (w : Int32) {P : Option Value × xH × Nat × Nat → Prop} (kk : x_R x_mt (some (L, xs)) 10 M_law (18, [(3, .int (i + Int32.ofInt (6))), (2, .ref 75), (1, .ref 0), (0, .ref x_scr)], [], h, 98, 10728) P) : x_R x_mt (some (L, xs)) 10 M_law (1789, [(3, .int i), (2, .ref 75), (1, .ref 0), (0, .ref x_scr)], [.int w], h, 98, 10728) P := by
  refine x_R.steps 4 (c' := (18, [(3, .int (i + Int32.ofInt (6))), (2, .ref 75), (1, .ref 0), (0, .ref x_scr)], [], h, 98, 10728)) rfl ?_
  exact kk

set_option maxRecDepth 100000 in
theorem x_c55a (h : xH) (L : Nat) (xs : Nat → Int32) (i : Int32) (h0 : ¬ (i < 0 ∨ L ≤ (i).toNatClampNeg)) (h1 : ¬ (i + 1 < 0 ∨ L ≤ (i + 1).toNatClampNeg)) (h2 : ¬ (i + 2 < 0 ∨ L ≤ (i + 2).toNatClampNeg)) (h3 : ¬ (i + 3 < 0 ∨ L ≤ (i + 3).toNatClampNeg)) (h4 : ¬ (i + 4 < 0 ∨ L ≤ (i + 4).toNatClampNeg)) (h5 : ¬ (i + 5 < 0 ∨ L ≤ (i + 5).toNatClampNeg)) {P : Option Value × xH × Nat × Nat → Prop} (kk : x_R x_mt (some (L, xs)) 10 M_law (1804, [(3, .int i), (2, .ref 75), (1, .ref 0), (0, .ref x_scr)], [.int (xs ((i + 2)).toNatClampNeg), .int (xs ((i + 1)).toNatClampNeg), .ref 0], h, 98, 10728) P) : x_R x_mt (some (L, xs)) 10 M_law (1793, [(3, .int i), (2, .ref 75), (1, .ref 0), (0, .ref x_scr)], [], h, 98, 10728) P := by
  refine x_R.steps 5 (c' := (1798, [(3, .int i), (2, .ref 75), (1, .ref 0), (0, .ref x_scr)], [.int (i + 1), .ref x_scr, .ref 0], h, 98, 10728)) rfl ?_
  refine j_Rsld (c' := (1799, [(3, .int i), (2, .ref 75), (1, .ref 0), (0, .ref x_scr)], [.int (xs ((i + 1)).toNatClampNeg), .ref 0], h, 98, 10728)) rfl h1 ?_
  refine x_R.steps 4 (c' := (1803, [(3, .int i), (2, .ref 75), (1, .ref 0), (0, .ref x_scr)], [.int (i + 2), .ref x_scr, .int (xs ((i + 1)).toNatClampNeg), .ref 0], h, 98, 10728)) rfl ?_
  refine j_Rsld (c' := (1804, [(3, .int i), (2, .ref 75), (1, .ref 0), (0, .ref x_scr)], [.int (xs ((i + 2)).toNatClampNeg), .int (xs ((i + 1)).toNatClampNeg), .ref 0], h, 98, 10728)) rfl h2 ?_
  exact kk

set_option maxRecDepth 100000 in
theorem x_c55b (h : xH) (L : Nat) (xs : Nat → Int32) (i : Int32) (h0 : ¬ (i < 0 ∨ L ≤ (i).toNatClampNeg)) (h1 : ¬ (i + 1 < 0 ∨ L ≤ (i + 1).toNatClampNeg)) (h2 : ¬ (i + 2 < 0 ∨ L ≤ (i + 2).toNatClampNeg)) (h3 : ¬ (i + 3 < 0 ∨ L ≤ (i + 3).toNatClampNeg)) (h4 : ¬ (i + 4 < 0 ∨ L ≤ (i + 4).toNatClampNeg)) (h5 : ¬ (i + 5 < 0 ∨ L ≤ (i + 5).toNatClampNeg)) (v : Int32) {P : Option Value × xH × Nat × Nat → Prop} (kk : x_R x_mt (some (L, xs)) 10 M_law (1819, [(3, .int i), (2, .ref 75), (1, .ref 0), (0, .ref x_scr)], [.int (xs ((i + 2)).toNatClampNeg), .int (xs ((i + 1)).toNatClampNeg), .ref 75], h, 98, 10728) P) : x_R x_mt (some (L, xs)) 10 M_law (1807, [(3, .int i), (2, .ref 75), (1, .ref 0), (0, .ref x_scr)], [.int v], h, 98, 10728) P := by
  refine x_R.steps 6 (c' := (1813, [(3, .int i), (2, .ref 75), (1, .ref 0), (0, .ref x_scr)], [.int (i + 1), .ref x_scr, .ref 75], h, 98, 10728)) rfl ?_
  refine j_Rsld (c' := (1814, [(3, .int i), (2, .ref 75), (1, .ref 0), (0, .ref x_scr)], [.int (xs ((i + 1)).toNatClampNeg), .ref 75], h, 98, 10728)) rfl h1 ?_
  refine x_R.steps 4 (c' := (1818, [(3, .int i), (2, .ref 75), (1, .ref 0), (0, .ref x_scr)], [.int (i + 2), .ref x_scr, .int (xs ((i + 1)).toNatClampNeg), .ref 75], h, 98, 10728)) rfl ?_
  refine j_Rsld (c' := (1819, [(3, .int i), (2, .ref 75), (1, .ref 0), (0, .ref x_scr)], [.int (xs ((i + 2)).toNatClampNeg), .int (xs ((i + 1)).toNatClampNeg), .ref 75], h, 98, 10728)) rfl h2 ?_
  exact kk

set_option maxRecDepth 100000 in
theorem x_c55d (h : xH) (L : Nat) (xs : Nat → Int32) (i : Int32) (h0 : ¬ (i < 0 ∨ L ≤ (i).toNatClampNeg)) (h1 : ¬ (i + 1 < 0 ∨ L ≤ (i + 1).toNatClampNeg)) (h2 : ¬ (i + 2 < 0 ∨ L ≤ (i + 2).toNatClampNeg)) (h3 : ¬ (i + 3 < 0 ∨ L ≤ (i + 3).toNatClampNeg)) (h4 : ¬ (i + 4 < 0 ∨ L ≤ (i + 4).toNatClampNeg)) (h5 : ¬ (i + 5 < 0 ∨ L ≤ (i + 5).toNatClampNeg)) (w : Int32) {P : Option Value × xH × Nat × Nat → Prop} (kk : x_R x_mt (some (L, xs)) 10 M_law (18, [(3, .int (i + Int32.ofInt (6))), (2, .ref 75), (1, .ref 0), (0, .ref x_scr)], [], h, 98, 10728) P) : x_R x_mt (some (L, xs)) 10 M_law (1822, [(3, .int i), (2, .ref 75), (1, .ref 0), (0, .ref x_scr)], [.int w], h, 98, 10728) P := by
  refine x_R.steps 4 (c' := (18, [(3, .int (i + Int32.ofInt (6))), (2, .ref 75), (1, .ref 0), (0, .ref x_scr)], [], h, 98, 10728)) rfl ?_
  exact kk

set_option maxRecDepth 100000 in
theorem x_c56a (h : xH) (L : Nat) (xs : Nat → Int32) (i : Int32) (h0 : ¬ (i < 0 ∨ L ≤ (i).toNatClampNeg)) (h1 : ¬ (i + 1 < 0 ∨ L ≤ (i + 1).toNatClampNeg)) (h2 : ¬ (i + 2 < 0 ∨ L ≤ (i + 2).toNatClampNeg)) (h3 : ¬ (i + 3 < 0 ∨ L ≤ (i + 3).toNatClampNeg)) (h4 : ¬ (i + 4 < 0 ∨ L ≤ (i + 4).toNatClampNeg)) (h5 : ¬ (i + 5 < 0 ∨ L ≤ (i + 5).toNatClampNeg)) {P : Option Value × xH × Nat × Nat → Prop} (kk : x_R x_mt (some (L, xs)) 10 M_law (1837, [(3, .int i), (2, .ref 75), (1, .ref 0), (0, .ref x_scr)], [.int (xs ((i + 2)).toNatClampNeg), .int (xs ((i + 1)).toNatClampNeg), .ref 0], h, 98, 10728) P) : x_R x_mt (some (L, xs)) 10 M_law (1826, [(3, .int i), (2, .ref 75), (1, .ref 0), (0, .ref x_scr)], [], h, 98, 10728) P := by
  refine x_R.steps 5 (c' := (1831, [(3, .int i), (2, .ref 75), (1, .ref 0), (0, .ref x_scr)], [.int (i + 1), .ref x_scr, .ref 0], h, 98, 10728)) rfl ?_
  refine j_Rsld (c' := (1832, [(3, .int i), (2, .ref 75), (1, .ref 0), (0, .ref x_scr)], [.int (xs ((i + 1)).toNatClampNeg), .ref 0], h, 98, 10728)) rfl h1 ?_
  refine x_R.steps 4 (c' := (1836, [(3, .int i), (2, .ref 75), (1, .ref 0), (0, .ref x_scr)], [.int (i + 2), .ref x_scr, .int (xs ((i + 1)).toNatClampNeg), .ref 0], h, 98, 10728)) rfl ?_
  refine j_Rsld (c' := (1837, [(3, .int i), (2, .ref 75), (1, .ref 0), (0, .ref x_scr)], [.int (xs ((i + 2)).toNatClampNeg), .int (xs ((i + 1)).toNatClampNeg), .ref 0], h, 98, 10728)) rfl h2 ?_
  exact kk

set_option maxRecDepth 100000 in
theorem x_c56b (h : xH) (L : Nat) (xs : Nat → Int32) (i : Int32) (h0 : ¬ (i < 0 ∨ L ≤ (i).toNatClampNeg)) (h1 : ¬ (i + 1 < 0 ∨ L ≤ (i + 1).toNatClampNeg)) (h2 : ¬ (i + 2 < 0 ∨ L ≤ (i + 2).toNatClampNeg)) (h3 : ¬ (i + 3 < 0 ∨ L ≤ (i + 3).toNatClampNeg)) (h4 : ¬ (i + 4 < 0 ∨ L ≤ (i + 4).toNatClampNeg)) (h5 : ¬ (i + 5 < 0 ∨ L ≤ (i + 5).toNatClampNeg)) (v : Int32) {P : Option Value × xH × Nat × Nat → Prop} (kk : x_R x_mt (some (L, xs)) 10 M_law (1852, [(3, .int i), (2, .ref 75), (1, .ref 0), (0, .ref x_scr)], [.int (xs ((i + 2)).toNatClampNeg), .int (xs ((i + 1)).toNatClampNeg), .ref 75], h, 98, 10728) P) : x_R x_mt (some (L, xs)) 10 M_law (1840, [(3, .int i), (2, .ref 75), (1, .ref 0), (0, .ref x_scr)], [.int v], h, 98, 10728) P := by
  refine x_R.steps 6 (c' := (1846, [(3, .int i), (2, .ref 75), (1, .ref 0), (0, .ref x_scr)], [.int (i + 1), .ref x_scr, .ref 75], h, 98, 10728)) rfl ?_
  refine j_Rsld (c' := (1847, [(3, .int i), (2, .ref 75), (1, .ref 0), (0, .ref x_scr)], [.int (xs ((i + 1)).toNatClampNeg), .ref 75], h, 98, 10728)) rfl h1 ?_
  refine x_R.steps 4 (c' := (1851, [(3, .int i), (2, .ref 75), (1, .ref 0), (0, .ref x_scr)], [.int (i + 2), .ref x_scr, .int (xs ((i + 1)).toNatClampNeg), .ref 75], h, 98, 10728)) rfl ?_
  refine j_Rsld (c' := (1852, [(3, .int i), (2, .ref 75), (1, .ref 0), (0, .ref x_scr)], [.int (xs ((i + 2)).toNatClampNeg), .int (xs ((i + 1)).toNatClampNeg), .ref 75], h, 98, 10728)) rfl h2 ?_
  exact kk

set_option maxRecDepth 100000 in
theorem x_c56d (h : xH) (L : Nat) (xs : Nat → Int32) (i : Int32) (h0 : ¬ (i < 0 ∨ L ≤ (i).toNatClampNeg)) (h1 : ¬ (i + 1 < 0 ∨ L ≤ (i + 1).toNatClampNeg)) (h2 : ¬ (i + 2 < 0 ∨ L ≤ (i + 2).toNatClampNeg)) (h3 : ¬ (i + 3 < 0 ∨ L ≤ (i + 3).toNatClampNeg)) (h4 : ¬ (i + 4 < 0 ∨ L ≤ (i + 4).toNatClampNeg)) (h5 : ¬ (i + 5 < 0 ∨ L ≤ (i + 5).toNatClampNeg)) (w : Int32) {P : Option Value × xH × Nat × Nat → Prop} (kk : x_R x_mt (some (L, xs)) 10 M_law (18, [(3, .int (i + Int32.ofInt (6))), (2, .ref 75), (1, .ref 0), (0, .ref x_scr)], [], h, 98, 10728) P) : x_R x_mt (some (L, xs)) 10 M_law (1855, [(3, .int i), (2, .ref 75), (1, .ref 0), (0, .ref x_scr)], [.int w], h, 98, 10728) P := by
  refine x_R.steps 4 (c' := (18, [(3, .int (i + Int32.ofInt (6))), (2, .ref 75), (1, .ref 0), (0, .ref x_scr)], [], h, 98, 10728)) rfl ?_
  exact kk

set_option maxRecDepth 100000 in
theorem x_c57a (h : xH) (L : Nat) (xs : Nat → Int32) (i : Int32) (h0 : ¬ (i < 0 ∨ L ≤ (i).toNatClampNeg)) (h1 : ¬ (i + 1 < 0 ∨ L ≤ (i + 1).toNatClampNeg)) (h2 : ¬ (i + 2 < 0 ∨ L ≤ (i + 2).toNatClampNeg)) (h3 : ¬ (i + 3 < 0 ∨ L ≤ (i + 3).toNatClampNeg)) (h4 : ¬ (i + 4 < 0 ∨ L ≤ (i + 4).toNatClampNeg)) (h5 : ¬ (i + 5 < 0 ∨ L ≤ (i + 5).toNatClampNeg)) {P : Option Value × xH × Nat × Nat → Prop} (kk : x_R x_mt (some (L, xs)) 10 M_law (1865, [(3, .int i), (2, .ref 75), (1, .ref 0), (0, .ref x_scr)], [.int (xs ((i + 1)).toNatClampNeg), .ref 0], h, 98, 10728) P) : x_R x_mt (some (L, xs)) 10 M_law (1859, [(3, .int i), (2, .ref 75), (1, .ref 0), (0, .ref x_scr)], [], h, 98, 10728) P := by
  refine x_R.steps 5 (c' := (1864, [(3, .int i), (2, .ref 75), (1, .ref 0), (0, .ref x_scr)], [.int (i + 1), .ref x_scr, .ref 0], h, 98, 10728)) rfl ?_
  refine j_Rsld (c' := (1865, [(3, .int i), (2, .ref 75), (1, .ref 0), (0, .ref x_scr)], [.int (xs ((i + 1)).toNatClampNeg), .ref 0], h, 98, 10728)) rfl h1 ?_
  exact kk

set_option maxRecDepth 100000 in
theorem x_c57b (h : xH) (L : Nat) (xs : Nat → Int32) (i : Int32) (h0 : ¬ (i < 0 ∨ L ≤ (i).toNatClampNeg)) (h1 : ¬ (i + 1 < 0 ∨ L ≤ (i + 1).toNatClampNeg)) (h2 : ¬ (i + 2 < 0 ∨ L ≤ (i + 2).toNatClampNeg)) (h3 : ¬ (i + 3 < 0 ∨ L ≤ (i + 3).toNatClampNeg)) (h4 : ¬ (i + 4 < 0 ∨ L ≤ (i + 4).toNatClampNeg)) (h5 : ¬ (i + 5 < 0 ∨ L ≤ (i + 5).toNatClampNeg)) (v : Int32) {P : Option Value × xH × Nat × Nat → Prop} (kk : x_R x_mt (some (L, xs)) 10 M_law (1875, [(3, .int i), (2, .ref 75), (1, .ref 0), (0, .ref x_scr)], [.int (xs ((i + 1)).toNatClampNeg), .ref 75], h, 98, 10728) P) : x_R x_mt (some (L, xs)) 10 M_law (1868, [(3, .int i), (2, .ref 75), (1, .ref 0), (0, .ref x_scr)], [.int v], h, 98, 10728) P := by
  refine x_R.steps 6 (c' := (1874, [(3, .int i), (2, .ref 75), (1, .ref 0), (0, .ref x_scr)], [.int (i + 1), .ref x_scr, .ref 75], h, 98, 10728)) rfl ?_
  refine j_Rsld (c' := (1875, [(3, .int i), (2, .ref 75), (1, .ref 0), (0, .ref x_scr)], [.int (xs ((i + 1)).toNatClampNeg), .ref 75], h, 98, 10728)) rfl h1 ?_
  exact kk

set_option maxRecDepth 100000 in
theorem x_c57d (h : xH) (L : Nat) (xs : Nat → Int32) (i : Int32) (h0 : ¬ (i < 0 ∨ L ≤ (i).toNatClampNeg)) (h1 : ¬ (i + 1 < 0 ∨ L ≤ (i + 1).toNatClampNeg)) (h2 : ¬ (i + 2 < 0 ∨ L ≤ (i + 2).toNatClampNeg)) (h3 : ¬ (i + 3 < 0 ∨ L ≤ (i + 3).toNatClampNeg)) (h4 : ¬ (i + 4 < 0 ∨ L ≤ (i + 4).toNatClampNeg)) (h5 : ¬ (i + 5 < 0 ∨ L ≤ (i + 5).toNatClampNeg)) (w : Int32) {P : Option Value × xH × Nat × Nat → Prop} (kk : x_R x_mt (some (L, xs)) 10 M_law (18, [(3, .int (i + Int32.ofInt (6))), (2, .ref 75), (1, .ref 0), (0, .ref x_scr)], [], h, 98, 10728) P) : x_R x_mt (some (L, xs)) 10 M_law (1878, [(3, .int i), (2, .ref 75), (1, .ref 0), (0, .ref x_scr)], [.int w], h, 98, 10728) P := by
  refine x_R.steps 4 (c' := (18, [(3, .int (i + Int32.ofInt (6))), (2, .ref 75), (1, .ref 0), (0, .ref x_scr)], [], h, 98, 10728)) rfl ?_
  exact kk

set_option maxRecDepth 100000 in
theorem x_c58a (h : xH) (L : Nat) (xs : Nat → Int32) (i : Int32) (h0 : ¬ (i < 0 ∨ L ≤ (i).toNatClampNeg)) (h1 : ¬ (i + 1 < 0 ∨ L ≤ (i + 1).toNatClampNeg)) (h2 : ¬ (i + 2 < 0 ∨ L ≤ (i + 2).toNatClampNeg)) (h3 : ¬ (i + 3 < 0 ∨ L ≤ (i + 3).toNatClampNeg)) (h4 : ¬ (i + 4 < 0 ∨ L ≤ (i + 4).toNatClampNeg)) (h5 : ¬ (i + 5 < 0 ∨ L ≤ (i + 5).toNatClampNeg)) {P : Option Value × xH × Nat × Nat → Prop} (kk : x_R x_mt (some (L, xs)) 10 M_law (1888, [(3, .int i), (2, .ref 75), (1, .ref 0), (0, .ref x_scr)], [.int (xs ((i + 1)).toNatClampNeg), .ref 0], h, 98, 10728) P) : x_R x_mt (some (L, xs)) 10 M_law (1882, [(3, .int i), (2, .ref 75), (1, .ref 0), (0, .ref x_scr)], [], h, 98, 10728) P := by
  refine x_R.steps 5 (c' := (1887, [(3, .int i), (2, .ref 75), (1, .ref 0), (0, .ref x_scr)], [.int (i + 1), .ref x_scr, .ref 0], h, 98, 10728)) rfl ?_
  refine j_Rsld (c' := (1888, [(3, .int i), (2, .ref 75), (1, .ref 0), (0, .ref x_scr)], [.int (xs ((i + 1)).toNatClampNeg), .ref 0], h, 98, 10728)) rfl h1 ?_
  exact kk

set_option maxRecDepth 100000 in
theorem x_c58b (h : xH) (L : Nat) (xs : Nat → Int32) (i : Int32) (h0 : ¬ (i < 0 ∨ L ≤ (i).toNatClampNeg)) (h1 : ¬ (i + 1 < 0 ∨ L ≤ (i + 1).toNatClampNeg)) (h2 : ¬ (i + 2 < 0 ∨ L ≤ (i + 2).toNatClampNeg)) (h3 : ¬ (i + 3 < 0 ∨ L ≤ (i + 3).toNatClampNeg)) (h4 : ¬ (i + 4 < 0 ∨ L ≤ (i + 4).toNatClampNeg)) (h5 : ¬ (i + 5 < 0 ∨ L ≤ (i + 5).toNatClampNeg)) (v : Int32) {P : Option Value × xH × Nat × Nat → Prop} (kk : x_R x_mt (some (L, xs)) 10 M_law (1898, [(3, .int i), (2, .ref 75), (1, .ref 0), (0, .ref x_scr)], [.int (xs ((i + 1)).toNatClampNeg), .ref 75], h, 98, 10728) P) : x_R x_mt (some (L, xs)) 10 M_law (1891, [(3, .int i), (2, .ref 75), (1, .ref 0), (0, .ref x_scr)], [.int v], h, 98, 10728) P := by
  refine x_R.steps 6 (c' := (1897, [(3, .int i), (2, .ref 75), (1, .ref 0), (0, .ref x_scr)], [.int (i + 1), .ref x_scr, .ref 75], h, 98, 10728)) rfl ?_
  refine j_Rsld (c' := (1898, [(3, .int i), (2, .ref 75), (1, .ref 0), (0, .ref x_scr)], [.int (xs ((i + 1)).toNatClampNeg), .ref 75], h, 98, 10728)) rfl h1 ?_
  exact kk

set_option maxRecDepth 100000 in
theorem x_c58d (h : xH) (L : Nat) (xs : Nat → Int32) (i : Int32) (h0 : ¬ (i < 0 ∨ L ≤ (i).toNatClampNeg)) (h1 : ¬ (i + 1 < 0 ∨ L ≤ (i + 1).toNatClampNeg)) (h2 : ¬ (i + 2 < 0 ∨ L ≤ (i + 2).toNatClampNeg)) (h3 : ¬ (i + 3 < 0 ∨ L ≤ (i + 3).toNatClampNeg)) (h4 : ¬ (i + 4 < 0 ∨ L ≤ (i + 4).toNatClampNeg)) (h5 : ¬ (i + 5 < 0 ∨ L ≤ (i + 5).toNatClampNeg)) (w : Int32) {P : Option Value × xH × Nat × Nat → Prop} (kk : x_R x_mt (some (L, xs)) 10 M_law (18, [(3, .int (i + Int32.ofInt (6))), (2, .ref 75), (1, .ref 0), (0, .ref x_scr)], [], h, 98, 10728) P) : x_R x_mt (some (L, xs)) 10 M_law (1901, [(3, .int i), (2, .ref 75), (1, .ref 0), (0, .ref x_scr)], [.int w], h, 98, 10728) P := by
  refine x_R.steps 4 (c' := (18, [(3, .int (i + Int32.ofInt (6))), (2, .ref 75), (1, .ref 0), (0, .ref x_scr)], [], h, 98, 10728)) rfl ?_
  exact kk

set_option maxRecDepth 100000 in
theorem x_c59a (h : xH) (L : Nat) (xs : Nat → Int32) (i : Int32) (h0 : ¬ (i < 0 ∨ L ≤ (i).toNatClampNeg)) (h1 : ¬ (i + 1 < 0 ∨ L ≤ (i + 1).toNatClampNeg)) (h2 : ¬ (i + 2 < 0 ∨ L ≤ (i + 2).toNatClampNeg)) (h3 : ¬ (i + 3 < 0 ∨ L ≤ (i + 3).toNatClampNeg)) (h4 : ¬ (i + 4 < 0 ∨ L ≤ (i + 4).toNatClampNeg)) (h5 : ¬ (i + 5 < 0 ∨ L ≤ (i + 5).toNatClampNeg)) {P : Option Value × xH × Nat × Nat → Prop} (kk : x_R x_mt (some (L, xs)) 10 M_law (1916, [(3, .int i), (2, .ref 75), (1, .ref 0), (0, .ref x_scr)], [.int (xs ((i + 2)).toNatClampNeg), .int (xs ((i + 1)).toNatClampNeg), .ref 0], h, 98, 10728) P) : x_R x_mt (some (L, xs)) 10 M_law (1905, [(3, .int i), (2, .ref 75), (1, .ref 0), (0, .ref x_scr)], [], h, 98, 10728) P := by
  refine x_R.steps 5 (c' := (1910, [(3, .int i), (2, .ref 75), (1, .ref 0), (0, .ref x_scr)], [.int (i + 1), .ref x_scr, .ref 0], h, 98, 10728)) rfl ?_
  refine j_Rsld (c' := (1911, [(3, .int i), (2, .ref 75), (1, .ref 0), (0, .ref x_scr)], [.int (xs ((i + 1)).toNatClampNeg), .ref 0], h, 98, 10728)) rfl h1 ?_
  refine x_R.steps 4 (c' := (1915, [(3, .int i), (2, .ref 75), (1, .ref 0), (0, .ref x_scr)], [.int (i + 2), .ref x_scr, .int (xs ((i + 1)).toNatClampNeg), .ref 0], h, 98, 10728)) rfl ?_
  refine j_Rsld (c' := (1916, [(3, .int i), (2, .ref 75), (1, .ref 0), (0, .ref x_scr)], [.int (xs ((i + 2)).toNatClampNeg), .int (xs ((i + 1)).toNatClampNeg), .ref 0], h, 98, 10728)) rfl h2 ?_
  exact kk

set_option maxRecDepth 100000 in
theorem x_c59b (h : xH) (L : Nat) (xs : Nat → Int32) (i : Int32) (h0 : ¬ (i < 0 ∨ L ≤ (i).toNatClampNeg)) (h1 : ¬ (i + 1 < 0 ∨ L ≤ (i + 1).toNatClampNeg)) (h2 : ¬ (i + 2 < 0 ∨ L ≤ (i + 2).toNatClampNeg)) (h3 : ¬ (i + 3 < 0 ∨ L ≤ (i + 3).toNatClampNeg)) (h4 : ¬ (i + 4 < 0 ∨ L ≤ (i + 4).toNatClampNeg)) (h5 : ¬ (i + 5 < 0 ∨ L ≤ (i + 5).toNatClampNeg)) (v : Int32) {P : Option Value × xH × Nat × Nat → Prop} (kk : x_R x_mt (some (L, xs)) 10 M_law (1931, [(3, .int i), (2, .ref 75), (1, .ref 0), (0, .ref x_scr)], [.int (xs ((i + 2)).toNatClampNeg), .int (xs ((i + 1)).toNatClampNeg), .ref 75], h, 98, 10728) P) : x_R x_mt (some (L, xs)) 10 M_law (1919, [(3, .int i), (2, .ref 75), (1, .ref 0), (0, .ref x_scr)], [.int v], h, 98, 10728) P := by
  refine x_R.steps 6 (c' := (1925, [(3, .int i), (2, .ref 75), (1, .ref 0), (0, .ref x_scr)], [.int (i + 1), .ref x_scr, .ref 75], h, 98, 10728)) rfl ?_
  refine j_Rsld (c' := (1926, [(3, .int i), (2, .ref 75), (1, .ref 0), (0, .ref x_scr)], [.int (xs ((i + 1)).toNatClampNeg), .ref 75], h, 98, 10728)) rfl h1 ?_
  refine x_R.steps 4 (c' := (1930, [(3, .int i), (2, .ref 75), (1, .ref 0), (0, .ref x_scr)], [.int (i + 2), .ref x_scr, .int (xs ((i + 1)).toNatClampNeg), .ref 75], h, 98, 10728)) rfl ?_
  refine j_Rsld (c' := (1931, [(3, .int i), (2, .ref 75), (1, .ref 0), (0, .ref x_scr)], [.int (xs ((i + 2)).toNatClampNeg), .int (xs ((i + 1)).toNatClampNeg), .ref 75], h, 98, 10728)) rfl h2 ?_
  exact kk

set_option maxRecDepth 100000 in
theorem x_c59d (h : xH) (L : Nat) (xs : Nat → Int32) (i : Int32) (h0 : ¬ (i < 0 ∨ L ≤ (i).toNatClampNeg)) (h1 : ¬ (i + 1 < 0 ∨ L ≤ (i + 1).toNatClampNeg)) (h2 : ¬ (i + 2 < 0 ∨ L ≤ (i + 2).toNatClampNeg)) (h3 : ¬ (i + 3 < 0 ∨ L ≤ (i + 3).toNatClampNeg)) (h4 : ¬ (i + 4 < 0 ∨ L ≤ (i + 4).toNatClampNeg)) (h5 : ¬ (i + 5 < 0 ∨ L ≤ (i + 5).toNatClampNeg)) (w : Int32) {P : Option Value × xH × Nat × Nat → Prop} (kk : x_R x_mt (some (L, xs)) 10 M_law (18, [(3, .int (i + Int32.ofInt (6))), (2, .ref 75), (1, .ref 0), (0, .ref x_scr)], [], h, 98, 10728) P) : x_R x_mt (some (L, xs)) 10 M_law (1934, [(3, .int i), (2, .ref 75), (1, .ref 0), (0, .ref x_scr)], [.int w], h, 98, 10728) P := by
  refine x_R.steps 4 (c' := (18, [(3, .int (i + Int32.ofInt (6))), (2, .ref 75), (1, .ref 0), (0, .ref x_scr)], [], h, 98, 10728)) rfl ?_
  exact kk

set_option maxRecDepth 100000 in
theorem x_c60a (h : xH) (L : Nat) (xs : Nat → Int32) (i : Int32) (h0 : ¬ (i < 0 ∨ L ≤ (i).toNatClampNeg)) (h1 : ¬ (i + 1 < 0 ∨ L ≤ (i + 1).toNatClampNeg)) (h2 : ¬ (i + 2 < 0 ∨ L ≤ (i + 2).toNatClampNeg)) (h3 : ¬ (i + 3 < 0 ∨ L ≤ (i + 3).toNatClampNeg)) (h4 : ¬ (i + 4 < 0 ∨ L ≤ (i + 4).toNatClampNeg)) (h5 : ¬ (i + 5 < 0 ∨ L ≤ (i + 5).toNatClampNeg)) {P : Option Value × xH × Nat × Nat → Prop} (kk : x_R x_mt (some (L, xs)) 10 M_law (1954, [(3, .int i), (2, .ref 75), (1, .ref 0), (0, .ref x_scr)], [.int (xs ((i + 3)).toNatClampNeg), .int (xs ((i + 2)).toNatClampNeg), .int (xs ((i + 1)).toNatClampNeg), .ref 0], h, 98, 10728) P) : x_R x_mt (some (L, xs)) 10 M_law (1938, [(3, .int i), (2, .ref 75), (1, .ref 0), (0, .ref x_scr)], [], h, 98, 10728) P := by
  refine x_R.steps 5 (c' := (1943, [(3, .int i), (2, .ref 75), (1, .ref 0), (0, .ref x_scr)], [.int (i + 1), .ref x_scr, .ref 0], h, 98, 10728)) rfl ?_
  refine j_Rsld (c' := (1944, [(3, .int i), (2, .ref 75), (1, .ref 0), (0, .ref x_scr)], [.int (xs ((i + 1)).toNatClampNeg), .ref 0], h, 98, 10728)) rfl h1 ?_
  refine x_R.steps 4 (c' := (1948, [(3, .int i), (2, .ref 75), (1, .ref 0), (0, .ref x_scr)], [.int (i + 2), .ref x_scr, .int (xs ((i + 1)).toNatClampNeg), .ref 0], h, 98, 10728)) rfl ?_
  refine j_Rsld (c' := (1949, [(3, .int i), (2, .ref 75), (1, .ref 0), (0, .ref x_scr)], [.int (xs ((i + 2)).toNatClampNeg), .int (xs ((i + 1)).toNatClampNeg), .ref 0], h, 98, 10728)) rfl h2 ?_
  refine x_R.steps 4 (c' := (1953, [(3, .int i), (2, .ref 75), (1, .ref 0), (0, .ref x_scr)], [.int (i + 3), .ref x_scr, .int (xs ((i + 2)).toNatClampNeg), .int (xs ((i + 1)).toNatClampNeg), .ref 0], h, 98, 10728)) rfl ?_
  refine j_Rsld (c' := (1954, [(3, .int i), (2, .ref 75), (1, .ref 0), (0, .ref x_scr)], [.int (xs ((i + 3)).toNatClampNeg), .int (xs ((i + 2)).toNatClampNeg), .int (xs ((i + 1)).toNatClampNeg), .ref 0], h, 98, 10728)) rfl h3 ?_
  exact kk

set_option maxRecDepth 100000 in
theorem x_c60b (h : xH) (L : Nat) (xs : Nat → Int32) (i : Int32) (h0 : ¬ (i < 0 ∨ L ≤ (i).toNatClampNeg)) (h1 : ¬ (i + 1 < 0 ∨ L ≤ (i + 1).toNatClampNeg)) (h2 : ¬ (i + 2 < 0 ∨ L ≤ (i + 2).toNatClampNeg)) (h3 : ¬ (i + 3 < 0 ∨ L ≤ (i + 3).toNatClampNeg)) (h4 : ¬ (i + 4 < 0 ∨ L ≤ (i + 4).toNatClampNeg)) (h5 : ¬ (i + 5 < 0 ∨ L ≤ (i + 5).toNatClampNeg)) (v : Int32) {P : Option Value × xH × Nat × Nat → Prop} (kk : x_R x_mt (some (L, xs)) 10 M_law (1974, [(3, .int i), (2, .ref 75), (1, .ref 0), (0, .ref x_scr)], [.int (xs ((i + 3)).toNatClampNeg), .int (xs ((i + 2)).toNatClampNeg), .int (xs ((i + 1)).toNatClampNeg), .ref 75], h, 98, 10728) P) : x_R x_mt (some (L, xs)) 10 M_law (1957, [(3, .int i), (2, .ref 75), (1, .ref 0), (0, .ref x_scr)], [.int v], h, 98, 10728) P := by
  refine x_R.steps 6 (c' := (1963, [(3, .int i), (2, .ref 75), (1, .ref 0), (0, .ref x_scr)], [.int (i + 1), .ref x_scr, .ref 75], h, 98, 10728)) rfl ?_
  refine j_Rsld (c' := (1964, [(3, .int i), (2, .ref 75), (1, .ref 0), (0, .ref x_scr)], [.int (xs ((i + 1)).toNatClampNeg), .ref 75], h, 98, 10728)) rfl h1 ?_
  refine x_R.steps 4 (c' := (1968, [(3, .int i), (2, .ref 75), (1, .ref 0), (0, .ref x_scr)], [.int (i + 2), .ref x_scr, .int (xs ((i + 1)).toNatClampNeg), .ref 75], h, 98, 10728)) rfl ?_
  refine j_Rsld (c' := (1969, [(3, .int i), (2, .ref 75), (1, .ref 0), (0, .ref x_scr)], [.int (xs ((i + 2)).toNatClampNeg), .int (xs ((i + 1)).toNatClampNeg), .ref 75], h, 98, 10728)) rfl h2 ?_
  refine x_R.steps 4 (c' := (1973, [(3, .int i), (2, .ref 75), (1, .ref 0), (0, .ref x_scr)], [.int (i + 3), .ref x_scr, .int (xs ((i + 2)).toNatClampNeg), .int (xs ((i + 1)).toNatClampNeg), .ref 75], h, 98, 10728)) rfl ?_
  refine j_Rsld (c' := (1974, [(3, .int i), (2, .ref 75), (1, .ref 0), (0, .ref x_scr)], [.int (xs ((i + 3)).toNatClampNeg), .int (xs ((i + 2)).toNatClampNeg), .int (xs ((i + 1)).toNatClampNeg), .ref 75], h, 98, 10728)) rfl h3 ?_
  exact kk

set_option maxRecDepth 100000 in
theorem x_c60d (h : xH) (L : Nat) (xs : Nat → Int32) (i : Int32) (h0 : ¬ (i < 0 ∨ L ≤ (i).toNatClampNeg)) (h1 : ¬ (i + 1 < 0 ∨ L ≤ (i + 1).toNatClampNeg)) (h2 : ¬ (i + 2 < 0 ∨ L ≤ (i + 2).toNatClampNeg)) (h3 : ¬ (i + 3 < 0 ∨ L ≤ (i + 3).toNatClampNeg)) (h4 : ¬ (i + 4 < 0 ∨ L ≤ (i + 4).toNatClampNeg)) (h5 : ¬ (i + 5 < 0 ∨ L ≤ (i + 5).toNatClampNeg)) (w : Int32) {P : Option Value × xH × Nat × Nat → Prop} (kk : x_R x_mt (some (L, xs)) 10 M_law (18, [(3, .int (i + Int32.ofInt (6))), (2, .ref 75), (1, .ref 0), (0, .ref x_scr)], [], h, 98, 10728) P) : x_R x_mt (some (L, xs)) 10 M_law (1977, [(3, .int i), (2, .ref 75), (1, .ref 0), (0, .ref x_scr)], [.int w], h, 98, 10728) P := by
  refine x_R.steps 4 (c' := (18, [(3, .int (i + Int32.ofInt (6))), (2, .ref 75), (1, .ref 0), (0, .ref x_scr)], [], h, 98, 10728)) rfl ?_
  exact kk

set_option maxRecDepth 100000 in
theorem x_c61a (h : xH) (L : Nat) (xs : Nat → Int32) (i : Int32) (h0 : ¬ (i < 0 ∨ L ≤ (i).toNatClampNeg)) (h1 : ¬ (i + 1 < 0 ∨ L ≤ (i + 1).toNatClampNeg)) (h2 : ¬ (i + 2 < 0 ∨ L ≤ (i + 2).toNatClampNeg)) (h3 : ¬ (i + 3 < 0 ∨ L ≤ (i + 3).toNatClampNeg)) (h4 : ¬ (i + 4 < 0 ∨ L ≤ (i + 4).toNatClampNeg)) (h5 : ¬ (i + 5 < 0 ∨ L ≤ (i + 5).toNatClampNeg)) {P : Option Value × xH × Nat × Nat → Prop} (kk : x_R x_mt (some (L, xs)) 10 M_law (1997, [(3, .int i), (2, .ref 75), (1, .ref 0), (0, .ref x_scr)], [.int (xs ((i + 3)).toNatClampNeg), .int (xs ((i + 2)).toNatClampNeg), .int (xs ((i + 1)).toNatClampNeg), .ref 0], h, 98, 10728) P) : x_R x_mt (some (L, xs)) 10 M_law (1981, [(3, .int i), (2, .ref 75), (1, .ref 0), (0, .ref x_scr)], [], h, 98, 10728) P := by
  refine x_R.steps 5 (c' := (1986, [(3, .int i), (2, .ref 75), (1, .ref 0), (0, .ref x_scr)], [.int (i + 1), .ref x_scr, .ref 0], h, 98, 10728)) rfl ?_
  refine j_Rsld (c' := (1987, [(3, .int i), (2, .ref 75), (1, .ref 0), (0, .ref x_scr)], [.int (xs ((i + 1)).toNatClampNeg), .ref 0], h, 98, 10728)) rfl h1 ?_
  refine x_R.steps 4 (c' := (1991, [(3, .int i), (2, .ref 75), (1, .ref 0), (0, .ref x_scr)], [.int (i + 2), .ref x_scr, .int (xs ((i + 1)).toNatClampNeg), .ref 0], h, 98, 10728)) rfl ?_
  refine j_Rsld (c' := (1992, [(3, .int i), (2, .ref 75), (1, .ref 0), (0, .ref x_scr)], [.int (xs ((i + 2)).toNatClampNeg), .int (xs ((i + 1)).toNatClampNeg), .ref 0], h, 98, 10728)) rfl h2 ?_
  refine x_R.steps 4 (c' := (1996, [(3, .int i), (2, .ref 75), (1, .ref 0), (0, .ref x_scr)], [.int (i + 3), .ref x_scr, .int (xs ((i + 2)).toNatClampNeg), .int (xs ((i + 1)).toNatClampNeg), .ref 0], h, 98, 10728)) rfl ?_
  refine j_Rsld (c' := (1997, [(3, .int i), (2, .ref 75), (1, .ref 0), (0, .ref x_scr)], [.int (xs ((i + 3)).toNatClampNeg), .int (xs ((i + 2)).toNatClampNeg), .int (xs ((i + 1)).toNatClampNeg), .ref 0], h, 98, 10728)) rfl h3 ?_
  exact kk

set_option maxRecDepth 100000 in
theorem x_c61b (h : xH) (L : Nat) (xs : Nat → Int32) (i : Int32) (h0 : ¬ (i < 0 ∨ L ≤ (i).toNatClampNeg)) (h1 : ¬ (i + 1 < 0 ∨ L ≤ (i + 1).toNatClampNeg)) (h2 : ¬ (i + 2 < 0 ∨ L ≤ (i + 2).toNatClampNeg)) (h3 : ¬ (i + 3 < 0 ∨ L ≤ (i + 3).toNatClampNeg)) (h4 : ¬ (i + 4 < 0 ∨ L ≤ (i + 4).toNatClampNeg)) (h5 : ¬ (i + 5 < 0 ∨ L ≤ (i + 5).toNatClampNeg)) (v : Int32) {P : Option Value × xH × Nat × Nat → Prop} (kk : x_R x_mt (some (L, xs)) 10 M_law (2017, [(3, .int i), (2, .ref 75), (1, .ref 0), (0, .ref x_scr)], [.int (xs ((i + 3)).toNatClampNeg), .int (xs ((i + 2)).toNatClampNeg), .int (xs ((i + 1)).toNatClampNeg), .ref 75], h, 98, 10728) P) : x_R x_mt (some (L, xs)) 10 M_law (2000, [(3, .int i), (2, .ref 75), (1, .ref 0), (0, .ref x_scr)], [.int v], h, 98, 10728) P := by
  refine x_R.steps 6 (c' := (2006, [(3, .int i), (2, .ref 75), (1, .ref 0), (0, .ref x_scr)], [.int (i + 1), .ref x_scr, .ref 75], h, 98, 10728)) rfl ?_
  refine j_Rsld (c' := (2007, [(3, .int i), (2, .ref 75), (1, .ref 0), (0, .ref x_scr)], [.int (xs ((i + 1)).toNatClampNeg), .ref 75], h, 98, 10728)) rfl h1 ?_
  refine x_R.steps 4 (c' := (2011, [(3, .int i), (2, .ref 75), (1, .ref 0), (0, .ref x_scr)], [.int (i + 2), .ref x_scr, .int (xs ((i + 1)).toNatClampNeg), .ref 75], h, 98, 10728)) rfl ?_
  refine j_Rsld (c' := (2012, [(3, .int i), (2, .ref 75), (1, .ref 0), (0, .ref x_scr)], [.int (xs ((i + 2)).toNatClampNeg), .int (xs ((i + 1)).toNatClampNeg), .ref 75], h, 98, 10728)) rfl h2 ?_
  refine x_R.steps 4 (c' := (2016, [(3, .int i), (2, .ref 75), (1, .ref 0), (0, .ref x_scr)], [.int (i + 3), .ref x_scr, .int (xs ((i + 2)).toNatClampNeg), .int (xs ((i + 1)).toNatClampNeg), .ref 75], h, 98, 10728)) rfl ?_
  refine j_Rsld (c' := (2017, [(3, .int i), (2, .ref 75), (1, .ref 0), (0, .ref x_scr)], [.int (xs ((i + 3)).toNatClampNeg), .int (xs ((i + 2)).toNatClampNeg), .int (xs ((i + 1)).toNatClampNeg), .ref 75], h, 98, 10728)) rfl h3 ?_
  exact kk

set_option maxRecDepth 100000 in
theorem x_c61d (h : xH) (L : Nat) (xs : Nat → Int32) (i : Int32) (h0 : ¬ (i < 0 ∨ L ≤ (i).toNatClampNeg)) (h1 : ¬ (i + 1 < 0 ∨ L ≤ (i + 1).toNatClampNeg)) (h2 : ¬ (i + 2 < 0 ∨ L ≤ (i + 2).toNatClampNeg)) (h3 : ¬ (i + 3 < 0 ∨ L ≤ (i + 3).toNatClampNeg)) (h4 : ¬ (i + 4 < 0 ∨ L ≤ (i + 4).toNatClampNeg)) (h5 : ¬ (i + 5 < 0 ∨ L ≤ (i + 5).toNatClampNeg)) (w : Int32) {P : Option Value × xH × Nat × Nat → Prop} (kk : x_R x_mt (some (L, xs)) 10 M_law (18, [(3, .int (i + Int32.ofInt (6))), (2, .ref 75), (1, .ref 0), (0, .ref x_scr)], [], h, 98, 10728) P) : x_R x_mt (some (L, xs)) 10 M_law (2020, [(3, .int i), (2, .ref 75), (1, .ref 0), (0, .ref x_scr)], [.int w], h, 98, 10728) P := by
  refine x_R.steps 4 (c' := (18, [(3, .int (i + Int32.ofInt (6))), (2, .ref 75), (1, .ref 0), (0, .ref x_scr)], [], h, 98, 10728)) rfl ?_
  exact kk

set_option maxRecDepth 100000 in
theorem x_c62a (h : xH) (L : Nat) (xs : Nat → Int32) (i : Int32) (h0 : ¬ (i < 0 ∨ L ≤ (i).toNatClampNeg)) (h1 : ¬ (i + 1 < 0 ∨ L ≤ (i + 1).toNatClampNeg)) (h2 : ¬ (i + 2 < 0 ∨ L ≤ (i + 2).toNatClampNeg)) (h3 : ¬ (i + 3 < 0 ∨ L ≤ (i + 3).toNatClampNeg)) (h4 : ¬ (i + 4 < 0 ∨ L ≤ (i + 4).toNatClampNeg)) (h5 : ¬ (i + 5 < 0 ∨ L ≤ (i + 5).toNatClampNeg)) {P : Option Value × xH × Nat × Nat → Prop} (kk : x_R x_mt (some (L, xs)) 10 M_law (2040, [(3, .int i), (2, .ref 75), (1, .ref 0), (0, .ref x_scr)], [.int (xs ((i + 3)).toNatClampNeg), .int (xs ((i + 2)).toNatClampNeg), .int (xs ((i + 1)).toNatClampNeg), .ref 0], h, 98, 10728) P) : x_R x_mt (some (L, xs)) 10 M_law (2024, [(3, .int i), (2, .ref 75), (1, .ref 0), (0, .ref x_scr)], [], h, 98, 10728) P := by
  refine x_R.steps 5 (c' := (2029, [(3, .int i), (2, .ref 75), (1, .ref 0), (0, .ref x_scr)], [.int (i + 1), .ref x_scr, .ref 0], h, 98, 10728)) rfl ?_
  refine j_Rsld (c' := (2030, [(3, .int i), (2, .ref 75), (1, .ref 0), (0, .ref x_scr)], [.int (xs ((i + 1)).toNatClampNeg), .ref 0], h, 98, 10728)) rfl h1 ?_
  refine x_R.steps 4 (c' := (2034, [(3, .int i), (2, .ref 75), (1, .ref 0), (0, .ref x_scr)], [.int (i + 2), .ref x_scr, .int (xs ((i + 1)).toNatClampNeg), .ref 0], h, 98, 10728)) rfl ?_
  refine j_Rsld (c' := (2035, [(3, .int i), (2, .ref 75), (1, .ref 0), (0, .ref x_scr)], [.int (xs ((i + 2)).toNatClampNeg), .int (xs ((i + 1)).toNatClampNeg), .ref 0], h, 98, 10728)) rfl h2 ?_
  refine x_R.steps 4 (c' := (2039, [(3, .int i), (2, .ref 75), (1, .ref 0), (0, .ref x_scr)], [.int (i + 3), .ref x_scr, .int (xs ((i + 2)).toNatClampNeg), .int (xs ((i + 1)).toNatClampNeg), .ref 0], h, 98, 10728)) rfl ?_
  refine j_Rsld (c' := (2040, [(3, .int i), (2, .ref 75), (1, .ref 0), (0, .ref x_scr)], [.int (xs ((i + 3)).toNatClampNeg), .int (xs ((i + 2)).toNatClampNeg), .int (xs ((i + 1)).toNatClampNeg), .ref 0], h, 98, 10728)) rfl h3 ?_
  exact kk

set_option maxRecDepth 100000 in
theorem x_c62b (h : xH) (L : Nat) (xs : Nat → Int32) (i : Int32) (h0 : ¬ (i < 0 ∨ L ≤ (i).toNatClampNeg)) (h1 : ¬ (i + 1 < 0 ∨ L ≤ (i + 1).toNatClampNeg)) (h2 : ¬ (i + 2 < 0 ∨ L ≤ (i + 2).toNatClampNeg)) (h3 : ¬ (i + 3 < 0 ∨ L ≤ (i + 3).toNatClampNeg)) (h4 : ¬ (i + 4 < 0 ∨ L ≤ (i + 4).toNatClampNeg)) (h5 : ¬ (i + 5 < 0 ∨ L ≤ (i + 5).toNatClampNeg)) (v : Int32) {P : Option Value × xH × Nat × Nat → Prop} (kk : x_R x_mt (some (L, xs)) 10 M_law (2060, [(3, .int i), (2, .ref 75), (1, .ref 0), (0, .ref x_scr)], [.int (xs ((i + 3)).toNatClampNeg), .int (xs ((i + 2)).toNatClampNeg), .int (xs ((i + 1)).toNatClampNeg), .ref 75], h, 98, 10728) P) : x_R x_mt (some (L, xs)) 10 M_law (2043, [(3, .int i), (2, .ref 75), (1, .ref 0), (0, .ref x_scr)], [.int v], h, 98, 10728) P := by
  refine x_R.steps 6 (c' := (2049, [(3, .int i), (2, .ref 75), (1, .ref 0), (0, .ref x_scr)], [.int (i + 1), .ref x_scr, .ref 75], h, 98, 10728)) rfl ?_
  refine j_Rsld (c' := (2050, [(3, .int i), (2, .ref 75), (1, .ref 0), (0, .ref x_scr)], [.int (xs ((i + 1)).toNatClampNeg), .ref 75], h, 98, 10728)) rfl h1 ?_
  refine x_R.steps 4 (c' := (2054, [(3, .int i), (2, .ref 75), (1, .ref 0), (0, .ref x_scr)], [.int (i + 2), .ref x_scr, .int (xs ((i + 1)).toNatClampNeg), .ref 75], h, 98, 10728)) rfl ?_
  refine j_Rsld (c' := (2055, [(3, .int i), (2, .ref 75), (1, .ref 0), (0, .ref x_scr)], [.int (xs ((i + 2)).toNatClampNeg), .int (xs ((i + 1)).toNatClampNeg), .ref 75], h, 98, 10728)) rfl h2 ?_
  refine x_R.steps 4 (c' := (2059, [(3, .int i), (2, .ref 75), (1, .ref 0), (0, .ref x_scr)], [.int (i + 3), .ref x_scr, .int (xs ((i + 2)).toNatClampNeg), .int (xs ((i + 1)).toNatClampNeg), .ref 75], h, 98, 10728)) rfl ?_
  refine j_Rsld (c' := (2060, [(3, .int i), (2, .ref 75), (1, .ref 0), (0, .ref x_scr)], [.int (xs ((i + 3)).toNatClampNeg), .int (xs ((i + 2)).toNatClampNeg), .int (xs ((i + 1)).toNatClampNeg), .ref 75], h, 98, 10728)) rfl h3 ?_
  exact kk

set_option maxRecDepth 100000 in
theorem x_c62d (h : xH) (L : Nat) (xs : Nat → Int32) (i : Int32) (h0 : ¬ (i < 0 ∨ L ≤ (i).toNatClampNeg)) (h1 : ¬ (i + 1 < 0 ∨ L ≤ (i + 1).toNatClampNeg)) (h2 : ¬ (i + 2 < 0 ∨ L ≤ (i + 2).toNatClampNeg)) (h3 : ¬ (i + 3 < 0 ∨ L ≤ (i + 3).toNatClampNeg)) (h4 : ¬ (i + 4 < 0 ∨ L ≤ (i + 4).toNatClampNeg)) (h5 : ¬ (i + 5 < 0 ∨ L ≤ (i + 5).toNatClampNeg)) (w : Int32) {P : Option Value × xH × Nat × Nat → Prop} (kk : x_R x_mt (some (L, xs)) 10 M_law (18, [(3, .int (i + Int32.ofInt (6))), (2, .ref 75), (1, .ref 0), (0, .ref x_scr)], [], h, 98, 10728) P) : x_R x_mt (some (L, xs)) 10 M_law (2063, [(3, .int i), (2, .ref 75), (1, .ref 0), (0, .ref x_scr)], [.int w], h, 98, 10728) P := by
  refine x_R.steps 4 (c' := (18, [(3, .int (i + Int32.ofInt (6))), (2, .ref 75), (1, .ref 0), (0, .ref x_scr)], [], h, 98, 10728)) rfl ?_
  exact kk

set_option maxRecDepth 100000 in
theorem x_c63a (h : xH) (L : Nat) (xs : Nat → Int32) (i : Int32) (h0 : ¬ (i < 0 ∨ L ≤ (i).toNatClampNeg)) (h1 : ¬ (i + 1 < 0 ∨ L ≤ (i + 1).toNatClampNeg)) (h2 : ¬ (i + 2 < 0 ∨ L ≤ (i + 2).toNatClampNeg)) (h3 : ¬ (i + 3 < 0 ∨ L ≤ (i + 3).toNatClampNeg)) (h4 : ¬ (i + 4 < 0 ∨ L ≤ (i + 4).toNatClampNeg)) (h5 : ¬ (i + 5 < 0 ∨ L ≤ (i + 5).toNatClampNeg)) {P : Option Value × xH × Nat × Nat → Prop} (kk : x_R x_mt (some (L, xs)) 10 M_law (2088, [(3, .int i), (2, .ref 75), (1, .ref 0), (0, .ref x_scr)], [.int (xs ((i + 4)).toNatClampNeg), .int (xs ((i + 3)).toNatClampNeg), .int (xs ((i + 2)).toNatClampNeg), .int (xs ((i + 1)).toNatClampNeg), .ref 0], h, 98, 10728) P) : x_R x_mt (some (L, xs)) 10 M_law (2067, [(3, .int i), (2, .ref 75), (1, .ref 0), (0, .ref x_scr)], [], h, 98, 10728) P := by
  refine x_R.steps 5 (c' := (2072, [(3, .int i), (2, .ref 75), (1, .ref 0), (0, .ref x_scr)], [.int (i + 1), .ref x_scr, .ref 0], h, 98, 10728)) rfl ?_
  refine j_Rsld (c' := (2073, [(3, .int i), (2, .ref 75), (1, .ref 0), (0, .ref x_scr)], [.int (xs ((i + 1)).toNatClampNeg), .ref 0], h, 98, 10728)) rfl h1 ?_
  refine x_R.steps 4 (c' := (2077, [(3, .int i), (2, .ref 75), (1, .ref 0), (0, .ref x_scr)], [.int (i + 2), .ref x_scr, .int (xs ((i + 1)).toNatClampNeg), .ref 0], h, 98, 10728)) rfl ?_
  refine j_Rsld (c' := (2078, [(3, .int i), (2, .ref 75), (1, .ref 0), (0, .ref x_scr)], [.int (xs ((i + 2)).toNatClampNeg), .int (xs ((i + 1)).toNatClampNeg), .ref 0], h, 98, 10728)) rfl h2 ?_
  refine x_R.steps 4 (c' := (2082, [(3, .int i), (2, .ref 75), (1, .ref 0), (0, .ref x_scr)], [.int (i + 3), .ref x_scr, .int (xs ((i + 2)).toNatClampNeg), .int (xs ((i + 1)).toNatClampNeg), .ref 0], h, 98, 10728)) rfl ?_
  refine j_Rsld (c' := (2083, [(3, .int i), (2, .ref 75), (1, .ref 0), (0, .ref x_scr)], [.int (xs ((i + 3)).toNatClampNeg), .int (xs ((i + 2)).toNatClampNeg), .int (xs ((i + 1)).toNatClampNeg), .ref 0], h, 98, 10728)) rfl h3 ?_
  refine x_R.steps 4 (c' := (2087, [(3, .int i), (2, .ref 75), (1, .ref 0), (0, .ref x_scr)], [.int (i + 4), .ref x_scr, .int (xs ((i + 3)).toNatClampNeg), .int (xs ((i + 2)).toNatClampNeg), .int (xs ((i + 1)).toNatClampNeg), .ref 0], h, 98, 10728)) rfl ?_
  refine j_Rsld (c' := (2088, [(3, .int i), (2, .ref 75), (1, .ref 0), (0, .ref x_scr)], [.int (xs ((i + 4)).toNatClampNeg), .int (xs ((i + 3)).toNatClampNeg), .int (xs ((i + 2)).toNatClampNeg), .int (xs ((i + 1)).toNatClampNeg), .ref 0], h, 98, 10728)) rfl h4 ?_
  exact kk

set_option maxRecDepth 100000 in
theorem x_c63b (h : xH) (L : Nat) (xs : Nat → Int32) (i : Int32) (h0 : ¬ (i < 0 ∨ L ≤ (i).toNatClampNeg)) (h1 : ¬ (i + 1 < 0 ∨ L ≤ (i + 1).toNatClampNeg)) (h2 : ¬ (i + 2 < 0 ∨ L ≤ (i + 2).toNatClampNeg)) (h3 : ¬ (i + 3 < 0 ∨ L ≤ (i + 3).toNatClampNeg)) (h4 : ¬ (i + 4 < 0 ∨ L ≤ (i + 4).toNatClampNeg)) (h5 : ¬ (i + 5 < 0 ∨ L ≤ (i + 5).toNatClampNeg)) (v : Int32) {P : Option Value × xH × Nat × Nat → Prop} (kk : x_R x_mt (some (L, xs)) 10 M_law (2113, [(3, .int i), (2, .ref 75), (1, .ref 0), (0, .ref x_scr)], [.int (xs ((i + 4)).toNatClampNeg), .int (xs ((i + 3)).toNatClampNeg), .int (xs ((i + 2)).toNatClampNeg), .int (xs ((i + 1)).toNatClampNeg), .ref 75], h, 98, 10728) P) : x_R x_mt (some (L, xs)) 10 M_law (2091, [(3, .int i), (2, .ref 75), (1, .ref 0), (0, .ref x_scr)], [.int v], h, 98, 10728) P := by
  refine x_R.steps 6 (c' := (2097, [(3, .int i), (2, .ref 75), (1, .ref 0), (0, .ref x_scr)], [.int (i + 1), .ref x_scr, .ref 75], h, 98, 10728)) rfl ?_
  refine j_Rsld (c' := (2098, [(3, .int i), (2, .ref 75), (1, .ref 0), (0, .ref x_scr)], [.int (xs ((i + 1)).toNatClampNeg), .ref 75], h, 98, 10728)) rfl h1 ?_
  refine x_R.steps 4 (c' := (2102, [(3, .int i), (2, .ref 75), (1, .ref 0), (0, .ref x_scr)], [.int (i + 2), .ref x_scr, .int (xs ((i + 1)).toNatClampNeg), .ref 75], h, 98, 10728)) rfl ?_
  refine j_Rsld (c' := (2103, [(3, .int i), (2, .ref 75), (1, .ref 0), (0, .ref x_scr)], [.int (xs ((i + 2)).toNatClampNeg), .int (xs ((i + 1)).toNatClampNeg), .ref 75], h, 98, 10728)) rfl h2 ?_
  refine x_R.steps 4 (c' := (2107, [(3, .int i), (2, .ref 75), (1, .ref 0), (0, .ref x_scr)], [.int (i + 3), .ref x_scr, .int (xs ((i + 2)).toNatClampNeg), .int (xs ((i + 1)).toNatClampNeg), .ref 75], h, 98, 10728)) rfl ?_
  refine j_Rsld (c' := (2108, [(3, .int i), (2, .ref 75), (1, .ref 0), (0, .ref x_scr)], [.int (xs ((i + 3)).toNatClampNeg), .int (xs ((i + 2)).toNatClampNeg), .int (xs ((i + 1)).toNatClampNeg), .ref 75], h, 98, 10728)) rfl h3 ?_
  refine x_R.steps 4 (c' := (2112, [(3, .int i), (2, .ref 75), (1, .ref 0), (0, .ref x_scr)], [.int (i + 4), .ref x_scr, .int (xs ((i + 3)).toNatClampNeg), .int (xs ((i + 2)).toNatClampNeg), .int (xs ((i + 1)).toNatClampNeg), .ref 75], h, 98, 10728)) rfl ?_
  refine j_Rsld (c' := (2113, [(3, .int i), (2, .ref 75), (1, .ref 0), (0, .ref x_scr)], [.int (xs ((i + 4)).toNatClampNeg), .int (xs ((i + 3)).toNatClampNeg), .int (xs ((i + 2)).toNatClampNeg), .int (xs ((i + 1)).toNatClampNeg), .ref 75], h, 98, 10728)) rfl h4 ?_
  exact kk

set_option maxRecDepth 100000 in
theorem x_c63d (h : xH) (L : Nat) (xs : Nat → Int32) (i : Int32) (h0 : ¬ (i < 0 ∨ L ≤ (i).toNatClampNeg)) (h1 : ¬ (i + 1 < 0 ∨ L ≤ (i + 1).toNatClampNeg)) (h2 : ¬ (i + 2 < 0 ∨ L ≤ (i + 2).toNatClampNeg)) (h3 : ¬ (i + 3 < 0 ∨ L ≤ (i + 3).toNatClampNeg)) (h4 : ¬ (i + 4 < 0 ∨ L ≤ (i + 4).toNatClampNeg)) (h5 : ¬ (i + 5 < 0 ∨ L ≤ (i + 5).toNatClampNeg)) (w : Int32) {P : Option Value × xH × Nat × Nat → Prop} (kk : x_R x_mt (some (L, xs)) 10 M_law (18, [(3, .int (i + Int32.ofInt (6))), (2, .ref 75), (1, .ref 0), (0, .ref x_scr)], [], h, 98, 10728) P) : x_R x_mt (some (L, xs)) 10 M_law (2116, [(3, .int i), (2, .ref 75), (1, .ref 0), (0, .ref x_scr)], [.int w], h, 98, 10728) P := by
  refine x_R.steps 4 (c' := (18, [(3, .int (i + Int32.ofInt (6))), (2, .ref 75), (1, .ref 0), (0, .ref x_scr)], [], h, 98, 10728)) rfl ?_
  exact kk

set_option maxRecDepth 100000 in
theorem x_c64a (h : xH) (L : Nat) (xs : Nat → Int32) (i : Int32) (h0 : ¬ (i < 0 ∨ L ≤ (i).toNatClampNeg)) (h1 : ¬ (i + 1 < 0 ∨ L ≤ (i + 1).toNatClampNeg)) (h2 : ¬ (i + 2 < 0 ∨ L ≤ (i + 2).toNatClampNeg)) (h3 : ¬ (i + 3 < 0 ∨ L ≤ (i + 3).toNatClampNeg)) (h4 : ¬ (i + 4 < 0 ∨ L ≤ (i + 4).toNatClampNeg)) (h5 : ¬ (i + 5 < 0 ∨ L ≤ (i + 5).toNatClampNeg)) {P : Option Value × xH × Nat × Nat → Prop} (kk : x_R x_mt (some (L, xs)) 10 M_law (2126, [(3, .int i), (2, .ref 75), (1, .ref 0), (0, .ref x_scr)], [.int (xs ((i + 1)).toNatClampNeg), .ref 0], h, 98, 10728) P) : x_R x_mt (some (L, xs)) 10 M_law (2120, [(3, .int i), (2, .ref 75), (1, .ref 0), (0, .ref x_scr)], [], h, 98, 10728) P := by
  refine x_R.steps 5 (c' := (2125, [(3, .int i), (2, .ref 75), (1, .ref 0), (0, .ref x_scr)], [.int (i + 1), .ref x_scr, .ref 0], h, 98, 10728)) rfl ?_
  refine j_Rsld (c' := (2126, [(3, .int i), (2, .ref 75), (1, .ref 0), (0, .ref x_scr)], [.int (xs ((i + 1)).toNatClampNeg), .ref 0], h, 98, 10728)) rfl h1 ?_
  exact kk

set_option maxRecDepth 100000 in
theorem x_c64b (h : xH) (L : Nat) (xs : Nat → Int32) (i : Int32) (h0 : ¬ (i < 0 ∨ L ≤ (i).toNatClampNeg)) (h1 : ¬ (i + 1 < 0 ∨ L ≤ (i + 1).toNatClampNeg)) (h2 : ¬ (i + 2 < 0 ∨ L ≤ (i + 2).toNatClampNeg)) (h3 : ¬ (i + 3 < 0 ∨ L ≤ (i + 3).toNatClampNeg)) (h4 : ¬ (i + 4 < 0 ∨ L ≤ (i + 4).toNatClampNeg)) (h5 : ¬ (i + 5 < 0 ∨ L ≤ (i + 5).toNatClampNeg)) (v : Int32) {P : Option Value × xH × Nat × Nat → Prop} (kk : x_R x_mt (some (L, xs)) 10 M_law (2136, [(3, .int i), (2, .ref 75), (1, .ref 0), (0, .ref x_scr)], [.int (xs ((i + 1)).toNatClampNeg), .ref 75], h, 98, 10728) P) : x_R x_mt (some (L, xs)) 10 M_law (2129, [(3, .int i), (2, .ref 75), (1, .ref 0), (0, .ref x_scr)], [.int v], h, 98, 10728) P := by
  refine x_R.steps 6 (c' := (2135, [(3, .int i), (2, .ref 75), (1, .ref 0), (0, .ref x_scr)], [.int (i + 1), .ref x_scr, .ref 75], h, 98, 10728)) rfl ?_
  refine j_Rsld (c' := (2136, [(3, .int i), (2, .ref 75), (1, .ref 0), (0, .ref x_scr)], [.int (xs ((i + 1)).toNatClampNeg), .ref 75], h, 98, 10728)) rfl h1 ?_
  exact kk

set_option maxRecDepth 100000 in
theorem x_c64d (h : xH) (L : Nat) (xs : Nat → Int32) (i : Int32) (h0 : ¬ (i < 0 ∨ L ≤ (i).toNatClampNeg)) (h1 : ¬ (i + 1 < 0 ∨ L ≤ (i + 1).toNatClampNeg)) (h2 : ¬ (i + 2 < 0 ∨ L ≤ (i + 2).toNatClampNeg)) (h3 : ¬ (i + 3 < 0 ∨ L ≤ (i + 3).toNatClampNeg)) (h4 : ¬ (i + 4 < 0 ∨ L ≤ (i + 4).toNatClampNeg)) (h5 : ¬ (i + 5 < 0 ∨ L ≤ (i + 5).toNatClampNeg)) (w : Int32) {P : Option Value × xH × Nat × Nat → Prop} (kk : x_R x_mt (some (L, xs)) 10 M_law (18, [(3, .int (i + Int32.ofInt (6))), (2, .ref 75), (1, .ref 0), (0, .ref x_scr)], [], h, 98, 10728) P) : x_R x_mt (some (L, xs)) 10 M_law (2139, [(3, .int i), (2, .ref 75), (1, .ref 0), (0, .ref x_scr)], [.int w], h, 98, 10728) P := by
  refine x_R.steps 4 (c' := (18, [(3, .int (i + Int32.ofInt (6))), (2, .ref 75), (1, .ref 0), (0, .ref x_scr)], [], h, 98, 10728)) rfl ?_
  exact kk

set_option maxRecDepth 100000 in
theorem x_c65a (h : xH) (L : Nat) (xs : Nat → Int32) (i : Int32) (h0 : ¬ (i < 0 ∨ L ≤ (i).toNatClampNeg)) (h1 : ¬ (i + 1 < 0 ∨ L ≤ (i + 1).toNatClampNeg)) (h2 : ¬ (i + 2 < 0 ∨ L ≤ (i + 2).toNatClampNeg)) (h3 : ¬ (i + 3 < 0 ∨ L ≤ (i + 3).toNatClampNeg)) (h4 : ¬ (i + 4 < 0 ∨ L ≤ (i + 4).toNatClampNeg)) (h5 : ¬ (i + 5 < 0 ∨ L ≤ (i + 5).toNatClampNeg)) {P : Option Value × xH × Nat × Nat → Prop} (kk : x_R x_mt (some (L, xs)) 10 M_law (2149, [(3, .int i), (2, .ref 75), (1, .ref 0), (0, .ref x_scr)], [.int (xs ((i + 1)).toNatClampNeg), .ref 0], h, 98, 10728) P) : x_R x_mt (some (L, xs)) 10 M_law (2143, [(3, .int i), (2, .ref 75), (1, .ref 0), (0, .ref x_scr)], [], h, 98, 10728) P := by
  refine x_R.steps 5 (c' := (2148, [(3, .int i), (2, .ref 75), (1, .ref 0), (0, .ref x_scr)], [.int (i + 1), .ref x_scr, .ref 0], h, 98, 10728)) rfl ?_
  refine j_Rsld (c' := (2149, [(3, .int i), (2, .ref 75), (1, .ref 0), (0, .ref x_scr)], [.int (xs ((i + 1)).toNatClampNeg), .ref 0], h, 98, 10728)) rfl h1 ?_
  exact kk

set_option maxRecDepth 100000 in
theorem x_c65b (h : xH) (L : Nat) (xs : Nat → Int32) (i : Int32) (h0 : ¬ (i < 0 ∨ L ≤ (i).toNatClampNeg)) (h1 : ¬ (i + 1 < 0 ∨ L ≤ (i + 1).toNatClampNeg)) (h2 : ¬ (i + 2 < 0 ∨ L ≤ (i + 2).toNatClampNeg)) (h3 : ¬ (i + 3 < 0 ∨ L ≤ (i + 3).toNatClampNeg)) (h4 : ¬ (i + 4 < 0 ∨ L ≤ (i + 4).toNatClampNeg)) (h5 : ¬ (i + 5 < 0 ∨ L ≤ (i + 5).toNatClampNeg)) (v : Int32) {P : Option Value × xH × Nat × Nat → Prop} (kk : x_R x_mt (some (L, xs)) 10 M_law (2159, [(3, .int i), (2, .ref 75), (1, .ref 0), (0, .ref x_scr)], [.int (xs ((i + 1)).toNatClampNeg), .ref 75], h, 98, 10728) P) : x_R x_mt (some (L, xs)) 10 M_law (2152, [(3, .int i), (2, .ref 75), (1, .ref 0), (0, .ref x_scr)], [.int v], h, 98, 10728) P := by
  refine x_R.steps 6 (c' := (2158, [(3, .int i), (2, .ref 75), (1, .ref 0), (0, .ref x_scr)], [.int (i + 1), .ref x_scr, .ref 75], h, 98, 10728)) rfl ?_
  refine j_Rsld (c' := (2159, [(3, .int i), (2, .ref 75), (1, .ref 0), (0, .ref x_scr)], [.int (xs ((i + 1)).toNatClampNeg), .ref 75], h, 98, 10728)) rfl h1 ?_
  exact kk

set_option maxRecDepth 100000 in
theorem x_c65d (h : xH) (L : Nat) (xs : Nat → Int32) (i : Int32) (h0 : ¬ (i < 0 ∨ L ≤ (i).toNatClampNeg)) (h1 : ¬ (i + 1 < 0 ∨ L ≤ (i + 1).toNatClampNeg)) (h2 : ¬ (i + 2 < 0 ∨ L ≤ (i + 2).toNatClampNeg)) (h3 : ¬ (i + 3 < 0 ∨ L ≤ (i + 3).toNatClampNeg)) (h4 : ¬ (i + 4 < 0 ∨ L ≤ (i + 4).toNatClampNeg)) (h5 : ¬ (i + 5 < 0 ∨ L ≤ (i + 5).toNatClampNeg)) (w : Int32) {P : Option Value × xH × Nat × Nat → Prop} (kk : x_R x_mt (some (L, xs)) 10 M_law (18, [(3, .int (i + Int32.ofInt (6))), (2, .ref 75), (1, .ref 0), (0, .ref x_scr)], [], h, 98, 10728) P) : x_R x_mt (some (L, xs)) 10 M_law (2162, [(3, .int i), (2, .ref 75), (1, .ref 0), (0, .ref x_scr)], [.int w], h, 98, 10728) P := by
  refine x_R.steps 4 (c' := (18, [(3, .int (i + Int32.ofInt (6))), (2, .ref 75), (1, .ref 0), (0, .ref x_scr)], [], h, 98, 10728)) rfl ?_
  exact kk

set_option maxRecDepth 100000 in
theorem x_c66a (h : xH) (L : Nat) (xs : Nat → Int32) (i : Int32) (h0 : ¬ (i < 0 ∨ L ≤ (i).toNatClampNeg)) (h1 : ¬ (i + 1 < 0 ∨ L ≤ (i + 1).toNatClampNeg)) (h2 : ¬ (i + 2 < 0 ∨ L ≤ (i + 2).toNatClampNeg)) (h3 : ¬ (i + 3 < 0 ∨ L ≤ (i + 3).toNatClampNeg)) (h4 : ¬ (i + 4 < 0 ∨ L ≤ (i + 4).toNatClampNeg)) (h5 : ¬ (i + 5 < 0 ∨ L ≤ (i + 5).toNatClampNeg)) {P : Option Value × xH × Nat × Nat → Prop} (kk : x_R x_mt (some (L, xs)) 10 M_law (2172, [(3, .int i), (2, .ref 75), (1, .ref 0), (0, .ref x_scr)], [.int (xs ((i + 1)).toNatClampNeg), .ref 0], h, 98, 10728) P) : x_R x_mt (some (L, xs)) 10 M_law (2166, [(3, .int i), (2, .ref 75), (1, .ref 0), (0, .ref x_scr)], [], h, 98, 10728) P := by
  refine x_R.steps 5 (c' := (2171, [(3, .int i), (2, .ref 75), (1, .ref 0), (0, .ref x_scr)], [.int (i + 1), .ref x_scr, .ref 0], h, 98, 10728)) rfl ?_
  refine j_Rsld (c' := (2172, [(3, .int i), (2, .ref 75), (1, .ref 0), (0, .ref x_scr)], [.int (xs ((i + 1)).toNatClampNeg), .ref 0], h, 98, 10728)) rfl h1 ?_
  exact kk

set_option maxRecDepth 100000 in
theorem x_c66b (h : xH) (L : Nat) (xs : Nat → Int32) (i : Int32) (h0 : ¬ (i < 0 ∨ L ≤ (i).toNatClampNeg)) (h1 : ¬ (i + 1 < 0 ∨ L ≤ (i + 1).toNatClampNeg)) (h2 : ¬ (i + 2 < 0 ∨ L ≤ (i + 2).toNatClampNeg)) (h3 : ¬ (i + 3 < 0 ∨ L ≤ (i + 3).toNatClampNeg)) (h4 : ¬ (i + 4 < 0 ∨ L ≤ (i + 4).toNatClampNeg)) (h5 : ¬ (i + 5 < 0 ∨ L ≤ (i + 5).toNatClampNeg)) (v : Int32) {P : Option Value × xH × Nat × Nat → Prop} (kk : x_R x_mt (some (L, xs)) 10 M_law (2182, [(3, .int i), (2, .ref 75), (1, .ref 0), (0, .ref x_scr)], [.int (xs ((i + 1)).toNatClampNeg), .ref 75], h, 98, 10728) P) : x_R x_mt (some (L, xs)) 10 M_law (2175, [(3, .int i), (2, .ref 75), (1, .ref 0), (0, .ref x_scr)], [.int v], h, 98, 10728) P := by
  refine x_R.steps 6 (c' := (2181, [(3, .int i), (2, .ref 75), (1, .ref 0), (0, .ref x_scr)], [.int (i + 1), .ref x_scr, .ref 75], h, 98, 10728)) rfl ?_
  refine j_Rsld (c' := (2182, [(3, .int i), (2, .ref 75), (1, .ref 0), (0, .ref x_scr)], [.int (xs ((i + 1)).toNatClampNeg), .ref 75], h, 98, 10728)) rfl h1 ?_
  exact kk

set_option maxRecDepth 100000 in
theorem x_c66d (h : xH) (L : Nat) (xs : Nat → Int32) (i : Int32) (h0 : ¬ (i < 0 ∨ L ≤ (i).toNatClampNeg)) (h1 : ¬ (i + 1 < 0 ∨ L ≤ (i + 1).toNatClampNeg)) (h2 : ¬ (i + 2 < 0 ∨ L ≤ (i + 2).toNatClampNeg)) (h3 : ¬ (i + 3 < 0 ∨ L ≤ (i + 3).toNatClampNeg)) (h4 : ¬ (i + 4 < 0 ∨ L ≤ (i + 4).toNatClampNeg)) (h5 : ¬ (i + 5 < 0 ∨ L ≤ (i + 5).toNatClampNeg)) (w : Int32) {P : Option Value × xH × Nat × Nat → Prop} (kk : x_R x_mt (some (L, xs)) 10 M_law (18, [(3, .int (i + Int32.ofInt (6))), (2, .ref 75), (1, .ref 0), (0, .ref x_scr)], [], h, 98, 10728) P) : x_R x_mt (some (L, xs)) 10 M_law (2185, [(3, .int i), (2, .ref 75), (1, .ref 0), (0, .ref x_scr)], [.int w], h, 98, 10728) P := by
  refine x_R.steps 4 (c' := (18, [(3, .int (i + Int32.ofInt (6))), (2, .ref 75), (1, .ref 0), (0, .ref x_scr)], [], h, 98, 10728)) rfl ?_
  exact kk

set_option maxRecDepth 100000 in
theorem x_c67a (h : xH) (L : Nat) (xs : Nat → Int32) (i : Int32) (h0 : ¬ (i < 0 ∨ L ≤ (i).toNatClampNeg)) (h1 : ¬ (i + 1 < 0 ∨ L ≤ (i + 1).toNatClampNeg)) (h2 : ¬ (i + 2 < 0 ∨ L ≤ (i + 2).toNatClampNeg)) (h3 : ¬ (i + 3 < 0 ∨ L ≤ (i + 3).toNatClampNeg)) (h4 : ¬ (i + 4 < 0 ∨ L ≤ (i + 4).toNatClampNeg)) (h5 : ¬ (i + 5 < 0 ∨ L ≤ (i + 5).toNatClampNeg)) {P : Option Value × xH × Nat × Nat → Prop} (kk : x_R x_mt (some (L, xs)) 10 M_law (2205, [(3, .int i), (2, .ref 75), (1, .ref 0), (0, .ref x_scr)], [.int (xs ((i + 3)).toNatClampNeg), .int (xs ((i + 2)).toNatClampNeg), .int (xs ((i + 1)).toNatClampNeg), .ref 0], h, 98, 10728) P) : x_R x_mt (some (L, xs)) 10 M_law (2189, [(3, .int i), (2, .ref 75), (1, .ref 0), (0, .ref x_scr)], [], h, 98, 10728) P := by
  refine x_R.steps 5 (c' := (2194, [(3, .int i), (2, .ref 75), (1, .ref 0), (0, .ref x_scr)], [.int (i + 1), .ref x_scr, .ref 0], h, 98, 10728)) rfl ?_
  refine j_Rsld (c' := (2195, [(3, .int i), (2, .ref 75), (1, .ref 0), (0, .ref x_scr)], [.int (xs ((i + 1)).toNatClampNeg), .ref 0], h, 98, 10728)) rfl h1 ?_
  refine x_R.steps 4 (c' := (2199, [(3, .int i), (2, .ref 75), (1, .ref 0), (0, .ref x_scr)], [.int (i + 2), .ref x_scr, .int (xs ((i + 1)).toNatClampNeg), .ref 0], h, 98, 10728)) rfl ?_
  refine j_Rsld (c' := (2200, [(3, .int i), (2, .ref 75), (1, .ref 0), (0, .ref x_scr)], [.int (xs ((i + 2)).toNatClampNeg), .int (xs ((i + 1)).toNatClampNeg), .ref 0], h, 98, 10728)) rfl h2 ?_
  refine x_R.steps 4 (c' := (2204, [(3, .int i), (2, .ref 75), (1, .ref 0), (0, .ref x_scr)], [.int (i + 3), .ref x_scr, .int (xs ((i + 2)).toNatClampNeg), .int (xs ((i + 1)).toNatClampNeg), .ref 0], h, 98, 10728)) rfl ?_
  refine j_Rsld (c' := (2205, [(3, .int i), (2, .ref 75), (1, .ref 0), (0, .ref x_scr)], [.int (xs ((i + 3)).toNatClampNeg), .int (xs ((i + 2)).toNatClampNeg), .int (xs ((i + 1)).toNatClampNeg), .ref 0], h, 98, 10728)) rfl h3 ?_
  exact kk

set_option maxRecDepth 100000 in
theorem x_c67b (h : xH) (L : Nat) (xs : Nat → Int32) (i : Int32) (h0 : ¬ (i < 0 ∨ L ≤ (i).toNatClampNeg)) (h1 : ¬ (i + 1 < 0 ∨ L ≤ (i + 1).toNatClampNeg)) (h2 : ¬ (i + 2 < 0 ∨ L ≤ (i + 2).toNatClampNeg)) (h3 : ¬ (i + 3 < 0 ∨ L ≤ (i + 3).toNatClampNeg)) (h4 : ¬ (i + 4 < 0 ∨ L ≤ (i + 4).toNatClampNeg)) (h5 : ¬ (i + 5 < 0 ∨ L ≤ (i + 5).toNatClampNeg)) (v : Int32) {P : Option Value × xH × Nat × Nat → Prop} (kk : x_R x_mt (some (L, xs)) 10 M_law (2224, [(3, .int i), (2, .ref 75), (1, .ref 0), (0, .ref x_scr)], [.int (xs ((i + 3)).toNatClampNeg), .int (xs ((i + 2)).toNatClampNeg), .int (xs ((i + 1)).toNatClampNeg), .ref 75, .int v], h, 98, 10728) P) : x_R x_mt (some (L, xs)) 10 M_law (2208, [(3, .int i), (2, .ref 75), (1, .ref 0), (0, .ref x_scr)], [.int v], h, 98, 10728) P := by
  refine x_R.steps 5 (c' := (2213, [(3, .int i), (2, .ref 75), (1, .ref 0), (0, .ref x_scr)], [.int (i + 1), .ref x_scr, .ref 75, .int v], h, 98, 10728)) rfl ?_
  refine j_Rsld (c' := (2214, [(3, .int i), (2, .ref 75), (1, .ref 0), (0, .ref x_scr)], [.int (xs ((i + 1)).toNatClampNeg), .ref 75, .int v], h, 98, 10728)) rfl h1 ?_
  refine x_R.steps 4 (c' := (2218, [(3, .int i), (2, .ref 75), (1, .ref 0), (0, .ref x_scr)], [.int (i + 2), .ref x_scr, .int (xs ((i + 1)).toNatClampNeg), .ref 75, .int v], h, 98, 10728)) rfl ?_
  refine j_Rsld (c' := (2219, [(3, .int i), (2, .ref 75), (1, .ref 0), (0, .ref x_scr)], [.int (xs ((i + 2)).toNatClampNeg), .int (xs ((i + 1)).toNatClampNeg), .ref 75, .int v], h, 98, 10728)) rfl h2 ?_
  refine x_R.steps 4 (c' := (2223, [(3, .int i), (2, .ref 75), (1, .ref 0), (0, .ref x_scr)], [.int (i + 3), .ref x_scr, .int (xs ((i + 2)).toNatClampNeg), .int (xs ((i + 1)).toNatClampNeg), .ref 75, .int v], h, 98, 10728)) rfl ?_
  refine j_Rsld (c' := (2224, [(3, .int i), (2, .ref 75), (1, .ref 0), (0, .ref x_scr)], [.int (xs ((i + 3)).toNatClampNeg), .int (xs ((i + 2)).toNatClampNeg), .int (xs ((i + 1)).toNatClampNeg), .ref 75, .int v], h, 98, 10728)) rfl h3 ?_
  exact kk

set_option maxRecDepth 100000 in
theorem x_c67c (h : xH) (L : Nat) (xs : Nat → Int32) (i : Int32) (v : Int32) {P : Option Value × xH × Nat × Nat → Prop} (kk : x_R x_mt (some (L, xs)) 10 M_law (2368, [(3, .int i), (2, .ref 75), (1, .ref 0), (0, .ref x_scr)], [], h, 98, 10728) P) : x_R x_mt (some (L, xs)) 10 M_law (2227, [(3, .int i), (2, .ref 75), (1, .ref 0), (0, .ref x_scr)], [.int v, .int v], h, 98, 10728) P := by
  exact x_R.ite (p := v = v) (c1 := (2368, [(3, .int i), (2, .ref 75), (1, .ref 0), (0, .ref x_scr)], [], h, 98, 10728)) (c2 := (2230, [(3, .int i), (2, .ref 75), (1, .ref 0), (0, .ref x_scr)], [], h, 98, 10728)) rfl (fun _ => kk) (fun z => absurd rfl z)

set_option maxRecDepth 100000 in
theorem x_c67d (h : xH) (L : Nat) (xs : Nat → Int32) (i : Int32) (h0 : ¬ (i < 0 ∨ L ≤ (i).toNatClampNeg)) (h1 : ¬ (i + 1 < 0 ∨ L ≤ (i + 1).toNatClampNeg)) (h2 : ¬ (i + 2 < 0 ∨ L ≤ (i + 2).toNatClampNeg)) (h3 : ¬ (i + 3 < 0 ∨ L ≤ (i + 3).toNatClampNeg)) (h4 : ¬ (i + 4 < 0 ∨ L ≤ (i + 4).toNatClampNeg)) (h5 : ¬ (i + 5 < 0 ∨ L ≤ (i + 5).toNatClampNeg)) {P : Option Value × xH × Nat × Nat → Prop} (kk : x_R x_mt (some (L, xs)) 10 M_law (18, [(3, .int (i + Int32.ofInt (6))), (2, .ref 75), (1, .ref 0), (0, .ref x_scr)], [], h, 98, 10728) P) : x_R x_mt (some (L, xs)) 10 M_law (2368, [(3, .int i), (2, .ref 75), (1, .ref 0), (0, .ref x_scr)], [], h, 98, 10728) P := by
  refine x_R.steps 2 (c' := (18, [(3, .int (i + Int32.ofInt (6))), (2, .ref 75), (1, .ref 0), (0, .ref x_scr)], [], h, 98, 10728)) rfl ?_
  exact kk

set_option maxRecDepth 100000 in
theorem x_c68a (h : xH) (L : Nat) (xs : Nat → Int32) (i : Int32) (h0 : ¬ (i < 0 ∨ L ≤ (i).toNatClampNeg)) (h1 : ¬ (i + 1 < 0 ∨ L ≤ (i + 1).toNatClampNeg)) (h2 : ¬ (i + 2 < 0 ∨ L ≤ (i + 2).toNatClampNeg)) (h3 : ¬ (i + 3 < 0 ∨ L ≤ (i + 3).toNatClampNeg)) (h4 : ¬ (i + 4 < 0 ∨ L ≤ (i + 4).toNatClampNeg)) (h5 : ¬ (i + 5 < 0 ∨ L ≤ (i + 5).toNatClampNeg)) {P : Option Value × xH × Nat × Nat → Prop} (kk : x_R x_mt (some (L, xs)) 10 M_law (2263, [(3, .int i), (2, .ref 75), (1, .ref 0), (0, .ref x_scr)], [.long ((((xs ((i + 3)).toNatClampNeg)).toInt64 <<< ((32 : Int32).toInt64 &&& 63)) ||| (((xs ((i + 4)).toNatClampNeg)).toInt64 &&& 4294967295)), .int (xs ((i + 2)).toNatClampNeg), .int (xs ((i + 1)).toNatClampNeg), .ref 0], h, 98, 10728) P) : x_R x_mt (some (L, xs)) 10 M_law (2232, [(3, .int i), (2, .ref 75), (1, .ref 0), (0, .ref x_scr)], [], h, 98, 10728) P := by
  refine x_R.steps 5 (c' := (2237, [(3, .int i), (2, .ref 75), (1, .ref 0), (0, .ref x_scr)], [.int (i + 1), .ref x_scr, .ref 0], h, 98, 10728)) rfl ?_
  refine j_Rsld (c' := (2238, [(3, .int i), (2, .ref 75), (1, .ref 0), (0, .ref x_scr)], [.int (xs ((i + 1)).toNatClampNeg), .ref 0], h, 98, 10728)) rfl h1 ?_
  refine x_R.steps 4 (c' := (2242, [(3, .int i), (2, .ref 75), (1, .ref 0), (0, .ref x_scr)], [.int (i + 2), .ref x_scr, .int (xs ((i + 1)).toNatClampNeg), .ref 0], h, 98, 10728)) rfl ?_
  refine j_Rsld (c' := (2243, [(3, .int i), (2, .ref 75), (1, .ref 0), (0, .ref x_scr)], [.int (xs ((i + 2)).toNatClampNeg), .int (xs ((i + 1)).toNatClampNeg), .ref 0], h, 98, 10728)) rfl h2 ?_
  refine x_R.steps 4 (c' := (2247, [(3, .int i), (2, .ref 75), (1, .ref 0), (0, .ref x_scr)], [.int (i + 3), .ref x_scr, .int (xs ((i + 2)).toNatClampNeg), .int (xs ((i + 1)).toNatClampNeg), .ref 0], h, 98, 10728)) rfl ?_
  refine j_Rsld (c' := (2248, [(3, .int i), (2, .ref 75), (1, .ref 0), (0, .ref x_scr)], [.int (xs ((i + 3)).toNatClampNeg), .int (xs ((i + 2)).toNatClampNeg), .int (xs ((i + 1)).toNatClampNeg), .ref 0], h, 98, 10728)) rfl h3 ?_
  refine x_R.steps 7 (c' := (2256, [(3, .int i), (2, .ref 75), (1, .ref 0), (0, .ref x_scr)], [.int (i + 4), .ref x_scr, .long (((xs ((i + 3)).toNatClampNeg)).toInt64 <<< ((32 : Int32).toInt64 &&& 63)), .int (xs ((i + 2)).toNatClampNeg), .int (xs ((i + 1)).toNatClampNeg), .ref 0], h, 98, 10728)) rfl ?_
  refine j_Rsld (c' := (2257, [(3, .int i), (2, .ref 75), (1, .ref 0), (0, .ref x_scr)], [.int (xs ((i + 4)).toNatClampNeg), .long (((xs ((i + 3)).toNatClampNeg)).toInt64 <<< ((32 : Int32).toInt64 &&& 63)), .int (xs ((i + 2)).toNatClampNeg), .int (xs ((i + 1)).toNatClampNeg), .ref 0], h, 98, 10728)) rfl h4 ?_
  refine x_R.steps 4 (c' := (2263, [(3, .int i), (2, .ref 75), (1, .ref 0), (0, .ref x_scr)], [.long ((((xs ((i + 3)).toNatClampNeg)).toInt64 <<< ((32 : Int32).toInt64 &&& 63)) ||| (((xs ((i + 4)).toNatClampNeg)).toInt64 &&& 4294967295)), .int (xs ((i + 2)).toNatClampNeg), .int (xs ((i + 1)).toNatClampNeg), .ref 0], h, 98, 10728)) rfl ?_
  exact kk

set_option maxRecDepth 100000 in
theorem x_c68b (h : xH) (L : Nat) (xs : Nat → Int32) (i : Int32) (h0 : ¬ (i < 0 ∨ L ≤ (i).toNatClampNeg)) (h1 : ¬ (i + 1 < 0 ∨ L ≤ (i + 1).toNatClampNeg)) (h2 : ¬ (i + 2 < 0 ∨ L ≤ (i + 2).toNatClampNeg)) (h3 : ¬ (i + 3 < 0 ∨ L ≤ (i + 3).toNatClampNeg)) (h4 : ¬ (i + 4 < 0 ∨ L ≤ (i + 4).toNatClampNeg)) (h5 : ¬ (i + 5 < 0 ∨ L ≤ (i + 5).toNatClampNeg)) (v : Int32) {P : Option Value × xH × Nat × Nat → Prop} (kk : x_R x_mt (some (L, xs)) 10 M_law (2298, [(3, .int i), (2, .ref 75), (1, .ref 0), (0, .ref x_scr)], [.long ((((xs ((i + 3)).toNatClampNeg)).toInt64 <<< ((32 : Int32).toInt64 &&& 63)) ||| (((xs ((i + 4)).toNatClampNeg)).toInt64 &&& 4294967295)), .int (xs ((i + 2)).toNatClampNeg), .int (xs ((i + 1)).toNatClampNeg), .ref 75], h, 98, 10728) P) : x_R x_mt (some (L, xs)) 10 M_law (2266, [(3, .int i), (2, .ref 75), (1, .ref 0), (0, .ref x_scr)], [.int v], h, 98, 10728) P := by
  refine x_R.steps 6 (c' := (2272, [(3, .int i), (2, .ref 75), (1, .ref 0), (0, .ref x_scr)], [.int (i + 1), .ref x_scr, .ref 75], h, 98, 10728)) rfl ?_
  refine j_Rsld (c' := (2273, [(3, .int i), (2, .ref 75), (1, .ref 0), (0, .ref x_scr)], [.int (xs ((i + 1)).toNatClampNeg), .ref 75], h, 98, 10728)) rfl h1 ?_
  refine x_R.steps 4 (c' := (2277, [(3, .int i), (2, .ref 75), (1, .ref 0), (0, .ref x_scr)], [.int (i + 2), .ref x_scr, .int (xs ((i + 1)).toNatClampNeg), .ref 75], h, 98, 10728)) rfl ?_
  refine j_Rsld (c' := (2278, [(3, .int i), (2, .ref 75), (1, .ref 0), (0, .ref x_scr)], [.int (xs ((i + 2)).toNatClampNeg), .int (xs ((i + 1)).toNatClampNeg), .ref 75], h, 98, 10728)) rfl h2 ?_
  refine x_R.steps 4 (c' := (2282, [(3, .int i), (2, .ref 75), (1, .ref 0), (0, .ref x_scr)], [.int (i + 3), .ref x_scr, .int (xs ((i + 2)).toNatClampNeg), .int (xs ((i + 1)).toNatClampNeg), .ref 75], h, 98, 10728)) rfl ?_
  refine j_Rsld (c' := (2283, [(3, .int i), (2, .ref 75), (1, .ref 0), (0, .ref x_scr)], [.int (xs ((i + 3)).toNatClampNeg), .int (xs ((i + 2)).toNatClampNeg), .int (xs ((i + 1)).toNatClampNeg), .ref 75], h, 98, 10728)) rfl h3 ?_
  refine x_R.steps 7 (c' := (2291, [(3, .int i), (2, .ref 75), (1, .ref 0), (0, .ref x_scr)], [.int (i + 4), .ref x_scr, .long (((xs ((i + 3)).toNatClampNeg)).toInt64 <<< ((32 : Int32).toInt64 &&& 63)), .int (xs ((i + 2)).toNatClampNeg), .int (xs ((i + 1)).toNatClampNeg), .ref 75], h, 98, 10728)) rfl ?_
  refine j_Rsld (c' := (2292, [(3, .int i), (2, .ref 75), (1, .ref 0), (0, .ref x_scr)], [.int (xs ((i + 4)).toNatClampNeg), .long (((xs ((i + 3)).toNatClampNeg)).toInt64 <<< ((32 : Int32).toInt64 &&& 63)), .int (xs ((i + 2)).toNatClampNeg), .int (xs ((i + 1)).toNatClampNeg), .ref 75], h, 98, 10728)) rfl h4 ?_
  refine x_R.steps 4 (c' := (2298, [(3, .int i), (2, .ref 75), (1, .ref 0), (0, .ref x_scr)], [.long ((((xs ((i + 3)).toNatClampNeg)).toInt64 <<< ((32 : Int32).toInt64 &&& 63)) ||| (((xs ((i + 4)).toNatClampNeg)).toInt64 &&& 4294967295)), .int (xs ((i + 2)).toNatClampNeg), .int (xs ((i + 1)).toNatClampNeg), .ref 75], h, 98, 10728)) rfl ?_
  exact kk

set_option maxRecDepth 100000 in
theorem x_c68d (h : xH) (L : Nat) (xs : Nat → Int32) (i : Int32) (h0 : ¬ (i < 0 ∨ L ≤ (i).toNatClampNeg)) (h1 : ¬ (i + 1 < 0 ∨ L ≤ (i + 1).toNatClampNeg)) (h2 : ¬ (i + 2 < 0 ∨ L ≤ (i + 2).toNatClampNeg)) (h3 : ¬ (i + 3 < 0 ∨ L ≤ (i + 3).toNatClampNeg)) (h4 : ¬ (i + 4 < 0 ∨ L ≤ (i + 4).toNatClampNeg)) (h5 : ¬ (i + 5 < 0 ∨ L ≤ (i + 5).toNatClampNeg)) (w : Int32) {P : Option Value × xH × Nat × Nat → Prop} (kk : x_R x_mt (some (L, xs)) 10 M_law (18, [(3, .int (i + Int32.ofInt (6))), (2, .ref 75), (1, .ref 0), (0, .ref x_scr)], [], h, 98, 10728) P) : x_R x_mt (some (L, xs)) 10 M_law (2301, [(3, .int i), (2, .ref 75), (1, .ref 0), (0, .ref x_scr)], [.int w], h, 98, 10728) P := by
  refine x_R.steps 4 (c' := (18, [(3, .int (i + Int32.ofInt (6))), (2, .ref 75), (1, .ref 0), (0, .ref x_scr)], [], h, 98, 10728)) rfl ?_
  exact kk

set_option maxRecDepth 100000 in
theorem x_c69a (h : xH) (L : Nat) (xs : Nat → Int32) (i : Int32) (h0 : ¬ (i < 0 ∨ L ≤ (i).toNatClampNeg)) (h1 : ¬ (i + 1 < 0 ∨ L ≤ (i + 1).toNatClampNeg)) (h2 : ¬ (i + 2 < 0 ∨ L ≤ (i + 2).toNatClampNeg)) (h3 : ¬ (i + 3 < 0 ∨ L ≤ (i + 3).toNatClampNeg)) (h4 : ¬ (i + 4 < 0 ∨ L ≤ (i + 4).toNatClampNeg)) (h5 : ¬ (i + 5 < 0 ∨ L ≤ (i + 5).toNatClampNeg)) {P : Option Value × xH × Nat × Nat → Prop} (kk : x_R x_mt (some (L, xs)) 10 M_law (2331, [(3, .int i), (2, .ref 75), (1, .ref 0), (0, .ref x_scr)], [.int (xs ((i + 5)).toNatClampNeg), .int (xs ((i + 4)).toNatClampNeg), .int (xs ((i + 3)).toNatClampNeg), .int (xs ((i + 2)).toNatClampNeg), .int (xs ((i + 1)).toNatClampNeg), .ref 0], h, 98, 10728) P) : x_R x_mt (some (L, xs)) 10 M_law (2305, [(3, .int i), (2, .ref 75), (1, .ref 0), (0, .ref x_scr)], [], h, 98, 10728) P := by
  refine x_R.steps 5 (c' := (2310, [(3, .int i), (2, .ref 75), (1, .ref 0), (0, .ref x_scr)], [.int (i + 1), .ref x_scr, .ref 0], h, 98, 10728)) rfl ?_
  refine j_Rsld (c' := (2311, [(3, .int i), (2, .ref 75), (1, .ref 0), (0, .ref x_scr)], [.int (xs ((i + 1)).toNatClampNeg), .ref 0], h, 98, 10728)) rfl h1 ?_
  refine x_R.steps 4 (c' := (2315, [(3, .int i), (2, .ref 75), (1, .ref 0), (0, .ref x_scr)], [.int (i + 2), .ref x_scr, .int (xs ((i + 1)).toNatClampNeg), .ref 0], h, 98, 10728)) rfl ?_
  refine j_Rsld (c' := (2316, [(3, .int i), (2, .ref 75), (1, .ref 0), (0, .ref x_scr)], [.int (xs ((i + 2)).toNatClampNeg), .int (xs ((i + 1)).toNatClampNeg), .ref 0], h, 98, 10728)) rfl h2 ?_
  refine x_R.steps 4 (c' := (2320, [(3, .int i), (2, .ref 75), (1, .ref 0), (0, .ref x_scr)], [.int (i + 3), .ref x_scr, .int (xs ((i + 2)).toNatClampNeg), .int (xs ((i + 1)).toNatClampNeg), .ref 0], h, 98, 10728)) rfl ?_
  refine j_Rsld (c' := (2321, [(3, .int i), (2, .ref 75), (1, .ref 0), (0, .ref x_scr)], [.int (xs ((i + 3)).toNatClampNeg), .int (xs ((i + 2)).toNatClampNeg), .int (xs ((i + 1)).toNatClampNeg), .ref 0], h, 98, 10728)) rfl h3 ?_
  refine x_R.steps 4 (c' := (2325, [(3, .int i), (2, .ref 75), (1, .ref 0), (0, .ref x_scr)], [.int (i + 4), .ref x_scr, .int (xs ((i + 3)).toNatClampNeg), .int (xs ((i + 2)).toNatClampNeg), .int (xs ((i + 1)).toNatClampNeg), .ref 0], h, 98, 10728)) rfl ?_
  refine j_Rsld (c' := (2326, [(3, .int i), (2, .ref 75), (1, .ref 0), (0, .ref x_scr)], [.int (xs ((i + 4)).toNatClampNeg), .int (xs ((i + 3)).toNatClampNeg), .int (xs ((i + 2)).toNatClampNeg), .int (xs ((i + 1)).toNatClampNeg), .ref 0], h, 98, 10728)) rfl h4 ?_
  refine x_R.steps 4 (c' := (2330, [(3, .int i), (2, .ref 75), (1, .ref 0), (0, .ref x_scr)], [.int (i + 5), .ref x_scr, .int (xs ((i + 4)).toNatClampNeg), .int (xs ((i + 3)).toNatClampNeg), .int (xs ((i + 2)).toNatClampNeg), .int (xs ((i + 1)).toNatClampNeg), .ref 0], h, 98, 10728)) rfl ?_
  refine j_Rsld (c' := (2331, [(3, .int i), (2, .ref 75), (1, .ref 0), (0, .ref x_scr)], [.int (xs ((i + 5)).toNatClampNeg), .int (xs ((i + 4)).toNatClampNeg), .int (xs ((i + 3)).toNatClampNeg), .int (xs ((i + 2)).toNatClampNeg), .int (xs ((i + 1)).toNatClampNeg), .ref 0], h, 98, 10728)) rfl h5 ?_
  exact kk

set_option maxRecDepth 100000 in
theorem x_c69b (h : xH) (L : Nat) (xs : Nat → Int32) (i : Int32) (h0 : ¬ (i < 0 ∨ L ≤ (i).toNatClampNeg)) (h1 : ¬ (i + 1 < 0 ∨ L ≤ (i + 1).toNatClampNeg)) (h2 : ¬ (i + 2 < 0 ∨ L ≤ (i + 2).toNatClampNeg)) (h3 : ¬ (i + 3 < 0 ∨ L ≤ (i + 3).toNatClampNeg)) (h4 : ¬ (i + 4 < 0 ∨ L ≤ (i + 4).toNatClampNeg)) (h5 : ¬ (i + 5 < 0 ∨ L ≤ (i + 5).toNatClampNeg)) (v : Int32) {P : Option Value × xH × Nat × Nat → Prop} (kk : x_R x_mt (some (L, xs)) 10 M_law (2361, [(3, .int i), (2, .ref 75), (1, .ref 0), (0, .ref x_scr)], [.int (xs ((i + 5)).toNatClampNeg), .int (xs ((i + 4)).toNatClampNeg), .int (xs ((i + 3)).toNatClampNeg), .int (xs ((i + 2)).toNatClampNeg), .int (xs ((i + 1)).toNatClampNeg), .ref 75], h, 98, 10728) P) : x_R x_mt (some (L, xs)) 10 M_law (2334, [(3, .int i), (2, .ref 75), (1, .ref 0), (0, .ref x_scr)], [.int v], h, 98, 10728) P := by
  refine x_R.steps 6 (c' := (2340, [(3, .int i), (2, .ref 75), (1, .ref 0), (0, .ref x_scr)], [.int (i + 1), .ref x_scr, .ref 75], h, 98, 10728)) rfl ?_
  refine j_Rsld (c' := (2341, [(3, .int i), (2, .ref 75), (1, .ref 0), (0, .ref x_scr)], [.int (xs ((i + 1)).toNatClampNeg), .ref 75], h, 98, 10728)) rfl h1 ?_
  refine x_R.steps 4 (c' := (2345, [(3, .int i), (2, .ref 75), (1, .ref 0), (0, .ref x_scr)], [.int (i + 2), .ref x_scr, .int (xs ((i + 1)).toNatClampNeg), .ref 75], h, 98, 10728)) rfl ?_
  refine j_Rsld (c' := (2346, [(3, .int i), (2, .ref 75), (1, .ref 0), (0, .ref x_scr)], [.int (xs ((i + 2)).toNatClampNeg), .int (xs ((i + 1)).toNatClampNeg), .ref 75], h, 98, 10728)) rfl h2 ?_
  refine x_R.steps 4 (c' := (2350, [(3, .int i), (2, .ref 75), (1, .ref 0), (0, .ref x_scr)], [.int (i + 3), .ref x_scr, .int (xs ((i + 2)).toNatClampNeg), .int (xs ((i + 1)).toNatClampNeg), .ref 75], h, 98, 10728)) rfl ?_
  refine j_Rsld (c' := (2351, [(3, .int i), (2, .ref 75), (1, .ref 0), (0, .ref x_scr)], [.int (xs ((i + 3)).toNatClampNeg), .int (xs ((i + 2)).toNatClampNeg), .int (xs ((i + 1)).toNatClampNeg), .ref 75], h, 98, 10728)) rfl h3 ?_
  refine x_R.steps 4 (c' := (2355, [(3, .int i), (2, .ref 75), (1, .ref 0), (0, .ref x_scr)], [.int (i + 4), .ref x_scr, .int (xs ((i + 3)).toNatClampNeg), .int (xs ((i + 2)).toNatClampNeg), .int (xs ((i + 1)).toNatClampNeg), .ref 75], h, 98, 10728)) rfl ?_
  refine j_Rsld (c' := (2356, [(3, .int i), (2, .ref 75), (1, .ref 0), (0, .ref x_scr)], [.int (xs ((i + 4)).toNatClampNeg), .int (xs ((i + 3)).toNatClampNeg), .int (xs ((i + 2)).toNatClampNeg), .int (xs ((i + 1)).toNatClampNeg), .ref 75], h, 98, 10728)) rfl h4 ?_
  refine x_R.steps 4 (c' := (2360, [(3, .int i), (2, .ref 75), (1, .ref 0), (0, .ref x_scr)], [.int (i + 5), .ref x_scr, .int (xs ((i + 4)).toNatClampNeg), .int (xs ((i + 3)).toNatClampNeg), .int (xs ((i + 2)).toNatClampNeg), .int (xs ((i + 1)).toNatClampNeg), .ref 75], h, 98, 10728)) rfl ?_
  refine j_Rsld (c' := (2361, [(3, .int i), (2, .ref 75), (1, .ref 0), (0, .ref x_scr)], [.int (xs ((i + 5)).toNatClampNeg), .int (xs ((i + 4)).toNatClampNeg), .int (xs ((i + 3)).toNatClampNeg), .int (xs ((i + 2)).toNatClampNeg), .int (xs ((i + 1)).toNatClampNeg), .ref 75], h, 98, 10728)) rfl h5 ?_
  exact kk

set_option maxRecDepth 100000 in
theorem x_c69d (h : xH) (L : Nat) (xs : Nat → Int32) (i : Int32) (h0 : ¬ (i < 0 ∨ L ≤ (i).toNatClampNeg)) (h1 : ¬ (i + 1 < 0 ∨ L ≤ (i + 1).toNatClampNeg)) (h2 : ¬ (i + 2 < 0 ∨ L ≤ (i + 2).toNatClampNeg)) (h3 : ¬ (i + 3 < 0 ∨ L ≤ (i + 3).toNatClampNeg)) (h4 : ¬ (i + 4 < 0 ∨ L ≤ (i + 4).toNatClampNeg)) (h5 : ¬ (i + 5 < 0 ∨ L ≤ (i + 5).toNatClampNeg)) (w : Int32) {P : Option Value × xH × Nat × Nat → Prop} (kk : x_R x_mt (some (L, xs)) 10 M_law (18, [(3, .int (i + Int32.ofInt (6))), (2, .ref 75), (1, .ref 0), (0, .ref x_scr)], [], h, 98, 10728) P) : x_R x_mt (some (L, xs)) 10 M_law (2364, [(3, .int i), (2, .ref 75), (1, .ref 0), (0, .ref x_scr)], [.int w], h, 98, 10728) P := by
  refine x_R.steps 4 (c' := (18, [(3, .int (i + Int32.ofInt (6))), (2, .ref 75), (1, .ref 0), (0, .ref x_scr)], [], h, 98, 10728)) rfl ?_
  exact kk

set_option maxRecDepth 100000 in
theorem x_cdef (h : xH) (L : Nat) (xs : Nat → Int32) (i : Int32) (h0 : ¬ (i < 0 ∨ L ≤ (i).toNatClampNeg)) (h1 : ¬ (i + 1 < 0 ∨ L ≤ (i + 1).toNatClampNeg)) (h2 : ¬ (i + 2 < 0 ∨ L ≤ (i + 2).toNatClampNeg)) (h3 : ¬ (i + 3 < 0 ∨ L ≤ (i + 3).toNatClampNeg)) (h4 : ¬ (i + 4 < 0 ∨ L ≤ (i + 4).toNatClampNeg)) (h5 : ¬ (i + 5 < 0 ∨ L ≤ (i + 5).toNatClampNeg)) {P : Option Value × xH × Nat × Nat → Prop} (kk : x_R x_mt (some (L, xs)) 10 M_law (18, [(3, .int (i + Int32.ofInt (6))), (2, .ref 75), (1, .ref 0), (0, .ref x_scr)], [], h, 98, 10728) P) : x_R x_mt (some (L, xs)) 10 M_law (2368, [(3, .int i), (2, .ref 75), (1, .ref 0), (0, .ref x_scr)], [], h, 98, 10728) P := by
  refine x_R.steps 2 (c' := (18, [(3, .int (i + Int32.ofInt (6))), (2, .ref 75), (1, .ref 0), (0, .ref x_scr)], [], h, 98, 10728)) rfl ?_
  exact kk
