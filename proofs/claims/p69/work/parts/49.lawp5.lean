/-! ===== the law, piece by piece ===== -/
set_option maxRecDepth 100000 in
theorem x_c58d (h : xH) (L : Nat) (xs : Nat → Int32) (i : Int32) (h0 : ¬ (i < 0 ∨ L ≤ (i).toNatClampNeg)) (h1 : ¬ (i + 1 < 0 ∨ L ≤ (i + 1).toNatClampNeg)) (h2 : ¬ (i + 2 < 0 ∨ L ≤ (i + 2).toNatClampNeg)) (h3 : ¬ (i + 3 < 0 ∨ L ≤ (i + 3).toNatClampNeg)) (h4 : ¬ (i + 4 < 0 ∨ L ≤ (i + 4).toNatClampNeg)) (h5 : ¬ (i + 5 < 0 ∨ L ≤ (i + 5).toNatClampNeg)) (w : Int32) {P : Option Value × xH × Nat × Nat → Prop} (kk : x_R x_mt (some (L, xs)) 10 M_law (18, [(3, .int (i + Int32.ofInt (6))), (2, .ref 75), (1, .ref 0), (0, .ref x_scr)], [], h, 98, 10728) P) : x_R x_mt (some (L, xs)) 10 M_law (1901, [(3, .int i), (2, .ref 75), (1, .ref 0), (0, .ref x_scr)], [.int w], h, 98, 10728) P := by
  refine x_R.steps 4 (c' := (18, [(3, .int (i + Int32.ofInt (6))), (2, .ref 75), (1, .ref 0), (0, .ref x_scr)], [], h, 98, 10728)) rfl ?_
  exact kk

set_option maxRecDepth 100000 in
theorem x_c59a (h : xH) (L : Nat) (xs : Nat → Int32) (i : Int32) (h0 : ¬ (i < 0 ∨ L ≤ (i).toNatClampNeg)) (h1 : ¬ (i + 1 < 0 ∨ L ≤ (i + 1).toNatClampNeg)) (h2 : ¬ (i + 2 < 0 ∨ L ≤ (i + 2).toNatClampNeg)) (h3 : ¬ (i + 3 < 0 ∨ L ≤ (i + 3).toNatClampNeg)) (h4 : ¬ (i + 4 < 0 ∨ L ≤ (i + 4).toNatClampNeg)) (h5 : ¬ (i + 5 < 0 ∨ L ≤ (i + 5).toNatClampNeg)) {P : Option Value × xH × Nat × Nat → Prop} (kk : x_R x_mt (some (L, xs)) 10 M_law (1916, [(3, .int i), (2, .ref 75), (1, .ref 0), (0, .ref x_scr)], [.int (xs ((i + 2)).toNatClampNeg), .int (xs ((i + 1)).toNatClampNeg), .ref 0], h, 98, 10728) P) : x_R x_mt (some (L, xs)) 10 M_law (1905, [(3, .int i), (2, .ref 75), (1, .ref 0), (0, .ref x_scr)], [], h, 98, 10728) P := by
  refine x_R.steps 5 (c' := (1910, [(3, .int i), (2, .ref 75), (1, .ref 0), (0, .ref x_scr)], [.int (i + 1), .ref x_scr, .ref 0], h, 98, 10728)) rfl ?_
  refine j_Rsld (c' := (1911, [(3, .int i), (2, .ref 75), (1, .ref 0), (0, .ref x_scr)], [.int (xs ((i + 1)).toNatClampNeg), .ref 0], h, 98, 10728)) rfl h1 ?_
  refine x_R.steps 4 (c' := (1915, [(3, .int i), (2, .ref 75), (1, .ref 0), (0, .ref x_scr)], [.int (i + 2), .ref x_scr, .int (xs ((i + 1)).toNatClampNeg), .ref 0], h, 98, 10728)) rfl ?_
  refine j_Rsld (c' := (1916, [(3, .int i), (2, .ref 75), (1, .ref 0), (0, .ref x_scr)], [.int (xs ((i + 2)).toNatClampNeg), .int (xs ((i + 1)).toNatClampNeg), .ref 0], h, 98, 10728)) rfl h2 ?_
  exact kk

set_option maxRecDepth 100000 in
theorem x_c59b (h : xH) (L : Nat) (xs : Nat → Int32) (i : Int32) (h0 : ¬ (i < 0 ∨ L ≤ (i).toNatClampNeg)) (h1 : ¬ (i + 1 < 0 ∨ L ≤ (i + 1).toNatClampNeg)) (h2 : ¬ (i + 2 < 0 ∨ L ≤ (i + 2).toNatClampNeg)) (h3 : ¬ (i + 3 < 0 ∨ L ≤ (i + 3).toNatClampNeg)) (h4 : ¬ (i + 4 < 0 ∨ L ≤ (i + 4).toNatClampNeg)) (h5 : ¬ (i + 5 < 0 ∨ L ≤ (i + 5).toNatClampNeg)) (v : Int32) {P : Option Value × xH × Nat × Nat → Prop} (kk : x_R x_mt (some (L, xs)) 10 M_law (1931, [(3, .int i), (2, .ref 75), (1, .ref 0), (0, .ref x_scr)], [.int (xs ((i + 2)).toNatClampNeg), .int (xs ((i + 1)).toNatClampNeg), .ref 75], h, 98, 10728) P) : x_R x_mt (some (L, xs)) 10 M_law (1919, [(3, .int i), (2, .ref 75), (1, .ref 0), (0, .ref x_scr)], [.int v], h, 98, 10728) P := by
  refine x_R.steps 6 (c' := (1925, [(3, .int i), (2, .ref 75), (1, .ref 0), (0, .ref x_scr)], [.int (i + 1), .ref x_scr, .ref 75], h, 98, 10728)) rfl ?_
  refine j_Rsld (c' := (1926, [(3, .int i), (2, .ref 75), (1, .ref 0), (0, .ref x_scr)], [.int (xs ((i + 1)).toNatClampNeg), .ref 75], h, 98, 10728)) rfl h1 ?_
  refine x_R.steps 4 (c' := (1930, [(3, .int i), (2, .ref 75), (1, .ref 0), (0, .ref x_scr)], [.int (i + 2), .ref x_scr, .int (xs ((i + 1)).toNatClampNeg), .ref 75], h, 98, 10728)) rfl ?_
  refine j_Rsld (c' := (1931, [(3, .int i), (2, .ref 75), (1, .ref 0), (0, .ref x_scr)], [.int (xs ((i + 2)).toNatClampNeg), .int (xs ((i + 1)).toNatClampNeg), .ref 75], h, 98, 10728)) rfl h2 ?_
  exact kk

set_option maxRecDepth 100000 in
theorem x_c59d (h : xH) (L : Nat) (xs : Nat → Int32) (i : Int32) (h0 : ¬ (i < 0 ∨ L ≤ (i).toNatClampNeg)) (h1 : ¬ (i + 1 < 0 ∨ L ≤ (i + 1).toNatClampNeg)) (h2 : ¬ (i + 2 < 0 ∨ L ≤ (i + 2).toNatClampNeg)) (h3 : ¬ (i + 3 < 0 ∨ L ≤ (i + 3).toNatClampNeg)) (h4 : ¬ (i + 4 < 0 ∨ L ≤ (i + 4).toNatClampNeg)) (h5 : ¬ (i + 5 < 0 ∨ L ≤ (i + 5).toNatClampNeg)) (w : Int32) {P : Option Value × xH × Nat × Nat → Prop} (kk : x_R x_mt (some (L, xs)) 10 M_law (18, [(3, .int (i + Int32.ofInt (6))), (2, .ref 75), (1, .ref 0), (0, .ref x_scr)], [], h, 98, 10728) P) : x_R x_mt (some (L, xs)) 10 M_law (1934, [(3, .int i), (2, .ref 75), (1, .ref 0), (0, .ref x_scr)], [.int w], h, 98, 10728) P := by
  refine x_R.steps 4 (c' := (18, [(3, .int (i + Int32.ofInt (6))), (2, .ref 75), (1, .ref 0), (0, .ref x_scr)], [], h, 98, 10728)) rfl ?_
  exact kk

set_option maxRecDepth 100000 in
theorem x_c60a (h : xH) (L : Nat) (xs : Nat → Int32) (i : Int32) (h0 : ¬ (i < 0 ∨ L ≤ (i).toNatClampNeg)) (h1 : ¬ (i + 1 < 0 ∨ L ≤ (i + 1).toNatClampNeg)) (h2 : ¬ (i + 2 < 0 ∨ L ≤ (i + 2).toNatClampNeg)) (h3 : ¬ (i + 3 < 0 ∨ L ≤ (i + 3).toNatClampNeg)) (h4 : ¬ (i + 4 < 0 ∨ L ≤ (i + 4).toNatClampNeg)) (h5 : ¬ (i + 5 < 0 ∨ L ≤ (i + 5).toNatClampNeg)) {P : Option Value × xH × Nat × Nat → Prop} (kk : x_R x_mt (some (L, xs)) 10 M_law (1954, [(3, .int i), (2, .ref 75), (1, .ref 0), (0, .ref x_scr)], [.int (xs ((i + 3)).toNatClampNeg), .int (xs ((i + 2)).toNatClampNeg), .int (xs ((i + 1)).toNatClampNeg), .ref 0], h, 98, 10728) P) : x_R x_mt (some (L, xs)) 10 M_law (1938, [(3, .int i), (2, .ref 75), (1, .ref 0), (0, .ref x_scr)], [], h, 98, 10728) P := by
  refine x_R.steps 5 (c' := (1943, [(3, .int i), (2, .ref 75), (1, .ref 0), (0, .ref x_scr)], [.int (i + 1), .ref x_scr, .ref 0], h, 98, 10728)) rfl ?_
  refine j_Rsld (c' := (1944, [(3, .int i), (2, .ref 75), (1, .ref 0), (0, .ref x_scr)], [.int (xs ((i + 1)).toNatClampNeg), .ref 0], h, 98, 10728)) rfl h1 ?_
  refine x_R.steps 4 (c' := (1948, [(3, .int i), (2, .ref 75), (1, .ref 0), (0, .ref x_scr)], [.int (i + 2), .ref x_scr, .int (xs ((i + 1)).toNatClampNeg), .ref 0], h, 98, 10728)) rfl ?_
  refine j_Rsld (c' := (1949, [(3, .int i), (2, .ref 75), (1, .ref 0), (0, .ref x_scr)], [.int (xs ((i + 2)).toNatClampNeg), .int (xs ((i + 1)).toNatClampNeg), .ref 0], h, 98, 10728)) rfl h2 ?_
  refine x_R.steps 4 (c' := (1953, [(3, .int i), (2, .ref 75), (1, .ref 0), (0, .ref x_scr)], [.int (i + 3), .ref x_scr, .int (xs ((i + 2)).toNatClampNeg), .int (xs ((i + 1)).toNatClampNeg), .ref 0], h, 98, 10728)) rfl ?_
  refine j_Rsld (c' := (1954, [(3, .int i), (2, .ref 75), (1, .ref 0), (0, .ref x_scr)], [.int (xs ((i + 3)).toNatClampNeg), .int (xs ((i + 2)).toNatClampNeg), .int (xs ((i + 1)).toNatClampNeg), .ref 0], h, 98, 10728)) rfl h3 ?_
  exact kk

set_option maxRecDepth 100000 in
theorem x_c60b (h : xH) (L : Nat) (xs : Nat → Int32) (i : Int32) (h0 : ¬ (i < 0 ∨ L ≤ (i).toNatClampNeg)) (h1 : ¬ (i + 1 < 0 ∨ L ≤ (i + 1).toNatClampNeg)) (h2 : ¬ (i + 2 < 0 ∨ L ≤ (i + 2).toNatClampNeg)) (h3 : ¬ (i + 3 < 0 ∨ L ≤ (i + 3).toNatClampNeg)) (h4 : ¬ (i + 4 < 0 ∨ L ≤ (i + 4).toNatClampNeg)) (h5 : ¬ (i + 5 < 0 ∨ L ≤ (i + 5).toNatClampNeg)) (v : Int32) {P : Option Value × xH × Nat × Nat → Prop} (kk : x_R x_mt (some (L, xs)) 10 M_law (1974, [(3, .int i), (2, .ref 75), (1, .ref 0), (0, .ref x_scr)], [.int (xs ((i + 3)).toNatClampNeg), .int (xs ((i + 2)).toNatClampNeg), .int (xs ((i + 1)).toNatClampNeg), .ref 75], h, 98, 10728) P) : x_R x_mt (some (L, xs)) 10 M_law (1957, [(3, .int i), (2, .ref 75), (1, .ref 0), (0, .ref x_scr)], [.int v], h, 98, 10728) P := by
  refine x_R.steps 6 (c' := (1963, [(3, .int i), (2, .ref 75), (1, .ref 0), (0, .ref x_scr)], [.int (i + 1), .ref x_scr, .ref 75], h, 98, 10728)) rfl ?_
  refine j_Rsld (c' := (1964, [(3, .int i), (2, .ref 75), (1, .ref 0), (0, .ref x_scr)], [.int (xs ((i + 1)).toNatClampNeg), .ref 75], h, 98, 10728)) rfl h1 ?_
  refine x_R.steps 4 (c' := (1968, [(3, .int i), (2, .ref 75), (1, .ref 0), (0, .ref x_scr)], [.int (i + 2), .ref x_scr, .int (xs ((i + 1)).toNatClampNeg), .ref 75], h, 98, 10728)) rfl ?_
  refine j_Rsld (c' := (1969, [(3, .int i), (2, .ref 75), (1, .ref 0), (0, .ref x_scr)], [.int (xs ((i + 2)).toNatClampNeg), .int (xs ((i + 1)).toNatClampNeg), .ref 75], h, 98, 10728)) rfl h2 ?_
  refine x_R.steps 4 (c' := (1973, [(3, .int i), (2, .ref 75), (1, .ref 0), (0, .ref x_scr)], [.int (i + 3), .ref x_scr, .int (xs ((i + 2)).toNatClampNeg), .int (xs ((i + 1)).toNatClampNeg), .ref 75], h, 98, 10728)) rfl ?_
  refine j_Rsld (c' := (1974, [(3, .int i), (2, .ref 75), (1, .ref 0), (0, .ref x_scr)], [.int (xs ((i + 3)).toNatClampNeg), .int (xs ((i + 2)).toNatClampNeg), .int (xs ((i + 1)).toNatClampNeg), .ref 75], h, 98, 10728)) rfl h3 ?_
  exact kk

set_option maxRecDepth 100000 in
theorem x_c60d (h : xH) (L : Nat) (xs : Nat → Int32) (i : Int32) (h0 : ¬ (i < 0 ∨ L ≤ (i).toNatClampNeg)) (h1 : ¬ (i + 1 < 0 ∨ L ≤ (i + 1).toNatClampNeg)) (h2 : ¬ (i + 2 < 0 ∨ L ≤ (i + 2).toNatClampNeg)) (h3 : ¬ (i + 3 < 0 ∨ L ≤ (i + 3).toNatClampNeg)) (h4 : ¬ (i + 4 < 0 ∨ L ≤ (i + 4).toNatClampNeg)) (h5 : ¬ (i + 5 < 0 ∨ L ≤ (i + 5).toNatClampNeg)) (w : Int32) {P : Option Value × xH × Nat × Nat → Prop} (kk : x_R x_mt (some (L, xs)) 10 M_law (18, [(3, .int (i + Int32.ofInt (6))), (2, .ref 75), (1, .ref 0), (0, .ref x_scr)], [], h, 98, 10728) P) : x_R x_mt (some (L, xs)) 10 M_law (1977, [(3, .int i), (2, .ref 75), (1, .ref 0), (0, .ref x_scr)], [.int w], h, 98, 10728) P := by
  refine x_R.steps 4 (c' := (18, [(3, .int (i + Int32.ofInt (6))), (2, .ref 75), (1, .ref 0), (0, .ref x_scr)], [], h, 98, 10728)) rfl ?_
  exact kk

set_option maxRecDepth 100000 in
theorem x_c61a (h : xH) (L : Nat) (xs : Nat → Int32) (i : Int32) (h0 : ¬ (i < 0 ∨ L ≤ (i).toNatClampNeg)) (h1 : ¬ (i + 1 < 0 ∨ L ≤ (i + 1).toNatClampNeg)) (h2 : ¬ (i + 2 < 0 ∨ L ≤ (i + 2).toNatClampNeg)) (h3 : ¬ (i + 3 < 0 ∨ L ≤ (i + 3).toNatClampNeg)) (h4 : ¬ (i + 4 < 0 ∨ L ≤ (i + 4).toNatClampNeg)) (h5 : ¬ (i + 5 < 0 ∨ L ≤ (i + 5).toNatClampNeg)) {P : Option Value × xH × Nat × Nat → Prop} (kk : x_R x_mt (some (L, xs)) 10 M_law (1997, [(3, .int i), (2, .ref 75), (1, .ref 0), (0, .ref x_scr)], [.int (xs ((i + 3)).toNatClampNeg), .int (xs ((i + 2)).toNatClampNeg), .int (xs ((i + 1)).toNatClampNeg), .ref 0], h, 98, 10728) P) : x_R x_mt (some (L, xs)) 10 M_law (1981, [(3, .int i), (2, .ref 75), (1, .ref 0), (0, .ref x_scr)], [], h, 98, 10728) P := by
  refine x_R.steps 5 (c' := (1986, [(3, .int i), (2, .ref 75), (1, .ref 0), (0, .ref x_scr)], [.int (i + 1), .ref x_scr, .ref 0], h, 98, 10728)) rfl ?_
  refine j_Rsld (c' := (1987, [(3, .int i), (2, .ref 75), (1, .ref 0), (0, .ref x_scr)], [.int (xs ((i + 1)).toNatClampNeg), .ref 0], h, 98, 10728)) rfl h1 ?_
  refine x_R.steps 4 (c' := (1991, [(3, .int i), (2, .ref 75), (1, .ref 0), (0, .ref x_scr)], [.int (i + 2), .ref x_scr, .int (xs ((i + 1)).toNatClampNeg), .ref 0], h, 98, 10728)) rfl ?_
  refine j_Rsld (c' := (1992, [(3, .int i), (2, .ref 75), (1, .ref 0), (0, .ref x_scr)], [.int (xs ((i + 2)).toNatClampNeg), .int (xs ((i + 1)).toNatClampNeg), .ref 0], h, 98, 10728)) rfl h2 ?_
  refine x_R.steps 4 (c' := (1996, [(3, .int i), (2, .ref 75), (1, .ref 0), (0, .ref x_scr)], [.int (i + 3), .ref x_scr, .int (xs ((i + 2)).toNatClampNeg), .int (xs ((i + 1)).toNatClampNeg), .ref 0], h, 98, 10728)) rfl ?_
  refine j_Rsld (c' := (1997, [(3, .int i), (2, .ref 75), (1, .ref 0), (0, .ref x_scr)], [.int (xs ((i + 3)).toNatClampNeg), .int (xs ((i + 2)).toNatClampNeg), .int (xs ((i + 1)).toNatClampNeg), .ref 0], h, 98, 10728)) rfl h3 ?_
  exact kk

set_option maxRecDepth 100000 in
theorem x_c61b (h : xH) (L : Nat) (xs : Nat → Int32) (i : Int32) (h0 : ¬ (i < 0 ∨ L ≤ (i).toNatClampNeg)) (h1 : ¬ (i + 1 < 0 ∨ L ≤ (i + 1).toNatClampNeg)) (h2 : ¬ (i + 2 < 0 ∨ L ≤ (i + 2).toNatClampNeg)) (h3 : ¬ (i + 3 < 0 ∨ L ≤ (i + 3).toNatClampNeg)) (h4 : ¬ (i + 4 < 0 ∨ L ≤ (i + 4).toNatClampNeg)) (h5 : ¬ (i + 5 < 0 ∨ L ≤ (i + 5).toNatClampNeg)) (v : Int32) {P : Option Value × xH × Nat × Nat → Prop} (kk : x_R x_mt (some (L, xs)) 10 M_law (2017, [(3, .int i), (2, .ref 75), (1, .ref 0), (0, .ref x_scr)], [.int (xs ((i + 3)).toNatClampNeg), .int (xs ((i + 2)).toNatClampNeg), .int (xs ((i + 1)).toNatClampNeg), .ref 75], h, 98, 10728) P) : x_R x_mt (some (L, xs)) 10 M_law (2000, [(3, .int i), (2, .ref 75), (1, .ref 0), (0, .ref x_scr)], [.int v], h, 98, 10728) P := by
  refine x_R.steps 6 (c' := (2006, [(3, .int i), (2, .ref 75), (1, .ref 0), (0, .ref x_scr)], [.int (i + 1), .ref x_scr, .ref 75], h, 98, 10728)) rfl ?_
  refine j_Rsld (c' := (2007, [(3, .int i), (2, .ref 75), (1, .ref 0), (0, .ref x_scr)], [.int (xs ((i + 1)).toNatClampNeg), .ref 75], h, 98, 10728)) rfl h1 ?_
  refine x_R.steps 4 (c' := (2011, [(3, .int i), (2, .ref 75), (1, .ref 0), (0, .ref x_scr)], [.int (i + 2), .ref x_scr, .int (xs ((i + 1)).toNatClampNeg), .ref 75], h, 98, 10728)) rfl ?_
  refine j_Rsld (c' := (2012, [(3, .int i), (2, .ref 75), (1, .ref 0), (0, .ref x_scr)], [.int (xs ((i + 2)).toNatClampNeg), .int (xs ((i + 1)).toNatClampNeg), .ref 75], h, 98, 10728)) rfl h2 ?_
  refine x_R.steps 4 (c' := (2016, [(3, .int i), (2, .ref 75), (1, .ref 0), (0, .ref x_scr)], [.int (i + 3), .ref x_scr, .int (xs ((i + 2)).toNatClampNeg), .int (xs ((i + 1)).toNatClampNeg), .ref 75], h, 98, 10728)) rfl ?_
  refine j_Rsld (c' := (2017, [(3, .int i), (2, .ref 75), (1, .ref 0), (0, .ref x_scr)], [.int (xs ((i + 3)).toNatClampNeg), .int (xs ((i + 2)).toNatClampNeg), .int (xs ((i + 1)).toNatClampNeg), .ref 75], h, 98, 10728)) rfl h3 ?_
  exact kk

set_option maxRecDepth 100000 in
theorem x_c61d (h : xH) (L : Nat) (xs : Nat → Int32) (i : Int32) (h0 : ¬ (i < 0 ∨ L ≤ (i).toNatClampNeg)) (h1 : ¬ (i + 1 < 0 ∨ L ≤ (i + 1).toNatClampNeg)) (h2 : ¬ (i + 2 < 0 ∨ L ≤ (i + 2).toNatClampNeg)) (h3 : ¬ (i + 3 < 0 ∨ L ≤ (i + 3).toNatClampNeg)) (h4 : ¬ (i + 4 < 0 ∨ L ≤ (i + 4).toNatClampNeg)) (h5 : ¬ (i + 5 < 0 ∨ L ≤ (i + 5).toNatClampNeg)) (w : Int32) {P : Option Value × xH × Nat × Nat → Prop} (kk : x_R x_mt (some (L, xs)) 10 M_law (18, [(3, .int (i + Int32.ofInt (6))), (2, .ref 75), (1, .ref 0), (0, .ref x_scr)], [], h, 98, 10728) P) : x_R x_mt (some (L, xs)) 10 M_law (2020, [(3, .int i), (2, .ref 75), (1, .ref 0), (0, .ref x_scr)], [.int w], h, 98, 10728) P := by
  refine x_R.steps 4 (c' := (18, [(3, .int (i + Int32.ofInt (6))), (2, .ref 75), (1, .ref 0), (0, .ref x_scr)], [], h, 98, 10728)) rfl ?_
  exact kk

set_option maxRecDepth 100000 in
theorem x_c62a (h : xH) (L : Nat) (xs : Nat → Int32) (i : Int32) (h0 : ¬ (i < 0 ∨ L ≤ (i).toNatClampNeg)) (h1 : ¬ (i + 1 < 0 ∨ L ≤ (i + 1).toNatClampNeg)) (h2 : ¬ (i + 2 < 0 ∨ L ≤ (i + 2).toNatClampNeg)) (h3 : ¬ (i + 3 < 0 ∨ L ≤ (i + 3).toNatClampNeg)) (h4 : ¬ (i + 4 < 0 ∨ L ≤ (i + 4).toNatClampNeg)) (h5 : ¬ (i + 5 < 0 ∨ L ≤ (i + 5).toNatClampNeg)) {P : Option Value × xH × Nat × Nat → Prop} (kk : x_R x_mt (some (L, xs)) 10 M_law (2040, [(3, .int i), (2, .ref 75), (1, .ref 0), (0, .ref x_scr)], [.int (xs ((i + 3)).toNatClampNeg), .int (xs ((i + 2)).toNatClampNeg), .int (xs ((i + 1)).toNatClampNeg), .ref 0], h, 98, 10728) P) : x_R x_mt (some (L, xs)) 10 M_law (2024, [(3, .int i), (2, .ref 75), (1, .ref 0), (0, .ref x_scr)], [], h, 98, 10728) P := by
  refine x_R.steps 5 (c' := (2029, [(3, .int i), (2, .ref 75), (1, .ref 0), (0, .ref x_scr)], [.int (i + 1), .ref x_scr, .ref 0], h, 98, 10728)) rfl ?_
  refine j_Rsld (c' := (2030, [(3, .int i), (2, .ref 75), (1, .ref 0), (0, .ref x_scr)], [.int (xs ((i + 1)).toNatClampNeg), .ref 0], h, 98, 10728)) rfl h1 ?_
  refine x_R.steps 4 (c' := (2034, [(3, .int i), (2, .ref 75), (1, .ref 0), (0, .ref x_scr)], [.int (i + 2), .ref x_scr, .int (xs ((i + 1)).toNatClampNeg), .ref 0], h, 98, 10728)) rfl ?_
  refine j_Rsld (c' := (2035, [(3, .int i), (2, .ref 75), (1, .ref 0), (0, .ref x_scr)], [.int (xs ((i + 2)).toNatClampNeg), .int (xs ((i + 1)).toNatClampNeg), .ref 0], h, 98, 10728)) rfl h2 ?_
  refine x_R.steps 4 (c' := (2039, [(3, .int i), (2, .ref 75), (1, .ref 0), (0, .ref x_scr)], [.int (i + 3), .ref x_scr, .int (xs ((i + 2)).toNatClampNeg), .int (xs ((i + 1)).toNatClampNeg), .ref 0], h, 98, 10728)) rfl ?_
  refine j_Rsld (c' := (2040, [(3, .int i), (2, .ref 75), (1, .ref 0), (0, .ref x_scr)], [.int (xs ((i + 3)).toNatClampNeg), .int (xs ((i + 2)).toNatClampNeg), .int (xs ((i + 1)).toNatClampNeg), .ref 0], h, 98, 10728)) rfl h3 ?_
  exact kk

set_option maxRecDepth 100000 in
theorem x_c62b (h : xH) (L : Nat) (xs : Nat → Int32) (i : Int32) (h0 : ¬ (i < 0 ∨ L ≤ (i).toNatClampNeg)) (h1 : ¬ (i + 1 < 0 ∨ L ≤ (i + 1).toNatClampNeg)) (h2 : ¬ (i + 2 < 0 ∨ L ≤ (i + 2).toNatClampNeg)) (h3 : ¬ (i + 3 < 0 ∨ L ≤ (i + 3).toNatClampNeg)) (h4 : ¬ (i + 4 < 0 ∨ L ≤ (i + 4).toNatClampNeg)) (h5 : ¬ (i + 5 < 0 ∨ L ≤ (i + 5).toNatClampNeg)) (v : Int32) {P : Option Value × xH × Nat × Nat → Prop} (kk : x_R x_mt (some (L, xs)) 10 M_law (2060, [(3, .int i), (2, .ref 75), (1, .ref 0), (0, .ref x_scr)], [.int (xs ((i + 3)).toNatClampNeg), .int (xs ((i + 2)).toNatClampNeg), .int (xs ((i + 1)).toNatClampNeg), .ref 75], h, 98, 10728) P) : x_R x_mt (some (L, xs)) 10 M_law (2043, [(3, .int i), (2, .ref 75), (1, .ref 0), (0, .ref x_scr)], [.int v], h, 98, 10728) P := by
  refine x_R.steps 6 (c' := (2049, [(3, .int i), (2, .ref 75), (1, .ref 0), (0, .ref x_scr)], [.int (i + 1), .ref x_scr, .ref 75], h, 98, 10728)) rfl ?_
  refine j_Rsld (c' := (2050, [(3, .int i), (2, .ref 75), (1, .ref 0), (0, .ref x_scr)], [.int (xs ((i + 1)).toNatClampNeg), .ref 75], h, 98, 10728)) rfl h1 ?_
  refine x_R.steps 4 (c' := (2054, [(3, .int i), (2, .ref 75), (1, .ref 0), (0, .ref x_scr)], [.int (i + 2), .ref x_scr, .int (xs ((i + 1)).toNatClampNeg), .ref 75], h, 98, 10728)) rfl ?_
  refine j_Rsld (c' := (2055, [(3, .int i), (2, .ref 75), (1, .ref 0), (0, .ref x_scr)], [.int (xs ((i + 2)).toNatClampNeg), .int (xs ((i + 1)).toNatClampNeg), .ref 75], h, 98, 10728)) rfl h2 ?_
  refine x_R.steps 4 (c' := (2059, [(3, .int i), (2, .ref 75), (1, .ref 0), (0, .ref x_scr)], [.int (i + 3), .ref x_scr, .int (xs ((i + 2)).toNatClampNeg), .int (xs ((i + 1)).toNatClampNeg), .ref 75], h, 98, 10728)) rfl ?_
  refine j_Rsld (c' := (2060, [(3, .int i), (2, .ref 75), (1, .ref 0), (0, .ref x_scr)], [.int (xs ((i + 3)).toNatClampNeg), .int (xs ((i + 2)).toNatClampNeg), .int (xs ((i + 1)).toNatClampNeg), .ref 75], h, 98, 10728)) rfl h3 ?_
  exact kk

set_option maxRecDepth 100000 in
theorem x_c62d (h : xH) (L : Nat) (xs : Nat → Int32) (i : Int32) (h0 : ¬ (i < 0 ∨ L ≤ (i).toNatClampNeg)) (h1 : ¬ (i + 1 < 0 ∨ L ≤ (i + 1).toNatClampNeg)) (h2 : ¬ (i + 2 < 0 ∨ L ≤ (i + 2).toNatClampNeg)) (h3 : ¬ (i + 3 < 0 ∨ L ≤ (i + 3).toNatClampNeg)) (h4 : ¬ (i + 4 < 0 ∨ L ≤ (i + 4).toNatClampNeg)) (h5 : ¬ (i + 5 < 0 ∨ L ≤ (i + 5).toNatClampNeg)) (w : Int32) {P : Option Value × xH × Nat × Nat → Prop} (kk : x_R x_mt (some (L, xs)) 10 M_law (18, [(3, .int (i + Int32.ofInt (6))), (2, .ref 75), (1, .ref 0), (0, .ref x_scr)], [], h, 98, 10728) P) : x_R x_mt (some (L, xs)) 10 M_law (2063, [(3, .int i), (2, .ref 75), (1, .ref 0), (0, .ref x_scr)], [.int w], h, 98, 10728) P := by
  refine x_R.steps 4 (c' := (18, [(3, .int (i + Int32.ofInt (6))), (2, .ref 75), (1, .ref 0), (0, .ref x_scr)], [], h, 98, 10728)) rfl ?_
  exact kk

set_option maxRecDepth 100000 in
theorem x_c63a (h : xH) (L : Nat) (xs : Nat → Int32) (i : Int32) (h0 : ¬ (i < 0 ∨ L ≤ (i).toNatClampNeg)) (h1 : ¬ (i + 1 < 0 ∨ L ≤ (i + 1).toNatClampNeg)) (h2 : ¬ (i + 2 < 0 ∨ L ≤ (i + 2).toNatClampNeg)) (h3 : ¬ (i + 3 < 0 ∨ L ≤ (i + 3).toNatClampNeg)) (h4 : ¬ (i + 4 < 0 ∨ L ≤ (i + 4).toNatClampNeg)) (h5 : ¬ (i + 5 < 0 ∨ L ≤ (i + 5).toNatClampNeg)) {P : Option Value × xH × Nat × Nat → Prop} (kk : x_R x_mt (some (L, xs)) 10 M_law (2088, [(3, .int i), (2, .ref 75), (1, .ref 0), (0, .ref x_scr)], [.int (xs ((i + 4)).toNatClampNeg), .int (xs ((i + 3)).toNatClampNeg), .int (xs ((i + 2)).toNatClampNeg), .int (xs ((i + 1)).toNatClampNeg), .ref 0], h, 98, 10728) P) : x_R x_mt (some (L, xs)) 10 M_law (2067, [(3, .int i), (2, .ref 75), (1, .ref 0), (0, .ref x_scr)], [], h, 98, 10728) P := by
  refine x_R.steps 5 (c' := (2072, [(3, .int i), (2, .ref 75), (1, .ref 0), (0, .ref x_scr)], [.int (i + 1), .ref x_scr, .ref 0], h, 98, 10728)) rfl ?_
  refine j_Rsld (c' := (2073, [(3, .int i), (2, .ref 75), (1, .ref 0), (0, .ref x_scr)], [.int (xs ((i + 1)).toNatClampNeg), .ref 0], h, 98, 10728)) rfl h1 ?_
  refine x_R.steps 4 (c' := (2077, [(3, .int i), (2, .ref 75), (1, .ref 0), (0, .ref x_scr)], [.int (i + 2), .ref x_scr, .int (xs ((i + 1)).toNatClampNeg), .ref 0], h, 98, 10728)) rfl ?_
  refine j_Rsld (c' := (2078, [(3, .int i), (2, .ref 75), (1, .ref 0), (0, .ref x_scr)], [.int (xs ((i + 2)).toNatClampNeg), .int (xs ((i + 1)).toNatClampNeg), .ref 0], h, 98, 10728)) rfl h2 ?_
  refine x_R.steps 4 (c' := (2082, [(3, .int i), (2, .ref 75), (1, .ref 0), (0, .ref x_scr)], [.int (i + 3), .ref x_scr, .int (xs ((i + 2)).toNatClampNeg), .int (xs ((i + 1)).toNatClampNeg), .ref 0], h, 98, 10728)) rfl ?_
  refine j_Rsld (c' := (2083, [(3, .int i), (2, .ref 75), (1, .ref 0), (0, .ref x_scr)], [.int (xs ((i + 3)).toNatClampNeg), .int (xs ((i + 2)).toNatClampNeg), .int (xs ((i + 1)).toNatClampNeg), .ref 0], h, 98, 10728)) rfl h3 ?_
  refine x_R.steps 4 (c' := (2087, [(3, .int i), (2, .ref 75), (1, .ref 0), (0, .ref x_scr)], [.int (i + 4), .ref x_scr, .int (xs ((i + 3)).toNatClampNeg), .int (xs ((i + 2)).toNatClampNeg), .int (xs ((i + 1)).toNatClampNeg), .ref 0], h, 98, 10728)) rfl ?_
  refine j_Rsld (c' := (2088, [(3, .int i), (2, .ref 75), (1, .ref 0), (0, .ref x_scr)], [.int (xs ((i + 4)).toNatClampNeg), .int (xs ((i + 3)).toNatClampNeg), .int (xs ((i + 2)).toNatClampNeg), .int (xs ((i + 1)).toNatClampNeg), .ref 0], h, 98, 10728)) rfl h4 ?_
  exact kk

set_option maxRecDepth 100000 in
theorem x_c63b (h : xH) (L : Nat) (xs : Nat → Int32) (i : Int32) (h0 : ¬ (i < 0 ∨ L ≤ (i).toNatClampNeg)) (h1 : ¬ (i + 1 < 0 ∨ L ≤ (i + 1).toNatClampNeg)) (h2 : ¬ (i + 2 < 0 ∨ L ≤ (i + 2).toNatClampNeg)) (h3 : ¬ (i + 3 < 0 ∨ L ≤ (i + 3).toNatClampNeg)) (h4 : ¬ (i + 4 < 0 ∨ L ≤ (i + 4).toNatClampNeg)) (h5 : ¬ (i + 5 < 0 ∨ L ≤ (i + 5).toNatClampNeg)) (v : Int32) {P : Option Value × xH × Nat × Nat → Prop} (kk : x_R x_mt (some (L, xs)) 10 M_law (2113, [(3, .int i), (2, .ref 75), (1, .ref 0), (0, .ref x_scr)], [.int (xs ((i + 4)).toNatClampNeg), .int (xs ((i + 3)).toNatClampNeg), .int (xs ((i + 2)).toNatClampNeg), .int (xs ((i + 1)).toNatClampNeg), .ref 75], h, 98, 10728) P) : x_R x_mt (some (L, xs)) 10 M_law (2091, [(3, .int i), (2, .ref 75), (1, .ref 0), (0, .ref x_scr)], [.int v], h, 98, 10728) P := by
  refine x_R.steps 6 (c' := (2097, [(3, .int i), (2, .ref 75), (1, .ref 0), (0, .ref x_scr)], [.int (i + 1), .ref x_scr, .ref 75], h, 98, 10728)) rfl ?_
  refine j_Rsld (c' := (2098, [(3, .int i), (2, .ref 75), (1, .ref 0), (0, .ref x_scr)], [.int (xs ((i + 1)).toNatClampNeg), .ref 75], h, 98, 10728)) rfl h1 ?_
  refine x_R.steps 4 (c' := (2102, [(3, .int i), (2, .ref 75), (1, .ref 0), (0, .ref x_scr)], [.int (i + 2), .ref x_scr, .int (xs ((i + 1)).toNatClampNeg), .ref 75], h, 98, 10728)) rfl ?_
  refine j_Rsld (c' := (2103, [(3, .int i), (2, .ref 75), (1, .ref 0), (0, .ref x_scr)], [.int (xs ((i + 2)).toNatClampNeg), .int (xs ((i + 1)).toNatClampNeg), .ref 75], h, 98, 10728)) rfl h2 ?_
  refine x_R.steps 4 (c' := (2107, [(3, .int i), (2, .ref 75), (1, .ref 0), (0, .ref x_scr)], [.int (i + 3), .ref x_scr, .int (xs ((i + 2)).toNatClampNeg), .int (xs ((i + 1)).toNatClampNeg), .ref 75], h, 98, 10728)) rfl ?_
  refine j_Rsld (c' := (2108, [(3, .int i), (2, .ref 75), (1, .ref 0), (0, .ref x_scr)], [.int (xs ((i + 3)).toNatClampNeg), .int (xs ((i + 2)).toNatClampNeg), .int (xs ((i + 1)).toNatClampNeg), .ref 75], h, 98, 10728)) rfl h3 ?_
  refine x_R.steps 4 (c' := (2112, [(3, .int i), (2, .ref 75), (1, .ref 0), (0, .ref x_scr)], [.int (i + 4), .ref x_scr, .int (xs ((i + 3)).toNatClampNeg), .int (xs ((i + 2)).toNatClampNeg), .int (xs ((i + 1)).toNatClampNeg), .ref 75], h, 98, 10728)) rfl ?_
  refine j_Rsld (c' := (2113, [(3, .int i), (2, .ref 75), (1, .ref 0), (0, .ref x_scr)], [.int (xs ((i + 4)).toNatClampNeg), .int (xs ((i + 3)).toNatClampNeg), .int (xs ((i + 2)).toNatClampNeg), .int (xs ((i + 1)).toNatClampNeg), .ref 75], h, 98, 10728)) rfl h4 ?_
  exact kk

set_option maxRecDepth 100000 in
theorem x_c63d (h : xH) (L : Nat) (xs : Nat → Int32) (i : Int32) (h0 : ¬ (i < 0 ∨ L ≤ (i).toNatClampNeg)) (h1 : ¬ (i + 1 < 0 ∨ L ≤ (i + 1).toNatClampNeg)) (h2 : ¬ (i + 2 < 0 ∨ L ≤ (i + 2).toNatClampNeg)) (h3 : ¬ (i + 3 < 0 ∨ L ≤ (i + 3).toNatClampNeg)) (h4 : ¬ (i + 4 < 0 ∨ L ≤ (i + 4).toNatClampNeg)) (h5 : ¬ (i + 5 < 0 ∨ L ≤ (i + 5).toNatClampNeg)) (w : Int32) {P : Option Value × xH × Nat × Nat → Prop} (kk : x_R x_mt (some (L, xs)) 10 M_law (18, [(3, .int (i + Int32.ofInt (6))), (2, .ref 75), (1, .ref 0), (0, .ref x_scr)], [], h, 98, 10728) P) : x_R x_mt (some (L, xs)) 10 M_law (2116, [(3, .int i), (2, .ref 75), (1, .ref 0), (0, .ref x_scr)], [.int w], h, 98, 10728) P := by
  refine x_R.steps 4 (c' := (18, [(3, .int (i + Int32.ofInt (6))), (2, .ref 75), (1, .ref 0), (0, .ref x_scr)], [], h, 98, 10728)) rfl ?_
  exact kk

set_option maxRecDepth 100000 in
theorem x_c64a (h : xH) (L : Nat) (xs : Nat → Int32) (i : Int32) (h0 : ¬ (i < 0 ∨ L ≤ (i).toNatClampNeg)) (h1 : ¬ (i + 1 < 0 ∨ L ≤ (i + 1).toNatClampNeg)) (h2 : ¬ (i + 2 < 0 ∨ L ≤ (i + 2).toNatClampNeg)) (h3 : ¬ (i + 3 < 0 ∨ L ≤ (i + 3).toNatClampNeg)) (h4 : ¬ (i + 4 < 0 ∨ L ≤ (i + 4).toNatClampNeg)) (h5 : ¬ (i + 5 < 0 ∨ L ≤ (i + 5).toNatClampNeg)) {P : Option Value × xH × Nat × Nat → Prop} (kk : x_R x_mt (some (L, xs)) 10 M_law (2126, [(3, .int i), (2, .ref 75), (1, .ref 0), (0, .ref x_scr)], [.int (xs ((i + 1)).toNatClampNeg), .ref 0], h, 98, 10728) P) : x_R x_mt (some (L, xs)) 10 M_law (2120, [(3, .int i), (2, .ref 75), (1, .ref 0), (0, .ref x_scr)], [], h, 98, 10728) P := by
  refine x_R.steps 5 (c' := (2125, [(3, .int i), (2, .ref 75), (1, .ref 0), (0, .ref x_scr)], [.int (i + 1), .ref x_scr, .ref 0], h, 98, 10728)) rfl ?_
  refine j_Rsld (c' := (2126, [(3, .int i), (2, .ref 75), (1, .ref 0), (0, .ref x_scr)], [.int (xs ((i + 1)).toNatClampNeg), .ref 0], h, 98, 10728)) rfl h1 ?_
  exact kk

set_option maxRecDepth 100000 in
theorem x_c64b (h : xH) (L : Nat) (xs : Nat → Int32) (i : Int32) (h0 : ¬ (i < 0 ∨ L ≤ (i).toNatClampNeg)) (h1 : ¬ (i + 1 < 0 ∨ L ≤ (i + 1).toNatClampNeg)) (h2 : ¬ (i + 2 < 0 ∨ L ≤ (i + 2).toNatClampNeg)) (h3 : ¬ (i + 3 < 0 ∨ L ≤ (i + 3).toNatClampNeg)) (h4 : ¬ (i + 4 < 0 ∨ L ≤ (i + 4).toNatClampNeg)) (h5 : ¬ (i + 5 < 0 ∨ L ≤ (i + 5).toNatClampNeg)) (v : Int32) {P : Option Value × xH × Nat × Nat → Prop} (kk : x_R x_mt (some (L, xs)) 10 M_law (2136, [(3, .int i), (2, .ref 75), (1, .ref 0), (0, .ref x_scr)], [.int (xs ((i + 1)).toNatClampNeg), .ref 75], h, 98, 10728) P) : x_R x_mt (some (L, xs)) 10 M_law (2129, [(3, .int i), (2, .ref 75), (1, .ref 0), (0, .ref x_scr)], [.int v], h, 98, 10728) P := by
  refine x_R.steps 6 (c' := (2135, [(3, .int i), (2, .ref 75), (1, .ref 0), (0, .ref x_scr)], [.int (i + 1), .ref x_scr, .ref 75], h, 98, 10728)) rfl ?_
  refine j_Rsld (c' := (2136, [(3, .int i), (2, .ref 75), (1, .ref 0), (0, .ref x_scr)], [.int (xs ((i + 1)).toNatClampNeg), .ref 75], h, 98, 10728)) rfl h1 ?_
  exact kk

set_option maxRecDepth 100000 in
theorem x_c64d (h : xH) (L : Nat) (xs : Nat → Int32) (i : Int32) (h0 : ¬ (i < 0 ∨ L ≤ (i).toNatClampNeg)) (h1 : ¬ (i + 1 < 0 ∨ L ≤ (i + 1).toNatClampNeg)) (h2 : ¬ (i + 2 < 0 ∨ L ≤ (i + 2).toNatClampNeg)) (h3 : ¬ (i + 3 < 0 ∨ L ≤ (i + 3).toNatClampNeg)) (h4 : ¬ (i + 4 < 0 ∨ L ≤ (i + 4).toNatClampNeg)) (h5 : ¬ (i + 5 < 0 ∨ L ≤ (i + 5).toNatClampNeg)) (w : Int32) {P : Option Value × xH × Nat × Nat → Prop} (kk : x_R x_mt (some (L, xs)) 10 M_law (18, [(3, .int (i + Int32.ofInt (6))), (2, .ref 75), (1, .ref 0), (0, .ref x_scr)], [], h, 98, 10728) P) : x_R x_mt (some (L, xs)) 10 M_law (2139, [(3, .int i), (2, .ref 75), (1, .ref 0), (0, .ref x_scr)], [.int w], h, 98, 10728) P := by
  refine x_R.steps 4 (c' := (18, [(3, .int (i + Int32.ofInt (6))), (2, .ref 75), (1, .ref 0), (0, .ref x_scr)], [], h, 98, 10728)) rfl ?_
  exact kk

set_option maxRecDepth 100000 in
theorem x_c65a (h : xH) (L : Nat) (xs : Nat → Int32) (i : Int32) (h0 : ¬ (i < 0 ∨ L ≤ (i).toNatClampNeg)) (h1 : ¬ (i + 1 < 0 ∨ L ≤ (i + 1).toNatClampNeg)) (h2 : ¬ (i + 2 < 0 ∨ L ≤ (i + 2).toNatClampNeg)) (h3 : ¬ (i + 3 < 0 ∨ L ≤ (i + 3).toNatClampNeg)) (h4 : ¬ (i + 4 < 0 ∨ L ≤ (i + 4).toNatClampNeg)) (h5 : ¬ (i + 5 < 0 ∨ L ≤ (i + 5).toNatClampNeg)) {P : Option Value × xH × Nat × Nat → Prop} (kk : x_R x_mt (some (L, xs)) 10 M_law (2149, [(3, .int i), (2, .ref 75), (1, .ref 0), (0, .ref x_scr)], [.int (xs ((i + 1)).toNatClampNeg), .ref 0], h, 98, 10728) P) : x_R x_mt (some (L, xs)) 10 M_law (2143, [(3, .int i), (2, .ref 75), (1, .ref 0), (0, .ref x_scr)], [], h, 98, 10728) P := by
  refine x_R.steps 5 (c' := (2148, [(3, .int i), (2, .ref 75), (1, .ref 0), (0, .ref x_scr)], [.int (i + 1), .ref x_scr, .ref 0], h, 98, 10728)) rfl ?_
  refine j_Rsld (c' := (2149, [(3, .int i), (2, .ref 75), (1, .ref 0), (0, .ref x_scr)], [.int (xs ((i + 1)).toNatClampNeg), .ref 0], h, 98, 10728)) rfl h1 ?_
  exact kk

set_option maxRecDepth 100000 in
theorem x_c65b (h : xH) (L : Nat) (xs : Nat → Int32) (i : Int32) (h0 : ¬ (i < 0 ∨ L ≤ (i).toNatClampNeg)) (h1 : ¬ (i + 1 < 0 ∨ L ≤ (i + 1).toNatClampNeg)) (h2 : ¬ (i + 2 < 0 ∨ L ≤ (i + 2).toNatClampNeg)) (h3 : ¬ (i + 3 < 0 ∨ L ≤ (i + 3).toNatClampNeg)) (h4 : ¬ (i + 4 < 0 ∨ L ≤ (i + 4).toNatClampNeg)) (h5 : ¬ (i + 5 < 0 ∨ L ≤ (i + 5).toNatClampNeg)) (v : Int32) {P : Option Value × xH × Nat × Nat → Prop} (kk : x_R x_mt (some (L, xs)) 10 M_law (2159, [(3, .int i), (2, .ref 75), (1, .ref 0), (0, .ref x_scr)], [.int (xs ((i + 1)).toNatClampNeg), .ref 75], h, 98, 10728) P) : x_R x_mt (some (L, xs)) 10 M_law (2152, [(3, .int i), (2, .ref 75), (1, .ref 0), (0, .ref x_scr)], [.int v], h, 98, 10728) P := by
  refine x_R.steps 6 (c' := (2158, [(3, .int i), (2, .ref 75), (1, .ref 0), (0, .ref x_scr)], [.int (i + 1), .ref x_scr, .ref 75], h, 98, 10728)) rfl ?_
  refine j_Rsld (c' := (2159, [(3, .int i), (2, .ref 75), (1, .ref 0), (0, .ref x_scr)], [.int (xs ((i + 1)).toNatClampNeg), .ref 75], h, 98, 10728)) rfl h1 ?_
  exact kk

set_option maxRecDepth 100000 in
theorem x_c65d (h : xH) (L : Nat) (xs : Nat → Int32) (i : Int32) (h0 : ¬ (i < 0 ∨ L ≤ (i).toNatClampNeg)) (h1 : ¬ (i + 1 < 0 ∨ L ≤ (i + 1).toNatClampNeg)) (h2 : ¬ (i + 2 < 0 ∨ L ≤ (i + 2).toNatClampNeg)) (h3 : ¬ (i + 3 < 0 ∨ L ≤ (i + 3).toNatClampNeg)) (h4 : ¬ (i + 4 < 0 ∨ L ≤ (i + 4).toNatClampNeg)) (h5 : ¬ (i + 5 < 0 ∨ L ≤ (i + 5).toNatClampNeg)) (w : Int32) {P : Option Value × xH × Nat × Nat → Prop} (kk : x_R x_mt (some (L, xs)) 10 M_law (18, [(3, .int (i + Int32.ofInt (6))), (2, .ref 75), (1, .ref 0), (0, .ref x_scr)], [], h, 98, 10728) P) : x_R x_mt (some (L, xs)) 10 M_law (2162, [(3, .int i), (2, .ref 75), (1, .ref 0), (0, .ref x_scr)], [.int w], h, 98, 10728) P := by
  refine x_R.steps 4 (c' := (18, [(3, .int (i + Int32.ofInt (6))), (2, .ref 75), (1, .ref 0), (0, .ref x_scr)], [], h, 98, 10728)) rfl ?_
  exact kk

set_option maxRecDepth 100000 in
theorem x_c66a (h : xH) (L : Nat) (xs : Nat → Int32) (i : Int32) (h0 : ¬ (i < 0 ∨ L ≤ (i).toNatClampNeg)) (h1 : ¬ (i + 1 < 0 ∨ L ≤ (i + 1).toNatClampNeg)) (h2 : ¬ (i + 2 < 0 ∨ L ≤ (i + 2).toNatClampNeg)) (h3 : ¬ (i + 3 < 0 ∨ L ≤ (i + 3).toNatClampNeg)) (h4 : ¬ (i + 4 < 0 ∨ L ≤ (i + 4).toNatClampNeg)) (h5 : ¬ (i + 5 < 0 ∨ L ≤ (i + 5).toNatClampNeg)) {P : Option Value × xH × Nat × Nat → Prop} (kk : x_R x_mt (some (L, xs)) 10 M_law (2172, [(3, .int i), (2, .ref 75), (1, .ref 0), (0, .ref x_scr)], [.int (xs ((i + 1)).toNatClampNeg), .ref 0], h, 98, 10728) P) : x_R x_mt (some (L, xs)) 10 M_law (2166, [(3, .int i), (2, .ref 75), (1, .ref 0), (0, .ref x_scr)], [], h, 98, 10728) P := by
  refine x_R.steps 5 (c' := (2171, [(3, .int i), (2, .ref 75), (1, .ref 0), (0, .ref x_scr)], [.int (i + 1), .ref x_scr, .ref 0], h, 98, 10728)) rfl ?_
  refine j_Rsld (c' := (2172, [(3, .int i), (2, .ref 75), (1, .ref 0), (0, .ref x_scr)], [.int (xs ((i + 1)).toNatClampNeg), .ref 0], h, 98, 10728)) rfl h1 ?_
  exact kk

set_option maxRecDepth 100000 in
theorem x_c66b (h : xH) (L : Nat) (xs : Nat → Int32) (i : Int32) (h0 : ¬ (i < 0 ∨ L ≤ (i).toNatClampNeg)) (h1 : ¬ (i + 1 < 0 ∨ L ≤ (i + 1).toNatClampNeg)) (h2 : ¬ (i + 2 < 0 ∨ L ≤ (i + 2).toNatClampNeg)) (h3 : ¬ (i + 3 < 0 ∨ L ≤ (i + 3).toNatClampNeg)) (h4 : ¬ (i + 4 < 0 ∨ L ≤ (i + 4).toNatClampNeg)) (h5 : ¬ (i + 5 < 0 ∨ L ≤ (i + 5).toNatClampNeg)) (v : Int32) {P : Option Value × xH × Nat × Nat → Prop} (kk : x_R x_mt (some (L, xs)) 10 M_law (2182, [(3, .int i), (2, .ref 75), (1, .ref 0), (0, .ref x_scr)], [.int (xs ((i + 1)).toNatClampNeg), .ref 75], h, 98, 10728) P) : x_R x_mt (some (L, xs)) 10 M_law (2175, [(3, .int i), (2, .ref 75), (1, .ref 0), (0, .ref x_scr)], [.int v], h, 98, 10728) P := by
  refine x_R.steps 6 (c' := (2181, [(3, .int i), (2, .ref 75), (1, .ref 0), (0, .ref x_scr)], [.int (i + 1), .ref x_scr, .ref 75], h, 98, 10728)) rfl ?_
  refine j_Rsld (c' := (2182, [(3, .int i), (2, .ref 75), (1, .ref 0), (0, .ref x_scr)], [.int (xs ((i + 1)).toNatClampNeg), .ref 75], h, 98, 10728)) rfl h1 ?_
  exact kk

set_option maxRecDepth 100000 in
theorem x_c66d (h : xH) (L : Nat) (xs : Nat → Int32) (i : Int32) (h0 : ¬ (i < 0 ∨ L ≤ (i).toNatClampNeg)) (h1 : ¬ (i + 1 < 0 ∨ L ≤ (i + 1).toNatClampNeg)) (h2 : ¬ (i + 2 < 0 ∨ L ≤ (i + 2).toNatClampNeg)) (h3 : ¬ (i + 3 < 0 ∨ L ≤ (i + 3).toNatClampNeg)) (h4 : ¬ (i + 4 < 0 ∨ L ≤ (i + 4).toNatClampNeg)) (h5 : ¬ (i + 5 < 0 ∨ L ≤ (i + 5).toNatClampNeg)) (w : Int32) {P : Option Value × xH × Nat × Nat → Prop} (kk : x_R x_mt (some (L, xs)) 10 M_law (18, [(3, .int (i + Int32.ofInt (6))), (2, .ref 75), (1, .ref 0), (0, .ref x_scr)], [], h, 98, 10728) P) : x_R x_mt (some (L, xs)) 10 M_law (2185, [(3, .int i), (2, .ref 75), (1, .ref 0), (0, .ref x_scr)], [.int w], h, 98, 10728) P := by
  refine x_R.steps 4 (c' := (18, [(3, .int (i + Int32.ofInt (6))), (2, .ref 75), (1, .ref 0), (0, .ref x_scr)], [], h, 98, 10728)) rfl ?_
  exact kk

set_option maxRecDepth 100000 in
theorem x_c67a (h : xH) (L : Nat) (xs : Nat → Int32) (i : Int32) (h0 : ¬ (i < 0 ∨ L ≤ (i).toNatClampNeg)) (h1 : ¬ (i + 1 < 0 ∨ L ≤ (i + 1).toNatClampNeg)) (h2 : ¬ (i + 2 < 0 ∨ L ≤ (i + 2).toNatClampNeg)) (h3 : ¬ (i + 3 < 0 ∨ L ≤ (i + 3).toNatClampNeg)) (h4 : ¬ (i + 4 < 0 ∨ L ≤ (i + 4).toNatClampNeg)) (h5 : ¬ (i + 5 < 0 ∨ L ≤ (i + 5).toNatClampNeg)) {P : Option Value × xH × Nat × Nat → Prop} (kk : x_R x_mt (some (L, xs)) 10 M_law (2205, [(3, .int i), (2, .ref 75), (1, .ref 0), (0, .ref x_scr)], [.int (xs ((i + 3)).toNatClampNeg), .int (xs ((i + 2)).toNatClampNeg), .int (xs ((i + 1)).toNatClampNeg), .ref 0], h, 98, 10728) P) : x_R x_mt (some (L, xs)) 10 M_law (2189, [(3, .int i), (2, .ref 75), (1, .ref 0), (0, .ref x_scr)], [], h, 98, 10728) P := by
  refine x_R.steps 5 (c' := (2194, [(3, .int i), (2, .ref 75), (1, .ref 0), (0, .ref x_scr)], [.int (i + 1), .ref x_scr, .ref 0], h, 98, 10728)) rfl ?_
  refine j_Rsld (c' := (2195, [(3, .int i), (2, .ref 75), (1, .ref 0), (0, .ref x_scr)], [.int (xs ((i + 1)).toNatClampNeg), .ref 0], h, 98, 10728)) rfl h1 ?_
  refine x_R.steps 4 (c' := (2199, [(3, .int i), (2, .ref 75), (1, .ref 0), (0, .ref x_scr)], [.int (i + 2), .ref x_scr, .int (xs ((i + 1)).toNatClampNeg), .ref 0], h, 98, 10728)) rfl ?_
  refine j_Rsld (c' := (2200, [(3, .int i), (2, .ref 75), (1, .ref 0), (0, .ref x_scr)], [.int (xs ((i + 2)).toNatClampNeg), .int (xs ((i + 1)).toNatClampNeg), .ref 0], h, 98, 10728)) rfl h2 ?_
  refine x_R.steps 4 (c' := (2204, [(3, .int i), (2, .ref 75), (1, .ref 0), (0, .ref x_scr)], [.int (i + 3), .ref x_scr, .int (xs ((i + 2)).toNatClampNeg), .int (xs ((i + 1)).toNatClampNeg), .ref 0], h, 98, 10728)) rfl ?_
  refine j_Rsld (c' := (2205, [(3, .int i), (2, .ref 75), (1, .ref 0), (0, .ref x_scr)], [.int (xs ((i + 3)).toNatClampNeg), .int (xs ((i + 2)).toNatClampNeg), .int (xs ((i + 1)).toNatClampNeg), .ref 0], h, 98, 10728)) rfl h3 ?_
  exact kk

set_option maxRecDepth 100000 in
theorem x_c67b (h : xH) (L : Nat) (xs : Nat → Int32) (i : Int32) (h0 : ¬ (i < 0 ∨ L ≤ (i).toNatClampNeg)) (h1 : ¬ (i + 1 < 0 ∨ L ≤ (i + 1).toNatClampNeg)) (h2 : ¬ (i + 2 < 0 ∨ L ≤ (i + 2).toNatClampNeg)) (h3 : ¬ (i + 3 < 0 ∨ L ≤ (i + 3).toNatClampNeg)) (h4 : ¬ (i + 4 < 0 ∨ L ≤ (i + 4).toNatClampNeg)) (h5 : ¬ (i + 5 < 0 ∨ L ≤ (i + 5).toNatClampNeg)) (v : Int32) {P : Option Value × xH × Nat × Nat → Prop} (kk : x_R x_mt (some (L, xs)) 10 M_law (2224, [(3, .int i), (2, .ref 75), (1, .ref 0), (0, .ref x_scr)], [.int (xs ((i + 3)).toNatClampNeg), .int (xs ((i + 2)).toNatClampNeg), .int (xs ((i + 1)).toNatClampNeg), .ref 75, .int v], h, 98, 10728) P) : x_R x_mt (some (L, xs)) 10 M_law (2208, [(3, .int i), (2, .ref 75), (1, .ref 0), (0, .ref x_scr)], [.int v], h, 98, 10728) P := by
  refine x_R.steps 5 (c' := (2213, [(3, .int i), (2, .ref 75), (1, .ref 0), (0, .ref x_scr)], [.int (i + 1), .ref x_scr, .ref 75, .int v], h, 98, 10728)) rfl ?_
  refine j_Rsld (c' := (2214, [(3, .int i), (2, .ref 75), (1, .ref 0), (0, .ref x_scr)], [.int (xs ((i + 1)).toNatClampNeg), .ref 75, .int v], h, 98, 10728)) rfl h1 ?_
  refine x_R.steps 4 (c' := (2218, [(3, .int i), (2, .ref 75), (1, .ref 0), (0, .ref x_scr)], [.int (i + 2), .ref x_scr, .int (xs ((i + 1)).toNatClampNeg), .ref 75, .int v], h, 98, 10728)) rfl ?_
  refine j_Rsld (c' := (2219, [(3, .int i), (2, .ref 75), (1, .ref 0), (0, .ref x_scr)], [.int (xs ((i + 2)).toNatClampNeg), .int (xs ((i + 1)).toNatClampNeg), .ref 75, .int v], h, 98, 10728)) rfl h2 ?_
  refine x_R.steps 4 (c' := (2223, [(3, .int i), (2, .ref 75), (1, .ref 0), (0, .ref x_scr)], [.int (i + 3), .ref x_scr, .int (xs ((i + 2)).toNatClampNeg), .int (xs ((i + 1)).toNatClampNeg), .ref 75, .int v], h, 98, 10728)) rfl ?_
  refine j_Rsld (c' := (2224, [(3, .int i), (2, .ref 75), (1, .ref 0), (0, .ref x_scr)], [.int (xs ((i + 3)).toNatClampNeg), .int (xs ((i + 2)).toNatClampNeg), .int (xs ((i + 1)).toNatClampNeg), .ref 75, .int v], h, 98, 10728)) rfl h3 ?_
  exact kk

set_option maxRecDepth 100000 in
theorem x_c67c (h : xH) (L : Nat) (xs : Nat → Int32) (i : Int32) (v : Int32) {P : Option Value × xH × Nat × Nat → Prop} (kk : x_R x_mt (some (L, xs)) 10 M_law (2368, [(3, .int i), (2, .ref 75), (1, .ref 0), (0, .ref x_scr)], [], h, 98, 10728) P) : x_R x_mt (some (L, xs)) 10 M_law (2227, [(3, .int i), (2, .ref 75), (1, .ref 0), (0, .ref x_scr)], [.int v, .int v], h, 98, 10728) P := by
  exact x_R.ite (p := v = v) (c1 := (2368, [(3, .int i), (2, .ref 75), (1, .ref 0), (0, .ref x_scr)], [], h, 98, 10728)) (c2 := (2230, [(3, .int i), (2, .ref 75), (1, .ref 0), (0, .ref x_scr)], [], h, 98, 10728)) rfl (fun _ => kk) (fun z => absurd rfl z)

set_option maxRecDepth 100000 in
theorem x_c67d (h : xH) (L : Nat) (xs : Nat → Int32) (i : Int32) (h0 : ¬ (i < 0 ∨ L ≤ (i).toNatClampNeg)) (h1 : ¬ (i + 1 < 0 ∨ L ≤ (i + 1).toNatClampNeg)) (h2 : ¬ (i + 2 < 0 ∨ L ≤ (i + 2).toNatClampNeg)) (h3 : ¬ (i + 3 < 0 ∨ L ≤ (i + 3).toNatClampNeg)) (h4 : ¬ (i + 4 < 0 ∨ L ≤ (i + 4).toNatClampNeg)) (h5 : ¬ (i + 5 < 0 ∨ L ≤ (i + 5).toNatClampNeg)) {P : Option Value × xH × Nat × Nat → Prop} (kk : x_R x_mt (some (L, xs)) 10 M_law (18, [(3, .int (i + Int32.ofInt (6))), (2, .ref 75), (1, .ref 0), (0, .ref x_scr)], [], h, 98, 10728) P) : x_R x_mt (some (L, xs)) 10 M_law (2368, [(3, .int i), (2, .ref 75), (1, .ref 0), (0, .ref x_scr)], [], h, 98, 10728) P := by
  refine x_R.steps 2 (c' := (18, [(3, .int (i + Int32.ofInt (6))), (2, .ref 75), (1, .ref 0), (0, .ref x_scr)], [], h, 98, 10728)) rfl ?_
  exact kk

set_option maxRecDepth 100000 in
theorem x_c68a (h : xH) (L : Nat) (xs : Nat → Int32) (i : Int32) (h0 : ¬ (i < 0 ∨ L ≤ (i).toNatClampNeg)) (h1 : ¬ (i + 1 < 0 ∨ L ≤ (i + 1).toNatClampNeg)) (h2 : ¬ (i + 2 < 0 ∨ L ≤ (i + 2).toNatClampNeg)) (h3 : ¬ (i + 3 < 0 ∨ L ≤ (i + 3).toNatClampNeg)) (h4 : ¬ (i + 4 < 0 ∨ L ≤ (i + 4).toNatClampNeg)) (h5 : ¬ (i + 5 < 0 ∨ L ≤ (i + 5).toNatClampNeg)) {P : Option Value × xH × Nat × Nat → Prop} (kk : x_R x_mt (some (L, xs)) 10 M_law (2263, [(3, .int i), (2, .ref 75), (1, .ref 0), (0, .ref x_scr)], [.long ((((xs ((i + 3)).toNatClampNeg)).toInt64 <<< ((32 : Int32).toInt64 &&& 63)) ||| (((xs ((i + 4)).toNatClampNeg)).toInt64 &&& 4294967295)), .int (xs ((i + 2)).toNatClampNeg), .int (xs ((i + 1)).toNatClampNeg), .ref 0], h, 98, 10728) P) : x_R x_mt (some (L, xs)) 10 M_law (2232, [(3, .int i), (2, .ref 75), (1, .ref 0), (0, .ref x_scr)], [], h, 98, 10728) P := by
  refine x_R.steps 5 (c' := (2237, [(3, .int i), (2, .ref 75), (1, .ref 0), (0, .ref x_scr)], [.int (i + 1), .ref x_scr, .ref 0], h, 98, 10728)) rfl ?_
  refine j_Rsld (c' := (2238, [(3, .int i), (2, .ref 75), (1, .ref 0), (0, .ref x_scr)], [.int (xs ((i + 1)).toNatClampNeg), .ref 0], h, 98, 10728)) rfl h1 ?_
  refine x_R.steps 4 (c' := (2242, [(3, .int i), (2, .ref 75), (1, .ref 0), (0, .ref x_scr)], [.int (i + 2), .ref x_scr, .int (xs ((i + 1)).toNatClampNeg), .ref 0], h, 98, 10728)) rfl ?_
  refine j_Rsld (c' := (2243, [(3, .int i), (2, .ref 75), (1, .ref 0), (0, .ref x_scr)], [.int (xs ((i + 2)).toNatClampNeg), .int (xs ((i + 1)).toNatClampNeg), .ref 0], h, 98, 10728)) rfl h2 ?_
  refine x_R.steps 4 (c' := (2247, [(3, .int i), (2, .ref 75), (1, .ref 0), (0, .ref x_scr)], [.int (i + 3), .ref x_scr, .int (xs ((i + 2)).toNatClampNeg), .int (xs ((i + 1)).toNatClampNeg), .ref 0], h, 98, 10728)) rfl ?_
  refine j_Rsld (c' := (2248, [(3, .int i), (2, .ref 75), (1, .ref 0), (0, .ref x_scr)], [.int (xs ((i + 3)).toNatClampNeg), .int (xs ((i + 2)).toNatClampNeg), .int (xs ((i + 1)).toNatClampNeg), .ref 0], h, 98, 10728)) rfl h3 ?_
  refine x_R.steps 7 (c' := (2256, [(3, .int i), (2, .ref 75), (1, .ref 0), (0, .ref x_scr)], [.int (i + 4), .ref x_scr, .long (((xs ((i + 3)).toNatClampNeg)).toInt64 <<< ((32 : Int32).toInt64 &&& 63)), .int (xs ((i + 2)).toNatClampNeg), .int (xs ((i + 1)).toNatClampNeg), .ref 0], h, 98, 10728)) rfl ?_
  refine j_Rsld (c' := (2257, [(3, .int i), (2, .ref 75), (1, .ref 0), (0, .ref x_scr)], [.int (xs ((i + 4)).toNatClampNeg), .long (((xs ((i + 3)).toNatClampNeg)).toInt64 <<< ((32 : Int32).toInt64 &&& 63)), .int (xs ((i + 2)).toNatClampNeg), .int (xs ((i + 1)).toNatClampNeg), .ref 0], h, 98, 10728)) rfl h4 ?_
  refine x_R.steps 4 (c' := (2263, [(3, .int i), (2, .ref 75), (1, .ref 0), (0, .ref x_scr)], [.long ((((xs ((i + 3)).toNatClampNeg)).toInt64 <<< ((32 : Int32).toInt64 &&& 63)) ||| (((xs ((i + 4)).toNatClampNeg)).toInt64 &&& 4294967295)), .int (xs ((i + 2)).toNatClampNeg), .int (xs ((i + 1)).toNatClampNeg), .ref 0], h, 98, 10728)) rfl ?_
  exact kk

set_option maxRecDepth 100000 in
theorem x_c68b (h : xH) (L : Nat) (xs : Nat → Int32) (i : Int32) (h0 : ¬ (i < 0 ∨ L ≤ (i).toNatClampNeg)) (h1 : ¬ (i + 1 < 0 ∨ L ≤ (i + 1).toNatClampNeg)) (h2 : ¬ (i + 2 < 0 ∨ L ≤ (i + 2).toNatClampNeg)) (h3 : ¬ (i + 3 < 0 ∨ L ≤ (i + 3).toNatClampNeg)) (h4 : ¬ (i + 4 < 0 ∨ L ≤ (i + 4).toNatClampNeg)) (h5 : ¬ (i + 5 < 0 ∨ L ≤ (i + 5).toNatClampNeg)) (v : Int32) {P : Option Value × xH × Nat × Nat → Prop} (kk : x_R x_mt (some (L, xs)) 10 M_law (2298, [(3, .int i), (2, .ref 75), (1, .ref 0), (0, .ref x_scr)], [.long ((((xs ((i + 3)).toNatClampNeg)).toInt64 <<< ((32 : Int32).toInt64 &&& 63)) ||| (((xs ((i + 4)).toNatClampNeg)).toInt64 &&& 4294967295)), .int (xs ((i + 2)).toNatClampNeg), .int (xs ((i + 1)).toNatClampNeg), .ref 75], h, 98, 10728) P) : x_R x_mt (some (L, xs)) 10 M_law (2266, [(3, .int i), (2, .ref 75), (1, .ref 0), (0, .ref x_scr)], [.int v], h, 98, 10728) P := by
  refine x_R.steps 6 (c' := (2272, [(3, .int i), (2, .ref 75), (1, .ref 0), (0, .ref x_scr)], [.int (i + 1), .ref x_scr, .ref 75], h, 98, 10728)) rfl ?_
  refine j_Rsld (c' := (2273, [(3, .int i), (2, .ref 75), (1, .ref 0), (0, .ref x_scr)], [.int (xs ((i + 1)).toNatClampNeg), .ref 75], h, 98, 10728)) rfl h1 ?_
  refine x_R.steps 4 (c' := (2277, [(3, .int i), (2, .ref 75), (1, .ref 0), (0, .ref x_scr)], [.int (i + 2), .ref x_scr, .int (xs ((i + 1)).toNatClampNeg), .ref 75], h, 98, 10728)) rfl ?_
  refine j_Rsld (c' := (2278, [(3, .int i), (2, .ref 75), (1, .ref 0), (0, .ref x_scr)], [.int (xs ((i + 2)).toNatClampNeg), .int (xs ((i + 1)).toNatClampNeg), .ref 75], h, 98, 10728)) rfl h2 ?_
  refine x_R.steps 4 (c' := (2282, [(3, .int i), (2, .ref 75), (1, .ref 0), (0, .ref x_scr)], [.int (i + 3), .ref x_scr, .int (xs ((i + 2)).toNatClampNeg), .int (xs ((i + 1)).toNatClampNeg), .ref 75], h, 98, 10728)) rfl ?_
  refine j_Rsld (c' := (2283, [(3, .int i), (2, .ref 75), (1, .ref 0), (0, .ref x_scr)], [.int (xs ((i + 3)).toNatClampNeg), .int (xs ((i + 2)).toNatClampNeg), .int (xs ((i + 1)).toNatClampNeg), .ref 75], h, 98, 10728)) rfl h3 ?_
  refine x_R.steps 7 (c' := (2291, [(3, .int i), (2, .ref 75), (1, .ref 0), (0, .ref x_scr)], [.int (i + 4), .ref x_scr, .long (((xs ((i + 3)).toNatClampNeg)).toInt64 <<< ((32 : Int32).toInt64 &&& 63)), .int (xs ((i + 2)).toNatClampNeg), .int (xs ((i + 1)).toNatClampNeg), .ref 75], h, 98, 10728)) rfl ?_
  refine j_Rsld (c' := (2292, [(3, .int i), (2, .ref 75), (1, .ref 0), (0, .ref x_scr)], [.int (xs ((i + 4)).toNatClampNeg), .long (((xs ((i + 3)).toNatClampNeg)).toInt64 <<< ((32 : Int32).toInt64 &&& 63)), .int (xs ((i + 2)).toNatClampNeg), .int (xs ((i + 1)).toNatClampNeg), .ref 75], h, 98, 10728)) rfl h4 ?_
  refine x_R.steps 4 (c' := (2298, [(3, .int i), (2, .ref 75), (1, .ref 0), (0, .ref x_scr)], [.long ((((xs ((i + 3)).toNatClampNeg)).toInt64 <<< ((32 : Int32).toInt64 &&& 63)) ||| (((xs ((i + 4)).toNatClampNeg)).toInt64 &&& 4294967295)), .int (xs ((i + 2)).toNatClampNeg), .int (xs ((i + 1)).toNatClampNeg), .ref 75], h, 98, 10728)) rfl ?_
  exact kk

set_option maxRecDepth 100000 in
theorem x_c68d (h : xH) (L : Nat) (xs : Nat → Int32) (i : Int32) (h0 : ¬ (i < 0 ∨ L ≤ (i).toNatClampNeg)) (h1 : ¬ (i + 1 < 0 ∨ L ≤ (i + 1).toNatClampNeg)) (h2 : ¬ (i + 2 < 0 ∨ L ≤ (i + 2).toNatClampNeg)) (h3 : ¬ (i + 3 < 0 ∨ L ≤ (i + 3).toNatClampNeg)) (h4 : ¬ (i + 4 < 0 ∨ L ≤ (i + 4).toNatClampNeg)) (h5 : ¬ (i + 5 < 0 ∨ L ≤ (i + 5).toNatClampNeg)) (w : Int32) {P : Option Value × xH × Nat × Nat → Prop} (kk : x_R x_mt (some (L, xs)) 10 M_law (18, [(3, .int (i + Int32.ofInt (6))), (2, .ref 75), (1, .ref 0), (0, .ref x_scr)], [], h, 98, 10728) P) : x_R x_mt (some (L, xs)) 10 M_law (2301, [(3, .int i), (2, .ref 75), (1, .ref 0), (0, .ref x_scr)], [.int w], h, 98, 10728) P := by
  refine x_R.steps 4 (c' := (18, [(3, .int (i + Int32.ofInt (6))), (2, .ref 75), (1, .ref 0), (0, .ref x_scr)], [], h, 98, 10728)) rfl ?_
  exact kk

set_option maxRecDepth 100000 in
theorem x_c69a (h : xH) (L : Nat) (xs : Nat → Int32) (i : Int32) (h0 : ¬ (i < 0 ∨ L ≤ (i).toNatClampNeg)) (h1 : ¬ (i + 1 < 0 ∨ L ≤ (i + 1).toNatClampNeg)) (h2 : ¬ (i + 2 < 0 ∨ L ≤ (i + 2).toNatClampNeg)) (h3 : ¬ (i + 3 < 0 ∨ L ≤ (i + 3).toNatClampNeg)) (h4 : ¬ (i + 4 < 0 ∨ L ≤ (i + 4).toNatClampNeg)) (h5 : ¬ (i + 5 < 0 ∨ L ≤ (i + 5).toNatClampNeg)) {P : Option Value × xH × Nat × Nat → Prop} (kk : x_R x_mt (some (L, xs)) 10 M_law (2331, [(3, .int i), (2, .ref 75), (1, .ref 0), (0, .ref x_scr)], [.int (xs ((i + 5)).toNatClampNeg), .int (xs ((i + 4)).toNatClampNeg), .int (xs ((i + 3)).toNatClampNeg), .int (xs ((i + 2)).toNatClampNeg), .int (xs ((i + 1)).toNatClampNeg), .ref 0], h, 98, 10728) P) : x_R x_mt (some (L, xs)) 10 M_law (2305, [(3, .int i), (2, .ref 75), (1, .ref 0), (0, .ref x_scr)], [], h, 98, 10728) P := by
  refine x_R.steps 5 (c' := (2310, [(3, .int i), (2, .ref 75), (1, .ref 0), (0, .ref x_scr)], [.int (i + 1), .ref x_scr, .ref 0], h, 98, 10728)) rfl ?_
  refine j_Rsld (c' := (2311, [(3, .int i), (2, .ref 75), (1, .ref 0), (0, .ref x_scr)], [.int (xs ((i + 1)).toNatClampNeg), .ref 0], h, 98, 10728)) rfl h1 ?_
  refine x_R.steps 4 (c' := (2315, [(3, .int i), (2, .ref 75), (1, .ref 0), (0, .ref x_scr)], [.int (i + 2), .ref x_scr, .int (xs ((i + 1)).toNatClampNeg), .ref 0], h, 98, 10728)) rfl ?_
  refine j_Rsld (c' := (2316, [(3, .int i), (2, .ref 75), (1, .ref 0), (0, .ref x_scr)], [.int (xs ((i + 2)).toNatClampNeg), .int (xs ((i + 1)).toNatClampNeg), .ref 0], h, 98, 10728)) rfl h2 ?_
  refine x_R.steps 4 (c' := (2320, [(3, .int i), (2, .ref 75), (1, .ref 0), (0, .ref x_scr)], [.int (i + 3), .ref x_scr, .int (xs ((i + 2)).toNatClampNeg), .int (xs ((i + 1)).toNatClampNeg), .ref 0], h, 98, 10728)) rfl ?_
  refine j_Rsld (c' := (2321, [(3, .int i), (2, .ref 75), (1, .ref 0), (0, .ref x_scr)], [.int (xs ((i + 3)).toNatClampNeg), .int (xs ((i + 2)).toNatClampNeg), .int (xs ((i + 1)).toNatClampNeg), .ref 0], h, 98, 10728)) rfl h3 ?_
  refine x_R.steps 4 (c' := (2325, [(3, .int i), (2, .ref 75), (1, .ref 0), (0, .ref x_scr)], [.int (i + 4), .ref x_scr, .int (xs ((i + 3)).toNatClampNeg), .int (xs ((i + 2)).toNatClampNeg), .int (xs ((i + 1)).toNatClampNeg), .ref 0], h, 98, 10728)) rfl ?_
  refine j_Rsld (c' := (2326, [(3, .int i), (2, .ref 75), (1, .ref 0), (0, .ref x_scr)], [.int (xs ((i + 4)).toNatClampNeg), .int (xs ((i + 3)).toNatClampNeg), .int (xs ((i + 2)).toNatClampNeg), .int (xs ((i + 1)).toNatClampNeg), .ref 0], h, 98, 10728)) rfl h4 ?_
  refine x_R.steps 4 (c' := (2330, [(3, .int i), (2, .ref 75), (1, .ref 0), (0, .ref x_scr)], [.int (i + 5), .ref x_scr, .int (xs ((i + 4)).toNatClampNeg), .int (xs ((i + 3)).toNatClampNeg), .int (xs ((i + 2)).toNatClampNeg), .int (xs ((i + 1)).toNatClampNeg), .ref 0], h, 98, 10728)) rfl ?_
  refine j_Rsld (c' := (2331, [(3, .int i), (2, .ref 75), (1, .ref 0), (0, .ref x_scr)], [.int (xs ((i + 5)).toNatClampNeg), .int (xs ((i + 4)).toNatClampNeg), .int (xs ((i + 3)).toNatClampNeg), .int (xs ((i + 2)).toNatClampNeg), .int (xs ((i + 1)).toNatClampNeg), .ref 0], h, 98, 10728)) rfl h5 ?_
  exact kk

set_option maxRecDepth 100000 in
theorem x_c69b (h : xH) (L : Nat) (xs : Nat → Int32) (i : Int32) (h0 : ¬ (i < 0 ∨ L ≤ (i).toNatClampNeg)) (h1 : ¬ (i + 1 < 0 ∨ L ≤ (i + 1).toNatClampNeg)) (h2 : ¬ (i + 2 < 0 ∨ L ≤ (i + 2).toNatClampNeg)) (h3 : ¬ (i + 3 < 0 ∨ L ≤ (i + 3).toNatClampNeg)) (h4 : ¬ (i + 4 < 0 ∨ L ≤ (i + 4).toNatClampNeg)) (h5 : ¬ (i + 5 < 0 ∨ L ≤ (i + 5).toNatClampNeg)) (v : Int32) {P : Option Value × xH × Nat × Nat → Prop} (kk : x_R x_mt (some (L, xs)) 10 M_law (2361, [(3, .int i), (2, .ref 75), (1, .ref 0), (0, .ref x_scr)], [.int (xs ((i + 5)).toNatClampNeg), .int (xs ((i + 4)).toNatClampNeg), .int (xs ((i + 3)).toNatClampNeg), .int (xs ((i + 2)).toNatClampNeg), .int (xs ((i + 1)).toNatClampNeg), .ref 75], h, 98, 10728) P) : x_R x_mt (some (L, xs)) 10 M_law (2334, [(3, .int i), (2, .ref 75), (1, .ref 0), (0, .ref x_scr)], [.int v], h, 98, 10728) P := by
  refine x_R.steps 6 (c' := (2340, [(3, .int i), (2, .ref 75), (1, .ref 0), (0, .ref x_scr)], [.int (i + 1), .ref x_scr, .ref 75], h, 98, 10728)) rfl ?_
  refine j_Rsld (c' := (2341, [(3, .int i), (2, .ref 75), (1, .ref 0), (0, .ref x_scr)], [.int (xs ((i + 1)).toNatClampNeg), .ref 75], h, 98, 10728)) rfl h1 ?_
  refine x_R.steps 4 (c' := (2345, [(3, .int i), (2, .ref 75), (1, .ref 0), (0, .ref x_scr)], [.int (i + 2), .ref x_scr, .int (xs ((i + 1)).toNatClampNeg), .ref 75], h, 98, 10728)) rfl ?_
  refine j_Rsld (c' := (2346, [(3, .int i), (2, .ref 75), (1, .ref 0), (0, .ref x_scr)], [.int (xs ((i + 2)).toNatClampNeg), .int (xs ((i + 1)).toNatClampNeg), .ref 75], h, 98, 10728)) rfl h2 ?_
  refine x_R.steps 4 (c' := (2350, [(3, .int i), (2, .ref 75), (1, .ref 0), (0, .ref x_scr)], [.int (i + 3), .ref x_scr, .int (xs ((i + 2)).toNatClampNeg), .int (xs ((i + 1)).toNatClampNeg), .ref 75], h, 98, 10728)) rfl ?_
  refine j_Rsld (c' := (2351, [(3, .int i), (2, .ref 75), (1, .ref 0), (0, .ref x_scr)], [.int (xs ((i + 3)).toNatClampNeg), .int (xs ((i + 2)).toNatClampNeg), .int (xs ((i + 1)).toNatClampNeg), .ref 75], h, 98, 10728)) rfl h3 ?_
  refine x_R.steps 4 (c' := (2355, [(3, .int i), (2, .ref 75), (1, .ref 0), (0, .ref x_scr)], [.int (i + 4), .ref x_scr, .int (xs ((i + 3)).toNatClampNeg), .int (xs ((i + 2)).toNatClampNeg), .int (xs ((i + 1)).toNatClampNeg), .ref 75], h, 98, 10728)) rfl ?_
  refine j_Rsld (c' := (2356, [(3, .int i), (2, .ref 75), (1, .ref 0), (0, .ref x_scr)], [.int (xs ((i + 4)).toNatClampNeg), .int (xs ((i + 3)).toNatClampNeg), .int (xs ((i + 2)).toNatClampNeg), .int (xs ((i + 1)).toNatClampNeg), .ref 75], h, 98, 10728)) rfl h4 ?_
  refine x_R.steps 4 (c' := (2360, [(3, .int i), (2, .ref 75), (1, .ref 0), (0, .ref x_scr)], [.int (i + 5), .ref x_scr, .int (xs ((i + 4)).toNatClampNeg), .int (xs ((i + 3)).toNatClampNeg), .int (xs ((i + 2)).toNatClampNeg), .int (xs ((i + 1)).toNatClampNeg), .ref 75], h, 98, 10728)) rfl ?_
  refine j_Rsld (c' := (2361, [(3, .int i), (2, .ref 75), (1, .ref 0), (0, .ref x_scr)], [.int (xs ((i + 5)).toNatClampNeg), .int (xs ((i + 4)).toNatClampNeg), .int (xs ((i + 3)).toNatClampNeg), .int (xs ((i + 2)).toNatClampNeg), .int (xs ((i + 1)).toNatClampNeg), .ref 75], h, 98, 10728)) rfl h5 ?_
  exact kk

set_option maxRecDepth 100000 in
theorem x_c69d (h : xH) (L : Nat) (xs : Nat → Int32) (i : Int32) (h0 : ¬ (i < 0 ∨ L ≤ (i).toNatClampNeg)) (h1 : ¬ (i + 1 < 0 ∨ L ≤ (i + 1).toNatClampNeg)) (h2 : ¬ (i + 2 < 0 ∨ L ≤ (i + 2).toNatClampNeg)) (h3 : ¬ (i + 3 < 0 ∨ L ≤ (i + 3).toNatClampNeg)) (h4 : ¬ (i + 4 < 0 ∨ L ≤ (i + 4).toNatClampNeg)) (h5 : ¬ (i + 5 < 0 ∨ L ≤ (i + 5).toNatClampNeg)) (w : Int32) {P : Option Value × xH × Nat × Nat → Prop} (kk : x_R x_mt (some (L, xs)) 10 M_law (18, [(3, .int (i + Int32.ofInt (6))), (2, .ref 75), (1, .ref 0), (0, .ref x_scr)], [], h, 98, 10728) P) : x_R x_mt (some (L, xs)) 10 M_law (2364, [(3, .int i), (2, .ref 75), (1, .ref 0), (0, .ref x_scr)], [.int w], h, 98, 10728) P := by
  refine x_R.steps 4 (c' := (18, [(3, .int (i + Int32.ofInt (6))), (2, .ref 75), (1, .ref 0), (0, .ref x_scr)], [], h, 98, 10728)) rfl ?_
  exact kk

set_option maxRecDepth 100000 in
theorem x_cdef (h : xH) (L : Nat) (xs : Nat → Int32) (i : Int32) (h0 : ¬ (i < 0 ∨ L ≤ (i).toNatClampNeg)) (h1 : ¬ (i + 1 < 0 ∨ L ≤ (i + 1).toNatClampNeg)) (h2 : ¬ (i + 2 < 0 ∨ L ≤ (i + 2).toNatClampNeg)) (h3 : ¬ (i + 3 < 0 ∨ L ≤ (i + 3).toNatClampNeg)) (h4 : ¬ (i + 4 < 0 ∨ L ≤ (i + 4).toNatClampNeg)) (h5 : ¬ (i + 5 < 0 ∨ L ≤ (i + 5).toNatClampNeg)) {P : Option Value × xH × Nat × Nat → Prop} (kk : x_R x_mt (some (L, xs)) 10 M_law (18, [(3, .int (i + Int32.ofInt (6))), (2, .ref 75), (1, .ref 0), (0, .ref x_scr)], [], h, 98, 10728) P) : x_R x_mt (some (L, xs)) 10 M_law (2368, [(3, .int i), (2, .ref 75), (1, .ref 0), (0, .ref x_scr)], [], h, 98, 10728) P := by
  refine x_R.steps 2 (c' := (18, [(3, .int (i + Int32.ofInt (6))), (2, .ref 75), (1, .ref 0), (0, .ref x_scr)], [], h, 98, 10728)) rfl ?_
  exact kk
