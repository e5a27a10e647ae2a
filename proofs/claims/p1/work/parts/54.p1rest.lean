set_option maxRecDepth 100000 in
theorem x_q0a (h : xH) (xs : Nat → Int32) {P : Option Value × xH × Nat × Nat → Prop} (kk : x_R x_mt (some (6, xs)) 13 M_law (354, [(3, .int 0), (2, .ref 75), (1, .ref 0), (0, .ref x_scr)], [.int (xs 5), .int (xs 4), .int (xs 3), .int (xs 2), .int (xs 1), .ref 0], h, 98, 10728) P) : x_R x_mt (some (6, xs)) 13 M_law (328, [(3, .int 0), (2, .ref 75), (1, .ref 0), (0, .ref x_scr)], [], h, 98, 10728) P := by
  refine x_R.steps 5 (c' := (333, [(3, .int 0), (2, .ref 75), (1, .ref 0), (0, .ref x_scr)], [.int 1, .ref x_scr, .ref 0], h, 98, 10728)) rfl ?_
  refine x_R.steps 1 (c' := (334, [(3, .int 0), (2, .ref 75), (1, .ref 0), (0, .ref x_scr)], [.int (xs 1), .ref 0], h, 98, 10728)) rfl ?_
  refine x_R.steps 4 (c' := (338, [(3, .int 0), (2, .ref 75), (1, .ref 0), (0, .ref x_scr)], [.int 2, .ref x_scr, .int (xs 1), .ref 0], h, 98, 10728)) rfl ?_
  refine x_R.steps 1 (c' := (339, [(3, .int 0), (2, .ref 75), (1, .ref 0), (0, .ref x_scr)], [.int (xs 2), .int (xs 1), .ref 0], h, 98, 10728)) rfl ?_
  refine x_R.steps 4 (c' := (343, [(3, .int 0), (2, .ref 75), (1, .ref 0), (0, .ref x_scr)], [.int 3, .ref x_scr, .int (xs 2), .int (xs 1), .ref 0], h, 98, 10728)) rfl ?_
  refine x_R.steps 1 (c' := (344, [(3, .int 0), (2, .ref 75), (1, .ref 0), (0, .ref x_scr)], [.int (xs 3), .int (xs 2), .int (xs 1), .ref 0], h, 98, 10728)) rfl ?_
  refine x_R.steps 4 (c' := (348, [(3, .int 0), (2, .ref 75), (1, .ref 0), (0, .ref x_scr)], [.int 4, .ref x_scr, .int (xs 3), .int (xs 2), .int (xs 1), .ref 0], h, 98, 10728)) rfl ?_
  refine x_R.steps 1 (c' := (349, [(3, .int 0), (2, .ref 75), (1, .ref 0), (0, .ref x_scr)], [.int (xs 4), .int (xs 3), .int (xs 2), .int (xs 1), .ref 0], h, 98, 10728)) rfl ?_
  refine x_R.steps 4 (c' := (353, [(3, .int 0), (2, .ref 75), (1, .ref 0), (0, .ref x_scr)], [.int 5, .ref x_scr, .int (xs 4), .int (xs 3), .int (xs 2), .int (xs 1), .ref 0], h, 98, 10728)) rfl ?_
  refine x_R.steps 1 (c' := (354, [(3, .int 0), (2, .ref 75), (1, .ref 0), (0, .ref x_scr)], [.int (xs 5), .int (xs 4), .int (xs 3), .int (xs 2), .int (xs 1), .ref 0], h, 98, 10728)) rfl ?_
  exact kk

set_option maxRecDepth 100000 in
theorem x_q0b (h : xH) (xs : Nat → Int32) (v : Int32) {P : Option Value × xH × Nat × Nat → Prop} (kk : x_R x_mt (some (6, xs)) 13 M_law (383, [(3, .int 0), (2, .ref 75), (1, .ref 0), (0, .ref x_scr)], [.int (xs 5), .int (xs 4), .int (xs 3), .int (xs 2), .int (xs 1), .ref 75, .int v], h, 98, 10728) P) : x_R x_mt (some (6, xs)) 13 M_law (357, [(3, .int 0), (2, .ref 75), (1, .ref 0), (0, .ref x_scr)], [.int v], h, 98, 10728) P := by
  refine x_R.steps 5 (c' := (362, [(3, .int 0), (2, .ref 75), (1, .ref 0), (0, .ref x_scr)], [.int 1, .ref x_scr, .ref 75, .int v], h, 98, 10728)) rfl ?_
  refine x_R.steps 1 (c' := (363, [(3, .int 0), (2, .ref 75), (1, .ref 0), (0, .ref x_scr)], [.int (xs 1), .ref 75, .int v], h, 98, 10728)) rfl ?_
  refine x_R.steps 4 (c' := (367, [(3, .int 0), (2, .ref 75), (1, .ref 0), (0, .ref x_scr)], [.int 2, .ref x_scr, .int (xs 1), .ref 75, .int v], h, 98, 10728)) rfl ?_
  refine x_R.steps 1 (c' := (368, [(3, .int 0), (2, .ref 75), (1, .ref 0), (0, .ref x_scr)], [.int (xs 2), .int (xs 1), .ref 75, .int v], h, 98, 10728)) rfl ?_
  refine x_R.steps 4 (c' := (372, [(3, .int 0), (2, .ref 75), (1, .ref 0), (0, .ref x_scr)], [.int 3, .ref x_scr, .int (xs 2), .int (xs 1), .ref 75, .int v], h, 98, 10728)) rfl ?_
  refine x_R.steps 1 (c' := (373, [(3, .int 0), (2, .ref 75), (1, .ref 0), (0, .ref x_scr)], [.int (xs 3), .int (xs 2), .int (xs 1), .ref 75, .int v], h, 98, 10728)) rfl ?_
  refine x_R.steps 4 (c' := (377, [(3, .int 0), (2, .ref 75), (1, .ref 0), (0, .ref x_scr)], [.int 4, .ref x_scr, .int (xs 3), .int (xs 2), .int (xs 1), .ref 75, .int v], h, 98, 10728)) rfl ?_
  refine x_R.steps 1 (c' := (378, [(3, .int 0), (2, .ref 75), (1, .ref 0), (0, .ref x_scr)], [.int (xs 4), .int (xs 3), .int (xs 2), .int (xs 1), .ref 75, .int v], h, 98, 10728)) rfl ?_
  refine x_R.steps 4 (c' := (382, [(3, .int 0), (2, .ref 75), (1, .ref 0), (0, .ref x_scr)], [.int 5, .ref x_scr, .int (xs 4), .int (xs 3), .int (xs 2), .int (xs 1), .ref 75, .int v], h, 98, 10728)) rfl ?_
  refine x_R.steps 1 (c' := (383, [(3, .int 0), (2, .ref 75), (1, .ref 0), (0, .ref x_scr)], [.int (xs 5), .int (xs 4), .int (xs 3), .int (xs 2), .int (xs 1), .ref 75, .int v], h, 98, 10728)) rfl ?_
  exact kk

set_option maxRecDepth 100000 in
theorem x_q0c (h : xH) (xs : Nat → Int32) (v : Int32) {P : Option Value × xH × Nat × Nat → Prop} (kk : x_R x_mt (some (6, xs)) 13 M_law (2370, [(3, .int 0), (2, .ref 75), (1, .ref 0), (0, .ref x_scr)], [], h, 98, 10728) P) : x_R x_mt (some (6, xs)) 13 M_law (386, [(3, .int 0), (2, .ref 75), (1, .ref 0), (0, .ref x_scr)], [.int v, .int v], h, 98, 10728) P := by
  refine x_R.ite (p := v = v) (c1 := (2370, [(3, .int 0), (2, .ref 75), (1, .ref 0), (0, .ref x_scr)], [], h, 98, 10728)) (c2 := (389, [(3, .int 0), (2, .ref 75), (1, .ref 0), (0, .ref x_scr)], [], h, 98, 10728)) rfl (fun _ => kk) (fun z => absurd rfl z)

set_option maxRecDepth 100000 in
theorem x_q0d (h : xH) (xs : Nat → Int32) {P : Option Value × xH × Nat × Nat → Prop} (kk : x_R x_mt (some (6, xs)) 13 M_law (2377, [(3, .int 6), (2, .ref 75), (1, .ref 0), (0, .ref x_scr)], [.int 1], h, 98, 10728) P) : x_R x_mt (some (6, xs)) 13 M_law (2370, [(3, .int 0), (2, .ref 75), (1, .ref 0), (0, .ref x_scr)], [], h, 98, 10728) P := by
  refine x_R.steps 7 (c' := (24, [(3, .int 6), (2, .ref 75), (1, .ref 0), (0, .ref x_scr)], [.int 0, .int 6], h, 98, 10728)) rfl ?_
  refine x_R.steps 1 (c' := (2376, [(3, .int 6), (2, .ref 75), (1, .ref 0), (0, .ref x_scr)], [], h, 98, 10728)) rfl ?_
  refine x_R.steps 1 (c' := (2377, [(3, .int 6), (2, .ref 75), (1, .ref 0), (0, .ref x_scr)], [.int 1], h, 98, 10728)) rfl ?_
  exact kk

theorem x_c0_0 (xs : Nat → Int32) : x_R x_mt (some (6, xs)) 13 M_law (328, [(3, .int 0), (2, .ref 75), (1, .ref 0), (0, .ref x_scr)], [], x_h0, 98, 10728) x_P := by
  obtain ⟨v, σ1, τ1, e1, e2⟩ := j_feed0 (xs 1) (xs 2) (xs 3) (xs 4) (xs 5)
  rw [j_h0]
  refine x_q0a _ xs ?_
  refine j_Rc (s := true) (D := 1) (ai := 112) (vs := [.ref 0, .int (xs 1), .int (xs 2), .int (xs 3), .int (xs 4), .int (xs 5)]) (rest := []) (fun _ => rfl) (c_X11_feed (xs 1) (xs 2) (xs 3) (xs 4) (xs 5) j_s0) (by decide) e1 ?_
  refine x_q0b _ xs v ?_
  rw [j_swp]
  refine j_Rc (s := false) (D := 0) (ai := 208) (vs := [.ref 75, .int (xs 1), .int (xs 2), .int (xs 3), .int (xs 4), .int (xs 5)]) (rest := [.int v]) (fun _ => rfl) (c_X12_feed (xs 1) (xs 2) (xs 3) (xs 4) (xs 5) j_t0) (by decide) e2 ?_
  refine x_q0c _ xs v ?_
  exact x_q0d _ xs (x_R.ret (v := some (.int 1)) rfl x_fin)

set_option maxRecDepth 100000 in
theorem x_q67a (h : xH) (xs : Nat → Int32) {P : Option Value × xH × Nat × Nat → Prop} (kk : x_R x_mt (some (6, xs)) 13 M_law (2207, [(3, .int 0), (2, .ref 75), (1, .ref 0), (0, .ref x_scr)], [.int (xs 3), .int (xs 2), .int (xs 1), .ref 0], h, 98, 10728) P) : x_R x_mt (some (6, xs)) 13 M_law (2191, [(3, .int 0), (2, .ref 75), (1, .ref 0), (0, .ref x_scr)], [], h, 98, 10728) P := by
  refine x_R.steps 5 (c' := (2196, [(3, .int 0), (2, .ref 75), (1, .ref 0), (0, .ref x_scr)], [.int 1, .ref x_scr, .ref 0], h, 98, 10728)) rfl ?_
  refine x_R.steps 1 (c' := (2197, [(3, .int 0), (2, .ref 75), (1, .ref 0), (0, .ref x_scr)], [.int (xs 1), .ref 0], h, 98, 10728)) rfl ?_
  refine x_R.steps 4 (c' := (2201, [(3, .int 0), (2, .ref 75), (1, .ref 0), (0, .ref x_scr)], [.int 2, .ref x_scr, .int (xs 1), .ref 0], h, 98, 10728)) rfl ?_
  refine x_R.steps 1 (c' := (2202, [(3, .int 0), (2, .ref 75), (1, .ref 0), (0, .ref x_scr)], [.int (xs 2), .int (xs 1), .ref 0], h, 98, 10728)) rfl ?_
  refine x_R.steps 4 (c' := (2206, [(3, .int 0), (2, .ref 75), (1, .ref 0), (0, .ref x_scr)], [.int 3, .ref x_scr, .int (xs 2), .int (xs 1), .ref 0], h, 98, 10728)) rfl ?_
  refine x_R.steps 1 (c' := (2207, [(3, .int 0), (2, .ref 75), (1, .ref 0), (0, .ref x_scr)], [.int (xs 3), .int (xs 2), .int (xs 1), .ref 0], h, 98, 10728)) rfl ?_
  exact kk

set_option maxRecDepth 100000 in
theorem x_q67b (h : xH) (xs : Nat → Int32) (v : Int32) {P : Option Value × xH × Nat × Nat → Prop} (kk : x_R x_mt (some (6, xs)) 13 M_law (2226, [(3, .int 0), (2, .ref 75), (1, .ref 0), (0, .ref x_scr)], [.int (xs 3), .int (xs 2), .int (xs 1), .ref 75, .int v], h, 98, 10728) P) : x_R x_mt (some (6, xs)) 13 M_law (2210, [(3, .int 0), (2, .ref 75), (1, .ref 0), (0, .ref x_scr)], [.int v], h, 98, 10728) P := by
  refine x_R.steps 5 (c' := (2215, [(3, .int 0), (2, .ref 75), (1, .ref 0), (0, .ref x_scr)], [.int 1, .ref x_scr, .ref 75, .int v], h, 98, 10728)) rfl ?_
  refine x_R.steps 1 (c' := (2216, [(3, .int 0), (2, .ref 75), (1, .ref 0), (0, .ref x_scr)], [.int (xs 1), .ref 75, .int v], h, 98, 10728)) rfl ?_
  refine x_R.steps 4 (c' := (2220, [(3, .int 0), (2, .ref 75), (1, .ref 0), (0, .ref x_scr)], [.int 2, .ref x_scr, .int (xs 1), .ref 75, .int v], h, 98, 10728)) rfl ?_
  refine x_R.steps 1 (c' := (2221, [(3, .int 0), (2, .ref 75), (1, .ref 0), (0, .ref x_scr)], [.int (xs 2), .int (xs 1), .ref 75, .int v], h, 98, 10728)) rfl ?_
  refine x_R.steps 4 (c' := (2225, [(3, .int 0), (2, .ref 75), (1, .ref 0), (0, .ref x_scr)], [.int 3, .ref x_scr, .int (xs 2), .int (xs 1), .ref 75, .int v], h, 98, 10728)) rfl ?_
  refine x_R.steps 1 (c' := (2226, [(3, .int 0), (2, .ref 75), (1, .ref 0), (0, .ref x_scr)], [.int (xs 3), .int (xs 2), .int (xs 1), .ref 75, .int v], h, 98, 10728)) rfl ?_
  exact kk

set_option maxRecDepth 100000 in
theorem x_q67c (h : xH) (xs : Nat → Int32) (v : Int32) {P : Option Value × xH × Nat × Nat → Prop} (kk : x_R x_mt (some (6, xs)) 13 M_law (2370, [(3, .int 0), (2, .ref 75), (1, .ref 0), (0, .ref x_scr)], [], h, 98, 10728) P) : x_R x_mt (some (6, xs)) 13 M_law (2229, [(3, .int 0), (2, .ref 75), (1, .ref 0), (0, .ref x_scr)], [.int v, .int v], h, 98, 10728) P := by
  refine x_R.ite (p := v = v) (c1 := (2370, [(3, .int 0), (2, .ref 75), (1, .ref 0), (0, .ref x_scr)], [], h, 98, 10728)) (c2 := (2232, [(3, .int 0), (2, .ref 75), (1, .ref 0), (0, .ref x_scr)], [], h, 98, 10728)) rfl (fun _ => kk) (fun z => absurd rfl z)

set_option maxRecDepth 100000 in
theorem x_q67d (h : xH) (xs : Nat → Int32) {P : Option Value × xH × Nat × Nat → Prop} (kk : x_R x_mt (some (6, xs)) 13 M_law (2377, [(3, .int 6), (2, .ref 75), (1, .ref 0), (0, .ref x_scr)], [.int 1], h, 98, 10728) P) : x_R x_mt (some (6, xs)) 13 M_law (2370, [(3, .int 0), (2, .ref 75), (1, .ref 0), (0, .ref x_scr)], [], h, 98, 10728) P := by
  refine x_R.steps 7 (c' := (24, [(3, .int 6), (2, .ref 75), (1, .ref 0), (0, .ref x_scr)], [.int 0, .int 6], h, 98, 10728)) rfl ?_
  refine x_R.steps 1 (c' := (2376, [(3, .int 6), (2, .ref 75), (1, .ref 0), (0, .ref x_scr)], [], h, 98, 10728)) rfl ?_
  refine x_R.steps 1 (c' := (2377, [(3, .int 6), (2, .ref 75), (1, .ref 0), (0, .ref x_scr)], [.int 1], h, 98, 10728)) rfl ?_
  exact kk

theorem x_d67 (xs : Nat → Int32) : x_R x_mt (some (6, xs)) 13 M_law (2191, [(3, .int 0), (2, .ref 75), (1, .ref 0), (0, .ref x_scr)], [], x_h0, 98, 10728) x_P := by
  obtain ⟨v, σ1, τ1, e1, e2⟩ := j_row0 (xs 1) (xs 2) (xs 3)
  rw [j_h0]
  refine x_q67a _ xs ?_
  refine j_Rc (s := true) (D := 1) (ai := 179) (vs := [.ref 0, .int (xs 1), .int (xs 2), .int (xs 3)]) (rest := []) (fun _ => rfl) (c_X11_row (xs 1) (xs 2) (xs 3) j_s0) (by decide) e1 ?_
  refine x_q67b _ xs v ?_
  rw [j_swp]
  refine j_Rc (s := false) (D := 2) (ai := 353) (vs := [.ref 75, .int (xs 1), .int (xs 2), .int (xs 3)]) (rest := [.int v]) (fun _ => rfl) (c_X12_row (xs 1) (xs 2) (xs 3) j_t0) (by decide) e2 ?_
  refine x_q67c _ xs v ?_
  exact x_q67d _ xs (x_R.ret (v := some (.int 1)) rfl x_fin)
