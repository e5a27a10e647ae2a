/-! ===== the switch ===== -/
set_option maxRecDepth 100000 in
theorem x_tb0 (h : xH) (L : Nat) (xs : Nat → Int32) (i : Int32) {P : Option Value × xH × Nat × Nat → Prop} (kk : x_R x_mt (some (L, xs)) 10 M_law (328, [(3, .int i), (2, .ref 75), (1, .ref 0), (0, .ref x_scr)], [], h, 98, 10728) P) : x_R x_mt (some (L, xs)) 10 M_law (33, [(3, .int i), (2, .ref 75), (1, .ref 0), (0, .ref x_scr)], [.int (nI 0)], h, 98, 10728) P := j_Lst lr_33 rfl kk
set_option maxRecDepth 100000 in
theorem x_tb1 (h : xH) (L : Nat) (xs : Nat → Int32) (i : Int32) {P : Option Value × xH × Nat × Nat → Prop} (kk : x_R x_mt (some (L, xs)) 10 M_law (391, [(3, .int i), (2, .ref 75), (1, .ref 0), (0, .ref x_scr)], [], h, 98, 10728) P) : x_R x_mt (some (L, xs)) 10 M_law (33, [(3, .int i), (2, .ref 75), (1, .ref 0), (0, .ref x_scr)], [.int (nI 1)], h, 98, 10728) P := j_Lst lr_33 rfl kk
set_option maxRecDepth 100000 in
theorem x_tb2 (h : xH) (L : Nat) (xs : Nat → Int32) (i : Int32) {P : Option Value × xH × Nat × Nat → Prop} (kk : x_R x_mt (some (L, xs)) 10 M_law (414, [(3, .int i), (2, .ref 75), (1, .ref 0), (0, .ref x_scr)], [], h, 98, 10728) P) : x_R x_mt (some (L, xs)) 10 M_law (33, [(3, .int i), (2, .ref 75), (1, .ref 0), (0, .ref x_scr)], [.int (nI 2)], h, 98, 10728) P := j_Lst lr_33 rfl kk
set_option maxRecDepth 100000 in
theorem x_tb3 (h : xH) (L : Nat) (xs : Nat → Int32) (i : Int32) {P : Option Value × xH × Nat × Nat → Prop} (kk : x_R x_mt (some (L, xs)) 10 M_law (427, [(3, .int i), (2, .ref 75), (1, .ref 0), (0, .ref x_scr)], [], h, 98, 10728) P) : x_R x_mt (some (L, xs)) 10 M_law (33, [(3, .int i), (2, .ref 75), (1, .ref 0), (0, .ref x_scr)], [.int (nI 3)], h, 98, 10728) P := j_Lst lr_33 rfl kk
set_option maxRecDepth 100000 in
theorem x_tb4 (h : xH) (L : Nat) (xs : Nat → Int32) (i : Int32) {P : Option Value × xH × Nat × Nat → Prop} (kk : x_R x_mt (some (L, xs)) 10 M_law (450, [(3, .int i), (2, .ref 75), (1, .ref 0), (0, .ref x_scr)], [], h, 98, 10728) P) : x_R x_mt (some (L, xs)) 10 M_law (33, [(3, .int i), (2, .ref 75), (1, .ref 0), (0, .ref x_scr)], [.int (nI 4)], h, 98, 10728) P := j_Lst lr_33 rfl kk
set_option maxRecDepth 100000 in
theorem x_tb5 (h : xH) (L : Nat) (xs : Nat → Int32) (i : Int32) {P : Option Value × xH × Nat × Nat → Prop} (kk : x_R x_mt (some (L, xs)) 10 M_law (483, [(3, .int i), (2, .ref 75), (1, .ref 0), (0, .ref x_scr)], [], h, 98, 10728) P) : x_R x_mt (some (L, xs)) 10 M_law (33, [(3, .int i), (2, .ref 75), (1, .ref 0), (0, .ref x_scr)], [.int (nI 5)], h, 98, 10728) P := j_Lst lr_33 rfl kk
set_option maxRecDepth 100000 in
theorem x_tb6 (h : xH) (L : Nat) (xs : Nat → Int32) (i : Int32) {P : Option Value × xH × Nat × Nat → Prop} (kk : x_R x_mt (some (L, xs)) 10 M_law (516, [(3, .int i), (2, .ref 75), (1, .ref 0), (0, .ref x_scr)], [], h, 98, 10728) P) : x_R x_mt (some (L, xs)) 10 M_law (33, [(3, .int i), (2, .ref 75), (1, .ref 0), (0, .ref x_scr)], [.int (nI 6)], h, 98, 10728) P := j_Lst lr_33 rfl kk
set_option maxRecDepth 100000 in
theorem x_tb7 (h : xH) (L : Nat) (xs : Nat → Int32) (i : Int32) {P : Option Value × xH × Nat × Nat → Prop} (kk : x_R x_mt (some (L, xs)) 10 M_law (539, [(3, .int i), (2, .ref 75), (1, .ref 0), (0, .ref x_scr)], [], h, 98, 10728) P) : x_R x_mt (some (L, xs)) 10 M_law (33, [(3, .int i), (2, .ref 75), (1, .ref 0), (0, .ref x_scr)], [.int (nI 7)], h, 98, 10728) P := j_Lst lr_33 rfl kk
set_option maxRecDepth 100000 in
theorem x_tb8 (h : xH) (L : Nat) (xs : Nat → Int32) (i : Int32) {P : Option Value × xH × Nat × Nat → Prop} (kk : x_R x_mt (some (L, xs)) 10 M_law (552, [(3, .int i), (2, .ref 75), (1, .ref 0), (0, .ref x_scr)], [], h, 98, 10728) P) : x_R x_mt (some (L, xs)) 10 M_law (33, [(3, .int i), (2, .ref 75), (1, .ref 0), (0, .ref x_scr)], [.int (nI 8)], h, 98, 10728) P := j_Lst lr_33 rfl kk
set_option maxRecDepth 100000 in
theorem x_tb9 (h : xH) (L : Nat) (xs : Nat → Int32) (i : Int32) {P : Option Value × xH × Nat × Nat → Prop} (kk : x_R x_mt (some (L, xs)) 10 M_law (585, [(3, .int i), (2, .ref 75), (1, .ref 0), (0, .ref x_scr)], [], h, 98, 10728) P) : x_R x_mt (some (L, xs)) 10 M_law (33, [(3, .int i), (2, .ref 75), (1, .ref 0), (0, .ref x_scr)], [.int (nI 9)], h, 98, 10728) P := j_Lst lr_33 rfl kk
set_option maxRecDepth 100000 in
theorem x_tb10 (h : xH) (L : Nat) (xs : Nat → Int32) (i : Int32) {P : Option Value × xH × Nat × Nat → Prop} (kk : x_R x_mt (some (L, xs)) 10 M_law (608, [(3, .int i), (2, .ref 75), (1, .ref 0), (0, .ref x_scr)], [], h, 98, 10728) P) : x_R x_mt (some (L, xs)) 10 M_law (33, [(3, .int i), (2, .ref 75), (1, .ref 0), (0, .ref x_scr)], [.int (nI 10)], h, 98, 10728) P := j_Lst lr_33 rfl kk
set_option maxRecDepth 100000 in
theorem x_tb11 (h : xH) (L : Nat) (xs : Nat → Int32) (i : Int32) {P : Option Value × xH × Nat × Nat → Prop} (kk : x_R x_mt (some (L, xs)) 10 M_law (621, [(3, .int i), (2, .ref 75), (1, .ref 0), (0, .ref x_scr)], [], h, 98, 10728) P) : x_R x_mt (some (L, xs)) 10 M_law (33, [(3, .int i), (2, .ref 75), (1, .ref 0), (0, .ref x_scr)], [.int (nI 11)], h, 98, 10728) P := j_Lst lr_33 rfl kk
set_option maxRecDepth 100000 in
theorem x_tb12 (h : xH) (L : Nat) (xs : Nat → Int32) (i : Int32) {P : Option Value × xH × Nat × Nat → Prop} (kk : x_R x_mt (some (L, xs)) 10 M_law (654, [(3, .int i), (2, .ref 75), (1, .ref 0), (0, .ref x_scr)], [], h, 98, 10728) P) : x_R x_mt (some (L, xs)) 10 M_law (33, [(3, .int i), (2, .ref 75), (1, .ref 0), (0, .ref x_scr)], [.int (nI 12)], h, 98, 10728) P := j_Lst lr_33 rfl kk
set_option maxRecDepth 100000 in
theorem x_tb13 (h : xH) (L : Nat) (xs : Nat → Int32) (i : Int32) {P : Option Value × xH × Nat × Nat → Prop} (kk : x_R x_mt (some (L, xs)) 10 M_law (687, [(3, .int i), (2, .ref 75), (1, .ref 0), (0, .ref x_scr)], [], h, 98, 10728) P) : x_R x_mt (some (L, xs)) 10 M_law (33, [(3, .int i), (2, .ref 75), (1, .ref 0), (0, .ref x_scr)], [.int (nI 13)], h, 98, 10728) P := j_Lst lr_33 rfl kk
set_option maxRecDepth 100000 in
theorem x_tb14 (h : xH) (L : Nat) (xs : Nat → Int32) (i : Int32) {P : Option Value × xH × Nat × Nat → Prop} (kk : x_R x_mt (some (L, xs)) 10 M_law (720, [(3, .int i), (2, .ref 75), (1, .ref 0), (0, .ref x_scr)], [], h, 98, 10728) P) : x_R x_mt (some (L, xs)) 10 M_law (33, [(3, .int i), (2, .ref 75), (1, .ref 0), (0, .ref x_scr)], [.int (nI 14)], h, 98, 10728) P := j_Lst lr_33 rfl kk
set_option maxRecDepth 100000 in
theorem x_tb15 (h : xH) (L : Nat) (xs : Nat → Int32) (i : Int32) {P : Option Value × xH × Nat × Nat → Prop} (kk : x_R x_mt (some (L, xs)) 10 M_law (743, [(3, .int i), (2, .ref 75), (1, .ref 0), (0, .ref x_scr)], [], h, 98, 10728) P) : x_R x_mt (some (L, xs)) 10 M_law (33, [(3, .int i), (2, .ref 75), (1, .ref 0), (0, .ref x_scr)], [.int (nI 15)], h, 98, 10728) P := j_Lst lr_33 rfl kk
set_option maxRecDepth 100000 in
theorem x_tb16 (h : xH) (L : Nat) (xs : Nat → Int32) (i : Int32) {P : Option Value × xH × Nat × Nat → Prop} (kk : x_R x_mt (some (L, xs)) 10 M_law (776, [(3, .int i), (2, .ref 75), (1, .ref 0), (0, .ref x_scr)], [], h, 98, 10728) P) : x_R x_mt (some (L, xs)) 10 M_law (33, [(3, .int i), (2, .ref 75), (1, .ref 0), (0, .ref x_scr)], [.int (nI 16)], h, 98, 10728) P := j_Lst lr_33 rfl kk
set_option maxRecDepth 100000 in
theorem x_tb17 (h : xH) (L : Nat) (xs : Nat → Int32) (i : Int32) {P : Option Value × xH × Nat × Nat → Prop} (kk : x_R x_mt (some (L, xs)) 10 M_law (809, [(3, .int i), (2, .ref 75), (1, .ref 0), (0, .ref x_scr)], [], h, 98, 10728) P) : x_R x_mt (some (L, xs)) 10 M_law (33, [(3, .int i), (2, .ref 75), (1, .ref 0), (0, .ref x_scr)], [.int (nI 17)], h, 98, 10728) P := j_Lst lr_33 rfl kk
set_option maxRecDepth 100000 in
theorem x_tb18 (h : xH) (L : Nat) (xs : Nat → Int32) (i : Int32) {P : Option Value × xH × Nat × Nat → Prop} (kk : x_R x_mt (some (L, xs)) 10 M_law (842, [(3, .int i), (2, .ref 75), (1, .ref 0), (0, .ref x_scr)], [], h, 98, 10728) P) : x_R x_mt (some (L, xs)) 10 M_law (33, [(3, .int i), (2, .ref 75), (1, .ref 0), (0, .ref x_scr)], [.int (nI 18)], h, 98, 10728) P := j_Lst lr_33 rfl kk
set_option maxRecDepth 100000 in
theorem x_tb19 (h : xH) (L : Nat) (xs : Nat → Int32) (i : Int32) {P : Option Value × xH × Nat × Nat → Prop} (kk : x_R x_mt (some (L, xs)) 10 M_law (865, [(3, .int i), (2, .ref 75), (1, .ref 0), (0, .ref x_scr)], [], h, 98, 10728) P) : x_R x_mt (some (L, xs)) 10 M_law (33, [(3, .int i), (2, .ref 75), (1, .ref 0), (0, .ref x_scr)], [.int (nI 19)], h, 98, 10728) P := j_Lst lr_33 rfl kk
set_option maxRecDepth 100000 in
theorem x_tb20 (h : xH) (L : Nat) (xs : Nat → Int32) (i : Int32) {P : Option Value × xH × Nat × Nat → Prop} (kk : x_R x_mt (some (L, xs)) 10 M_law (888, [(3, .int i), (2, .ref 75), (1, .ref 0), (0, .ref x_scr)], [], h, 98, 10728) P) : x_R x_mt (some (L, xs)) 10 M_law (33, [(3, .int i), (2, .ref 75), (1, .ref 0), (0, .ref x_scr)], [.int (nI 20)], h, 98, 10728) P := j_Lst lr_33 rfl kk
set_option maxRecDepth 100000 in
theorem x_tb21 (h : xH) (L : Nat) (xs : Nat → Int32) (i : Int32) {P : Option Value × xH × Nat × Nat → Prop} (kk : x_R x_mt (some (L, xs)) 10 M_law (911, [(3, .int i), (2, .ref 75), (1, .ref 0), (0, .ref x_scr)], [], h, 98, 10728) P) : x_R x_mt (some (L, xs)) 10 M_law (33, [(3, .int i), (2, .ref 75), (1, .ref 0), (0, .ref x_scr)], [.int (nI 21)], h, 98, 10728) P := j_Lst lr_33 rfl kk
set_option maxRecDepth 100000 in
theorem x_tb22 (h : xH) (L : Nat) (xs : Nat → Int32) (i : Int32) {P : Option Value × xH × Nat × Nat → Prop} (kk : x_R x_mt (some (L, xs)) 10 M_law (944, [(3, .int i), (2, .ref 75), (1, .ref 0), (0, .ref x_scr)], [], h, 98, 10728) P) : x_R x_mt (some (L, xs)) 10 M_law (33, [(3, .int i), (2, .ref 75), (1, .ref 0), (0, .ref x_scr)], [.int (nI 22)], h, 98, 10728) P := j_Lst lr_33 rfl kk
set_option maxRecDepth 100000 in
theorem x_tb23 (h : xH) (L : Nat) (xs : Nat → Int32) (i : Int32) {P : Option Value × xH × Nat × Nat → Prop} (kk : x_R x_mt (some (L, xs)) 10 M_law (977, [(3, .int i), (2, .ref 75), (1, .ref 0), (0, .ref x_scr)], [], h, 98, 10728) P) : x_R x_mt (some (L, xs)) 10 M_law (33, [(3, .int i), (2, .ref 75), (1, .ref 0), (0, .ref x_scr)], [.int (nI 23)], h, 98, 10728) P := j_Lst lr_33 rfl kk
set_option maxRecDepth 100000 in
theorem x_tb24 (h : xH) (L : Nat) (xs : Nat → Int32) (i : Int32) {P : Option Value × xH × Nat × Nat → Prop} (kk : x_R x_mt (some (L, xs)) 10 M_law (1000, [(3, .int i), (2, .ref 75), (1, .ref 0), (0, .ref x_scr)], [], h, 98, 10728) P) : x_R x_mt (some (L, xs)) 10 M_law (33, [(3, .int i), (2, .ref 75), (1, .ref 0), (0, .ref x_scr)], [.int (nI 24)], h, 98, 10728) P := j_Lst lr_33 rfl kk
set_option maxRecDepth 100000 in
theorem x_tb25 (h : xH) (L : Nat) (xs : Nat → Int32) (i : Int32) {P : Option Value × xH × Nat × Nat → Prop} (kk : x_R x_mt (some (L, xs)) 10 M_law (1033, [(3, .int i), (2, .ref 75), (1, .ref 0), (0, .ref x_scr)], [], h, 98, 10728) P) : x_R x_mt (some (L, xs)) 10 M_law (33, [(3, .int i), (2, .ref 75), (1, .ref 0), (0, .ref x_scr)], [.int (nI 25)], h, 98, 10728) P := j_Lst lr_33 rfl kk
set_option maxRecDepth 100000 in
theorem x_tb26 (h : xH) (L : Nat) (xs : Nat → Int32) (i : Int32) {P : Option Value × xH × Nat × Nat → Prop} (kk : x_R x_mt (some (L, xs)) 10 M_law (1066, [(3, .int i), (2, .ref 75), (1, .ref 0), (0, .ref x_scr)], [], h, 98, 10728) P) : x_R x_mt (some (L, xs)) 10 M_law (33, [(3, .int i), (2, .ref 75), (1, .ref 0), (0, .ref x_scr)], [.int (nI 26)], h, 98, 10728) P := j_Lst lr_33 rfl kk
set_option maxRecDepth 100000 in
theorem x_tb27 (h : xH) (L : Nat) (xs : Nat → Int32) (i : Int32) {P : Option Value × xH × Nat × Nat → Prop} (kk : x_R x_mt (some (L, xs)) 10 M_law (1089, [(3, .int i), (2, .ref 75), (1, .ref 0), (0, .ref x_scr)], [], h, 98, 10728) P) : x_R x_mt (some (L, xs)) 10 M_law (33, [(3, .int i), (2, .ref 75), (1, .ref 0), (0, .ref x_scr)], [.int (nI 27)], h, 98, 10728) P := j_Lst lr_33 rfl kk
set_option maxRecDepth 100000 in
theorem x_tb28 (h : xH) (L : Nat) (xs : Nat → Int32) (i : Int32) {P : Option Value × xH × Nat × Nat → Prop} (kk : x_R x_mt (some (L, xs)) 10 M_law (1122, [(3, .int i), (2, .ref 75), (1, .ref 0), (0, .ref x_scr)], [], h, 98, 10728) P) : x_R x_mt (some (L, xs)) 10 M_law (33, [(3, .int i), (2, .ref 75), (1, .ref 0), (0, .ref x_scr)], [.int (nI 28)], h, 98, 10728) P := j_Lst lr_33 rfl kk
set_option maxRecDepth 100000 in
theorem x_tb29 (h : xH) (L : Nat) (xs : Nat → Int32) (i : Int32) {P : Option Value × xH × Nat × Nat → Prop} (kk : x_R x_mt (some (L, xs)) 10 M_law (1145, [(3, .int i), (2, .ref 75), (1, .ref 0), (0, .ref x_scr)], [], h, 98, 10728) P) : x_R x_mt (some (L, xs)) 10 M_law (33, [(3, .int i), (2, .ref 75), (1, .ref 0), (0, .ref x_scr)], [.int (nI 29)], h, 98, 10728) P := j_Lst lr_33 rfl kk
set_option maxRecDepth 100000 in
theorem x_tb30 (h : xH) (L : Nat) (xs : Nat → Int32) (i : Int32) {P : Option Value × xH × Nat × Nat → Prop} (kk : x_R x_mt (some (L, xs)) 10 M_law (1168, [(3, .int i), (2, .ref 75), (1, .ref 0), (0, .ref x_scr)], [], h, 98, 10728) P) : x_R x_mt (some (L, xs)) 10 M_law (33, [(3, .int i), (2, .ref 75), (1, .ref 0), (0, .ref x_scr)], [.int (nI 30)], h, 98, 10728) P := j_Lst lr_33 rfl kk
set_option maxRecDepth 100000 in
theorem x_tb31 (h : xH) (L : Nat) (xs : Nat → Int32) (i : Int32) {P : Option Value × xH × Nat × Nat → Prop} (kk : x_R x_mt (some (L, xs)) 10 M_law (1201, [(3, .int i), (2, .ref 75), (1, .ref 0), (0, .ref x_scr)], [], h, 98, 10728) P) : x_R x_mt (some (L, xs)) 10 M_law (33, [(3, .int i), (2, .ref 75), (1, .ref 0), (0, .ref x_scr)], [.int (nI 31)], h, 98, 10728) P := j_Lst lr_33 rfl kk
set_option maxRecDepth 100000 in
theorem x_tb32 (h : xH) (L : Nat) (xs : Nat → Int32) (i : Int32) {P : Option Value × xH × Nat × Nat → Prop} (kk : x_R x_mt (some (L, xs)) 10 M_law (1244, [(3, .int i), (2, .ref 75), (1, .ref 0), (0, .ref x_scr)], [], h, 98, 10728) P) : x_R x_mt (some (L, xs)) 10 M_law (33, [(3, .int i), (2, .ref 75), (1, .ref 0), (0, .ref x_scr)], [.int (nI 32)], h, 98, 10728) P := j_Lst lr_33 rfl kk
set_option maxRecDepth 100000 in
theorem x_tb33 (h : xH) (L : Nat) (xs : Nat → Int32) (i : Int32) {P : Option Value × xH × Nat × Nat → Prop} (kk : x_R x_mt (some (L, xs)) 10 M_law (1267, [(3, .int i), (2, .ref 75), (1, .ref 0), (0, .ref x_scr)], [], h, 98, 10728) P) : x_R x_mt (some (L, xs)) 10 M_law (33, [(3, .int i), (2, .ref 75), (1, .ref 0), (0, .ref x_scr)], [.int (nI 33)], h, 98, 10728) P := j_Lst lr_33 rfl kk
set_option maxRecDepth 100000 in
theorem x_tb34 (h : xH) (L : Nat) (xs : Nat → Int32) (i : Int32) {P : Option Value × xH × Nat × Nat → Prop} (kk : x_R x_mt (some (L, xs)) 10 M_law (1290, [(3, .int i), (2, .ref 75), (1, .ref 0), (0, .ref x_scr)], [], h, 98, 10728) P) : x_R x_mt (some (L, xs)) 10 M_law (33, [(3, .int i), (2, .ref 75), (1, .ref 0), (0, .ref x_scr)], [.int (nI 34)], h, 98, 10728) P := j_Lst lr_33 rfl kk
set_option maxRecDepth 100000 in
theorem x_tb35 (h : xH) (L : Nat) (xs : Nat → Int32) (i : Int32) {P : Option Value × xH × Nat × Nat → Prop} (kk : x_R x_mt (some (L, xs)) 10 M_law (1313, [(3, .int i), (2, .ref 75), (1, .ref 0), (0, .ref x_scr)], [], h, 98, 10728) P) : x_R x_mt (some (L, xs)) 10 M_law (33, [(3, .int i), (2, .ref 75), (1, .ref 0), (0, .ref x_scr)], [.int (nI 35)], h, 98, 10728) P := j_Lst lr_33 rfl kk
set_option maxRecDepth 100000 in
theorem x_tb36 (h : xH) (L : Nat) (xs : Nat → Int32) (i : Int32) {P : Option Value × xH × Nat × Nat → Prop} (kk : x_R x_mt (some (L, xs)) 10 M_law (1336, [(3, .int i), (2, .ref 75), (1, .ref 0), (0, .ref x_scr)], [], h, 98, 10728) P) : x_R x_mt (some (L, xs)) 10 M_law (33, [(3, .int i), (2, .ref 75), (1, .ref 0), (0, .ref x_scr)], [.int (nI 36)], h, 98, 10728) P := j_Lst lr_33 rfl kk
set_option maxRecDepth 100000 in
theorem x_tb37 (h : xH) (L : Nat) (xs : Nat → Int32) (i : Int32) {P : Option Value × xH × Nat × Nat → Prop} (kk : x_R x_mt (some (L, xs)) 10 M_law (1359, [(3, .int i), (2, .ref 75), (1, .ref 0), (0, .ref x_scr)], [], h, 98, 10728) P) : x_R x_mt (some (L, xs)) 10 M_law (33, [(3, .int i), (2, .ref 75), (1, .ref 0), (0, .ref x_scr)], [.int (nI 37)], h, 98, 10728) P := j_Lst lr_33 rfl kk
set_option maxRecDepth 100000 in
theorem x_tb38 (h : xH) (L : Nat) (xs : Nat → Int32) (i : Int32) {P : Option Value × xH × Nat × Nat → Prop} (kk : x_R x_mt (some (L, xs)) 10 M_law (1382, [(3, .int i), (2, .ref 75), (1, .ref 0), (0, .ref x_scr)], [], h, 98, 10728) P) : x_R x_mt (some (L, xs)) 10 M_law (33, [(3, .int i), (2, .ref 75), (1, .ref 0), (0, .ref x_scr)], [.int (nI 38)], h, 98, 10728) P := j_Lst lr_33 rfl kk
set_option maxRecDepth 100000 in
theorem x_tb39 (h : xH) (L : Nat) (xs : Nat → Int32) (i : Int32) {P : Option Value × xH × Nat × Nat → Prop} (kk : x_R x_mt (some (L, xs)) 10 M_law (1415, [(3, .int i), (2, .ref 75), (1, .ref 0), (0, .ref x_scr)], [], h, 98, 10728) P) : x_R x_mt (some (L, xs)) 10 M_law (33, [(3, .int i), (2, .ref 75), (1, .ref 0), (0, .ref x_scr)], [.int (nI 39)], h, 98, 10728) P := j_Lst lr_33 rfl kk
set_option maxRecDepth 100000 in
theorem x_tb40 (h : xH) (L : Nat) (xs : Nat → Int32) (i : Int32) {P : Option Value × xH × Nat × Nat → Prop} (kk : x_R x_mt (some (L, xs)) 10 M_law (1438, [(3, .int i), (2, .ref 75), (1, .ref 0), (0, .ref x_scr)], [], h, 98, 10728) P) : x_R x_mt (some (L, xs)) 10 M_law (33, [(3, .int i), (2, .ref 75), (1, .ref 0), (0, .ref x_scr)], [.int (nI 40)], h, 98, 10728) P := j_Lst lr_33 rfl kk
set_option maxRecDepth 100000 in
theorem x_tb41 (h : xH) (L : Nat) (xs : Nat → Int32) (i : Int32) {P : Option Value × xH × Nat × Nat → Prop} (kk : x_R x_mt (some (L, xs)) 10 M_law (1461, [(3, .int i), (2, .ref 75), (1, .ref 0), (0, .ref x_scr)], [], h, 98, 10728) P) : x_R x_mt (some (L, xs)) 10 M_law (33, [(3, .int i), (2, .ref 75), (1, .ref 0), (0, .ref x_scr)], [.int (nI 41)], h, 98, 10728) P := j_Lst lr_33 rfl kk
set_option maxRecDepth 100000 in
theorem x_tb42 (h : xH) (L : Nat) (xs : Nat → Int32) (i : Int32) {P : Option Value × xH × Nat × Nat → Prop} (kk : x_R x_mt (some (L, xs)) 10 M_law (1474, [(3, .int i), (2, .ref 75), (1, .ref 0), (0, .ref x_scr)], [], h, 98, 10728) P) : x_R x_mt (some (L, xs)) 10 M_law (33, [(3, .int i), (2, .ref 75), (1, .ref 0), (0, .ref x_scr)], [.int (nI 42)], h, 98, 10728) P := j_Lst lr_33 rfl kk
set_option maxRecDepth 100000 in
theorem x_tb43 (h : xH) (L : Nat) (xs : Nat → Int32) (i : Int32) {P : Option Value × xH × Nat × Nat → Prop} (kk : x_R x_mt (some (L, xs)) 10 M_law (1497, [(3, .int i), (2, .ref 75), (1, .ref 0), (0, .ref x_scr)], [], h, 98, 10728) P) : x_R x_mt (some (L, xs)) 10 M_law (33, [(3, .int i), (2, .ref 75), (1, .ref 0), (0, .ref x_scr)], [.int (nI 43)], h, 98, 10728) P := j_Lst lr_33 rfl kk
set_option maxRecDepth 100000 in
theorem x_tb44 (h : xH) (L : Nat) (xs : Nat → Int32) (i : Int32) {P : Option Value × xH × Nat × Nat → Prop} (kk : x_R x_mt (some (L, xs)) 10 M_law (1530, [(3, .int i), (2, .ref 75), (1, .ref 0), (0, .ref x_scr)], [], h, 98, 10728) P) : x_R x_mt (some (L, xs)) 10 M_law (33, [(3, .int i), (2, .ref 75), (1, .ref 0), (0, .ref x_scr)], [.int (nI 44)], h, 98, 10728) P := j_Lst lr_33 rfl kk
set_option maxRecDepth 100000 in
theorem x_tb45 (h : xH) (L : Nat) (xs : Nat → Int32) (i : Int32) {P : Option Value × xH × Nat × Nat → Prop} (kk : x_R x_mt (some (L, xs)) 10 M_law (1553, [(3, .int i), (2, .ref 75), (1, .ref 0), (0, .ref x_scr)], [], h, 98, 10728) P) : x_R x_mt (some (L, xs)) 10 M_law (33, [(3, .int i), (2, .ref 75), (1, .ref 0), (0, .ref x_scr)], [.int (nI 45)], h, 98, 10728) P := j_Lst lr_33 rfl kk
set_option maxRecDepth 100000 in
theorem x_tb46 (h : xH) (L : Nat) (xs : Nat → Int32) (i : Int32) {P : Option Value × xH × Nat × Nat → Prop} (kk : x_R x_mt (some (L, xs)) 10 M_law (1596, [(3, .int i), (2, .ref 75), (1, .ref 0), (0, .ref x_scr)], [], h, 98, 10728) P) : x_R x_mt (some (L, xs)) 10 M_law (33, [(3, .int i), (2, .ref 75), (1, .ref 0), (0, .ref x_scr)], [.int (nI 46)], h, 98, 10728) P := j_Lst lr_33 rfl kk
set_option maxRecDepth 100000 in
theorem x_tb47 (h : xH) (L : Nat) (xs : Nat → Int32) (i : Int32) {P : Option Value × xH × Nat × Nat → Prop} (kk : x_R x_mt (some (L, xs)) 10 M_law (1619, [(3, .int i), (2, .ref 75), (1, .ref 0), (0, .ref x_scr)], [], h, 98, 10728) P) : x_R x_mt (some (L, xs)) 10 M_law (33, [(3, .int i), (2, .ref 75), (1, .ref 0), (0, .ref x_scr)], [.int (nI 47)], h, 98, 10728) P := j_Lst lr_33 rfl kk
set_option maxRecDepth 100000 in
theorem x_tb48 (h : xH) (L : Nat) (xs : Nat → Int32) (i : Int32) {P : Option Value × xH × Nat × Nat → Prop} (kk : x_R x_mt (some (L, xs)) 10 M_law (1642, [(3, .int i), (2, .ref 75), (1, .ref 0), (0, .ref x_scr)], [], h, 98, 10728) P) : x_R x_mt (some (L, xs)) 10 M_law (33, [(3, .int i), (2, .ref 75), (1, .ref 0), (0, .ref x_scr)], [.int (nI 48)], h, 98, 10728) P := j_Lst lr_33 rfl kk
set_option maxRecDepth 100000 in
theorem x_tb49 (h : xH) (L : Nat) (xs : Nat → Int32) (i : Int32) {P : Option Value × xH × Nat × Nat → Prop} (kk : x_R x_mt (some (L, xs)) 10 M_law (1665, [(3, .int i), (2, .ref 75), (1, .ref 0), (0, .ref x_scr)], [], h, 98, 10728) P) : x_R x_mt (some (L, xs)) 10 M_law (33, [(3, .int i), (2, .ref 75), (1, .ref 0), (0, .ref x_scr)], [.int (nI 49)], h, 98, 10728) P := j_Lst lr_33 rfl kk
set_option maxRecDepth 100000 in
theorem x_tb50 (h : xH) (L : Nat) (xs : Nat → Int32) (i : Int32) {P : Option Value × xH × Nat × Nat → Prop} (kk : x_R x_mt (some (L, xs)) 10 M_law (1688, [(3, .int i), (2, .ref 75), (1, .ref 0), (0, .ref x_scr)], [], h, 98, 10728) P) : x_R x_mt (some (L, xs)) 10 M_law (33, [(3, .int i), (2, .ref 75), (1, .ref 0), (0, .ref x_scr)], [.int (nI 50)], h, 98, 10728) P := j_Lst lr_33 rfl kk
set_option maxRecDepth 100000 in
theorem x_tb51 (h : xH) (L : Nat) (xs : Nat → Int32) (i : Int32) {P : Option Value × xH × Nat × Nat → Prop} (kk : x_R x_mt (some (L, xs)) 10 M_law (1721, [(3, .int i), (2, .ref 75), (1, .ref 0), (0, .ref x_scr)], [], h, 98, 10728) P) : x_R x_mt (some (L, xs)) 10 M_law (33, [(3, .int i), (2, .ref 75), (1, .ref 0), (0, .ref x_scr)], [.int (nI 51)], h, 98, 10728) P := j_Lst lr_33 rfl kk
set_option maxRecDepth 100000 in
theorem x_tb52 (h : xH) (L : Nat) (xs : Nat → Int32) (i : Int32) {P : Option Value × xH × Nat × Nat → Prop} (kk : x_R x_mt (some (L, xs)) 10 M_law (1744, [(3, .int i), (2, .ref 75), (1, .ref 0), (0, .ref x_scr)], [], h, 98, 10728) P) : x_R x_mt (some (L, xs)) 10 M_law (33, [(3, .int i), (2, .ref 75), (1, .ref 0), (0, .ref x_scr)], [.int (nI 52)], h, 98, 10728) P := j_Lst lr_33 rfl kk
set_option maxRecDepth 100000 in
theorem x_tb53 (h : xH) (L : Nat) (xs : Nat → Int32) (i : Int32) {P : Option Value × xH × Nat × Nat → Prop} (kk : x_R x_mt (some (L, xs)) 10 M_law (1757, [(3, .int i), (2, .ref 75), (1, .ref 0), (0, .ref x_scr)], [], h, 98, 10728) P) : x_R x_mt (some (L, xs)) 10 M_law (33, [(3, .int i), (2, .ref 75), (1, .ref 0), (0, .ref x_scr)], [.int (nI 53)], h, 98, 10728) P := j_Lst lr_33 rfl kk
set_option maxRecDepth 100000 in
theorem x_tb54 (h : xH) (L : Nat) (xs : Nat → Int32) (i : Int32) {P : Option Value × xH × Nat × Nat → Prop} (kk : x_R x_mt (some (L, xs)) 10 M_law (1770, [(3, .int i), (2, .ref 75), (1, .ref 0), (0, .ref x_scr)], [], h, 98, 10728) P) : x_R x_mt (some (L, xs)) 10 M_law (33, [(3, .int i), (2, .ref 75), (1, .ref 0), (0, .ref x_scr)], [.int (nI 54)], h, 98, 10728) P := j_Lst lr_33 rfl kk
set_option maxRecDepth 100000 in
theorem x_tb55 (h : xH) (L : Nat) (xs : Nat → Int32) (i : Int32) {P : Option Value × xH × Nat × Nat → Prop} (kk : x_R x_mt (some (L, xs)) 10 M_law (1793, [(3, .int i), (2, .ref 75), (1, .ref 0), (0, .ref x_scr)], [], h, 98, 10728) P) : x_R x_mt (some (L, xs)) 10 M_law (33, [(3, .int i), (2, .ref 75), (1, .ref 0), (0, .ref x_scr)], [.int (nI 55)], h, 98, 10728) P := j_Lst lr_33 rfl kk
set_option maxRecDepth 100000 in
theorem x_tb56 (h : xH) (L : Nat) (xs : Nat → Int32) (i : Int32) {P : Option Value × xH × Nat × Nat → Prop} (kk : x_R x_mt (some (L, xs)) 10 M_law (1826, [(3, .int i), (2, .ref 75), (1, .ref 0), (0, .ref x_scr)], [], h, 98, 10728) P) : x_R x_mt (some (L, xs)) 10 M_law (33, [(3, .int i), (2, .ref 75), (1, .ref 0), (0, .ref x_scr)], [.int (nI 56)], h, 98, 10728) P := j_Lst lr_33 rfl kk
set_option maxRecDepth 100000 in
theorem x_tb57 (h : xH) (L : Nat) (xs : Nat → Int32) (i : Int32) {P : Option Value × xH × Nat × Nat → Prop} (kk : x_R x_mt (some (L, xs)) 10 M_law (1859, [(3, .int i), (2, .ref 75), (1, .ref 0), (0, .ref x_scr)], [], h, 98, 10728) P) : x_R x_mt (some (L, xs)) 10 M_law (33, [(3, .int i), (2, .ref 75), (1, .ref 0), (0, .ref x_scr)], [.int (nI 57)], h, 98, 10728) P := j_Lst lr_33 rfl kk
set_option maxRecDepth 100000 in
theorem x_tb58 (h : xH) (L : Nat) (xs : Nat → Int32) (i : Int32) {P : Option Value × xH × Nat × Nat → Prop} (kk : x_R x_mt (some (L, xs)) 10 M_law (1882, [(3, .int i), (2, .ref 75), (1, .ref 0), (0, .ref x_scr)], [], h, 98, 10728) P) : x_R x_mt (some (L, xs)) 10 M_law (33, [(3, .int i), (2, .ref 75), (1, .ref 0), (0, .ref x_scr)], [.int (nI 58)], h, 98, 10728) P := j_Lst lr_33 rfl kk
set_option maxRecDepth 100000 in
theorem x_tb59 (h : xH) (L : Nat) (xs : Nat → Int32) (i : Int32) {P : Option Value × xH × Nat × Nat → Prop} (kk : x_R x_mt (some (L, xs)) 10 M_law (1905, [(3, .int i), (2, .ref 75), (1, .ref 0), (0, .ref x_scr)], [], h, 98, 10728) P) : x_R x_mt (some (L, xs)) 10 M_law (33, [(3, .int i), (2, .ref 75), (1, .ref 0), (0, .ref x_scr)], [.int (nI 59)], h, 98, 10728) P := j_Lst lr_33 rfl kk
set_option maxRecDepth 100000 in
theorem x_tb60 (h : xH) (L : Nat) (xs : Nat → Int32) (i : Int32) {P : Option Value × xH × Nat × Nat → Prop} (kk : x_R x_mt (some (L, xs)) 10 M_law (1938, [(3, .int i), (2, .ref 75), (1, .ref 0), (0, .ref x_scr)], [], h, 98, 10728) P) : x_R x_mt (some (L, xs)) 10 M_law (33, [(3, .int i), (2, .ref 75), (1, .ref 0), (0, .ref x_scr)], [.int (nI 60)], h, 98, 10728) P := j_Lst lr_33 rfl kk
set_option maxRecDepth 100000 in
theorem x_tb61 (h : xH) (L : Nat) (xs : Nat → Int32) (i : Int32) {P : Option Value × xH × Nat × Nat → Prop} (kk : x_R x_mt (some (L, xs)) 10 M_law (1981, [(3, .int i), (2, .ref 75), (1, .ref 0), (0, .ref x_scr)], [], h, 98, 10728) P) : x_R x_mt (some (L, xs)) 10 M_law (33, [(3, .int i), (2, .ref 75), (1, .ref 0), (0, .ref x_scr)], [.int (nI 61)], h, 98, 10728) P := j_Lst lr_33 rfl kk
set_option maxRecDepth 100000 in
theorem x_tb62 (h : xH) (L : Nat) (xs : Nat → Int32) (i : Int32) {P : Option Value × xH × Nat × Nat → Prop} (kk : x_R x_mt (some (L, xs)) 10 M_law (2024, [(3, .int i), (2, .ref 75), (1, .ref 0), (0, .ref x_scr)], [], h, 98, 10728) P) : x_R x_mt (some (L, xs)) 10 M_law (33, [(3, .int i), (2, .ref 75), (1, .ref 0), (0, .ref x_scr)], [.int (nI 62)], h, 98, 10728) P := j_Lst lr_33 rfl kk
set_option maxRecDepth 100000 in
theorem x_tb63 (h : xH) (L : Nat) (xs : Nat → Int32) (i : Int32) {P : Option Value × xH × Nat × Nat → Prop} (kk : x_R x_mt (some (L, xs)) 10 M_law (2067, [(3, .int i), (2, .ref 75), (1, .ref 0), (0, .ref x_scr)], [], h, 98, 10728) P) : x_R x_mt (some (L, xs)) 10 M_law (33, [(3, .int i), (2, .ref 75), (1, .ref 0), (0, .ref x_scr)], [.int (nI 63)], h, 98, 10728) P := j_Lst lr_33 rfl kk
set_option maxRecDepth 100000 in
theorem x_tb64 (h : xH) (L : Nat) (xs : Nat → Int32) (i : Int32) {P : Option Value × xH × Nat × Nat → Prop} (kk : x_R x_mt (some (L, xs)) 10 M_law (2120, [(3, .int i), (2, .ref 75), (1, .ref 0), (0, .ref x_scr)], [], h, 98, 10728) P) : x_R x_mt (some (L, xs)) 10 M_law (33, [(3, .int i), (2, .ref 75), (1, .ref 0), (0, .ref x_scr)], [.int (nI 64)], h, 98, 10728) P := j_Lst lr_33 rfl kk
set_option maxRecDepth 100000 in
theorem x_tb65 (h : xH) (L : Nat) (xs : Nat → Int32) (i : Int32) {P : Option Value × xH × Nat × Nat → Prop} (kk : x_R x_mt (some (L, xs)) 10 M_law (2143, [(3, .int i), (2, .ref 75), (1, .ref 0), (0, .ref x_scr)], [], h, 98, 10728) P) : x_R x_mt (some (L, xs)) 10 M_law (33, [(3, .int i), (2, .ref 75), (1, .ref 0), (0, .ref x_scr)], [.int (nI 65)], h, 98, 10728) P := j_Lst lr_33 rfl kk
set_option maxRecDepth 100000 in
theorem x_tb66 (h : xH) (L : Nat) (xs : Nat → Int32) (i : Int32) {P : Option Value × xH × Nat × Nat → Prop} (kk : x_R x_mt (some (L, xs)) 10 M_law (2166, [(3, .int i), (2, .ref 75), (1, .ref 0), (0, .ref x_scr)], [], h, 98, 10728) P) : x_R x_mt (some (L, xs)) 10 M_law (33, [(3, .int i), (2, .ref 75), (1, .ref 0), (0, .ref x_scr)], [.int (nI 66)], h, 98, 10728) P := j_Lst lr_33 rfl kk
set_option maxRecDepth 100000 in
theorem x_tb67 (h : xH) (L : Nat) (xs : Nat → Int32) (i : Int32) {P : Option Value × xH × Nat × Nat → Prop} (kk : x_R x_mt (some (L, xs)) 10 M_law (2189, [(3, .int i), (2, .ref 75), (1, .ref 0), (0, .ref x_scr)], [], h, 98, 10728) P) : x_R x_mt (some (L, xs)) 10 M_law (33, [(3, .int i), (2, .ref 75), (1, .ref 0), (0, .ref x_scr)], [.int (nI 67)], h, 98, 10728) P := j_Lst lr_33 rfl kk
set_option maxRecDepth 100000 in
theorem x_tb68 (h : xH) (L : Nat) (xs : Nat → Int32) (i : Int32) {P : Option Value × xH × Nat × Nat → Prop} (kk : x_R x_mt (some (L, xs)) 10 M_law (2232, [(3, .int i), (2, .ref 75), (1, .ref 0), (0, .ref x_scr)], [], h, 98, 10728) P) : x_R x_mt (some (L, xs)) 10 M_law (33, [(3, .int i), (2, .ref 75), (1, .ref 0), (0, .ref x_scr)], [.int (nI 68)], h, 98, 10728) P := j_Lst lr_33 rfl kk
set_option maxRecDepth 100000 in
theorem x_tb69 (h : xH) (L : Nat) (xs : Nat → Int32) (i : Int32) {P : Option Value × xH × Nat × Nat → Prop} (kk : x_R x_mt (some (L, xs)) 10 M_law (2305, [(3, .int i), (2, .ref 75), (1, .ref 0), (0, .ref x_scr)], [], h, 98, 10728) P) : x_R x_mt (some (L, xs)) 10 M_law (33, [(3, .int i), (2, .ref 75), (1, .ref 0), (0, .ref x_scr)], [.int (nI 69)], h, 98, 10728) P := j_Lst lr_33 rfl kk
set_option maxRecDepth 100000 in
theorem x_tb70 (h : xH) (L : Nat) (xs : Nat → Int32) (i : Int32) {P : Option Value × xH × Nat × Nat → Prop} (kk : x_R x_mt (some (L, xs)) 10 M_law (2368, [(3, .int i), (2, .ref 75), (1, .ref 0), (0, .ref x_scr)], [], h, 98, 10728) P) : x_R x_mt (some (L, xs)) 10 M_law (33, [(3, .int i), (2, .ref 75), (1, .ref 0), (0, .ref x_scr)], [.int (nI 70)], h, 98, 10728) P := j_Lst lr_33 rfl kk
set_option maxRecDepth 100000 in
theorem x_tb71 (h : xH) (L : Nat) (xs : Nat → Int32) (i : Int32) {P : Option Value × xH × Nat × Nat → Prop} (kk : x_R x_mt (some (L, xs)) 10 M_law (2368, [(3, .int i), (2, .ref 75), (1, .ref 0), (0, .ref x_scr)], [], h, 98, 10728) P) : x_R x_mt (some (L, xs)) 10 M_law (33, [(3, .int i), (2, .ref 75), (1, .ref 0), (0, .ref x_scr)], [.int (nI 71)], h, 98, 10728) P := j_Lst lr_33 rfl kk
set_option maxRecDepth 100000 in
theorem x_tb72 (h : xH) (L : Nat) (xs : Nat → Int32) (i : Int32) {P : Option Value × xH × Nat × Nat → Prop} (kk : x_R x_mt (some (L, xs)) 10 M_law (2368, [(3, .int i), (2, .ref 75), (1, .ref 0), (0, .ref x_scr)], [], h, 98, 10728) P) : x_R x_mt (some (L, xs)) 10 M_law (33, [(3, .int i), (2, .ref 75), (1, .ref 0), (0, .ref x_scr)], [.int (nI 72)], h, 98, 10728) P := j_Lst lr_33 rfl kk
set_option maxRecDepth 100000 in
theorem x_tb73 (h : xH) (L : Nat) (xs : Nat → Int32) (i : Int32) {P : Option Value × xH × Nat × Nat → Prop} (kk : x_R x_mt (some (L, xs)) 10 M_law (2368, [(3, .int i), (2, .ref 75), (1, .ref 0), (0, .ref x_scr)], [], h, 98, 10728) P) : x_R x_mt (some (L, xs)) 10 M_law (33, [(3, .int i), (2, .ref 75), (1, .ref 0), (0, .ref x_scr)], [.int (nI 73)], h, 98, 10728) P := j_Lst lr_33 rfl kk
set_option maxRecDepth 100000 in
theorem x_tb74 (h : xH) (L : Nat) (xs : Nat → Int32) (i : Int32) {P : Option Value × xH × Nat × Nat → Prop} (kk : x_R x_mt (some (L, xs)) 10 M_law (2368, [(3, .int i), (2, .ref 75), (1, .ref 0), (0, .ref x_scr)], [], h, 98, 10728) P) : x_R x_mt (some (L, xs)) 10 M_law (33, [(3, .int i), (2, .ref 75), (1, .ref 0), (0, .ref x_scr)], [.int (nI 74)], h, 98, 10728) P := j_Lst lr_33 rfl kk
set_option maxRecDepth 100000 in
theorem x_tb75 (h : xH) (L : Nat) (xs : Nat → Int32) (i : Int32) {P : Option Value × xH × Nat × Nat → Prop} (kk : x_R x_mt (some (L, xs)) 10 M_law (2368, [(3, .int i), (2, .ref 75), (1, .ref 0), (0, .ref x_scr)], [], h, 98, 10728) P) : x_R x_mt (some (L, xs)) 10 M_law (33, [(3, .int i), (2, .ref 75), (1, .ref 0), (0, .ref x_scr)], [.int (nI 75)], h, 98, 10728) P := j_Lst lr_33 rfl kk
set_option maxRecDepth 100000 in
theorem x_tb76 (h : xH) (L : Nat) (xs : Nat → Int32) (i : Int32) {P : Option Value × xH × Nat × Nat → Prop} (kk : x_R x_mt (some (L, xs)) 10 M_law (2368, [(3, .int i), (2, .ref 75), (1, .ref 0), (0, .ref x_scr)], [], h, 98, 10728) P) : x_R x_mt (some (L, xs)) 10 M_law (33, [(3, .int i), (2, .ref 75), (1, .ref 0), (0, .ref x_scr)], [.int (nI 76)], h, 98, 10728) P := j_Lst lr_33 rfl kk
set_option maxRecDepth 100000 in
theorem x_tb77 (h : xH) (L : Nat) (xs : Nat → Int32) (i : Int32) {P : Option Value × xH × Nat × Nat → Prop} (kk : x_R x_mt (some (L, xs)) 10 M_law (2368, [(3, .int i), (2, .ref 75), (1, .ref 0), (0, .ref x_scr)], [], h, 98, 10728) P) : x_R x_mt (some (L, xs)) 10 M_law (33, [(3, .int i), (2, .ref 75), (1, .ref 0), (0, .ref x_scr)], [.int (nI 77)], h, 98, 10728) P := j_Lst lr_33 rfl kk
set_option maxRecDepth 100000 in
theorem x_tb78 (h : xH) (L : Nat) (xs : Nat → Int32) (i : Int32) {P : Option Value × xH × Nat × Nat → Prop} (kk : x_R x_mt (some (L, xs)) 10 M_law (2368, [(3, .int i), (2, .ref 75), (1, .ref 0), (0, .ref x_scr)], [], h, 98, 10728) P) : x_R x_mt (some (L, xs)) 10 M_law (33, [(3, .int i), (2, .ref 75), (1, .ref 0), (0, .ref x_scr)], [.int (nI 78)], h, 98, 10728) P := j_Lst lr_33 rfl kk
set_option maxRecDepth 100000 in
theorem x_tb79 (h : xH) (L : Nat) (xs : Nat → Int32) (i : Int32) {P : Option Value × xH × Nat × Nat → Prop} (kk : x_R x_mt (some (L, xs)) 10 M_law (2368, [(3, .int i), (2, .ref 75), (1, .ref 0), (0, .ref x_scr)], [], h, 98, 10728) P) : x_R x_mt (some (L, xs)) 10 M_law (33, [(3, .int i), (2, .ref 75), (1, .ref 0), (0, .ref x_scr)], [.int (nI 79)], h, 98, 10728) P := j_Lst lr_33 rfl kk
set_option maxRecDepth 100000 in
theorem x_tb80 (h : xH) (L : Nat) (xs : Nat → Int32) (i : Int32) {P : Option Value × xH × Nat × Nat → Prop} (kk : x_R x_mt (some (L, xs)) 10 M_law (2368, [(3, .int i), (2, .ref 75), (1, .ref 0), (0, .ref x_scr)], [], h, 98, 10728) P) : x_R x_mt (some (L, xs)) 10 M_law (33, [(3, .int i), (2, .ref 75), (1, .ref 0), (0, .ref x_scr)], [.int (nI 80)], h, 98, 10728) P := j_Lst lr_33 rfl kk
set_option maxRecDepth 100000 in
theorem x_tb81 (h : xH) (L : Nat) (xs : Nat → Int32) (i : Int32) {P : Option Value × xH × Nat × Nat → Prop} (kk : x_R x_mt (some (L, xs)) 10 M_law (2368, [(3, .int i), (2, .ref 75), (1, .ref 0), (0, .ref x_scr)], [], h, 98, 10728) P) : x_R x_mt (some (L, xs)) 10 M_law (33, [(3, .int i), (2, .ref 75), (1, .ref 0), (0, .ref x_scr)], [.int (nI 81)], h, 98, 10728) P := j_Lst lr_33 rfl kk
set_option maxRecDepth 100000 in
theorem x_tb82 (h : xH) (L : Nat) (xs : Nat → Int32) (i : Int32) {P : Option Value × xH × Nat × Nat → Prop} (kk : x_R x_mt (some (L, xs)) 10 M_law (2368, [(3, .int i), (2, .ref 75), (1, .ref 0), (0, .ref x_scr)], [], h, 98, 10728) P) : x_R x_mt (some (L, xs)) 10 M_law (33, [(3, .int i), (2, .ref 75), (1, .ref 0), (0, .ref x_scr)], [.int (nI 82)], h, 98, 10728) P := j_Lst lr_33 rfl kk
set_option maxRecDepth 100000 in
theorem x_tb83 (h : xH) (L : Nat) (xs : Nat → Int32) (i : Int32) {P : Option Value × xH × Nat × Nat → Prop} (kk : x_R x_mt (some (L, xs)) 10 M_law (2368, [(3, .int i), (2, .ref 75), (1, .ref 0), (0, .ref x_scr)], [], h, 98, 10728) P) : x_R x_mt (some (L, xs)) 10 M_law (33, [(3, .int i), (2, .ref 75), (1, .ref 0), (0, .ref x_scr)], [.int (nI 83)], h, 98, 10728) P := j_Lst lr_33 rfl kk
set_option maxRecDepth 100000 in
theorem x_tb84 (h : xH) (L : Nat) (xs : Nat → Int32) (i : Int32) {P : Option Value × xH × Nat × Nat → Prop} (kk : x_R x_mt (some (L, xs)) 10 M_law (2368, [(3, .int i), (2, .ref 75), (1, .ref 0), (0, .ref x_scr)], [], h, 98, 10728) P) : x_R x_mt (some (L, xs)) 10 M_law (33, [(3, .int i), (2, .ref 75), (1, .ref 0), (0, .ref x_scr)], [.int (nI 84)], h, 98, 10728) P := j_Lst lr_33 rfl kk
set_option maxRecDepth 100000 in
theorem x_tb85 (h : xH) (L : Nat) (xs : Nat → Int32) (i : Int32) {P : Option Value × xH × Nat × Nat → Prop} (kk : x_R x_mt (some (L, xs)) 10 M_law (2368, [(3, .int i), (2, .ref 75), (1, .ref 0), (0, .ref x_scr)], [], h, 98, 10728) P) : x_R x_mt (some (L, xs)) 10 M_law (33, [(3, .int i), (2, .ref 75), (1, .ref 0), (0, .ref x_scr)], [.int (nI 85)], h, 98, 10728) P := j_Lst lr_33 rfl kk
set_option maxRecDepth 100000 in
theorem x_tb86 (h : xH) (L : Nat) (xs : Nat → Int32) (i : Int32) {P : Option Value × xH × Nat × Nat → Prop} (kk : x_R x_mt (some (L, xs)) 10 M_law (2368, [(3, .int i), (2, .ref 75), (1, .ref 0), (0, .ref x_scr)], [], h, 98, 10728) P) : x_R x_mt (some (L, xs)) 10 M_law (33, [(3, .int i), (2, .ref 75), (1, .ref 0), (0, .ref x_scr)], [.int (nI 86)], h, 98, 10728) P := j_Lst lr_33 rfl kk
set_option maxRecDepth 100000 in
theorem x_tb87 (h : xH) (L : Nat) (xs : Nat → Int32) (i : Int32) {P : Option Value × xH × Nat × Nat → Prop} (kk : x_R x_mt (some (L, xs)) 10 M_law (2368, [(3, .int i), (2, .ref 75), (1, .ref 0), (0, .ref x_scr)], [], h, 98, 10728) P) : x_R x_mt (some (L, xs)) 10 M_law (33, [(3, .int i), (2, .ref 75), (1, .ref 0), (0, .ref x_scr)], [.int (nI 87)], h, 98, 10728) P := j_Lst lr_33 rfl kk
set_option maxRecDepth 100000 in
theorem x_tb88 (h : xH) (L : Nat) (xs : Nat → Int32) (i : Int32) {P : Option Value × xH × Nat × Nat → Prop} (kk : x_R x_mt (some (L, xs)) 10 M_law (2368, [(3, .int i), (2, .ref 75), (1, .ref 0), (0, .ref x_scr)], [], h, 98, 10728) P) : x_R x_mt (some (L, xs)) 10 M_law (33, [(3, .int i), (2, .ref 75), (1, .ref 0), (0, .ref x_scr)], [.int (nI 88)], h, 98, 10728) P := j_Lst lr_33 rfl kk
set_option maxRecDepth 100000 in
theorem x_tb89 (h : xH) (L : Nat) (xs : Nat → Int32) (i : Int32) {P : Option Value × xH × Nat × Nat → Prop} (kk : x_R x_mt (some (L, xs)) 10 M_law (2368, [(3, .int i), (2, .ref 75), (1, .ref 0), (0, .ref x_scr)], [], h, 98, 10728) P) : x_R x_mt (some (L, xs)) 10 M_law (33, [(3, .int i), (2, .ref 75), (1, .ref 0), (0, .ref x_scr)], [.int (nI 89)], h, 98, 10728) P := j_Lst lr_33 rfl kk
set_option maxRecDepth 100000 in
theorem x_tb90 (h : xH) (L : Nat) (xs : Nat → Int32) (i : Int32) {P : Option Value × xH × Nat × Nat → Prop} (kk : x_R x_mt (some (L, xs)) 10 M_law (2368, [(3, .int i), (2, .ref 75), (1, .ref 0), (0, .ref x_scr)], [], h, 98, 10728) P) : x_R x_mt (some (L, xs)) 10 M_law (33, [(3, .int i), (2, .ref 75), (1, .ref 0), (0, .ref x_scr)], [.int (nI 90)], h, 98, 10728) P := j_Lst lr_33 rfl kk
set_option maxRecDepth 100000 in
theorem x_tb91 (h : xH) (L : Nat) (xs : Nat → Int32) (i : Int32) {P : Option Value × xH × Nat × Nat → Prop} (kk : x_R x_mt (some (L, xs)) 10 M_law (2368, [(3, .int i), (2, .ref 75), (1, .ref 0), (0, .ref x_scr)], [], h, 98, 10728) P) : x_R x_mt (some (L, xs)) 10 M_law (33, [(3, .int i), (2, .ref 75), (1, .ref 0), (0, .ref x_scr)], [.int (nI 91)], h, 98, 10728) P := j_Lst lr_33 rfl kk
set_option maxRecDepth 100000 in
theorem x_tb92 (h : xH) (L : Nat) (xs : Nat → Int32) (i : Int32) {P : Option Value × xH × Nat × Nat → Prop} (kk : x_R x_mt (some (L, xs)) 10 M_law (2368, [(3, .int i), (2, .ref 75), (1, .ref 0), (0, .ref x_scr)], [], h, 98, 10728) P) : x_R x_mt (some (L, xs)) 10 M_law (33, [(3, .int i), (2, .ref 75), (1, .ref 0), (0, .ref x_scr)], [.int (nI 92)], h, 98, 10728) P := j_Lst lr_33 rfl kk
set_option maxRecDepth 100000 in
theorem x_tb93 (h : xH) (L : Nat) (xs : Nat → Int32) (i : Int32) {P : Option Value × xH × Nat × Nat → Prop} (kk : x_R x_mt (some (L, xs)) 10 M_law (2368, [(3, .int i), (2, .ref 75), (1, .ref 0), (0, .ref x_scr)], [], h, 98, 10728) P) : x_R x_mt (some (L, xs)) 10 M_law (33, [(3, .int i), (2, .ref 75), (1, .ref 0), (0, .ref x_scr)], [.int (nI 93)], h, 98, 10728) P := j_Lst lr_33 rfl kk
set_option maxRecDepth 100000 in
theorem x_tb94 (h : xH) (L : Nat) (xs : Nat → Int32) (i : Int32) {P : Option Value × xH × Nat × Nat → Prop} (kk : x_R x_mt (some (L, xs)) 10 M_law (2368, [(3, .int i), (2, .ref 75), (1, .ref 0), (0, .ref x_scr)], [], h, 98, 10728) P) : x_R x_mt (some (L, xs)) 10 M_law (33, [(3, .int i), (2, .ref 75), (1, .ref 0), (0, .ref x_scr)], [.int (nI 94)], h, 98, 10728) P := j_Lst lr_33 rfl kk
set_option maxRecDepth 100000 in
theorem x_tb95 (h : xH) (L : Nat) (xs : Nat → Int32) (i : Int32) {P : Option Value × xH × Nat × Nat → Prop} (kk : x_R x_mt (some (L, xs)) 10 M_law (2368, [(3, .int i), (2, .ref 75), (1, .ref 0), (0, .ref x_scr)], [], h, 98, 10728) P) : x_R x_mt (some (L, xs)) 10 M_law (33, [(3, .int i), (2, .ref 75), (1, .ref 0), (0, .ref x_scr)], [.int (nI 95)], h, 98, 10728) P := j_Lst lr_33 rfl kk
set_option maxRecDepth 100000 in
theorem x_tb96 (h : xH) (L : Nat) (xs : Nat → Int32) (i : Int32) {P : Option Value × xH × Nat × Nat → Prop} (kk : x_R x_mt (some (L, xs)) 10 M_law (2368, [(3, .int i), (2, .ref 75), (1, .ref 0), (0, .ref x_scr)], [], h, 98, 10728) P) : x_R x_mt (some (L, xs)) 10 M_law (33, [(3, .int i), (2, .ref 75), (1, .ref 0), (0, .ref x_scr)], [.int (nI 96)], h, 98, 10728) P := j_Lst lr_33 rfl kk
set_option maxRecDepth 100000 in
theorem x_tb97 (h : xH) (L : Nat) (xs : Nat → Int32) (i : Int32) {P : Option Value × xH × Nat × Nat → Prop} (kk : x_R x_mt (some (L, xs)) 10 M_law (2368, [(3, .int i), (2, .ref 75), (1, .ref 0), (0, .ref x_scr)], [], h, 98, 10728) P) : x_R x_mt (some (L, xs)) 10 M_law (33, [(3, .int i), (2, .ref 75), (1, .ref 0), (0, .ref x_scr)], [.int (nI 97)], h, 98, 10728) P := j_Lst lr_33 rfl kk
set_option maxRecDepth 100000 in
theorem x_tb98 (h : xH) (L : Nat) (xs : Nat → Int32) (i : Int32) {P : Option Value × xH × Nat × Nat → Prop} (kk : x_R x_mt (some (L, xs)) 10 M_law (2368, [(3, .int i), (2, .ref 75), (1, .ref 0), (0, .ref x_scr)], [], h, 98, 10728) P) : x_R x_mt (some (L, xs)) 10 M_law (33, [(3, .int i), (2, .ref 75), (1, .ref 0), (0, .ref x_scr)], [.int (nI 98)], h, 98, 10728) P := j_Lst lr_33 rfl kk
set_option maxRecDepth 100000 in
theorem x_tb99 (h : xH) (L : Nat) (xs : Nat → Int32) (i : Int32) {P : Option Value × xH × Nat × Nat → Prop} (kk : x_R x_mt (some (L, xs)) 10 M_law (2368, [(3, .int i), (2, .ref 75), (1, .ref 0), (0, .ref x_scr)], [], h, 98, 10728) P) : x_R x_mt (some (L, xs)) 10 M_law (33, [(3, .int i), (2, .ref 75), (1, .ref 0), (0, .ref x_scr)], [.int (nI 99)], h, 98, 10728) P := j_Lst lr_33 rfl kk
set_option maxRecDepth 100000 in
theorem x_tb100 (h : xH) (L : Nat) (xs : Nat → Int32) (i : Int32) {P : Option Value × xH × Nat × Nat → Prop} (kk : x_R x_mt (some (L, xs)) 10 M_law (2368, [(3, .int i), (2, .ref 75), (1, .ref 0), (0, .ref x_scr)], [], h, 98, 10728) P) : x_R x_mt (some (L, xs)) 10 M_law (33, [(3, .int i), (2, .ref 75), (1, .ref 0), (0, .ref x_scr)], [.int (nI 100)], h, 98, 10728) P := j_Lst lr_33 rfl kk
set_option maxRecDepth 100000 in
theorem x_tb101 (h : xH) (L : Nat) (xs : Nat → Int32) (i : Int32) {P : Option Value × xH × Nat × Nat → Prop} (kk : x_R x_mt (some (L, xs)) 10 M_law (2368, [(3, .int i), (2, .ref 75), (1, .ref 0), (0, .ref x_scr)], [], h, 98, 10728) P) : x_R x_mt (some (L, xs)) 10 M_law (33, [(3, .int i), (2, .ref 75), (1, .ref 0), (0, .ref x_scr)], [.int (nI 101)], h, 98, 10728) P := j_Lst lr_33 rfl kk
set_option maxRecDepth 100000 in
theorem x_tb102 (h : xH) (L : Nat) (xs : Nat → Int32) (i : Int32) {P : Option Value × xH × Nat × Nat → Prop} (kk : x_R x_mt (some (L, xs)) 10 M_law (2368, [(3, .int i), (2, .ref 75), (1, .ref 0), (0, .ref x_scr)], [], h, 98, 10728) P) : x_R x_mt (some (L, xs)) 10 M_law (33, [(3, .int i), (2, .ref 75), (1, .ref 0), (0, .ref x_scr)], [.int (nI 102)], h, 98, 10728) P := j_Lst lr_33 rfl kk
set_option maxRecDepth 100000 in
theorem x_tb103 (h : xH) (L : Nat) (xs : Nat → Int32) (i : Int32) {P : Option Value × xH × Nat × Nat → Prop} (kk : x_R x_mt (some (L, xs)) 10 M_law (2368, [(3, .int i), (2, .ref 75), (1, .ref 0), (0, .ref x_scr)], [], h, 98, 10728) P) : x_R x_mt (some (L, xs)) 10 M_law (33, [(3, .int i), (2, .ref 75), (1, .ref 0), (0, .ref x_scr)], [.int (nI 103)], h, 98, 10728) P := j_Lst lr_33 rfl kk
set_option maxRecDepth 100000 in
theorem x_tb104 (h : xH) (L : Nat) (xs : Nat → Int32) (i : Int32) {P : Option Value × xH × Nat × Nat → Prop} (kk : x_R x_mt (some (L, xs)) 10 M_law (2368, [(3, .int i), (2, .ref 75), (1, .ref 0), (0, .ref x_scr)], [], h, 98, 10728) P) : x_R x_mt (some (L, xs)) 10 M_law (33, [(3, .int i), (2, .ref 75), (1, .ref 0), (0, .ref x_scr)], [.int (nI 104)], h, 98, 10728) P := j_Lst lr_33 rfl kk
set_option maxRecDepth 100000 in
theorem x_tb105 (h : xH) (L : Nat) (xs : Nat → Int32) (i : Int32) {P : Option Value × xH × Nat × Nat → Prop} (kk : x_R x_mt (some (L, xs)) 10 M_law (2368, [(3, .int i), (2, .ref 75), (1, .ref 0), (0, .ref x_scr)], [], h, 98, 10728) P) : x_R x_mt (some (L, xs)) 10 M_law (33, [(3, .int i), (2, .ref 75), (1, .ref 0), (0, .ref x_scr)], [.int (nI 105)], h, 98, 10728) P := j_Lst lr_33 rfl kk
set_option maxRecDepth 100000 in
theorem x_tb106 (h : xH) (L : Nat) (xs : Nat → Int32) (i : Int32) {P : Option Value × xH × Nat × Nat → Prop} (kk : x_R x_mt (some (L, xs)) 10 M_law (2368, [(3, .int i), (2, .ref 75), (1, .ref 0), (0, .ref x_scr)], [], h, 98, 10728) P) : x_R x_mt (some (L, xs)) 10 M_law (33, [(3, .int i), (2, .ref 75), (1, .ref 0), (0, .ref x_scr)], [.int (nI 106)], h, 98, 10728) P := j_Lst lr_33 rfl kk
set_option maxRecDepth 100000 in
theorem x_tb107 (h : xH) (L : Nat) (xs : Nat → Int32) (i : Int32) {P : Option Value × xH × Nat × Nat → Prop} (kk : x_R x_mt (some (L, xs)) 10 M_law (2368, [(3, .int i), (2, .ref 75), (1, .ref 0), (0, .ref x_scr)], [], h, 98, 10728) P) : x_R x_mt (some (L, xs)) 10 M_law (33, [(3, .int i), (2, .ref 75), (1, .ref 0), (0, .ref x_scr)], [.int (nI 107)], h, 98, 10728) P := j_Lst lr_33 rfl kk
set_option maxRecDepth 100000 in
theorem x_tb108 (h : xH) (L : Nat) (xs : Nat → Int32) (i : Int32) {P : Option Value × xH × Nat × Nat → Prop} (kk : x_R x_mt (some (L, xs)) 10 M_law (2368, [(3, .int i), (2, .ref 75), (1, .ref 0), (0, .ref x_scr)], [], h, 98, 10728) P) : x_R x_mt (some (L, xs)) 10 M_law (33, [(3, .int i), (2, .ref 75), (1, .ref 0), (0, .ref x_scr)], [.int (nI 108)], h, 98, 10728) P := j_Lst lr_33 rfl kk
set_option maxRecDepth 100000 in
theorem x_tb109 (h : xH) (L : Nat) (xs : Nat → Int32) (i : Int32) {P : Option Value × xH × Nat × Nat → Prop} (kk : x_R x_mt (some (L, xs)) 10 M_law (2368, [(3, .int i), (2, .ref 75), (1, .ref 0), (0, .ref x_scr)], [], h, 98, 10728) P) : x_R x_mt (some (L, xs)) 10 M_law (33, [(3, .int i), (2, .ref 75), (1, .ref 0), (0, .ref x_scr)], [.int (nI 109)], h, 98, 10728) P := j_Lst lr_33 rfl kk
set_option maxRecDepth 100000 in
theorem x_tb110 (h : xH) (L : Nat) (xs : Nat → Int32) (i : Int32) {P : Option Value × xH × Nat × Nat → Prop} (kk : x_R x_mt (some (L, xs)) 10 M_law (2368, [(3, .int i), (2, .ref 75), (1, .ref 0), (0, .ref x_scr)], [], h, 98, 10728) P) : x_R x_mt (some (L, xs)) 10 M_law (33, [(3, .int i), (2, .ref 75), (1, .ref 0), (0, .ref x_scr)], [.int (nI 110)], h, 98, 10728) P := j_Lst lr_33 rfl kk
set_option maxRecDepth 100000 in
theorem x_tb111 (h : xH) (L : Nat) (xs : Nat → Int32) (i : Int32) {P : Option Value × xH × Nat × Nat → Prop} (kk : x_R x_mt (some (L, xs)) 10 M_law (2368, [(3, .int i), (2, .ref 75), (1, .ref 0), (0, .ref x_scr)], [], h, 98, 10728) P) : x_R x_mt (some (L, xs)) 10 M_law (33, [(3, .int i), (2, .ref 75), (1, .ref 0), (0, .ref x_scr)], [.int (nI 111)], h, 98, 10728) P := j_Lst lr_33 rfl kk
set_option maxRecDepth 100000 in
theorem x_tb112 (h : xH) (L : Nat) (xs : Nat → Int32) (i : Int32) {P : Option Value × xH × Nat × Nat → Prop} (kk : x_R x_mt (some (L, xs)) 10 M_law (2368, [(3, .int i), (2, .ref 75), (1, .ref 0), (0, .ref x_scr)], [], h, 98, 10728) P) : x_R x_mt (some (L, xs)) 10 M_law (33, [(3, .int i), (2, .ref 75), (1, .ref 0), (0, .ref x_scr)], [.int (nI 112)], h, 98, 10728) P := j_Lst lr_33 rfl kk
set_option maxRecDepth 100000 in
theorem x_tb113 (h : xH) (L : Nat) (xs : Nat → Int32) (i : Int32) {P : Option Value × xH × Nat × Nat → Prop} (kk : x_R x_mt (some (L, xs)) 10 M_law (2368, [(3, .int i), (2, .ref 75), (1, .ref 0), (0, .ref x_scr)], [], h, 98, 10728) P) : x_R x_mt (some (L, xs)) 10 M_law (33, [(3, .int i), (2, .ref 75), (1, .ref 0), (0, .ref x_scr)], [.int (nI 113)], h, 98, 10728) P := j_Lst lr_33 rfl kk
set_option maxRecDepth 100000 in
theorem x_tb114 (h : xH) (L : Nat) (xs : Nat → Int32) (i : Int32) {P : Option Value × xH × Nat × Nat → Prop} (kk : x_R x_mt (some (L, xs)) 10 M_law (2368, [(3, .int i), (2, .ref 75), (1, .ref 0), (0, .ref x_scr)], [], h, 98, 10728) P) : x_R x_mt (some (L, xs)) 10 M_law (33, [(3, .int i), (2, .ref 75), (1, .ref 0), (0, .ref x_scr)], [.int (nI 114)], h, 98, 10728) P := j_Lst lr_33 rfl kk
set_option maxRecDepth 100000 in
theorem x_tb115 (h : xH) (L : Nat) (xs : Nat → Int32) (i : Int32) {P : Option Value × xH × Nat × Nat → Prop} (kk : x_R x_mt (some (L, xs)) 10 M_law (2368, [(3, .int i), (2, .ref 75), (1, .ref 0), (0, .ref x_scr)], [], h, 98, 10728) P) : x_R x_mt (some (L, xs)) 10 M_law (33, [(3, .int i), (2, .ref 75), (1, .ref 0), (0, .ref x_scr)], [.int (nI 115)], h, 98, 10728) P := j_Lst lr_33 rfl kk
set_option maxRecDepth 100000 in
theorem x_tb116 (h : xH) (L : Nat) (xs : Nat → Int32) (i : Int32) {P : Option Value × xH × Nat × Nat → Prop} (kk : x_R x_mt (some (L, xs)) 10 M_law (2368, [(3, .int i), (2, .ref 75), (1, .ref 0), (0, .ref x_scr)], [], h, 98, 10728) P) : x_R x_mt (some (L, xs)) 10 M_law (33, [(3, .int i), (2, .ref 75), (1, .ref 0), (0, .ref x_scr)], [.int (nI 116)], h, 98, 10728) P := j_Lst lr_33 rfl kk
set_option maxRecDepth 100000 in
theorem x_tb117 (h : xH) (L : Nat) (xs : Nat → Int32) (i : Int32) {P : Option Value × xH × Nat × Nat → Prop} (kk : x_R x_mt (some (L, xs)) 10 M_law (2368, [(3, .int i), (2, .ref 75), (1, .ref 0), (0, .ref x_scr)], [], h, 98, 10728) P) : x_R x_mt (some (L, xs)) 10 M_law (33, [(3, .int i), (2, .ref 75), (1, .ref 0), (0, .ref x_scr)], [.int (nI 117)], h, 98, 10728) P := j_Lst lr_33 rfl kk
set_option maxRecDepth 100000 in
theorem x_tb118 (h : xH) (L : Nat) (xs : Nat → Int32) (i : Int32) {P : Option Value × xH × Nat × Nat → Prop} (kk : x_R x_mt (some (L, xs)) 10 M_law (2368, [(3, .int i), (2, .ref 75), (1, .ref 0), (0, .ref x_scr)], [], h, 98, 10728) P) : x_R x_mt (some (L, xs)) 10 M_law (33, [(3, .int i), (2, .ref 75), (1, .ref 0), (0, .ref x_scr)], [.int (nI 118)], h, 98, 10728) P := j_Lst lr_33 rfl kk
set_option maxRecDepth 100000 in
theorem x_tb119 (h : xH) (L : Nat) (xs : Nat → Int32) (i : Int32) {P : Option Value × xH × Nat × Nat → Prop} (kk : x_R x_mt (some (L, xs)) 10 M_law (2368, [(3, .int i), (2, .ref 75), (1, .ref 0), (0, .ref x_scr)], [], h, 98, 10728) P) : x_R x_mt (some (L, xs)) 10 M_law (33, [(3, .int i), (2, .ref 75), (1, .ref 0), (0, .ref x_scr)], [.int (nI 119)], h, 98, 10728) P := j_Lst lr_33 rfl kk
set_option maxRecDepth 100000 in
theorem x_tb120 (h : xH) (L : Nat) (xs : Nat → Int32) (i : Int32) {P : Option Value × xH × Nat × Nat → Prop} (kk : x_R x_mt (some (L, xs)) 10 M_law (2368, [(3, .int i), (2, .ref 75), (1, .ref 0), (0, .ref x_scr)], [], h, 98, 10728) P) : x_R x_mt (some (L, xs)) 10 M_law (33, [(3, .int i), (2, .ref 75), (1, .ref 0), (0, .ref x_scr)], [.int (nI 120)], h, 98, 10728) P := j_Lst lr_33 rfl kk
set_option maxRecDepth 100000 in
theorem x_tb121 (h : xH) (L : Nat) (xs : Nat → Int32) (i : Int32) {P : Option Value × xH × Nat × Nat → Prop} (kk : x_R x_mt (some (L, xs)) 10 M_law (2368, [(3, .int i), (2, .ref 75), (1, .ref 0), (0, .ref x_scr)], [], h, 98, 10728) P) : x_R x_mt (some (L, xs)) 10 M_law (33, [(3, .int i), (2, .ref 75), (1, .ref 0), (0, .ref x_scr)], [.int (nI 121)], h, 98, 10728) P := j_Lst lr_33 rfl kk
set_option maxRecDepth 100000 in
theorem x_tb122 (h : xH) (L : Nat) (xs : Nat → Int32) (i : Int32) {P : Option Value × xH × Nat × Nat → Prop} (kk : x_R x_mt (some (L, xs)) 10 M_law (2368, [(3, .int i), (2, .ref 75), (1, .ref 0), (0, .ref x_scr)], [], h, 98, 10728) P) : x_R x_mt (some (L, xs)) 10 M_law (33, [(3, .int i), (2, .ref 75), (1, .ref 0), (0, .ref x_scr)], [.int (nI 122)], h, 98, 10728) P := j_Lst lr_33 rfl kk
set_option maxRecDepth 100000 in
theorem x_tb123 (h : xH) (L : Nat) (xs : Nat → Int32) (i : Int32) {P : Option Value × xH × Nat × Nat → Prop} (kk : x_R x_mt (some (L, xs)) 10 M_law (2368, [(3, .int i), (2, .ref 75), (1, .ref 0), (0, .ref x_scr)], [], h, 98, 10728) P) : x_R x_mt (some (L, xs)) 10 M_law (33, [(3, .int i), (2, .ref 75), (1, .ref 0), (0, .ref x_scr)], [.int (nI 123)], h, 98, 10728) P := j_Lst lr_33 rfl kk
set_option maxRecDepth 100000 in
theorem x_tb124 (h : xH) (L : Nat) (xs : Nat → Int32) (i : Int32) {P : Option Value × xH × Nat × Nat → Prop} (kk : x_R x_mt (some (L, xs)) 10 M_law (2368, [(3, .int i), (2, .ref 75), (1, .ref 0), (0, .ref x_scr)], [], h, 98, 10728) P) : x_R x_mt (some (L, xs)) 10 M_law (33, [(3, .int i), (2, .ref 75), (1, .ref 0), (0, .ref x_scr)], [.int (nI 124)], h, 98, 10728) P := j_Lst lr_33 rfl kk
set_option maxRecDepth 100000 in
theorem x_tb125 (h : xH) (L : Nat) (xs : Nat → Int32) (i : Int32) {P : Option Value × xH × Nat × Nat → Prop} (kk : x_R x_mt (some (L, xs)) 10 M_law (2368, [(3, .int i), (2, .ref 75), (1, .ref 0), (0, .ref x_scr)], [], h, 98, 10728) P) : x_R x_mt (some (L, xs)) 10 M_law (33, [(3, .int i), (2, .ref 75), (1, .ref 0), (0, .ref x_scr)], [.int (nI 125)], h, 98, 10728) P := j_Lst lr_33 rfl kk
set_option maxRecDepth 100000 in
theorem x_tb126 (h : xH) (L : Nat) (xs : Nat → Int32) (i : Int32) {P : Option Value × xH × Nat × Nat → Prop} (kk : x_R x_mt (some (L, xs)) 10 M_law (2368, [(3, .int i), (2, .ref 75), (1, .ref 0), (0, .ref x_scr)], [], h, 98, 10728) P) : x_R x_mt (some (L, xs)) 10 M_law (33, [(3, .int i), (2, .ref 75), (1, .ref 0), (0, .ref x_scr)], [.int (nI 126)], h, 98, 10728) P := j_Lst lr_33 rfl kk
set_option maxRecDepth 100000 in
theorem x_tb127 (h : xH) (L : Nat) (xs : Nat → Int32) (i : Int32) {P : Option Value × xH × Nat × Nat → Prop} (kk : x_R x_mt (some (L, xs)) 10 M_law (2368, [(3, .int i), (2, .ref 75), (1, .ref 0), (0, .ref x_scr)], [], h, 98, 10728) P) : x_R x_mt (some (L, xs)) 10 M_law (33, [(3, .int i), (2, .ref 75), (1, .ref 0), (0, .ref x_scr)], [.int (nI 127)], h, 98, 10728) P := j_Lst lr_33 rfl kk
/-! ===== an answer is there, and is such ===== -/
def j_Ok {α : Type} (o : Option α) (Q : α → Prop) : Prop := ∃ x, o = some x ∧ Q x
theorem j_Ok.some {α : Type} {x : α} {Q : α → Prop} (h : Q x) : j_Ok (Option.some x) Q := ⟨x, rfl, h⟩
theorem j_Ok.mono {α : Type} {o : Option α} {Q R : α → Prop} (h : j_Ok o Q) (k : ∀ x, Q x → R x) : j_Ok o R := by
  obtain ⟨x, e, q⟩ := h
  exact ⟨x, e, k x q⟩
theorem j_Ok.ite {α : Type} {p : Prop} [Decidable p] {a b : Option α} {Q : α → Prop} (h1 : p → j_Ok a Q) (h2 : ¬ p → j_Ok b Q) : j_Ok (if p then a else b) Q := by
  by_cases h : p
  · rw [if_pos h]; exact h1 h
  · rw [if_neg h]; exact h2 h
theorem j_Ok.b0 {α β : Type} {o : Option α} {k : Option β} {R : α → Prop} {Q : β → Prop} (h : j_Ok o R) (hk : j_Ok k Q) : j_Ok (j_b0 o k) Q := by
  obtain ⟨x, e, q⟩ := h
  rw [e]; exact hk
theorem j_Ok.b1 {α β : Type} {o : Option α} {k : α → Option β} {R : α → Prop} {Q : β → Prop} (h : j_Ok o R) (hk : ∀ x, R x → j_Ok (k x) Q) : j_Ok (j_b1 o k) Q := by
  obtain ⟨x, e, q⟩ := h
  rw [e]; exact hk x q
theorem j_Ok.b2 {α β γ : Type} {o : Option (α × β)} {k : α → β → Option γ} {R : α × β → Prop} {Q : γ → Prop} (h : j_Ok o R) (hk : ∀ x y, R (x, y) → j_Ok (k x y) Q) : j_Ok (j_b2 o k) Q := by
  obtain ⟨x, e, q⟩ := h
  rw [e]; exact hk x.1 x.2 q
theorem j_Ok.b3 {α β γ δ : Type} {o : Option (α × β × γ)} {k : α → β → γ → Option δ} {R : α × β × γ → Prop} {Q : δ → Prop} (h : j_Ok o R) (hk : ∀ x y z, R (x, y, z) → j_Ok (k x y z) Q) : j_Ok (j_b3 o k) Q := by
  obtain ⟨x, e, q⟩ := h
  rw [e]; exact hk x.1 x.2.1 x.2.2 q
theorem j_Ok.lt {α β : Type} {x : α} {k : α → Option β} {Q : β → Prop} (h : j_Ok (k x) Q) : j_Ok (j_lt x k) Q := h
theorem j_nn {i : Int32} (h : 0 ≤ i.toInt) : ¬ i < 0 := by
  rw [Int32.lt_iff_toInt_lt, show (0 : Int32).toInt = 0 from by decide]; omega
theorem j_nat {i : Int32} : i.toNatClampNeg = i.toInt.toNat := rfl
theorem j_Ok.ix {α : Type} {i : Int32} {n : Nat} {o : Option α} {Q : α → Prop} (h1 : 0 ≤ i.toInt) (h2 : i.toInt < n) (h : j_Ok o Q) : j_Ok (j_ix i n o) Q := by
  rw [j_ixp (fun z => z.elim (j_nn h1) (fun z => by rw [j_nat] at z; omega))]; exact h
theorem j_lo (x : Int32) : -2147483648 ≤ x.toInt := Int32.le_toInt x
theorem j_hi (x : Int32) : x.toInt < 2147483648 := Int32.toInt_lt x
theorem j_bm {z : Int} (h1 : -2147483648 ≤ z) (h2 : z < 2147483648) : z.bmod (2 ^ 32) = z := Int.bmod_eq_of_le (by omega) (by omega)
theorem j_adI {x y : Int32} (h1 : -2147483648 ≤ x.toInt + y.toInt) (h2 : x.toInt + y.toInt < 2147483648) : (x + y).toInt = x.toInt + y.toInt := by
  rw [Int32.toInt_add, j_bm h1 h2]
theorem j_sbI {x y : Int32} (h1 : -2147483648 ≤ x.toInt - y.toInt) (h2 : x.toInt - y.toInt < 2147483648) : (x - y).toInt = x.toInt - y.toInt := by
  rw [Int32.toInt_sub, j_bm h1 h2]
theorem j_mlI {x y : Int32} (h1 : -2147483648 ≤ x.toInt * y.toInt) (h2 : x.toInt * y.toInt < 2147483648) : (x * y).toInt = x.toInt * y.toInt := by
  rw [Int32.toInt_mul, j_bm h1 h2]
theorem j_ltI {x y : Int32} : x < y ↔ x.toInt < y.toInt := Int32.lt_iff_toInt_lt
theorem j_leI {x y : Int32} : x ≤ y ↔ x.toInt ≤ y.toInt := Int32.le_iff_toInt_le
theorem j_eqI {x y : Int32} : x = y ↔ x.toInt = y.toInt := Int32.toInt_inj.symm
/-! ===== numbers: nI k is k, nP k is k - 1 ===== -/
noncomputable def nP (k : Nat) : Int32 := nI k - 1
theorem y_lit (n : Nat) : (OfNat.ofNat n : Int32) = nI (OfNat.ofNat n) := Eq.trans rfl (Eq.refl _)
theorem y_n1 : -(nI 1) = nP 0 := by decide
theorem y_m1 : (-1 : Int32) = nP 0 := by decide
theorem y_nP (k : Nat) : nI k - nI 1 = nP k := Eq.trans rfl (Eq.refl _)
theorem y_nPs (k : Nat) : nP (k + 1) = nI k := nI_pred k
theorem y_nPt {k : Nat} (h : k < 2 ^ 31) : (nP k).toInt = (k : Int) - 1 := by
  unfold nP
  rw [j_sbI (by rw [nI_toInt h, show (1 : Int32).toInt = 1 from by decide]; omega) (by rw [nI_toInt h, show (1 : Int32).toInt = 1 from by decide]; omega), nI_toInt h]
  rfl
theorem y_lt {a b : Nat} (ha : a < 2 ^ 31) (hb : b < 2 ^ 31) : nI a < nI b ↔ a < b := nI_ltI ha hb
theorem y_le {a b : Nat} (ha : a < 2 ^ 31) (hb : b < 2 ^ 31) : nI a ≤ nI b ↔ a ≤ b := nI_leI ha hb
theorem y_eq {a b : Nat} (ha : a < 2 ^ 31) (hb : b < 2 ^ 31) : nI a = nI b ↔ a = b := nI_eq ha hb
theorem y_ltP {a b : Nat} (ha : a < 2 ^ 31) (hb : b < 2 ^ 31) : nP a < nI b ↔ a < b + 1 := by
  rw [j_ltI, y_nPt ha, nI_toInt hb]; omega
theorem y_ltQ {a b : Nat} (ha : a < 2 ^ 31) (hb : b < 2 ^ 31) : nI a < nP b ↔ a + 1 < b := by
  rw [j_ltI, y_nPt hb, nI_toInt ha]; omega
theorem y_ltPP {a b : Nat} (ha : a < 2 ^ 31) (hb : b < 2 ^ 31) : nP a < nP b ↔ a < b := by
  rw [j_ltI, y_nPt ha, y_nPt hb]; omega
theorem y_eqP {a b : Nat} (ha : a < 2 ^ 31) (hb : b < 2 ^ 31) : nP a = nI b ↔ a = b + 1 := by
  rw [j_eqI, y_nPt ha, nI_toInt hb]; omega
theorem y_eqQ {a b : Nat} (ha : a < 2 ^ 31) (hb : b < 2 ^ 31) : nI a = nP b ↔ a + 1 = b := by
  rw [j_eqI, y_nPt hb, nI_toInt ha]; omega
theorem y_eqPP {a b : Nat} (ha : a < 2 ^ 31) (hb : b < 2 ^ 31) : nP a = nP b ↔ a = b := by
  rw [j_eqI, y_nPt ha, y_nPt hb]; omega
/-- of any int -/
theorem y_ltr {x : Int32} {n : Nat} (h : n < 2 ^ 31) : x < nI n ↔ x.toInt < n := by rw [j_ltI, nI_toInt h]
theorem y_ltl {x : Int32} {n : Nat} (h : n < 2 ^ 31) : nI n < x ↔ (n : Int) < x.toInt := by rw [j_ltI, nI_toInt h]
theorem y_ltlP {x : Int32} {n : Nat} (h : n < 2 ^ 31) : nP n < x ↔ (n : Int) - 1 < x.toInt := by rw [j_ltI, y_nPt h]
theorem y_ltrP {x : Int32} {n : Nat} (h : n < 2 ^ 31) : x < nP n ↔ x.toInt < (n : Int) - 1 := by rw [j_ltI, y_nPt h]
theorem y_eqr {x : Int32} {n : Nat} (h : n < 2 ^ 31) : x = nI n ↔ x.toInt = n := by rw [j_eqI, nI_toInt h]
theorem y_of (x : Int32) (n : Nat) (h : 0 ≤ x.toInt) (h2 : x.toInt < n) : ∃ k : Nat, k < n ∧ x = nI k := by
  refine ⟨x.toInt.toNat, by omega, ?_⟩
  have := Int32.toInt_lt x
  rw [j_eqI, nI_toInt (by omega)]; omega
/-- a bit, or a choice -/
theorem y_i0 {p : Prop} [Decidable p] : ((if p then nI 1 else nI 0) = nI 0) ↔ ¬ p := by
  by_cases h : p
  · rw [if_pos h]; exact ⟨fun z => absurd z (by decide), fun z => absurd h z⟩
  · rw [if_neg h]; exact ⟨fun _ => h, fun _ => rfl⟩
theorem y_i1 {p : Prop} [Decidable p] : ((if p then nI 1 else nI 0) = nI 1) ↔ p := by
  by_cases h : p
  · rw [if_pos h]; exact ⟨fun _ => h, fun _ => rfl⟩
  · rw [if_neg h]; exact ⟨fun z => absurd z (by decide), fun z => absurd z h⟩
theorem y_bo {β : Type} {p : Prop} [Decidable p] {o : Option β} : j_bo (if p then nI 1 else nI 0) o = o := by
  unfold j_bo
  by_cases h : p
  · rw [if_pos h]; exact if_pos (Or.inr rfl)
  · rw [if_neg h]; exact if_pos (Or.inl rfl)
theorem y_bo1 {β : Type} {o : Option β} : j_bo (nI 1) o = o := if_pos (Or.inr rfl)
theorem y_bo0 {β : Type} {o : Option β} : j_bo (nI 0) o = o := if_pos (Or.inl rfl)
theorem y_ix {α : Type} {k n : Nat} {o : Option α} (h : k < n) (hn : n < 2 ^ 31) : j_ix (nI k) n o = o := j_ixn h hn
theorem y_l (x : Int32) : x.toInt64.toInt = x.toInt := j_l64 x
theorem y_lit64 {n : Nat} (h : (OfNat.ofNat n : Nat) < 2 ^ 31) : (OfNat.ofNat n : Int64) = (nI (OfNat.ofNat n)).toInt64 := by
  rw [nI_l h]; rfl
theorem y_in {x y z : Int32} : f_X12_in x.toInt64 y.toInt64 z.toInt64 = if ¬ x < y ∧ ¬ z < x then nI 1 else nI 0 := by
  unfold f_X12_in
  simp only [j_ltI, Int64.lt_iff_toInt_lt, j_l64]
  rfl
theorem y_pos {m n : Nat} (h : m < n) : ∃ k, n = k + 1 := ⟨n - 1, by omega⟩
theorem y_F {m : Nat} (h : m < 5000) : m < j_F := h
/-- cells that stay -/
def y_fr (lo hi : Nat) (σ σ' : j_G) : Prop := ∀ c, c < lo ∨ hi < c → σ'.1 c = σ.1 c ∧ σ'.2 c = σ.2 c
theorem y_fr.refl {lo hi : Nat} {σ : j_G} : y_fr lo hi σ σ := fun _ _ => ⟨rfl, rfl⟩
theorem y_fr.trans {lo hi : Nat} {σ σ' σ'' : j_G} (h1 : y_fr lo hi σ σ') (h2 : y_fr lo hi σ' σ'') : y_fr lo hi σ σ'' := fun c hc =>
  ⟨(h2 c hc).1.trans (h1 c hc).1, (h2 c hc).2.trans (h1 c hc).2⟩
theorem y_fr.wide {lo hi lo' hi' : Nat} {σ σ' : j_G} (h : y_fr lo hi σ σ') (h1 : lo' ≤ lo) (h2 : hi ≤ hi') : y_fr lo' hi' σ σ' := fun c hc => h c (by omega)
theorem y_fr.i {lo hi : Nat} {σ σ' : j_G} (h : y_fr lo hi σ σ') (c j : Nat) (hc : c < lo ∨ hi < c) : σ'.1 c j = σ.1 c j := by rw [(h c hc).1]
theorem y_fr.l {lo hi : Nat} {σ σ' : j_G} (h : y_fr lo hi σ σ') (c j : Nat) (hc : c < lo ∨ hi < c) : σ'.2 c j = σ.2 c j := by rw [(h c hc).2]
theorem y_fr.si {lo hi c j : Nat} {v : Int32} {σ σ' : j_G} (h : y_fr lo hi σ σ') (hc : lo ≤ c) (hd : c ≤ hi) : y_fr lo hi σ (j_si σ' c j v) := fun c' hc' =>
  ⟨(funext fun j' => j_r_ne (by omega)).trans (h c' hc').1, (h c' hc').2⟩
theorem y_fr.sl {lo hi c j : Nat} {v : Int64} {σ σ' : j_G} (h : y_fr lo hi σ σ') (hc : lo ≤ c) (hd : c ≤ hi) : y_fr lo hi σ (j_sl σ' c j v) := fun c' hc' =>
  ⟨(h c' hc').1, (funext fun j' => j_l_ne (by omega)).trans (h c' hc').2⟩
theorem y_fr.ci {lo hi a sp c dp n : Nat} {σ σ' : j_G} (h : y_fr lo hi σ σ') (hc : lo ≤ c) (hd : c ≤ hi) : y_fr lo hi σ (j_ci σ' a sp c dp n) := fun c' hc' =>
  ⟨(funext fun j' => j_c_ne (by omega)).trans (h c' hc').1, (h c' hc').2⟩
theorem y_fr.cl {lo hi a sp c dp n : Nat} {σ σ' : j_G} (h : y_fr lo hi σ σ') (hc : lo ≤ c) (hd : c ≤ hi) : y_fr lo hi σ (j_cl σ' a sp c dp n) := fun c' hc' =>
  ⟨(h c' hc').1, (funext fun j' => j_cl_ne (by omega)).trans (h c' hc').2⟩
/-- of the reference: fields f .. g of its object, cells lo .. hi -/
def y_fm (f g lo hi : Nat) (σ σ' : j_G) : Prop := (∀ j, j < f ∨ g < j → σ'.1 75 j = σ.1 75 j) ∧ ∀ c, c ≠ 75 → c < lo ∨ hi < c → σ'.1 c = σ.1 c ∧ σ'.2 c = σ.2 c
theorem y_fm.refl {f g lo hi : Nat} {σ : j_G} : y_fm f g lo hi σ σ := ⟨fun _ _ => rfl, fun _ _ _ => ⟨rfl, rfl⟩⟩
theorem y_fm.trans {f g lo hi : Nat} {σ σ' σ'' : j_G} (h1 : y_fm f g lo hi σ σ') (h2 : y_fm f g lo hi σ' σ'') : y_fm f g lo hi σ σ'' :=
  ⟨fun j hj => (h2.1 j hj).trans (h1.1 j hj), fun c hn hc => ⟨(h2.2 c hn hc).1.trans (h1.2 c hn hc).1, (h2.2 c hn hc).2.trans (h1.2 c hn hc).2⟩⟩
theorem y_fm.wide {f g lo hi f' g' lo' hi' : Nat} {σ σ' : j_G} (h : y_fm f g lo hi σ σ') (h1 : f' ≤ f) (h2 : g ≤ g') (h3 : lo' ≤ lo) (h4 : hi ≤ hi') : y_fm f' g' lo' hi' σ σ' :=
  ⟨fun j hj => h.1 j (by omega), fun c hn hc => h.2 c hn (by omega)⟩
theorem y_fm.o {f g lo hi : Nat} {σ σ' : j_G} (h : y_fm f g lo hi σ σ') (j : Nat) (hc : j < f ∨ g < j) : σ'.1 75 j = σ.1 75 j := h.1 j hc
theorem y_fm.i {f g lo hi : Nat} {σ σ' : j_G} (h : y_fm f g lo hi σ σ') (c j : Nat) (hn : c ≠ 75) (hc : c < lo ∨ hi < c) : σ'.1 c j = σ.1 c j := by rw [(h.2 c hn hc).1]
theorem y_fm.l {f g lo hi : Nat} {σ σ' : j_G} (h : y_fm f g lo hi σ σ') (c j : Nat) (hn : c ≠ 75) (hc : c < lo ∨ hi < c) : σ'.2 c j = σ.2 c j := by rw [(h.2 c hn hc).2]
theorem y_fm.so {f g lo hi j : Nat} {v : Int32} {σ σ' : j_G} (h : y_fm f g lo hi σ σ') (hc : f ≤ j) (hd : j ≤ g) : y_fm f g lo hi σ (j_si σ' 75 j v) :=
  ⟨fun j' hj => (j_r_nj (by omega)).trans (h.1 j' hj), fun c' hn hc' => ⟨(funext fun j' => j_r_ne (by omega)).trans (h.2 c' hn hc').1, (h.2 c' hn hc').2⟩⟩
theorem y_fm.si {f g lo hi c j : Nat} {v : Int32} {σ σ' : j_G} (h : y_fm f g lo hi σ σ') (hn : c ≠ 75) (hc : lo ≤ c) (hd : c ≤ hi) : y_fm f g lo hi σ (j_si σ' c j v) :=
  ⟨fun j' hj => (j_r_ne (by omega)).trans (h.1 j' hj), fun c' hn hc' => ⟨(funext fun j' => j_r_ne (by omega)).trans (h.2 c' hn hc').1, (h.2 c' hn hc').2⟩⟩
theorem y_fm.sl {f g lo hi c j : Nat} {v : Int64} {σ σ' : j_G} (h : y_fm f g lo hi σ σ') (hn : c ≠ 75) (hc : lo ≤ c) (hd : c ≤ hi) : y_fm f g lo hi σ (j_sl σ' c j v) :=
  ⟨h.1, fun c' hn hc' => ⟨(h.2 c' hn hc').1, (funext fun j' => j_l_ne (by omega)).trans (h.2 c' hn hc').2⟩⟩
theorem y_fm.slo {f g lo hi j : Nat} {v : Int64} {σ σ' : j_G} (h : y_fm f g lo hi σ σ') : y_fm f g lo hi σ (j_sl σ' 75 j v) :=
  ⟨h.1, fun c' hn hc' => ⟨(h.2 c' hn hc').1, (funext fun j' => j_l_ne (by omega)).trans (h.2 c' hn hc').2⟩⟩
/-! ===== a board, told as numbers: b 0 wide, 1 high, 2 ticks, 3 pause, 4 stays, 5 comings, 6 players, 7 shut, 8 stands, 9 lines, 10 tickets, 11 each; 12 + 2k a stay's tick, 13 + 2k its length; 24 + 3k a coming's hole, 25 + 3k its other one and 1 (0: none), 26 + 3k red; 96 + 5p + q a player ===== -/
abbrev y_rg (x : Int32) (n : Nat) : Prop := 0 ≤ x.toInt ∧ x.toInt < n
def y_cb (σ : j_G) (c c1 c2 c3 c4 c5 c6 c7 : Nat) (b : Nat → Nat) : Prop :=
  (σ.1 c 1 = nI (b 9) ∧ σ.1 c 2 = nI (b 0) ∧ σ.1 c 3 = nI (b 1) ∧ σ.1 c 4 = nI (b 2) ∧ σ.1 c 5 = nI (b 3) ∧ σ.1 c 6 = nI (b 7) ∧ σ.1 c 7 = nI (b 6) ∧ σ.1 c 10 = nI (b 4) ∧ σ.1 c4 0 = nI (b 5) ∧ σ.1 c4 1 = nI (b 8)) ∧
  (0 < b 9 → σ.1 c 8 = nI (b 10) ∧ σ.1 c 9 = nI (b 11)) ∧
  (∀ k, k < b 4 → σ.1 c1 k = nI (b (12 + 2 * k)) ∧ σ.1 c2 k = nI (b (13 + 2 * k))) ∧
  (∀ p q, p < b 6 → q < 5 → σ.1 c3 (5 * p + q) = nI (b (96 + 5 * p + q))) ∧
  (∀ k, k < b 5 → σ.1 c5 k = nI (b (24 + 3 * k)) ∧ σ.1 c6 k = nP (b (25 + 3 * k)) ∧ σ.1 c7 k = nI (b (26 + 3 * k)))
abbrev y_N (σ : j_G) (b : Nat → Nat) : Prop := y_cb σ 1 2 3 4 5 6 7 8 b
def y_mb (w : Nat → Int32) (b : Nat → Nat) : Prop := ∀ j, j < 116 → w j = if 24 ≤ j ∧ j < 96 ∧ j % 3 = 1 then nP (b j) else nI (b j)
abbrev y_M (τ : j_G) (b : Nat → Nat) : Prop := y_mb (τ.1 76) b
noncomputable def y_ho (b : Nat → Nat) : Nat := b 0 * b 1
def y_W (b : Nat → Nat) : Prop :=
  (b 0 ≤ 4 ∧ b 1 ≤ 3 ∧ b 2 ≤ 200 ∧ b 3 ≤ 9 ∧ b 4 ≤ 6 ∧ b 5 ≤ 24 ∧ b 6 ≤ 4 ∧ b 7 < 2 ^ (y_ho b) ∧ b 9 ≤ 1300) ∧
  (b 9 = 0 → b 0 = 0 ∧ b 1 = 0 ∧ b 2 = 0 ∧ b 3 = 0 ∧ b 4 = 0 ∧ b 5 = 0 ∧ b 6 = 0) ∧
  (0 < b 9 → 1 ≤ b 0 ∧ 1 ≤ b 1 ∧ 1 ≤ b 2 ∧ 1 ≤ b 10 ∧ b 10 ≤ 99 ∧ 1 ≤ b 11 ∧ b 11 ≤ 500) ∧
  (0 < b 5 → b 8 < b 5) ∧ (b 5 = 0 → b 8 = 0) ∧
  (∀ k, k < b 4 → b (12 + 2 * k) < b 2 ∧ 1 ≤ b (13 + 2 * k) ∧ b (13 + 2 * k) ≤ 40) ∧
  (∀ k l, k < l → l < b 4 → b (12 + 2 * k) ≠ b (12 + 2 * l)) ∧
  (∀ k, k < b 5 → b (24 + 3 * k) < y_ho b ∧ b (25 + 3 * k) ≤ y_ho b ∧ b (25 + 3 * k) ≠ b (24 + 3 * k) + 1 ∧ b (26 + 3 * k) ≤ 1 ∧ (0 < b (25 + 3 * k) → b (26 + 3 * k) = 0) ∧ b 7 / 2 ^ b (24 + 3 * k) % 2 = 0 ∧ (0 < b (25 + 3 * k) → b 7 / 2 ^ (b (25 + 3 * k) - 1) % 2 = 0)) ∧
  (∀ p, p < b 6 → 1 ≤ b (96 + 5 * p) ∧ b (96 + 5 * p) ≤ 9 ∧ b (97 + 5 * p) ≤ 20 ∧ b (98 + 5 * p) ≤ 99 ∧ b (99 + 5 * p) ≤ 9 ∧ b (100 + 5 * p) < y_ho b)
theorem y_W.b0 {b : Nat → Nat} (h : y_W b) : b 0 ≤ 4 := h.1.1
theorem y_W.b1 {b : Nat → Nat} (h : y_W b) : b 1 ≤ 3 := h.1.2.1
theorem y_W.b2 {b : Nat → Nat} (h : y_W b) : b 2 ≤ 200 := h.1.2.2.1
theorem y_W.b3 {b : Nat → Nat} (h : y_W b) : b 3 ≤ 9 := h.1.2.2.2.1
theorem y_W.b4 {b : Nat → Nat} (h : y_W b) : b 4 ≤ 6 := h.1.2.2.2.2.1
theorem y_W.b5 {b : Nat → Nat} (h : y_W b) : b 5 ≤ 24 := h.1.2.2.2.2.2.1
theorem y_W.b6 {b : Nat → Nat} (h : y_W b) : b 6 ≤ 4 := h.1.2.2.2.2.2.2.1
theorem y_W.ho {b : Nat → Nat} (h : y_W b) : y_ho b ≤ 12 := Nat.mul_le_mul h.b0 h.b1
theorem y_W.b7 {b : Nat → Nat} (h : y_W b) : b 7 < 4096 := Nat.lt_of_lt_of_le h.1.2.2.2.2.2.2.2.1 (Nat.pow_le_pow_right (n := 2) (by omega) h.ho)
theorem y_W.b9 {b : Nat → Nat} (h : y_W b) : b 9 ≤ 1300 := h.1.2.2.2.2.2.2.2.2
theorem y_W.b8 {b : Nat → Nat} (h : y_W b) : b 8 < 24 := by
  have := h.2.2.2.1; have := h.2.2.2.2.1; have := h.b5; omega
theorem y_W.off {b : Nat → Nat} (h : y_W b) (h9 : b 9 = 0) : b 0 = 0 ∧ b 1 = 0 ∧ b 2 = 0 ∧ b 3 = 0 ∧ b 4 = 0 ∧ b 5 = 0 ∧ b 6 = 0 := h.2.1 h9
theorem y_W.on {b : Nat → Nat} (h : y_W b) (h9 : 0 < b 9) : 1 ≤ b 0 ∧ 1 ≤ b 1 ∧ 1 ≤ b 2 ∧ 1 ≤ b 10 ∧ b 10 ≤ 99 ∧ 1 ≤ b 11 ∧ b 11 ≤ 500 := h.2.2.1 h9
theorem y_W.st {b : Nat → Nat} (h : y_W b) {k : Nat} (hk : k < b 4) : b (12 + 2 * k) < b 2 ∧ 1 ≤ b (13 + 2 * k) ∧ b (13 + 2 * k) ≤ 40 := h.2.2.2.2.2.1 k hk
theorem y_W.sd {b : Nat → Nat} (h : y_W b) {k l : Nat} (hk : k < l) (hl : l < b 4) : b (12 + 2 * k) ≠ b (12 + 2 * l) := h.2.2.2.2.2.2.1 k l hk hl
theorem y_W.co {b : Nat → Nat} (h : y_W b) {k : Nat} (hk : k < b 5) : b (24 + 3 * k) < y_ho b ∧ b (25 + 3 * k) ≤ y_ho b ∧ b (25 + 3 * k) ≠ b (24 + 3 * k) + 1 ∧ b (26 + 3 * k) ≤ 1 ∧ (0 < b (25 + 3 * k) → b (26 + 3 * k) = 0) ∧ b 7 / 2 ^ b (24 + 3 * k) % 2 = 0 ∧ (0 < b (25 + 3 * k) → b 7 / 2 ^ (b (25 + 3 * k) - 1) % 2 = 0) := h.2.2.2.2.2.2.2.1 k hk
theorem y_W.pl {b : Nat → Nat} (h : y_W b) {p : Nat} (hp : p < b 6) : 1 ≤ b (96 + 5 * p) ∧ b (96 + 5 * p) ≤ 9 ∧ b (97 + 5 * p) ≤ 20 ∧ b (98 + 5 * p) ≤ 99 ∧ b (99 + 5 * p) ≤ 9 ∧ b (100 + 5 * p) < y_ho b := h.2.2.2.2.2.2.2.2 p hp
/-- told: a board is there -/
theorem y_W.on0 {b : Nat → Nat} (h : y_W b) (h0 : 0 < b 0 ∨ 0 < b 2 ∨ 0 < b 5 ∨ 0 < b 6 ∨ 0 < y_ho b) : 0 < b 9 := by
  rcases Nat.eq_zero_or_pos (b 9) with z | z
  · have q := h.off z
    have : y_ho b = 0 := by unfold y_ho; rw [q.1, Nat.zero_mul]
    omega
  · exact z
theorem y_W.on1 {b : Nat → Nat} (h : y_W b) (h0 : 0 < b 9) : 0 < y_ho b := by
  have q := h.on h0
  exact Nat.mul_pos (by omega) (by omega)
section CB
variable {σ : j_G} {c c1 c2 c3 c4 c5 c6 c7 : Nat} {b : Nat → Nat}
theorem y_cb.f1 (h : y_cb σ c c1 c2 c3 c4 c5 c6 c7 b) : σ.1 c 1 = nI (b 9) := h.1.1
theorem y_cb.f2 (h : y_cb σ c c1 c2 c3 c4 c5 c6 c7 b) : σ.1 c 2 = nI (b 0) := h.1.2.1
theorem y_cb.f3 (h : y_cb σ c c1 c2 c3 c4 c5 c6 c7 b) : σ.1 c 3 = nI (b 1) := h.1.2.2.1
theorem y_cb.f4 (h : y_cb σ c c1 c2 c3 c4 c5 c6 c7 b) : σ.1 c 4 = nI (b 2) := h.1.2.2.2.1
theorem y_cb.f5 (h : y_cb σ c c1 c2 c3 c4 c5 c6 c7 b) : σ.1 c 5 = nI (b 3) := h.1.2.2.2.2.1
theorem y_cb.f6 (h : y_cb σ c c1 c2 c3 c4 c5 c6 c7 b) : σ.1 c 6 = nI (b 7) := h.1.2.2.2.2.2.1
theorem y_cb.f7 (h : y_cb σ c c1 c2 c3 c4 c5 c6 c7 b) : σ.1 c 7 = nI (b 6) := h.1.2.2.2.2.2.2.1
theorem y_cb.f10 (h : y_cb σ c c1 c2 c3 c4 c5 c6 c7 b) : σ.1 c 10 = nI (b 4) := h.1.2.2.2.2.2.2.2.1
theorem y_cb.d0 (h : y_cb σ c c1 c2 c3 c4 c5 c6 c7 b) : σ.1 c4 0 = nI (b 5) := h.1.2.2.2.2.2.2.2.2.1
theorem y_cb.d1 (h : y_cb σ c c1 c2 c3 c4 c5 c6 c7 b) : σ.1 c4 1 = nI (b 8) := h.1.2.2.2.2.2.2.2.2.2
theorem y_cb.f8 (h : y_cb σ c c1 c2 c3 c4 c5 c6 c7 b) (h9 : 0 < b 9) : σ.1 c 8 = nI (b 10) := (h.2.1 h9).1
theorem y_cb.f9 (h : y_cb σ c c1 c2 c3 c4 c5 c6 c7 b) (h9 : 0 < b 9) : σ.1 c 9 = nI (b 11) := (h.2.1 h9).2
theorem y_cb.s1 (h : y_cb σ c c1 c2 c3 c4 c5 c6 c7 b) {k : Nat} (hk : k < b 4) : σ.1 c1 k = nI (b (12 + 2 * k)) := (h.2.2.1 k hk).1
theorem y_cb.s2 (h : y_cb σ c c1 c2 c3 c4 c5 c6 c7 b) {k : Nat} (hk : k < b 4) : σ.1 c2 k = nI (b (13 + 2 * k)) := (h.2.2.1 k hk).2
theorem y_cb.t (h : y_cb σ c c1 c2 c3 c4 c5 c6 c7 b) {p q : Nat} (hp : p < b 6) (hq : q < 5) : σ.1 c3 (5 * p + q) = nI (b (96 + 5 * p + q)) := h.2.2.2.1 p q hp hq
theorem y_cb.k0 (h : y_cb σ c c1 c2 c3 c4 c5 c6 c7 b) {k : Nat} (hk : k < b 5) : σ.1 c5 k = nI (b (24 + 3 * k)) := (h.2.2.2.2 k hk).1
theorem y_cb.k1 (h : y_cb σ c c1 c2 c3 c4 c5 c6 c7 b) {k : Nat} (hk : k < b 5) : σ.1 c6 k = nP (b (25 + 3 * k)) := (h.2.2.2.2 k hk).2.1
theorem y_cb.k2 (h : y_cb σ c c1 c2 c3 c4 c5 c6 c7 b) {k : Nat} (hk : k < b 5) : σ.1 c7 k = nI (b (26 + 3 * k)) := (h.2.2.2.2 k hk).2.2
end CB
theorem y_N.fr {σ σ' : j_G} {b : Nat → Nat} {lo hi : Nat} (h : y_N σ b) (hf : y_fr lo hi σ σ') (hl : 9 ≤ lo) : y_N σ' b := by
  have e : ∀ c, c < 9 → σ'.1 c = σ.1 c := fun c hc => (hf c (by omega)).1
  unfold y_N y_cb at *
  rw [e 1 (by omega), e 2 (by omega), e 3 (by omega), e 4 (by omega), e 5 (by omega), e 6 (by omega), e 7 (by omega), e 8 (by omega)]
  exact h
theorem y_M.fr {τ τ' : j_G} {b : Nat → Nat} {f g lo hi : Nat} (h : y_M τ b) (hf : y_fm f g lo hi τ τ') (hl : 77 ≤ lo) : y_M τ' b := by
  unfold y_M
  rw [(hf.2 76 (by omega) (by omega)).1]
  exact h
section MB
variable {w : Nat → Int32} {b : Nat → Nat}
theorem y_mb.f (h : y_mb w b) {j : Nat} (hj : j < 24) : w j = nI (b j) := by rw [h j (by omega), if_neg (by omega)]
theorem y_mb.k0 (h : y_mb w b) {k : Nat} (hk : k < 24) : w (24 + 3 * k) = nI (b (24 + 3 * k)) := by rw [h _ (by omega), if_neg (by omega)]
theorem y_mb.k1 (h : y_mb w b) {k : Nat} (hk : k < 24) : w (25 + 3 * k) = nP (b (25 + 3 * k)) := by rw [h _ (by omega), if_pos (by omega)]
theorem y_mb.k2 (h : y_mb w b) {k : Nat} (hk : k < 24) : w (26 + 3 * k) = nI (b (26 + 3 * k)) := by rw [h _ (by omega), if_neg (by omega)]
theorem y_mb.p (h : y_mb w b) {p q : Nat} (hp : p < 4) (hq : q < 5) : w (96 + 5 * p + q) = nI (b (96 + 5 * p + q)) := by rw [h _ (by omega), if_neg (by omega)]
end MB
/-! ===== small questions to the board, both sides ===== -/
theorem y_c1 {x : Int32} {n : Nat} (hn : n < 2 ^ 31) : (¬ x < nI 0 ∧ x < nI n) ↔ y_rg x n := by
  rw [j_ltI, j_ltI, nI_toInt hn, nI_toInt (by omega)]; unfold y_rg; omega
theorem y_c2 {x : Int32} {n : Nat} (hn : n < 2 ^ 31) : (¬ x < nI 0 ∧ ¬ nP n < x) ↔ y_rg x n := by
  rw [j_ltI, j_ltI, y_nPt hn, nI_toInt (by omega)]; unfold y_rg; omega
theorem y_rn {k n : Nat} (hk : k < 2 ^ 31) : y_rg (nI k) n ↔ k < n := by unfold y_rg; rw [nI_toInt hk]; omega
theorem y_r0 {x : Int32} : y_rg x 0 ↔ False := ⟨fun z => by have a := z.1; have c := z.2; omega, fun z => z.elim⟩
theorem y_rP {k n : Nat} (hk : k < 2 ^ 31) : y_rg (nP k) n ↔ 0 < k ∧ k < n + 1 := by unfold y_rg; rw [y_nPt hk]; omega
theorem y_sm : ∀ h, h < 32 → ((nI h).toBitVec.smod 32).toNat = h := by decide
theorem y_an {h : Nat} (hh : h < 31) : nI h &&& nI 31 = nI h := by
  rw [show nI 31 = (31 : Int32) from rfl, pk_andN (by omega) 5 (by decide), Nat.mod_eq_of_lt (by omega)]
theorem y_shr {s h : Nat} (hs : s < 2 ^ 31) (hh : h < 31) : nI s >>> (nI h &&& nI 31) = nI (s / 2 ^ h) := by
  rw [y_an hh, pk_shrN hs _ h (y_sm h (by omega))]
theorem y_one {s : Nat} (hs : s < 2 ^ 31) : nI s &&& nI 1 = nI (s % 2) := by
  rw [show nI 1 = (1 : Int32) from rfl, pk_andN (by omega) 1 (by decide)]
theorem y_bit {s h : Nat} (hs : s < 2 ^ 31) (hh : h < 31) : (nI s >>> (nI h &&& nI 31)) &&& nI 1 = nI (s / 2 ^ h % 2) := by
  rw [y_shr hs hh, y_one (Nat.lt_of_le_of_lt (Nat.div_le_self _ _) hs)]
theorem y_shl {h : Nat} (hh : h < 31) : nI 1 <<< (nI h &&& nI 31) = nI (2 ^ h) := by
  have : 2 ^ h < 2 ^ 32 := Nat.pow_lt_pow_right (by omega) (by omega)
  rw [y_an hh, pk_shlN _ h (y_sm h (by omega)) (by omega), Nat.one_mul]
noncomputable def y_sh (b : Nat → Nat) (h : Nat) : Nat := b 7 / 2 ^ h % 2
noncomputable def y_df (a c : Nat) : Nat := (a - c) + (c - a)
noncomputable def y_ap (b : Nat → Nat) (a c : Nat) : Nat := y_df (a / b 0) (c / b 0) + y_df (a % b 0) (c % b 0)
theorem y_abs {a c : Nat} (ha : a < 2 ^ 30) (hc : c < 2 ^ 30) : (if nI 0 ≤ nI a - nI c then nI a - nI c else nI 0 - (nI a - nI c)) = nI (y_df a c) := by
  have e := pk_sub_toInt ha hc
  have z : (nI 0).toInt = 0 := by decide
  have hd : y_df a c < 2 ^ 31 := by unfold y_df; omega
  by_cases h : nI 0 ≤ nI a - nI c
  · rw [if_pos h, j_eqI, e, nI_toInt hd]
    rw [j_leI, e, z] at h
    unfold y_df; omega
  · rw [if_neg h, j_eqI, nI_toInt hd]
    rw [j_leI, e, z] at h
    rw [j_sbI (by rw [e, z]; omega) (by rw [e, z]; omega), e, z]
    unfold y_df; omega
section C
variable {σ : j_G} {b : Nat → Nat}
theorem yc_holes (hN : y_N σ b) : f_X2_holes 1 σ = nI (y_ho b) := by
  unfold f_X2_holes y_ho; rw [hN.f2, hN.f3, pk_mul]
theorem yc_isHole (hN : y_N σ b) (hW : y_W b) (x : Int32) : f_X2_isHole 1 x σ = if y_rg x (y_ho b) then nI 1 else nI 0 := by
  have := hW.ho
  unfold f_X2_isHole; rw [yc_holes hN]; simp only [y_lit]; simp (disch := omega) only [y_c1]
theorem yc_isTick (hN : y_N σ b) (hW : y_W b) (x : Int32) : f_X2_isTick 1 x σ = if y_rg x (b 2) then nI 1 else nI 0 := by
  have := hW.b2
  unfold f_X2_isTick; rw [hN.f4]; simp only [y_lit]; simp (disch := omega) only [y_c1]
theorem yc_isPlayer (hN : y_N σ b) (hW : y_W b) (x : Int32) : f_X2_isPlayer x σ = if y_rg x (b 6) then nI 1 else nI 0 := by
  have := hW.b6
  unfold f_X2_isPlayer; rw [hN.f7]; simp only [y_lit]; simp (disch := omega) only [y_c1]
theorem yc_has (hN : y_N σ b) (hW : y_W b) (x : Int32) : f_X3_has x σ = if y_rg x (b 5) then nI 1 else nI 0 := by
  have := hW.b5
  unfold f_X3_has; rw [hN.d0]; simp only [y_lit]; simp (disch := omega) only [y_c1]
theorem yc_isTold (hN : y_N σ b) (hW : y_W b) : f_X2_isTold σ = if 0 < b 9 then nI 1 else nI 0 := by
  have := hW.b9
  unfold f_X2_isTold; rw [hN.f1]; simp (disch := omega) only [y_lit, y_n1, nI_add, pk_mul, j_lt, j_b1_s, j_b2_s, j_b3_s, j_b0_s, y_bo, y_bo1, y_bo0, y_i0, y_i1, Classical.not_not, nI_clamp, y_ix, y_lt, y_le, y_eq, y_nP, y_nPs, y_ltP, y_ltQ, y_ltPP, y_eqP, y_eqQ, y_eqPP, if_pos, if_neg, ite_true, ite_false, not_true_eq_false, not_false_eq_true, and_true, true_and, and_false, false_and, or_true, true_or, or_false, false_or]
theorem yc_isShut (hN : y_N σ b) (hW : y_W b) {h : Nat} (hh : h < 31) : f_X2_isShut 1 (nI h) σ = if y_sh b h = 1 then nI 1 else nI 0 := by
  have := hW.b7
  have h2 : y_sh b h < 2 := Nat.mod_lt _ (by omega)
  unfold f_X2_isShut; rw [hN.f6]; simp only [y_lit]; rw [y_bit (by omega) hh]
  by_cases e : y_sh b h = 1
  · have e' : b 7 / 2 ^ h % 2 = 1 := e
    rw [e', if_pos e, if_pos (by decide)]
  · have e' : b 7 / 2 ^ h % 2 = 0 := by show y_sh b h = 0; omega
    rw [e', if_neg e, if_neg (by decide)]
theorem yc_trait (hN : y_N σ b) (hW : y_W b) {p q : Nat} (hp : p < b 6) (hq : q < 5) : f_X2_trait (nI p) (nI q) σ = some (nI (b (96 + 5 * p + q))) := by
  have := hW.b6
  unfold f_X2_trait; simp (disch := omega) only [y_lit, y_n1, nI_add, pk_mul, j_lt, j_b1_s, j_b2_s, j_b3_s, j_b0_s, y_bo, y_bo1, y_bo0, y_i0, y_i1, Classical.not_not, nI_clamp, y_ix, y_lt, y_le, y_eq, y_nP, y_nPs, y_ltP, y_ltQ, y_ltPP, y_eqP, y_eqQ, y_eqPP, if_pos, if_neg, ite_true, ite_false, not_true_eq_false, not_false_eq_true, and_true, true_and, and_false, false_and, or_true, true_or, or_false, false_or]
  rw [Nat.mul_comm p 5, hN.t hp hq]
theorem yc_apart (hN : y_N σ b) (hW : y_W b) (h9 : 0 < b 9) {a c : Nat} (ha : a < 100) (hc : c < 100) : f_X2_apart (nI a) (nI c) σ = some (nI (y_ap b a c)) := by
  have h0 := hW.on h9
  have h4 := hW.b0
  have r : ∀ x, x < 100 → x / b 0 ≤ x := fun x _ => Nat.div_le_self _ _
  have r2 : ∀ x, x < 100 → x % b 0 ≤ x := fun x _ => Nat.mod_le _ _
  have q1 := r a ha; have q2 := r c hc; have q3 := r2 a ha; have q4 := r2 c hc
  unfold f_X2_apart; rw [hN.f2]; simp only [y_lit]
  rw [pk_rem (by omega) (by omega) (by omega), pk_rem (by omega) (by omega) (by omega), pk_div (by omega) (by omega) (by omega), pk_div (by omega) (by omega) (by omega)]
  rw [y_abs (by omega) (by omega), y_abs (by omega) (by omega)]
  simp (disch := omega) only [y_lit, y_n1, nI_add, pk_mul, j_lt, j_b1_s, j_b2_s, j_b3_s, j_b0_s, y_bo, y_bo1, y_bo0, y_i0, y_i1, Classical.not_not, nI_clamp, y_ix, y_lt, y_le, y_eq, y_nP, y_nPs, y_ltP, y_ltQ, y_ltPP, y_eqP, y_eqQ, y_eqPP, if_pos, if_neg, ite_true, ite_false, not_true_eq_false, not_false_eq_true, and_true, true_and, and_false, false_and, or_true, true_or, or_false, false_or]
  rfl
end C
section M
variable {τ : j_G} {b : Nat → Nat}
theorem ym_holes (hM : y_M τ b) : f_X12_holes τ = some (nI (y_ho b)) := by
  unfold f_X12_holes y_ho; simp (disch := omega) only [y_lit, y_n1, nI_add, pk_mul, j_lt, j_b1_s, j_b2_s, j_b3_s, j_b0_s, y_bo, y_bo1, y_bo0, y_i0, y_i1, Classical.not_not, nI_clamp, y_ix, y_lt, y_le, y_eq, y_nP, y_nPs, y_ltP, y_ltQ, y_ltPP, y_eqP, y_eqQ, y_eqPP, if_pos, if_neg, ite_true, ite_false, not_true_eq_false, not_false_eq_true, and_true, true_and, and_false, false_and, or_true, true_or, or_false, false_or, hM.f]
theorem ym_isHole (hM : y_M τ b) (hW : y_W b) (x : Int32) : f_X12_isHole x.toInt64 τ = some (if y_rg x (y_ho b) then nI 1 else nI 0) := by
  have := hW.ho
  unfold f_X12_isHole; rw [ym_holes hM]; simp (disch := omega) only [y_lit, y_n1, nI_add, pk_mul, j_lt, j_b1_s, j_b2_s, j_b3_s, j_b0_s, y_bo, y_bo1, y_bo0, y_i0, y_i1, Classical.not_not, nI_clamp, y_ix, y_lt, y_le, y_eq, y_nP, y_nPs, y_ltP, y_ltQ, y_ltPP, y_eqP, y_eqQ, y_eqPP, if_pos, if_neg, ite_true, ite_false, not_true_eq_false, not_false_eq_true, and_true, true_and, and_false, false_and, or_true, true_or, or_false, false_or, y_lit64, y_in, y_c2]
theorem ym_isTick (hM : y_M τ b) (hW : y_W b) (x : Int32) : f_X12_isTick x.toInt64 τ = some (if y_rg x (b 2) then nI 1 else nI 0) := by
  have := hW.b2
  unfold f_X12_isTick; simp (disch := omega) only [y_lit, y_n1, nI_add, pk_mul, j_lt, j_b1_s, j_b2_s, j_b3_s, j_b0_s, y_bo, y_bo1, y_bo0, y_i0, y_i1, Classical.not_not, nI_clamp, y_ix, y_lt, y_le, y_eq, y_nP, y_nPs, y_ltP, y_ltQ, y_ltPP, y_eqP, y_eqQ, y_eqPP, if_pos, if_neg, ite_true, ite_false, not_true_eq_false, not_false_eq_true, and_true, true_and, and_false, false_and, or_true, true_or, or_false, false_or, hM.f, y_lit64, y_in, y_c2]
theorem ym_isPlayer (hM : y_M τ b) (hW : y_W b) (x : Int32) : f_X12_isPlayer x τ = some (if y_rg x (b 6) then nI 1 else nI 0) := by
  have := hW.b6
  unfold f_X12_isPlayer; simp (disch := omega) only [y_lit, y_n1, nI_add, pk_mul, j_lt, j_b1_s, j_b2_s, j_b3_s, j_b0_s, y_bo, y_bo1, y_bo0, y_i0, y_i1, Classical.not_not, nI_clamp, y_ix, y_lt, y_le, y_eq, y_nP, y_nPs, y_ltP, y_ltQ, y_ltPP, y_eqP, y_eqQ, y_eqPP, if_pos, if_neg, ite_true, ite_false, not_true_eq_false, not_false_eq_true, and_true, true_and, and_false, false_and, or_true, true_or, or_false, false_or, hM.f, y_lit64, y_in, y_c2]
theorem ym_isComing (hM : y_M τ b) (hW : y_W b) (x : Int32) : f_X12_isComing x τ = some (if y_rg x (b 5) then nI 1 else nI 0) := by
  have := hW.b5
  unfold f_X12_isComing; simp (disch := omega) only [y_lit, y_n1, nI_add, pk_mul, j_lt, j_b1_s, j_b2_s, j_b3_s, j_b0_s, y_bo, y_bo1, y_bo0, y_i0, y_i1, Classical.not_not, nI_clamp, y_ix, y_lt, y_le, y_eq, y_nP, y_nPs, y_ltP, y_ltQ, y_ltPP, y_eqP, y_eqQ, y_eqPP, if_pos, if_neg, ite_true, ite_false, not_true_eq_false, not_false_eq_true, and_true, true_and, and_false, false_and, or_true, true_or, or_false, false_or, hM.f, y_lit64, y_in, y_c2]
theorem ym_isBoard (hM : y_M τ b) (hW : y_W b) : f_X12_isBoard τ = some (if 0 < b 9 then nI 1 else nI 0) := by
  have := hW.b0
  have e : 0 < b 0 ↔ 0 < b 9 := ⟨fun h => hW.on0 (Or.inl h), fun h => (hW.on h).1⟩
  unfold f_X12_isBoard; simp (disch := omega) only [y_lit, y_n1, nI_add, pk_mul, j_lt, j_b1_s, j_b2_s, j_b3_s, j_b0_s, y_bo, y_bo1, y_bo0, y_i0, y_i1, Classical.not_not, nI_clamp, y_ix, y_lt, y_le, y_eq, y_nP, y_nPs, y_ltP, y_ltQ, y_ltPP, y_eqP, y_eqQ, y_eqPP, if_pos, if_neg, ite_true, ite_false, not_true_eq_false, not_false_eq_true, and_true, true_and, and_false, false_and, or_true, true_or, or_false, false_or, hM.f, e]
  by_cases h : 0 < b 9
  · rw [if_pos h, if_pos h]
  · rw [if_neg h, if_neg h]
theorem ym_isShut (hM : y_M τ b) (hW : y_W b) {h : Nat} (hh : h < 31) : f_X12_isShut (nI h) τ = some (if y_sh b h = 1 then nI 1 else nI 0) := by
  have := hW.b7
  have h2 : y_sh b h < 2 := Nat.mod_lt _ (by omega)
  unfold f_X12_isShut; simp (disch := omega) only [y_lit, y_n1, nI_add, pk_mul, j_lt, j_b1_s, j_b2_s, j_b3_s, j_b0_s, y_bo, y_bo1, y_bo0, y_i0, y_i1, Classical.not_not, nI_clamp, y_ix, y_lt, y_le, y_eq, y_nP, y_nPs, y_ltP, y_ltQ, y_ltPP, y_eqP, y_eqQ, y_eqPP, if_pos, if_neg, ite_true, ite_false, not_true_eq_false, not_false_eq_true, and_true, true_and, and_false, false_and, or_true, true_or, or_false, false_or, hM.f, y_bit]
  by_cases e : y_sh b h = 1
  · have e' : b 7 / 2 ^ h % 2 = 1 := e
    rw [e', if_pos e, if_pos (by decide)]
  · have e' : b 7 / 2 ^ h % 2 = 0 := by show y_sh b h = 0; omega
    rw [e', if_neg e, if_neg (by decide)]
theorem ym_of (hM : y_M τ b) {p q : Nat} (hp : p < 4) (hq : q < 5) : f_X12_of (nI p) (nI q) τ = some (nI (b (96 + 5 * p + q))) := by
  unfold f_X12_of; simp (disch := omega) only [y_lit, y_n1, nI_add, pk_mul, j_lt, j_b1_s, j_b2_s, j_b3_s, j_b0_s, y_bo, y_bo1, y_bo0, y_i0, y_i1, Classical.not_not, nI_clamp, y_ix, y_lt, y_le, y_eq, y_nP, y_nPs, y_ltP, y_ltQ, y_ltPP, y_eqP, y_eqQ, y_eqPP, if_pos, if_neg, ite_true, ite_false, not_true_eq_false, not_false_eq_true, and_true, true_and, and_false, false_and, or_true, true_or, or_false, false_or, hM.p]
theorem ym_co0 (hM : y_M τ b) {k : Nat} (hk : k < 24) : f_X12_ofComing (nI k) (nI 0) τ = some (nI (b (24 + 3 * k))) := by
  unfold f_X12_ofComing; simp (disch := omega) only [y_lit, y_n1, nI_add, pk_mul, j_lt, j_b1_s, j_b2_s, j_b3_s, j_b0_s, y_bo, y_bo1, y_bo0, y_i0, y_i1, Classical.not_not, nI_clamp, y_ix, y_lt, y_le, y_eq, y_nP, y_nPs, y_ltP, y_ltQ, y_ltPP, y_eqP, y_eqQ, y_eqPP, if_pos, if_neg, ite_true, ite_false, not_true_eq_false, not_false_eq_true, and_true, true_and, and_false, false_and, or_true, true_or, or_false, false_or, Nat.add_zero, hM.k0]
theorem ym_co1 (hM : y_M τ b) {k : Nat} (hk : k < 24) : f_X12_ofComing (nI k) (nI 1) τ = some (nP (b (25 + 3 * k))) := by
  unfold f_X12_ofComing; simp (disch := omega) only [y_lit, y_n1, nI_add, pk_mul, j_lt, j_b1_s, j_b2_s, j_b3_s, j_b0_s, y_bo, y_bo1, y_bo0, y_i0, y_i1, Classical.not_not, nI_clamp, y_ix, y_lt, y_le, y_eq, y_nP, y_nPs, y_ltP, y_ltQ, y_ltPP, y_eqP, y_eqQ, y_eqPP, if_pos, if_neg, ite_true, ite_false, not_true_eq_false, not_false_eq_true, and_true, true_and, and_false, false_and, or_true, true_or, or_false, false_or, Nat.add_right_comm 24 _ 1, hM.k1]
theorem ym_co2 (hM : y_M τ b) {k : Nat} (hk : k < 24) : f_X12_ofComing (nI k) (nI 2) τ = some (nI (b (26 + 3 * k))) := by
  unfold f_X12_ofComing; simp (disch := omega) only [y_lit, y_n1, nI_add, pk_mul, j_lt, j_b1_s, j_b2_s, j_b3_s, j_b0_s, y_bo, y_bo1, y_bo0, y_i0, y_i1, Classical.not_not, nI_clamp, y_ix, y_lt, y_le, y_eq, y_nP, y_nPs, y_ltP, y_ltQ, y_ltPP, y_eqP, y_eqQ, y_eqPP, if_pos, if_neg, ite_true, ite_false, not_true_eq_false, not_false_eq_true, and_true, true_and, and_false, false_and, or_true, true_or, or_false, false_or, Nat.add_right_comm 24 _ 2, hM.k2]
theorem ym_stepsOf (hM : y_M τ b) (hW : y_W b) (h9 : 0 < b 9) {a c : Nat} (ha : a < 100) (hc : c < 100) : f_X12_stepsOf (nI a) (nI c) τ = some (nI (y_ap b a c)) := by
  have h0 := hW.on h9
  have h4 := hW.b0
  have r : ∀ x, x < 100 → x / b 0 ≤ x := fun x _ => Nat.div_le_self _ _
  have r2 : ∀ x, x < 100 → x % b 0 ≤ x := fun x _ => Nat.mod_le _ _
  have q1 := r a ha; have q2 := r c hc; have q3 := r2 a ha; have q4 := r2 c hc
  unfold f_X12_stepsOf; simp (disch := omega) only [y_lit, nI_clamp, hM.f]
  rw [pk_rem (by omega) (by omega) (by omega), pk_rem (by omega) (by omega) (by omega), pk_div (by omega) (by omega) (by omega), pk_div (by omega) (by omega) (by omega)]
  rw [y_abs (by omega) (by omega), y_abs (by omega) (by omega)]
  simp (disch := omega) only [y_lit, y_n1, nI_add, pk_mul, j_lt, j_b1_s, j_b2_s, j_b3_s, j_b0_s, y_bo, y_bo1, y_bo0, y_i0, y_i1, Classical.not_not, nI_clamp, y_ix, y_lt, y_le, y_eq, y_nP, y_nPs, y_ltP, y_ltQ, y_ltPP, y_eqP, y_eqQ, y_eqPP, if_pos, if_neg, ite_true, ite_false, not_true_eq_false, not_false_eq_true, and_true, true_and, and_false, false_and, or_true, true_or, or_false, false_or]
  unfold y_ap
  rw [Nat.add_comm]
end M
/-! ===== stays, and the game laid out ===== -/
noncomputable def y_st (b : Nat → Nat) (t : Nat) : Nat → Nat → Nat → Nat → Nat
  | 0, _, _, v => v
  | m + 1, i, s, v => if b (12 + 2 * i) ≤ t ∧ s ≤ b (12 + 2 * i) then y_st b t m (i + 1) (b (12 + 2 * i) + 1) (b (13 + 2 * i)) else y_st b t m (i + 1) s v
noncomputable def y_stay (b : Nat → Nat) (t : Nat) : Nat := y_st b t (b 4) 0 0 7
theorem y_st_bd {b : Nat → Nat} (hW : y_W b) (t : Nat) : ∀ m i s v, i + m = b 4 → 1 ≤ v → v ≤ 40 → 1 ≤ y_st b t m i s v ∧ y_st b t m i s v ≤ 40 := by
  intro m
  induction m with
  | zero => intro i s v _ h1 h2; exact ⟨h1, h2⟩
  | succ m ih =>
    intro i s v h h1 h2
    unfold y_st
    have q := hW.st (k := i) (by omega)
    split
    · exact ih _ _ _ (by omega) q.2.1 q.2.2
    · exact ih _ _ _ (by omega) h1 h2
theorem y_stay_bd {b : Nat → Nat} (hW : y_W b) (t : Nat) : 1 ≤ y_stay b t ∧ y_stay b t ≤ 40 := y_st_bd hW t _ _ _ _ (by omega) (by omega) (by omega)
theorem yc_stay_l {σ : j_G} {b : Nat → Nat} (hN : y_N σ b) (hW : y_W b) {t : Nat} (ht : t < 1000000) : ∀ m i s v n, i + m = b 4 → m < n → s < 1000 → p_X2_stayIn_8 (nI t) σ n (nP s) (nI v) (nI i) = some (nI (y_st b t m i s v)) := by
  have h4 := hW.b4
  have h2 := hW.b2
  intro m
  induction m with
  | zero =>
    intro i s v n h hn hs
    obtain ⟨n, rfl⟩ := y_pos hn
    unfold p_X2_stayIn_8 y_st
    rw [hN.f10]; simp (disch := omega) only [y_lit, y_n1, nI_add, pk_mul, j_lt, j_b1_s, j_b2_s, j_b3_s, j_b0_s, y_bo, y_bo1, y_bo0, y_i0, y_i1, Classical.not_not, nI_clamp, y_ix, y_lt, y_le, y_eq, y_nP, y_nPs, y_ltP, y_ltQ, y_ltPP, y_eqP, y_eqQ, y_eqPP, if_pos, if_neg, ite_true, ite_false, not_true_eq_false, not_false_eq_true, and_true, true_and, and_false, false_and, or_true, true_or, or_false, false_or]
  | succ m ih =>
    intro i s v n h hn hs
    obtain ⟨n, rfl⟩ := y_pos hn
    have q := hW.st (k := i) (by omega)
    have e1 := hN.s1 (k := i) (by omega)
    have e2 := hN.s2 (k := i) (by omega)
    unfold p_X2_stayIn_8 y_st
    rw [hN.f10]; simp (disch := omega) only [y_lit, y_n1, nI_add, pk_mul, j_lt, j_b1_s, j_b2_s, j_b3_s, j_b0_s, y_bo, y_bo1, y_bo0, y_i0, y_i1, Classical.not_not, nI_clamp, y_ix, y_lt, y_le, y_eq, y_nP, y_nPs, y_ltP, y_ltQ, y_ltPP, y_eqP, y_eqQ, y_eqPP, if_pos, if_neg, ite_true, ite_false, not_true_eq_false, not_false_eq_true, and_true, true_and, and_false, false_and, or_true, true_or, or_false, false_or, e1, e2]
    by_cases c1 : b (12 + 2 * i) ≤ t
    · by_cases c2 : s ≤ b (12 + 2 * i)
      · simp (disch := omega) only [y_lit, y_n1, nI_add, pk_mul, j_lt, j_b1_s, j_b2_s, j_b3_s, j_b0_s, y_bo, y_bo1, y_bo0, y_i0, y_i1, Classical.not_not, nI_clamp, y_ix, y_lt, y_le, y_eq, y_nP, y_nPs, y_ltP, y_ltQ, y_ltPP, y_eqP, y_eqQ, y_eqPP, if_pos, if_neg, ite_true, ite_false, not_true_eq_false, not_false_eq_true, and_true, true_and, and_false, false_and, or_true, true_or, or_false, false_or]
        have w := ih (i + 1) (b (12 + 2 * i) + 1) (b (13 + 2 * i)) n (by omega) (by omega) (by omega)
        rw [y_nPs] at w
        exact w
      · simp (disch := omega) only [y_lit, y_n1, nI_add, pk_mul, j_lt, j_b1_s, j_b2_s, j_b3_s, j_b0_s, y_bo, y_bo1, y_bo0, y_i0, y_i1, Classical.not_not, nI_clamp, y_ix, y_lt, y_le, y_eq, y_nP, y_nPs, y_ltP, y_ltQ, y_ltPP, y_eqP, y_eqQ, y_eqPP, if_pos, if_neg, ite_true, ite_false, not_true_eq_false, not_false_eq_true, and_true, true_and, and_false, false_and, or_true, true_or, or_false, false_or]
        exact ih _ _ _ _ (by omega) (by omega) (by omega)
    · simp (disch := omega) only [y_lit, y_n1, nI_add, pk_mul, j_lt, j_b1_s, j_b2_s, j_b3_s, j_b0_s, y_bo, y_bo1, y_bo0, y_i0, y_i1, Classical.not_not, nI_clamp, y_ix, y_lt, y_le, y_eq, y_nP, y_nPs, y_ltP, y_ltQ, y_ltPP, y_eqP, y_eqQ, y_eqPP, if_pos, if_neg, ite_true, ite_false, not_true_eq_false, not_false_eq_true, and_true, true_and, and_false, false_and, or_true, true_or, or_false, false_or]
      exact ih _ _ _ _ (by omega) (by omega) (by omega)
theorem yc_stay {σ : j_G} {b : Nat → Nat} (hN : y_N σ b) (hW : y_W b) {t : Nat} (ht : t < 1000000) : f_X2_stayIn (nI t) σ = some (nI (y_stay b t)) := by
  have h4 := hW.b4
  unfold f_X2_stayIn
  rw [y_m1, y_lit, y_lit, yc_stay_l hN hW ht _ _ _ _ _ (Nat.zero_add (b 4)) (y_F (by omega)) (by omega)]
  rfl
theorem ym_stay_l {τ : j_G} {b : Nat → Nat} (hM : y_M τ b) (hW : y_W b) {t : Nat} (ht : t < 1000000) : ∀ m i s v n, i + m = b 4 → m < n → s < 1000 → (∀ j, i ≤ j → j < b 4 → s ≠ b (12 + 2 * j) + 1) → p_X12_stayIn_8 (nI t) τ n (nP s) (nI v) (nI i) = some (nI (y_st b t m i s v)) := by
  have h4 := hW.b4
  have h2 := hW.b2
  intro m
  induction m with
  | zero =>
    intro i s v n h hn hs _
    obtain ⟨n, rfl⟩ := y_pos hn
    unfold p_X12_stayIn_8 y_st
    simp (disch := omega) only [y_lit, y_n1, nI_add, pk_mul, j_lt, j_b1_s, j_b2_s, j_b3_s, j_b0_s, y_bo, y_bo1, y_bo0, y_i0, y_i1, Classical.not_not, nI_clamp, y_ix, y_lt, y_le, y_eq, y_nP, y_nPs, y_ltP, y_ltQ, y_ltPP, y_eqP, y_eqQ, y_eqPP, if_pos, if_neg, ite_true, ite_false, not_true_eq_false, not_false_eq_true, and_true, true_and, and_false, false_and, or_true, true_or, or_false, false_or, hM.f]
  | succ m ih =>
    intro i s v n h hn hs hd
    obtain ⟨n, rfl⟩ := y_pos hn
    have q := hW.st (k := i) (by omega)
    have d := hd i (by omega) (by omega)
    unfold p_X12_stayIn_8 y_st
    simp (disch := omega) only [y_lit, y_n1, nI_add, pk_mul, j_lt, j_b1_s, j_b2_s, j_b3_s, j_b0_s, y_bo, y_bo1, y_bo0, y_i0, y_i1, Classical.not_not, nI_clamp, y_ix, y_lt, y_le, y_eq, y_nP, y_nPs, y_ltP, y_ltQ, y_ltPP, y_eqP, y_eqQ, y_eqPP, if_pos, if_neg, ite_true, ite_false, not_true_eq_false, not_false_eq_true, and_true, true_and, and_false, false_and, or_true, true_or, or_false, false_or, hM.f, Nat.add_right_comm 12 _ 1]
    by_cases c1 : b (12 + 2 * i) ≤ t
    · by_cases c2 : s ≤ b (12 + 2 * i)
      · simp (disch := omega) only [y_lit, y_n1, nI_add, pk_mul, j_lt, j_b1_s, j_b2_s, j_b3_s, j_b0_s, y_bo, y_bo1, y_bo0, y_i0, y_i1, Classical.not_not, nI_clamp, y_ix, y_lt, y_le, y_eq, y_nP, y_nPs, y_ltP, y_ltQ, y_ltPP, y_eqP, y_eqQ, y_eqPP, if_pos, if_neg, ite_true, ite_false, not_true_eq_false, not_false_eq_true, and_true, true_and, and_false, false_and, or_true, true_or, or_false, false_or]
        have w := ih (i + 1) (b (12 + 2 * i) + 1) (b (13 + 2 * i)) n (by omega) (by omega) (by omega) (fun j h1 h2 z => by
          have := hW.sd (k := i) (l := j) (by omega) (by omega)
          omega)
        rw [y_nPs] at w
        exact w
      · simp (disch := omega) only [y_lit, y_n1, nI_add, pk_mul, j_lt, j_b1_s, j_b2_s, j_b3_s, j_b0_s, y_bo, y_bo1, y_bo0, y_i0, y_i1, Classical.not_not, nI_clamp, y_ix, y_lt, y_le, y_eq, y_nP, y_nPs, y_ltP, y_ltQ, y_ltPP, y_eqP, y_eqQ, y_eqPP, if_pos, if_neg, ite_true, ite_false, not_true_eq_false, not_false_eq_true, and_true, true_and, and_false, false_and, or_true, true_or, or_false, false_or]
        exact ih _ _ _ _ (by omega) (by omega) (by omega) (fun j h1 h2 => hd j (by omega) h2)
    · simp (disch := omega) only [y_lit, y_n1, nI_add, pk_mul, j_lt, j_b1_s, j_b2_s, j_b3_s, j_b0_s, y_bo, y_bo1, y_bo0, y_i0, y_i1, Classical.not_not, nI_clamp, y_ix, y_lt, y_le, y_eq, y_nP, y_nPs, y_ltP, y_ltQ, y_ltPP, y_eqP, y_eqQ, y_eqPP, if_pos, if_neg, ite_true, ite_false, not_true_eq_false, not_false_eq_true, and_true, true_and, and_false, false_and, or_true, true_or, or_false, false_or]
      exact ih _ _ _ _ (by omega) (by omega) (by omega) (fun j h1 h2 => hd j (by omega) h2)
theorem ym_stay {τ : j_G} {b : Nat → Nat} (hM : y_M τ b) (hW : y_W b) {t : Nat} (ht : t < 1000000) : f_X12_stayIn (nI t) τ = some (nI (y_stay b t)) := by
  have h4 := hW.b4
  unfold f_X12_stayIn
  rw [y_m1, y_lit, y_lit, ym_stay_l hM hW ht _ _ _ _ _ (Nat.zero_add (b 4)) (y_F (by omega)) (by omega) (fun j _ _ z => by omega)]
  rfl
/-! ===== the game ===== -/
noncomputable def y_from (b : Nat → Nat) : Nat → Nat
  | 0 => 0
  | i + 1 => y_from b i + y_stay b (y_from b i) - 1 + b 3 + 1
noncomputable def y_last (b : Nat → Nat) (i : Nat) : Nat := y_from b i + y_stay b (y_from b i) - 1
noncomputable def y_gn (b : Nat → Nat) : Nat → Nat → Nat
  | 0, i => i
  | m + 1, i => if y_last b i < b 2 then y_gn b m (i + 1) else i
noncomputable def y_gs (b : Nat → Nat) : Nat := if b 5 = 0 then 0 else y_gn b 60 0
def y_cg (σ : j_G) (b : Nat → Nat) (s : Nat) (g : Nat → Nat) : Prop := σ.1 22 0 = nI s ∧ ∀ i, i < s → σ.1 23 i = nI (g (3 * i)) ∧ σ.1 24 i = nP (g (3 * i + 1)) ∧ σ.1 25 i = nI (g (3 * i + 2)) ∧ σ.1 26 i = nI (y_from b i) ∧ σ.1 27 i = nI (y_last b i)
def y_mg (τ : j_G) (b : Nat → Nat) (s : Nat) (g : Nat → Nat) : Prop := τ.1 75 18 = nI s ∧ ∀ i, i < s → τ.1 82 (3 * i) = nI (g (3 * i)) ∧ τ.1 82 (3 * i + 1) = nP (g (3 * i + 1)) ∧ τ.1 82 (3 * i + 2) = nI (g (3 * i + 2)) ∧ τ.1 83 i = nI (y_from b i) ∧ τ.1 84 i = nI (y_last b i)
/-- a game that may be -/
def y_vg (b : Nat → Nat) (s : Nat) (g : Nat → Nat) : Prop := s ≤ 60 ∧ ∀ i, i < s → g (3 * i) < y_ho b ∧ g (3 * i + 1) ≤ y_ho b ∧ g (3 * i + 1) ≠ g (3 * i) + 1 ∧ g (3 * i + 2) ≤ 1 ∧ (0 < g (3 * i + 1) → g (3 * i + 2) = 0) ∧ y_last b i < b 2
noncomputable def y_dg (b : Nat → Nat) (st : Nat) : Nat → Nat := fun j => b (24 + 3 * ((st + j / 3) % b 5) + j % 3)
theorem y_dg0 {b : Nat → Nat} {st i : Nat} : y_dg b st (3 * i) = b (24 + 3 * ((st + i) % b 5)) := by
  unfold y_dg; rw [Nat.mul_div_cancel_left _ (by omega), Nat.mul_mod_right]; rfl
theorem y_dg1 {b : Nat → Nat} {st i : Nat} : y_dg b st (3 * i + 1) = b (25 + 3 * ((st + i) % b 5)) := by
  unfold y_dg; rw [show (3 * i + 1) / 3 = i from by omega, show (3 * i + 1) % 3 = 1 from by omega]; congr 1; omega
theorem y_dg2 {b : Nat → Nat} {st i : Nat} : y_dg b st (3 * i + 2) = b (26 + 3 * ((st + i) % b 5)) := by
  unfold y_dg; rw [show (3 * i + 2) / 3 = i from by omega, show (3 * i + 2) % 3 = 2 from by omega]; congr 1; omega
theorem y_from_s (b : Nat → Nat) (i : Nat) : y_from b (i + 1) = y_last b i + b 3 + 1 := rfl
theorem y_gn_le {b : Nat → Nat} : ∀ m i, i ≤ y_gn b m i ∧ y_gn b m i ≤ i + m := by
  intro m
  induction m with
  | zero => intro i; exact ⟨Nat.le_refl _, Nat.le_refl _⟩
  | succ m ih =>
    intro i
    unfold y_gn
    have := ih (i + 1)
    split <;> omega
theorem y_gn_last {b : Nat → Nat} : ∀ m i j, i ≤ j → j < y_gn b m i → y_last b j < b 2 := by
  intro m
  induction m with
  | zero => intro i j h1 h2; exact absurd h2 (by unfold y_gn; omega)
  | succ m ih =>
    intro i j h1 h2
    unfold y_gn at h2
    split at h2
    · by_cases e : j = i
      · subst e; assumption
      · exact ih (i + 1) j (by omega) h2
    · omega
theorem y_gs_le {b : Nat → Nat} : y_gs b ≤ 60 := by
  unfold y_gs
  have := y_gn_le (b := b) 60 0
  split <;> omega
theorem y_dg_vg {b : Nat → Nat} (hW : y_W b) (st : Nat) : y_vg b (y_gs b) (y_dg b st) := by
  refine ⟨y_gs_le, fun i hi => ?_⟩
  have h5 : ¬ b 5 = 0 := by intro z; unfold y_gs at hi; rw [if_pos z] at hi; omega
  have hm : (st + i) % b 5 < b 5 := Nat.mod_lt _ (by omega)
  have q := hW.co hm
  rw [y_dg0, y_dg1, y_dg2]
  refine ⟨q.1, q.2.1, q.2.2.1, q.2.2.2.1, q.2.2.2.2.1, ?_⟩
  unfold y_gs at hi
  rw [if_neg h5] at hi
  exact y_gn_last 60 0 i (by omega) hi
/-- ticks stay small -/
theorem y_last_le {b : Nat → Nat} (hW : y_W b) (i : Nat) : y_from b i ≤ y_last b i ∧ y_last b i ≤ y_from b i + 39 := by
  have := y_stay_bd hW (y_from b i)
  unfold y_last; omega
theorem yc_stay_si {x v : Int32} {c j : Nat} {σ : j_G} (hc : 3 < c) : f_X2_stayIn x (j_si σ c j v) = f_X2_stayIn x σ := by
  unfold f_X2_stayIn
  congr 1
  generalize j_F = n
  generalize (-1 : Int32) = a; generalize (7 : Int32) = d; generalize (0 : Int32) = e
  induction n generalizing a d e with
  | zero => rfl
  | succ n ih =>
    unfold p_X2_stayIn_8
    simp (disch := omega) only [j_r_ne, ih]
theorem ym_stay_si {x v : Int32} {c j : Nat} {σ : j_G} (hc : c ≠ 76) : f_X12_stayIn x (j_si σ c j v) = f_X12_stayIn x σ := by
  unfold f_X12_stayIn
  congr 1
  generalize j_F = n
  generalize (-1 : Int32) = a; generalize (7 : Int32) = d; generalize (0 : Int32) = e
  induction n generalizing a d e with
  | zero => rfl
  | succ n ih =>
    unfold p_X12_stayIn_8
    simp (disch := omega) only [j_r_ne, ih]
/-! ===== deal and lay ===== -/
/-- the game with i comings and its next tick told -/
def y_ci (σ : j_G) (b : Nat → Nat) (i : Nat) (g : Nat → Nat) : Prop := y_cg σ b i g ∧ σ.1 22 6 = nI (y_from b i)
theorem y_from_bd {b : Nat → Nat} (hW : y_W b) {i : Nat} (h : i = 0 ∨ y_last b (i - 1) < b 2) : y_from b i ≤ 210 := by
  rcases h with h | h
  · subst h; exact Nat.zero_le _
  · obtain _ | i := i
    · exact Nat.zero_le _
    · have := hW.b2; have := hW.b3
      rw [y_from_s]
      rw [show i + 1 - 1 = i from rfl] at h
      omega
theorem yc_room {σ : j_G} {b : Nat → Nat} {i : Nat} {g : Nat → Nat} (hN : y_N σ b) (hW : y_W b) (hi : i ≤ 60) (hf : y_from b i ≤ 210) (hc : y_ci σ b i g) : f_X4_hasRoom σ = some (if i < 60 ∧ y_last b i < b 2 then nI 1 else nI 0) := by
  have h2 := hW.b2
  have hl := y_last_le hW i
  have hs := y_stay_bd hW (y_from b i)
  unfold f_X4_hasRoom
  rw [hc.1.1, hc.2]
  simp (disch := omega) only [y_lit, y_n1, nI_add, pk_mul, j_lt, j_b1_s, j_b2_s, j_b3_s, j_b0_s, y_bo, y_bo1, y_bo0, y_i0, y_i1, Classical.not_not, nI_clamp, y_ix, y_lt, y_le, y_eq, y_nP, y_nPs, y_ltP, y_ltQ, y_ltPP, y_eqP, y_eqQ, y_eqPP, if_pos, if_neg, ite_true, ite_false, not_true_eq_false, not_false_eq_true, and_true, true_and, and_false, false_and, or_true, true_or, or_false, false_or, yc_stay hN hW, yc_isTick hN hW, y_rn, pk_sub]
  by_cases h : i < 60
  · rw [if_pos h]
    by_cases h2 : y_last b i < b 2
    · rw [if_pos (show y_from b i + y_stay b (y_from b i) - 1 < b 2 from h2), if_pos (And.intro h h2)]
    · rw [if_neg (show ¬ y_from b i + y_stay b (y_from b i) - 1 < b 2 from h2), if_neg (fun z : i < 60 ∧ y_last b i < b 2 => h2 z.2)]
  · rw [if_neg h, if_neg (fun z : i < 60 ∧ y_last b i < b 2 => h z.1)]
theorem yc_add {σ : j_G} {b : Nat → Nat} {i : Nat} {g : Nat → Nat} {x y z : Int32} (hN : y_N σ b) (hW : y_W b) (hi : i < 60) (hf : y_from b i ≤ 210) (hc : y_ci σ b i g) (hx : x = nI (g (3 * i))) (hy : y = nP (g (3 * i + 1))) (hz : z = nI (g (3 * i + 2))) : ∃ σ', f_X4_add x y z σ = some σ' ∧ y_ci σ' b (i + 1) g ∧ y_fr 22 27 σ σ' := by
  have h2 := hW.b2
  have h3 := hW.b3
  have hl := y_last_le hW i
  have hs := y_stay_bd hW (y_from b i)
  have e0 := hc.1.1
  have e6 := hc.2
  have e5 := hN.f5
  subst hx hy hz
  unfold f_X4_add
  simp (disch := omega) only [y_lit, y_n1, nI_add, pk_mul, j_lt, j_b1_s, j_b2_s, j_b3_s, j_b0_s, y_bo, y_bo1, y_bo0, y_i0, y_i1, Classical.not_not, nI_clamp, y_ix, y_lt, y_le, y_eq, y_nP, y_nPs, y_ltP, y_ltQ, y_ltPP, y_eqP, y_eqQ, y_eqPP, if_pos, if_neg, ite_true, ite_false, not_true_eq_false, not_false_eq_true, and_true, true_and, and_false, false_and, or_true, true_or, or_false, false_or, j_r_ne, j_r_eq, j_r_nj, e0, e6, e5, yc_stay_si, yc_stay hN hW, pk_sub]
  refine ⟨_, rfl, ⟨⟨?_, fun j hj => ?_⟩, ?_⟩, ?_⟩
  · simp (disch := omega) only [y_lit, y_n1, nI_add, pk_mul, j_lt, j_b1_s, j_b2_s, j_b3_s, j_b0_s, y_bo, y_bo1, y_bo0, y_i0, y_i1, Classical.not_not, nI_clamp, y_ix, y_lt, y_le, y_eq, y_nP, y_nPs, y_ltP, y_ltQ, y_ltPP, y_eqP, y_eqQ, y_eqPP, if_pos, if_neg, ite_true, ite_false, not_true_eq_false, not_false_eq_true, and_true, true_and, and_false, false_and, or_true, true_or, or_false, false_or, j_r_ne, j_r_eq, j_r_nj, e0]
  · by_cases h : j = i
    · subst h
      simp (disch := omega) only [y_lit, y_n1, nI_add, pk_mul, j_lt, j_b1_s, j_b2_s, j_b3_s, j_b0_s, y_bo, y_bo1, y_bo0, y_i0, y_i1, Classical.not_not, nI_clamp, y_ix, y_lt, y_le, y_eq, y_nP, y_nPs, y_ltP, y_ltQ, y_ltPP, y_eqP, y_eqQ, y_eqPP, if_pos, if_neg, ite_true, ite_false, not_true_eq_false, not_false_eq_true, and_true, true_and, and_false, false_and, or_true, true_or, or_false, false_or, j_r_ne, j_r_eq, j_r_nj]
      rfl
    · have q := hc.1.2 j (by omega)
      simp (disch := omega) only [y_lit, y_n1, nI_add, pk_mul, j_lt, j_b1_s, j_b2_s, j_b3_s, j_b0_s, y_bo, y_bo1, y_bo0, y_i0, y_i1, Classical.not_not, nI_clamp, y_ix, y_lt, y_le, y_eq, y_nP, y_nPs, y_ltP, y_ltQ, y_ltPP, y_eqP, y_eqQ, y_eqPP, if_pos, if_neg, ite_true, ite_false, not_true_eq_false, not_false_eq_true, and_true, true_and, and_false, false_and, or_true, true_or, or_false, false_or, j_r_ne, j_r_eq, j_r_nj]
      exact q
  · simp (disch := omega) only [y_lit, y_n1, nI_add, pk_mul, j_lt, j_b1_s, j_b2_s, j_b3_s, j_b0_s, y_bo, y_bo1, y_bo0, y_i0, y_i1, Classical.not_not, nI_clamp, y_ix, y_lt, y_le, y_eq, y_nP, y_nPs, y_ltP, y_ltQ, y_ltPP, y_eqP, y_eqQ, y_eqPP, if_pos, if_neg, ite_true, ite_false, not_true_eq_false, not_false_eq_true, and_true, true_and, and_false, false_and, or_true, true_or, or_false, false_or, j_r_ne, j_r_eq, j_r_nj]
    rfl
  · exact ((((((((y_fr.refl.si (by omega) (by omega)).si (by omega) (by omega)).si (by omega) (by omega)).si (by omega) (by omega)).si (by omega) (by omega)).si (by omega) (by omega)).si (by omega) (by omega)))
theorem yc_deal_l {b : Nat → Nat} (hW : y_W b) {st : Nat} (h5 : 0 < b 5) (hst : st < b 5) : ∀ m i n σ, i + m = 60 → m < n → y_N σ b → (i = 0 ∨ y_last b (i - 1) < b 2) → y_ci σ b i (y_dg b st) → ∃ σ', p_X4_deal_15 n (nI ((st + i) % b 5)) (nI i) σ = some σ' ∧ y_cg σ' b (y_gn b m i) (y_dg b st) ∧ y_fr 22 27 σ σ' := by
  have hb := hW.b5
  intro m
  induction m with
  | zero =>
    intro i n σ h hn hN hl hc
    obtain ⟨n, rfl⟩ := y_pos hn
    unfold p_X4_deal_15
    refine ⟨σ, ?_, hc.1, y_fr.refl⟩
    simp (disch := omega) only [y_lit, y_n1, nI_add, pk_mul, j_lt, j_b1_s, j_b2_s, j_b3_s, j_b0_s, y_bo, y_bo1, y_bo0, y_i0, y_i1, Classical.not_not, nI_clamp, y_ix, y_lt, y_le, y_eq, y_nP, y_nPs, y_ltP, y_ltQ, y_ltPP, y_eqP, y_eqQ, y_eqPP, if_pos, if_neg, ite_true, ite_false, not_true_eq_false, not_false_eq_true, and_true, true_and, and_false, false_and, or_true, true_or, or_false, false_or]
  | succ m ih =>
    intro i n σ h hn hN hl hc
    obtain ⟨n, rfl⟩ := y_pos hn
    have hm : (st + i) % b 5 < b 5 := Nat.mod_lt _ (by omega)
    have hf := y_from_bd hW hl
    unfold p_X4_deal_15
    simp (disch := omega) only [y_lit, y_n1, nI_add, pk_mul, j_lt, j_b1_s, j_b2_s, j_b3_s, j_b0_s, y_bo, y_bo1, y_bo0, y_i0, y_i1, Classical.not_not, nI_clamp, y_ix, y_lt, y_le, y_eq, y_nP, y_nPs, y_ltP, y_ltQ, y_ltPP, y_eqP, y_eqQ, y_eqPP, if_pos, if_neg, ite_true, ite_false, not_true_eq_false, not_false_eq_true, and_true, true_and, and_false, false_and, or_true, true_or, or_false, false_or, yc_has hN hW, y_rn, yc_room hN hW (by omega) hf hc]
    unfold y_gn
    by_cases c : y_last b i < b 2
    · obtain ⟨σ1, a1, a2, a3⟩ := yc_add hN hW (by omega) hf hc (x := σ.1 6 ((st + i) % b 5)) (y := σ.1 7 ((st + i) % b 5)) (z := σ.1 8 ((st + i) % b 5)) (by rw [hN.k0 hm, y_dg0]) (by rw [hN.k1 hm, y_dg1]) (by rw [hN.k2 hm, y_dg2])
      rw [if_pos ⟨by omega, c⟩, if_pos c, a1]
      have hN1 := hN.fr a3 (by omega)
      simp (disch := omega) only [y_lit, y_n1, nI_add, pk_mul, j_lt, j_b1_s, j_b2_s, j_b3_s, j_b0_s, y_bo, y_bo1, y_bo0, y_i0, y_i1, Classical.not_not, nI_clamp, y_ix, y_lt, y_le, y_eq, y_nP, y_nPs, y_ltP, y_ltQ, y_ltPP, y_eqP, y_eqQ, y_eqPP, if_pos, if_neg, ite_true, ite_false, not_true_eq_false, not_false_eq_true, and_true, true_and, and_false, false_and, or_true, true_or, or_false, false_or, hN1.d0]
      have e : (if (st + i) % b 5 + 1 < b 5 then nI ((st + i) % b 5 + 1) else nI 0) = nI ((st + (i + 1)) % b 5) := by
        rw [← Nat.add_assoc st i 1, Nat.add_mod (st + i) 1]
        by_cases q : (st + i) % b 5 + 1 < b 5
        · rw [if_pos q, Nat.mod_eq_of_lt (a := 1) (by omega), Nat.mod_eq_of_lt q]
        · rw [if_neg q]
          by_cases q1 : b 5 = 1
          · rw [q1, Nat.mod_one]
          · rw [Nat.mod_eq_of_lt (a := 1) (by omega), show (st + i) % b 5 + 1 = b 5 from by omega, Nat.mod_self]
      rw [e]
      obtain ⟨σ2, g1, g2, g3⟩ := ih (i + 1) n σ1 (by omega) (by omega) hN1 (Or.inr c) a2
      exact ⟨σ2, g1, g2, a3.trans g3⟩
    · rw [if_neg (fun z => c z.2), if_neg c]
      exact ⟨σ, by simp (disch := omega) only [y_lit, y_n1, nI_add, pk_mul, j_lt, j_b1_s, j_b2_s, j_b3_s, j_b0_s, y_bo, y_bo1, y_bo0, y_i0, y_i1, Classical.not_not, nI_clamp, y_ix, y_lt, y_le, y_eq, y_nP, y_nPs, y_ltP, y_ltQ, y_ltPP, y_eqP, y_eqQ, y_eqPP, if_pos, if_neg, ite_true, ite_false, not_true_eq_false, not_false_eq_true, and_true, true_and, and_false, false_and, or_true, true_or, or_false, false_or], hc.1, y_fr.refl⟩
theorem yc_deal {σ : j_G} {b : Nat → Nat} (hN : y_N σ b) (hW : y_W b) {st : Nat} (hst : b 5 = 0 ∨ st < b 5) : ∃ σ', f_X4_deal (nI st) σ = some σ' ∧ y_cg σ' b (y_gs b) (y_dg b st) ∧ y_fr 22 27 σ σ' := by
  have hb := hW.b5
  unfold f_X4_deal f_X4_begin
  simp only [j_lt, j_b1_s, y_lit]
  have f : y_fr 22 27 σ (j_si (j_si σ 22 0 (nI 0)) 22 6 (nI 0)) := (y_fr.refl.si (by omega) (by omega)).si (by omega) (by omega)
  have hN1 := hN.fr f (by omega)
  have hc : y_ci (j_si (j_si σ 22 0 (nI 0)) 22 6 (nI 0)) b 0 (y_dg b st) := ⟨⟨by simp (disch := omega) only [j_r_ne, j_r_eq, j_r_nj], fun i hi => absurd hi (by omega)⟩, j_r_eq⟩
  unfold y_gs
  by_cases h5 : b 5 = 0
  · rw [if_pos h5, show j_F = 4999 + 1 from rfl]
    refine ⟨_, ?_, hc.1, f⟩
    unfold p_X4_deal_15
    simp (disch := omega) only [y_lit, y_n1, nI_add, pk_mul, j_lt, j_b1_s, j_b2_s, j_b3_s, j_b0_s, y_bo, y_bo1, y_bo0, y_i0, y_i1, Classical.not_not, nI_clamp, y_ix, y_lt, y_le, y_eq, y_nP, y_nPs, y_ltP, y_ltQ, y_ltPP, y_eqP, y_eqQ, y_eqPP, if_pos, if_neg, ite_true, ite_false, not_true_eq_false, not_false_eq_true, and_true, true_and, and_false, false_and, or_true, true_or, or_false, false_or, yc_has hN1 hW, h5, y_r0, and_false]
  · rw [if_neg h5]
    obtain ⟨σ2, g1, g2, g3⟩ := yc_deal_l hW (st := st) (by omega) (by omega) 60 0 j_F _ (by omega) (y_F (by omega)) hN1 (Or.inl rfl) hc
    rw [Nat.add_zero, Nat.mod_eq_of_lt (by omega)] at g1
    rw [g1]
    exact ⟨σ2, rfl, g2, f.trans g3⟩
theorem ym_next {τ : j_G} {b : Nat → Nat} {i : Nat} {g : Nat → Nat} (hM : y_M τ b) (hi : i ≤ 60) (hc : y_mg τ b i g) : f_X12_nextTick τ = some (nI (y_from b i)) := by
  unfold f_X12_nextTick
  rw [hc.1]
  obtain _ | i := i
  · simp (disch := omega) only [y_lit, y_n1, nI_add, pk_mul, j_lt, j_b1_s, j_b2_s, j_b3_s, j_b0_s, y_bo, y_bo1, y_bo0, y_i0, y_i1, Classical.not_not, nI_clamp, y_ix, y_lt, y_le, y_eq, y_nP, y_nPs, y_ltP, y_ltQ, y_ltPP, y_eqP, y_eqQ, y_eqPP, if_pos, if_neg, ite_true, ite_false, not_true_eq_false, not_false_eq_true, and_true, true_and, and_false, false_and, or_true, true_or, or_false, false_or]
    rfl
  · have q := hc.2 i (by omega)
    simp (disch := omega) only [y_lit, y_n1, nI_add, pk_mul, j_lt, j_b1_s, j_b2_s, j_b3_s, j_b0_s, y_bo, y_bo1, y_bo0, y_i0, y_i1, Classical.not_not, nI_clamp, y_ix, y_lt, y_le, y_eq, y_nP, y_nPs, y_ltP, y_ltQ, y_ltPP, y_eqP, y_eqQ, y_eqPP, if_pos, if_neg, ite_true, ite_false, not_true_eq_false, not_false_eq_true, and_true, true_and, and_false, false_and, or_true, true_or, or_false, false_or, pk_sub, Nat.add_sub_cancel, q, hM.f]
    rfl
theorem ym_may {τ : j_G} {b : Nat → Nat} {i : Nat} {g : Nat → Nat} (hM : y_M τ b) (hW : y_W b) (hi : i ≤ 60) (hf : y_from b i ≤ 210) (h2 : 0 < b 2) (hc : y_mg τ b i g) : f_X12_mayCome τ = some (if i < 60 ∧ y_last b i < b 2 then nI 1 else nI 0) := by
  have h2 := hW.b2
  have hl := y_last_le hW i
  have hs := y_stay_bd hW (y_from b i)
  unfold f_X12_mayCome
  rw [ym_next hM hi hc, hc.1]
  simp (disch := omega) only [y_lit, y_n1, nI_add, pk_mul, j_lt, j_b1_s, j_b2_s, j_b3_s, j_b0_s, y_bo, y_bo1, y_bo0, y_i0, y_i1, Classical.not_not, nI_clamp, y_ix, y_lt, y_le, y_eq, y_nP, y_nPs, y_ltP, y_ltQ, y_ltPP, y_eqP, y_eqQ, y_eqPP, if_pos, if_neg, ite_true, ite_false, not_true_eq_false, not_false_eq_true, and_true, true_and, and_false, false_and, or_true, true_or, or_false, false_or, ym_stay hM hW, hM.f, pk_sub]
  by_cases h : i < 60
  · rw [if_pos h]
    by_cases h2 : y_last b i < b 2
    · rw [if_pos (And.intro h h2)]
      unfold y_last at h2
      simp (disch := omega) only [y_lit, y_n1, nI_add, pk_mul, j_lt, j_b1_s, j_b2_s, j_b3_s, j_b0_s, y_bo, y_bo1, y_bo0, y_i0, y_i1, Classical.not_not, nI_clamp, y_ix, y_lt, y_le, y_eq, y_nP, y_nPs, y_ltP, y_ltQ, y_ltPP, y_eqP, y_eqQ, y_eqPP, if_pos, if_neg, ite_true, ite_false, not_true_eq_false, not_false_eq_true, and_true, true_and, and_false, false_and, or_true, true_or, or_false, false_or]
    · rw [if_neg (fun z : i < 60 ∧ y_last b i < b 2 => h2 z.2)]
      unfold y_last at h2
      simp (disch := omega) only [y_lit, y_n1, nI_add, pk_mul, j_lt, j_b1_s, j_b2_s, j_b3_s, j_b0_s, y_bo, y_bo1, y_bo0, y_i0, y_i1, Classical.not_not, nI_clamp, y_ix, y_lt, y_le, y_eq, y_nP, y_nPs, y_ltP, y_ltQ, y_ltPP, y_eqP, y_eqQ, y_eqPP, if_pos, if_neg, ite_true, ite_false, not_true_eq_false, not_false_eq_true, and_true, true_and, and_false, false_and, or_true, true_or, or_false, false_or]
  · rw [if_neg h, if_neg (fun z : i < 60 ∧ y_last b i < b 2 => h z.1)]
theorem ym_come {τ : j_G} {b : Nat → Nat} {i : Nat} {g : Nat → Nat} {x y z : Int32} (hM : y_M τ b) (hW : y_W b) (hi : i < 60) (hf : y_from b i ≤ 210) (hc : y_mg τ b i g) (hx : x = nI (g (3 * i))) (hy : y = nP (g (3 * i + 1))) (hz : z = nI (g (3 * i + 2))) : ∃ τ', f_X12_come x y z τ = some τ' ∧ y_mg τ' b (i + 1) g ∧ y_fm 18 18 82 84 τ τ' ∧ τ'.2 = τ.2 := by
  have hl := y_last_le hW i
  have hs := y_stay_bd hW (y_from b i)
  have e0 := hc.1
  subst hx hy hz
  unfold f_X12_come
  rw [ym_next hM (by omega) hc]
  simp (disch := omega) only [y_lit, y_n1, nI_add, pk_mul, j_lt, j_b1_s, j_b2_s, j_b3_s, j_b0_s, y_bo, y_bo1, y_bo0, y_i0, y_i1, Classical.not_not, nI_clamp, y_ix, y_lt, y_le, y_eq, y_nP, y_nPs, y_ltP, y_ltQ, y_ltPP, y_eqP, y_eqQ, y_eqPP, if_pos, if_neg, ite_true, ite_false, not_true_eq_false, not_false_eq_true, and_true, true_and, and_false, false_and, or_true, true_or, or_false, false_or, j_r_ne, j_r_eq, j_r_nj, e0, ym_stay_si, ym_stay hM hW, pk_sub, Nat.add_zero]
  refine ⟨_, rfl, ⟨?_, fun j hj => ?_⟩, ?_, rfl⟩
  · simp (disch := omega) only [y_lit, y_n1, nI_add, pk_mul, j_lt, j_b1_s, j_b2_s, j_b3_s, j_b0_s, y_bo, y_bo1, y_bo0, y_i0, y_i1, Classical.not_not, nI_clamp, y_ix, y_lt, y_le, y_eq, y_nP, y_nPs, y_ltP, y_ltQ, y_ltPP, y_eqP, y_eqQ, y_eqPP, if_pos, if_neg, ite_true, ite_false, not_true_eq_false, not_false_eq_true, and_true, true_and, and_false, false_and, or_true, true_or, or_false, false_or, j_r_ne, j_r_eq, j_r_nj, e0]
  · by_cases h : j = i
    · subst h
      simp (disch := omega) only [y_lit, y_n1, nI_add, pk_mul, j_lt, j_b1_s, j_b2_s, j_b3_s, j_b0_s, y_bo, y_bo1, y_bo0, y_i0, y_i1, Classical.not_not, nI_clamp, y_ix, y_lt, y_le, y_eq, y_nP, y_nPs, y_ltP, y_ltQ, y_ltPP, y_eqP, y_eqQ, y_eqPP, if_pos, if_neg, ite_true, ite_false, not_true_eq_false, not_false_eq_true, and_true, true_and, and_false, false_and, or_true, true_or, or_false, false_or, j_r_ne, j_r_eq, j_r_nj]
      rfl
    · have q := hc.2 j (by omega)
      simp (disch := omega) only [y_lit, y_n1, nI_add, pk_mul, j_lt, j_b1_s, j_b2_s, j_b3_s, j_b0_s, y_bo, y_bo1, y_bo0, y_i0, y_i1, Classical.not_not, nI_clamp, y_ix, y_lt, y_le, y_eq, y_nP, y_nPs, y_ltP, y_ltQ, y_ltPP, y_eqP, y_eqQ, y_eqPP, if_pos, if_neg, ite_true, ite_false, not_true_eq_false, not_false_eq_true, and_true, true_and, and_false, false_and, or_true, true_or, or_false, false_or, j_r_ne, j_r_eq, j_r_nj]
      exact q
  · exact (((((y_fm.refl.si (by omega) (by omega) (by omega)).si (by omega) (by omega) (by omega)).si (by omega) (by omega) (by omega)).si (by omega) (by omega) (by omega)).si (by omega) (by omega) (by omega)).so (by omega) (by omega)
theorem ym_lay_l {b : Nat → Nat} (hW : y_W b) (h5 : 0 < b 5) : ∀ m i n τ, i + m = 60 → m < n → y_M τ b → (i = 0 ∨ y_last b (i - 1) < b 2) → y_mg τ b i (y_dg b (b 8)) → ∃ τ', p_X12_lay_5 n τ = some τ' ∧ y_mg τ' b (y_gn b m i) (y_dg b (b 8)) ∧ y_fm 18 18 82 84 τ τ' := by
  have hb := hW.b5
  have h8 := hW.b8
  have h9 := hW.on0 (Or.inr (Or.inr (Or.inl h5)))
  have h2 := (hW.on h9).2.2.1
  intro m
  induction m with
  | zero =>
    intro i n τ h hn hM hl hc
    obtain ⟨n, rfl⟩ := y_pos hn
    have hf := y_from_bd hW hl
    unfold p_X12_lay_5
    refine ⟨τ, ?_, hc, y_fm.refl⟩
    simp (disch := omega) only [y_lit, y_n1, nI_add, pk_mul, j_lt, j_b1_s, j_b2_s, j_b3_s, j_b0_s, y_bo, y_bo1, y_bo0, y_i0, y_i1, Classical.not_not, nI_clamp, y_ix, y_lt, y_le, y_eq, y_nP, y_nPs, y_ltP, y_ltQ, y_ltPP, y_eqP, y_eqQ, y_eqPP, if_pos, if_neg, ite_true, ite_false, not_true_eq_false, not_false_eq_true, and_true, true_and, and_false, false_and, or_true, true_or, or_false, false_or, hM.f, ym_may hM hW (by omega) hf h2 hc]
  | succ m ih =>
    intro i n τ h hn hM hl hc
    obtain ⟨n, rfl⟩ := y_pos hn
    have hm : (b 8 + i) % b 5 < b 5 := Nat.mod_lt _ (by omega)
    have hf := y_from_bd hW hl
    have hr : nI (b 8 + i) - nI ((b 8 + i) / b 5 * b 5) = nI ((b 8 + i) % b 5) := by
      rw [← pk_mul, ← pk_div (by omega) (by omega) (by omega), pk_rem (by omega) (by omega) (by omega)]
    unfold p_X12_lay_5
    simp (disch := omega) only [y_lit, y_n1, nI_add, pk_mul, j_lt, j_b1_s, j_b2_s, j_b3_s, j_b0_s, y_bo, y_bo1, y_bo0, y_i0, y_i1, Classical.not_not, nI_clamp, y_ix, y_lt, y_le, y_eq, y_nP, y_nPs, y_ltP, y_ltQ, y_ltPP, y_eqP, y_eqQ, y_eqPP, if_pos, if_neg, ite_true, ite_false, not_true_eq_false, not_false_eq_true, and_true, true_and, and_false, false_and, or_true, true_or, or_false, false_or, hM.f, ym_may hM hW (by omega) hf h2 hc]
    unfold y_gn
    by_cases c : y_last b i < b 2
    · rw [if_pos ⟨by omega, c⟩, if_pos c, hc.1]
      simp (disch := omega) only [y_lit, y_n1, nI_add, pk_mul, j_lt, j_b1_s, j_b2_s, j_b3_s, j_b0_s, y_bo, y_bo1, y_bo0, y_i0, y_i1, Classical.not_not, nI_clamp, y_ix, y_lt, y_le, y_eq, y_nP, y_nPs, y_ltP, y_ltQ, y_ltPP, y_eqP, y_eqQ, y_eqPP, if_pos, if_neg, ite_true, ite_false, not_true_eq_false, not_false_eq_true, and_true, true_and, and_false, false_and, or_true, true_or, or_false, false_or, pk_div]
      rw [hr, ym_co0 hM (by omega), ym_co1 hM (by omega), ym_co2 hM (by omega)]
      simp only [j_b1_s]
      obtain ⟨τ1, a1, a2, a3, _⟩ := ym_come hM hW (by omega) hf hc (x := nI (b (24 + 3 * ((b 8 + i) % b 5)))) (y := nP (b (25 + 3 * ((b 8 + i) % b 5)))) (z := nI (b (26 + 3 * ((b 8 + i) % b 5)))) (by rw [y_dg0]) (by rw [y_dg1]) (by rw [y_dg2])
      rw [a1]
      obtain ⟨τ2, g1, g2, g3⟩ := ih (i + 1) n τ1 (by omega) (by omega) (hM.fr a3 (by omega)) (Or.inr c) a2
      exact ⟨τ2, g1, g2, a3.trans g3⟩
    · rw [if_neg (fun z => c z.2), if_neg c]
      exact ⟨τ, by simp (disch := omega) only [y_lit, y_n1, nI_add, pk_mul, j_lt, j_b1_s, j_b2_s, j_b3_s, j_b0_s, y_bo, y_bo1, y_bo0, y_i0, y_i1, Classical.not_not, nI_clamp, y_ix, y_lt, y_le, y_eq, y_nP, y_nPs, y_ltP, y_ltQ, y_ltPP, y_eqP, y_eqQ, y_eqPP, if_pos, if_neg, ite_true, ite_false, not_true_eq_false, not_false_eq_true, and_true, true_and, and_false, false_and, or_true, true_or, or_false, false_or], hc, y_fm.refl⟩
theorem ym_lay {τ : j_G} {b : Nat → Nat} (hM : y_M τ b) (hW : y_W b) : ∃ τ', f_X12_lay τ = some τ' ∧ y_mg τ' b (y_gs b) (y_dg b (b 8)) ∧ y_fm 18 18 82 84 τ τ' := by
  have hb := hW.b5
  unfold f_X12_lay
  simp only [j_lt, y_lit]
  have f : y_fm 18 18 82 84 τ (j_si τ 75 18 (nI 0)) := y_fm.refl.so (by omega) (by omega)
  have hM1 := hM.fr f (by omega)
  have hc : y_mg (j_si τ 75 18 (nI 0)) b 0 (y_dg b (b 8)) := ⟨j_r_eq, fun i hi => absurd hi (by omega)⟩
  unfold y_gs
  by_cases h5 : b 5 = 0
  · rw [if_pos h5, show j_F = 4999 + 1 from rfl]
    refine ⟨_, ?_, hc, f⟩
    unfold p_X12_lay_5
    simp (disch := omega) only [y_lit, y_n1, nI_add, pk_mul, j_lt, j_b1_s, j_b2_s, j_b3_s, j_b0_s, y_bo, y_bo1, y_bo0, y_i0, y_i1, Classical.not_not, nI_clamp, y_ix, y_lt, y_le, y_eq, y_nP, y_nPs, y_ltP, y_ltQ, y_ltPP, y_eqP, y_eqQ, y_eqPP, if_pos, if_neg, ite_true, ite_false, not_true_eq_false, not_false_eq_true, and_true, true_and, and_false, false_and, or_true, true_or, or_false, false_or, hM1.f, h5]
  · rw [if_neg h5]
    obtain ⟨σ2, g1, g2, g3⟩ := ym_lay_l hW (by omega) 60 0 j_F _ (by omega) (y_F (by omega)) hM1 (Or.inl rfl) hc
    rw [g1]
    exact ⟨σ2, rfl, g2, f.trans g3⟩
/-! ===== a run: R 0 hits, 1 steps, 2 where, 3 free, 4 red hits, 8 + 2k the tick, 9 + 2k the hole of a strike, 1000 + 2i the tick and 1 of a coming, 1001 + 2i its hits ===== -/
noncomputable def y_u (R : Nat → Nat) (k v : Nat) : Nat → Nat := fun j => if j = k then v else R j
theorem y_ue {R : Nat → Nat} {k v : Nat} : y_u R k v k = v := if_pos rfl
theorem y_un {R : Nat → Nat} {k v j : Nat} (h : j ≠ k) : y_u R k v j = R j := if_neg h
noncomputable def y_pc (q : Nat → Nat) (t : Nat) : Nat := q 0 + t / q 2
noncomputable def y_aw (b q : Nat → Nat) (i : Nat) : Nat := if q 3 = 0 then y_from b i + q 1 else if (if i < q 3 then 0 else y_from b (i - q 3)) < y_from b i + q 1 then (if i < q 3 then 0 else y_from b (i - q 3)) else y_from b i + q 1
noncomputable def y_th (b q : Nat → Nat) (a c t : Nat) : Nat := t + y_ap b a c * y_pc q t
noncomputable def y_mx (a c : Nat) : Nat := if a < c then c else a
noncomputable def y_at (b q : Nat → Nat) (i to : Nat) (R : Nat → Nat) : Nat := y_mx (y_th b q (R 2) to (y_mx (R 3) (y_aw b q i))) (y_from b i)
noncomputable def y_set (b g : Nat → Nat) (i to t : Nat) (R : Nat → Nat) : Nat → Nat := y_u (y_u (y_u (y_u (y_u (y_u (y_u (y_u (y_u R (8 + 2 * R 0) t) (9 + 2 * R 0) to) 0 (R 0 + 1)) (1000 + 2 * i) (t + 1)) (1001 + 2 * i) (R (1001 + 2 * i) + 1)) 1 (R 1 + y_ap b (R 2) to)) 2 to) 3 (t + 1)) 4 (R 4 + g (3 * i + 2))
noncomputable def y_go (b g q : Nat → Nat) (i to : Nat) (R : Nat → Nat) : Nat → Nat := if y_at b q i to R ≤ y_last b i then y_set b g i to (y_at b q i to R) R else R
noncomputable def y_go2 (b g q : Nat → Nat) (i to th : Nat) (R : Nat → Nat) : Nat → Nat := if y_at b q i to R ≤ y_last b i then y_go b g q i th (y_go b g q i to R) else R
/-- what is asked of a player's numbers -/
def y_vq (b q : Nat → Nat) : Prop := q 0 ≤ 9 ∧ q 1 ≤ 40 ∧ q 2 ≤ 99 ∧ q 3 ≤ 9 ∧ q 4 < y_ho b
def y_cp (σ : j_G) (a : Nat) (q : Nat → Nat) : Prop := ∀ j, j < 5 → σ.1 a j = nI (q j)
def y_mp (τ : j_G) (b : Nat → Nat) (p : Nat) (q : Nat → Nat) : Prop := τ.1 75 19 = nI p ∧ τ.1 75 20 = nI (q 1) ∧ τ.1 75 21 = nI (q 3) ∧ τ.1 75 22 = nI (q 4) ∧ p < b 6 ∧ b (96 + 5 * p) = q 0 ∧ b (98 + 5 * p) = q 2
def y_cr (σ : j_G) (R : Nat → Nat) (s : Nat) : Prop := (σ.1 30 0 = nI (R 0) ∧ σ.1 30 1 = nI (R 1) ∧ σ.1 30 7 = nI (R 2) ∧ σ.1 30 8 = nI (R 3)) ∧ (∀ k, k < R 0 → σ.1 33 k = nI (R (8 + 2 * k)) ∧ σ.1 34 k = nI (R (9 + 2 * k))) ∧ (∀ i, i < s → σ.1 31 i = nP (R (1000 + 2 * i)) ∧ σ.1 32 i = nI (R (1001 + 2 * i)))
def y_mr (τ : j_G) (R : Nat → Nat) (s : Nat) : Prop := (τ.1 75 29 = nI (R 0) ∧ τ.1 75 33 = nI (R 1) ∧ τ.1 75 31 = nI (R 2) ∧ τ.1 75 32 = nI (R 3) ∧ τ.1 75 30 = nI (R 4)) ∧ (∀ k, k < R 0 → τ.1 87 k = nI (R (8 + 2 * k)) ∧ τ.1 88 k = nI (R (9 + 2 * k))) ∧ (∀ i, i < s → τ.1 86 i = nP (R (1000 + 2 * i)) ∧ τ.1 85 i = nI (R (1001 + 2 * i)))
/-- bounds of a run -/
def y_br (b R : Nat → Nat) (m : Nat) : Prop := R 0 ≤ m ∧ R 1 ≤ 24 * m ∧ R 2 < y_ho b ∧ R 3 ≤ 200 ∧ R 4 ≤ m ∧ (∀ k, k < R 0 → R (8 + 2 * k) < 200 ∧ R (9 + 2 * k) < y_ho b) ∧ (∀ j, R (1000 + 2 * j) ≤ 200) ∧ (∀ j, R (1001 + 2 * j) ≤ m)
theorem y_ap_bd {b : Nat → Nat} {a c : Nat} (ha : a < 12) (hc : c < 12) : y_ap b a c ≤ 24 := by
  have h1 := Nat.div_le_self a (b 0); have h2 := Nat.div_le_self c (b 0)
  have h3 := Nat.mod_le a (b 0); have h4 := Nat.mod_le c (b 0)
  unfold y_ap y_df
  generalize a / b 0 = x1 at *; generalize c / b 0 = x2 at *; generalize a % b 0 = x3 at *; generalize c % b 0 = x4 at *
  omega
theorem y_pc_bd {b q : Nat → Nat} (hq : y_vq b q) (t : Nat) : y_pc q t ≤ 9 + t := by
  have := hq.1
  have h1 := Nat.div_le_self t (q 2)
  unfold y_pc; omega
theorem y_aw_bd {b q : Nat → Nat} (hq : y_vq b q) {i : Nat} : y_aw b q i ≤ y_from b i + 40 := by
  have := hq.2.1
  unfold y_aw
  split
  · omega
  · generalize (if i < q 3 then 0 else y_from b (i - q 3)) = z
    split <;> omega
theorem y_th_bd {b q : Nat → Nat} (hq : y_vq b q) {a c t : Nat} (ha : a < 12) (hc : c < 12) (ht : t ≤ 1000) : y_th b q a c t ≤ 30000 := by
  have h1 := y_ap_bd (b := b) ha hc
  have h2 := y_pc_bd hq t
  have h3 : y_ap b a c * y_pc q t ≤ 24 * (9 + t) := Nat.mul_le_mul h1 h2
  unfold y_th; omega
theorem y_rs {a b n : Nat} (ha : a < 2 ^ 30) (hb : b < 2 ^ 30) : y_rg (nI a - nI b) n ↔ b ≤ a ∧ a < n + b := by
  unfold y_rg; rw [pk_sub_toInt ha hb]; omega
theorem y_mxI {a c : Nat} : (if a < c then nI c else nI a) = nI (y_mx a c) := by
  unfold y_mx
  split <;> rfl
theorem y_pI {p : Prop} [Decidable p] {a c : Nat} : (if p then nI a else nI c) = nI (if p then a else c) := by
  split <;> rfl
section C
variable {σ : j_G} {b g q : Nat → Nat} {s a : Nat}
theorem yc_ghas (hc : y_cg σ b s g) (hs : s ≤ 60) (x : Int32) : f_X4_has x σ = if y_rg x s then nI 1 else nI 0 := by
  unfold f_X4_has; rw [hc.1]; simp only [y_lit]; simp (disch := omega) only [y_c1]
theorem yc_pace (hp : y_cp σ a q) (hq : y_vq b q) {t : Nat} (ht : t < 2 ^ 30) : f_X6_paceIn a (nI t) σ = some (nI (y_pc q t)) := by
  have h0 := hq.1; have h2 := hq.2.2.1
  have e0 := hp 0 (by omega); have e2 := hp 2 (by omega)
  have := Nat.div_le_self t (q 2)
  unfold f_X6_paceIn y_pc; simp (disch := omega) only [y_lit, y_n1, nI_add, pk_mul, j_lt, j_b1_s, j_b2_s, j_b3_s, j_b0_s, y_bo, y_bo1, y_bo0, y_i0, y_i1, Classical.not_not, nI_clamp, y_ix, y_lt, y_le, y_eq, y_nP, y_nPs, y_ltP, y_ltQ, y_ltPP, y_eqP, y_eqQ, y_eqPP, if_pos, if_neg, ite_true, ite_false, not_true_eq_false, not_false_eq_true, and_true, true_and, and_false, false_and, or_true, true_or, or_false, false_or, e0, e2]
  by_cases z : q 2 = 0
  · simp (disch := omega) only [z, Nat.div_zero, Nat.add_zero, y_lit, y_n1, nI_add, pk_mul, j_lt, j_b1_s, j_b2_s, j_b3_s, j_b0_s, y_bo, y_bo1, y_bo0, y_i0, y_i1, Classical.not_not, nI_clamp, y_ix, y_lt, y_le, y_eq, y_nP, y_nPs, y_ltP, y_ltQ, y_ltPP, y_eqP, y_eqQ, y_eqPP, if_pos, if_neg, ite_true, ite_false, not_true_eq_false, not_false_eq_true, and_true, true_and, and_false, false_and, or_true, true_or, or_false, false_or]
  · simp (disch := omega) only [y_lit, y_n1, nI_add, pk_mul, j_lt, j_b1_s, j_b2_s, j_b3_s, j_b0_s, y_bo, y_bo1, y_bo0, y_i0, y_i1, Classical.not_not, nI_clamp, y_ix, y_lt, y_le, y_eq, y_nP, y_nPs, y_ltP, y_ltQ, y_ltPP, y_eqP, y_eqQ, y_eqPP, if_pos, if_neg, ite_true, ite_false, not_true_eq_false, not_false_eq_true, and_true, true_and, and_false, false_and, or_true, true_or, or_false, false_or, pk_div]
theorem yc_awareOf (hc : y_cg σ b s g) (hv : y_vg b s g) (hp : y_cp σ a q) (hq : y_vq b q) (hW : y_W b) {i : Nat} (hi : i < s) : f_X6_awareOf 26 a (nI i) σ = some (nI (y_aw b q i)) := by
  have hs := hv.1
  have h2 := hW.b2
  have h1 := hq.2.1; have h3 := hq.2.2.2.1
  have e1 := hp 1 (by omega); have e3 := hp 3 (by omega)
  have ei := (hc.2 i hi).2.2.2.1
  have li := (hv.2 i hi).2.2.2.2.2
  have le := y_last_le hW i
  unfold f_X6_awareOf y_aw
  simp (disch := omega) only [y_lit, y_n1, nI_add, pk_mul, j_lt, j_b1_s, j_b2_s, j_b3_s, j_b0_s, y_bo, y_bo1, y_bo0, y_i0, y_i1, Classical.not_not, nI_clamp, y_ix, y_lt, y_le, y_eq, y_nP, y_nPs, y_ltP, y_ltQ, y_ltPP, y_eqP, y_eqQ, y_eqPP, if_pos, if_neg, ite_true, ite_false, not_true_eq_false, not_false_eq_true, and_true, true_and, and_false, false_and, or_true, true_or, or_false, false_or, yc_ghas hc hs, y_rn, e1, e3, ei, y_rs]
  by_cases z : q 3 = 0
  · simp (disch := omega) only [y_lit, y_n1, nI_add, pk_mul, j_lt, j_b1_s, j_b2_s, j_b3_s, j_b0_s, y_bo, y_bo1, y_bo0, y_i0, y_i1, Classical.not_not, nI_clamp, y_ix, y_lt, y_le, y_eq, y_nP, y_nPs, y_ltP, y_ltQ, y_ltPP, y_eqP, y_eqQ, y_eqPP, if_pos, if_neg, ite_true, ite_false, not_true_eq_false, not_false_eq_true, and_true, true_and, and_false, false_and, or_true, true_or, or_false, false_or]
  · by_cases y : i < q 3
    · simp (disch := omega) only [y_lit, y_n1, nI_add, pk_mul, j_lt, j_b1_s, j_b2_s, j_b3_s, j_b0_s, y_bo, y_bo1, y_bo0, y_i0, y_i1, Classical.not_not, nI_clamp, y_ix, y_lt, y_le, y_eq, y_nP, y_nPs, y_ltP, y_ltQ, y_ltPP, y_eqP, y_eqQ, y_eqPP, if_pos, if_neg, ite_true, ite_false, not_true_eq_false, not_false_eq_true, and_true, true_and, and_false, false_and, or_true, true_or, or_false, false_or, y_pI]
    · have ej := (hc.2 (i - q 3) (by omega)).2.2.2.1
      have lj := (hv.2 (i - q 3) (by omega)).2.2.2.2.2
      have lf := y_last_le hW (i - q 3)
      have hh : (q 3 ≤ i ∧ i < s + q 3) := ⟨by omega, by omega⟩
      simp (disch := omega) only [y_lit, y_n1, nI_add, pk_mul, j_lt, j_b1_s, j_b2_s, j_b3_s, j_b0_s, y_bo, y_bo1, y_bo0, y_i0, y_i1, Classical.not_not, nI_clamp, y_ix, y_lt, y_le, y_eq, y_nP, y_nPs, y_ltP, y_ltQ, y_ltPP, y_eqP, y_eqQ, y_eqPP, if_pos, if_neg, ite_true, ite_false, not_true_eq_false, not_false_eq_true, and_true, true_and, and_false, false_and, or_true, true_or, or_false, false_or, pk_sub, ej, if_pos hh, y_pI]
theorem yc_there (hN : y_N σ b) (hW : y_W b) (h9 : 0 < b 9) (hp : y_cp σ a q) (hq : y_vq b q) {h to t : Nat} (hh : h < 12) (hto : to < 12) (ht : t ≤ 1000) : f_X6_there a (nI h) (nI to) (nI t) σ = some (nI (y_th b q h to t)) := by
  unfold f_X6_there y_th
  rw [yc_apart hN hW h9 (by omega) (by omega), yc_pace hp hq (by omega)]
  simp (disch := omega) only [y_lit, y_n1, nI_add, pk_mul, j_lt, j_b1_s, j_b2_s, j_b3_s, j_b0_s, y_bo, y_bo1, y_bo0, y_i0, y_i1, Classical.not_not, nI_clamp, y_ix, y_lt, y_le, y_eq, y_nP, y_nPs, y_ltP, y_ltQ, y_ltPP, y_eqP, y_eqQ, y_eqPP, if_pos, if_neg, ite_true, ite_false, not_true_eq_false, not_false_eq_true, and_true, true_and, and_false, false_and, or_true, true_or, or_false, false_or]
theorem yc_strikeG (hc : y_cg σ b s g) (hv : y_vg b s g) (hW : y_W b) {i t : Nat} (hi : i < s) (ht : t < 2 ^ 30) : f_X4_strike (nI i) (nI t) σ = some (if y_mx t (y_from b i) ≤ y_last b i then nI (y_mx t (y_from b i)) else nP 0) := by
  have hs := hv.1
  have h2 := hW.b2
  have ei := (hc.2 i hi).2.2.2.1
  have el := (hc.2 i hi).2.2.2.2
  have li := (hv.2 i hi).2.2.2.2.2
  have le := y_last_le hW i
  have hm : y_mx t (y_from b i) < 2 ^ 31 := by unfold y_mx; split <;> omega
  unfold f_X4_strike
  simp (disch := omega) only [y_lit, y_n1, nI_add, pk_mul, j_lt, j_b1_s, j_b2_s, j_b3_s, j_b0_s, y_bo, y_bo1, y_bo0, y_i0, y_i1, Classical.not_not, nI_clamp, y_ix, y_lt, y_le, y_eq, y_nP, y_nPs, y_ltP, y_ltQ, y_ltPP, y_eqP, y_eqQ, y_eqPP, if_pos, if_neg, ite_true, ite_false, not_true_eq_false, not_false_eq_true, and_true, true_and, and_false, false_and, or_true, true_or, or_false, false_or, yc_ghas hc hs, y_rn, ei, el, y_mxI, Nat.not_lt]
  split <;> rfl
end C
/-! ===== a run of the class ===== -/
theorem yc_apart_si {x y v : Int32} {c j : Nat} {σ : j_G} (hc : c ≠ 1) : f_X2_apart x y (j_si σ c j v) = f_X2_apart x y σ := by
  unfold f_X2_apart
  rw [j_r_ne (fun z => hc z.symm)]
theorem y_at_bd {b q R : Nat → Nat} {i m : Nat} (hW : y_W b) (hq : y_vq b q) (hb : y_br b R m) {to : Nat} (hto : to < y_ho b) (hf : y_from b i ≤ 200) : y_mx (R 3) (y_aw b q i) ≤ 1000 ∧ y_th b q (R 2) to (y_mx (R 3) (y_aw b q i)) ≤ 30000 ∧ y_at b q i to R ≤ 30000 := by
  have h1 := y_aw_bd hq (i := i)
  have h2 := hb.2.2.1
  have h3 := hb.2.2.2.1
  have h4 := hW.ho
  have k1 : y_mx (R 3) (y_aw b q i) ≤ 1000 := by unfold y_mx; split <;> omega
  have k2 := y_th_bd hq (a := R 2) (c := to) (by omega) (by omega) k1
  refine ⟨k1, k2, ?_⟩
  unfold y_at
  generalize y_th b q (R 2) to (y_mx (R 3) (y_aw b q i)) = z at *
  unfold y_mx; split <;> omega
theorem y_set_br {b g R : Nat → Nat} {i to t m : Nat} (hW : y_W b) (hb : y_br b R m) (hm : m < 200) (hto : to < y_ho b) (ht : t < 200) (hr : g (3 * i + 2) ≤ 1) (hi : i < 60) : y_br b (y_set b g i to t R) (m + 1) := by
  obtain ⟨b0, b1, b2, b3, b4, b5, b6, b7⟩ := hb
  have h4 := hW.ho
  have h5 := y_ap_bd (b := b) (a := R 2) (c := to) (by omega) (by omega)
  unfold y_set
  refine ⟨?_, ?_, ?_, ?_, ?_, fun k hk => ?_, fun j => ?_, fun j => ?_⟩
  · simp (disch := omega) only [y_ue, y_un]; omega
  · simp (disch := omega) only [y_ue, y_un]; omega
  · simp (disch := omega) only [y_ue, y_un]; exact hto
  · simp (disch := omega) only [y_ue, y_un]; omega
  · simp (disch := omega) only [y_ue, y_un]; omega
  · simp (disch := omega) only [y_ue, y_un] at hk
    by_cases e : k = R 0
    · subst e; simp (disch := omega) only [y_ue, y_un]; exact ⟨ht, hto⟩
    · have := b5 k (by omega)
      simp (disch := omega) only [y_ue, y_un]; exact this
  · by_cases e : j = i
    · subst e; simp (disch := omega) only [y_ue, y_un]; omega
    · have := b6 j
      simp (disch := omega) only [y_ue, y_un]; omega
  · by_cases e : j = i
    · subst e; have := b7 j; simp (disch := omega) only [y_ue, y_un]; omega
    · have := b7 j
      simp (disch := omega) only [y_ue, y_un]; omega
section C
variable {σ : j_G} {b g q R : Nat → Nat} {s a m i to : Nat}
theorem yc_strike (hN : y_N σ b) (hW : y_W b) (h9 : 0 < b 9) (hc : y_cg σ b s g) (hv : y_vg b s g) (hp : y_cp σ a q) (ha : a < 30) (hq : y_vq b q) (hr : y_cr σ R s) (hb : y_br b R m) (hm : m < 120) (hi : i < s) (hto : to < y_ho b) : ∃ σ', f_X9_strike 30 26 a 33 34 31 32 (nI i) (nI to) σ = some ((if y_at b q i to R ≤ y_last b i then nI 1 else nI 0), σ') ∧ y_cr σ' (y_go b g q i to R) s ∧ y_fr 30 34 σ σ' ∧ σ'.1 30 4 = σ.1 30 4 := by
  have hs := hv.1
  have h2 := hW.b2
  have h4 := hW.ho
  have li := (hv.2 i hi).2.2.2.2.2
  have le := y_last_le hW i
  obtain ⟨b0, b1, b2, b3, b4, b5, b6, b7⟩ := id hb
  obtain ⟨k1, k2, k3⟩ := y_at_bd hW hq hb hto (i := i) (by omega)
  have h1 := y_aw_bd hq (i := i)
  obtain ⟨⟨r0, r1, r2, r3⟩, rk, ri⟩ := id hr
  have rb := b7 i
  unfold f_X9_strike
  rw [yc_awareOf hc hv hp hq hW hi, r0, r2, r3]
  simp (disch := omega) only [y_lit, y_n1, nI_add, pk_mul, j_lt, j_b1_s, j_b2_s, j_b3_s, j_b0_s, y_bo, y_bo1, y_bo0, y_i0, y_i1, Classical.not_not, nI_clamp, y_ix, y_lt, y_le, y_eq, y_nP, y_nPs, y_ltP, y_ltQ, y_ltPP, y_eqP, y_eqQ, y_eqPP, if_pos, if_neg, ite_true, ite_false, not_true_eq_false, not_false_eq_true, and_true, true_and, and_false, false_and, or_true, true_or, or_false, false_or, y_mxI]
  rw [yc_there hN hW h9 hp hq (by omega) (by omega) k1]
  simp (disch := omega) only [y_lit, y_n1, nI_add, pk_mul, j_lt, j_b1_s, j_b2_s, j_b3_s, j_b0_s, y_bo, y_bo1, y_bo0, y_i0, y_i1, Classical.not_not, nI_clamp, y_ix, y_lt, y_le, y_eq, y_nP, y_nPs, y_ltP, y_ltQ, y_ltPP, y_eqP, y_eqQ, y_eqPP, if_pos, if_neg, ite_true, ite_false, not_true_eq_false, not_false_eq_true, and_true, true_and, and_false, false_and, or_true, true_or, or_false, false_or]
  rw [yc_strikeG hc hv hW hi (by omega), show y_mx (y_th b q (R 2) to (y_mx (R 3) (y_aw b q i))) (y_from b i) = y_at b q i to R from rfl]
  unfold y_go
  by_cases h : y_at b q i to R ≤ y_last b i
  · simp only [if_pos h]
    generalize y_at b q i to R = t at *
    have ei := ri i hi
    simp (disch := omega) only [y_lit, y_n1, nI_add, pk_mul, j_lt, j_b1_s, j_b2_s, j_b3_s, j_b0_s, y_bo, y_bo1, y_bo0, y_i0, y_i1, Classical.not_not, nI_clamp, y_ix, y_lt, y_le, y_eq, y_nP, y_nPs, y_ltP, y_ltQ, y_ltPP, y_eqP, y_eqQ, y_eqPP, if_pos, if_neg, ite_true, ite_false, not_true_eq_false, not_false_eq_true, and_true, true_and, and_false, false_and, or_true, true_or, or_false, false_or, j_r_ne, j_r_eq, j_r_nj, r0, r1, r2, ei, yc_apart_si]
    rw [yc_apart hN hW h9 (by omega) (by omega)]
    have h5 := y_ap_bd (b := b) (a := R 2) (c := to) (by omega) (by omega)
    simp (disch := omega) only [y_lit, y_n1, nI_add, pk_mul, j_lt, j_b1_s, j_b2_s, j_b3_s, j_b0_s, y_bo, y_bo1, y_bo0, y_i0, y_i1, Classical.not_not, nI_clamp, y_ix, y_lt, y_le, y_eq, y_nP, y_nPs, y_ltP, y_ltQ, y_ltPP, y_eqP, y_eqQ, y_eqPP, if_pos, if_neg, ite_true, ite_false, not_true_eq_false, not_false_eq_true, and_true, true_and, and_false, false_and, or_true, true_or, or_false, false_or, j_r_ne, j_r_eq, j_r_nj, r1]
    refine ⟨_, rfl, ⟨⟨?_, ?_, ?_, ?_⟩, fun k hk => ?_, fun j hj => ?_⟩, ?_, ?_⟩
    · unfold y_set; simp (disch := omega) only [j_r_ne, j_r_eq, j_r_nj, y_ue, y_un]
    · unfold y_set; simp (disch := omega) only [j_r_ne, j_r_eq, j_r_nj, y_ue, y_un]
    · unfold y_set; simp (disch := omega) only [j_r_ne, j_r_eq, j_r_nj, y_ue, y_un]
    · unfold y_set; simp (disch := omega) only [j_r_ne, j_r_eq, j_r_nj, y_ue, y_un]
    · unfold y_set at hk ⊢
      simp (disch := omega) only [y_ue, y_un] at hk
      by_cases e : k = R 0
      · subst e; simp (disch := omega) only [j_r_ne, j_r_eq, j_r_nj, y_ue, y_un]; exact ⟨trivial, trivial⟩
      · have := rk k (by omega)
        simp (disch := omega) only [j_r_ne, j_r_eq, j_r_nj, y_ue, y_un]; exact this
    · unfold y_set
      by_cases e : j = i
      · subst e; simp (disch := omega) only [j_r_ne, j_r_eq, j_r_nj, y_ue, y_un, y_nPs]; exact ⟨trivial, trivial⟩
      · have := ri j hj
        simp (disch := omega) only [j_r_ne, j_r_eq, j_r_nj, y_ue, y_un]; exact this
    · exact ((((((((y_fr.refl.si (by omega) (by omega)).si (by omega) (by omega)).si (by omega) (by omega)).si (by omega) (by omega)).si (by omega) (by omega)).si (by omega) (by omega)).si (by omega) (by omega)).si (by omega) (by omega))
    · simp (disch := omega) only [j_r_ne, j_r_eq, j_r_nj]
  · simp only [if_neg h]
    refine ⟨σ, ?_, hr, y_fr.refl, rfl⟩
    simp (disch := omega) only [y_lit, y_n1, nI_add, pk_mul, j_lt, j_b1_s, j_b2_s, j_b3_s, j_b0_s, y_bo, y_bo1, y_bo0, y_i0, y_i1, Classical.not_not, nI_clamp, y_ix, y_lt, y_le, y_eq, y_nP, y_nPs, y_ltP, y_ltQ, y_ltPP, y_eqP, y_eqQ, y_eqPP, if_pos, if_neg, ite_true, ite_false, not_true_eq_false, not_false_eq_true, and_true, true_and, and_false, false_and, or_true, true_or, or_false, false_or]
end C
/-! ===== for one coming, and for all ===== -/
def y_mk (hs : Int32) (k : Nat → Nat) : Prop := ∀ h, h < 12 → ((hs >>> (nI h &&& nI 31)) &&& nI 1) = nI (k h) ∧ k h ≤ 1
noncomputable def y_gf (b g q k : Nat → Nat) (i : Nat) (R : Nat → Nat) : Nat → Nat :=
  if k (g (3 * i)) = 1 then
    (if 0 < g (3 * i + 1) ∧ k (g (3 * i + 1) - 1) = 1 then
      (if y_ap b (R 2) (g (3 * i)) ≤ y_ap b (R 2) (g (3 * i + 1) - 1) then y_go2 b g q i (g (3 * i)) (g (3 * i + 1) - 1) R else y_go2 b g q i (g (3 * i + 1) - 1) (g (3 * i)) R)
    else y_go b g q i (g (3 * i)) R)
  else if 0 < g (3 * i + 1) ∧ k (g (3 * i + 1) - 1) = 1 then y_go b g q i (g (3 * i + 1) - 1) R else R
noncomputable def y_rl (b g q k : Nat → Nat) (red : Nat) : Nat → Nat → (Nat → Nat) → Nat → Nat
  | 0, _, R => R
  | m + 1, i, R => y_rl b g q k red m (i + 1) (if g (3 * i + 2) = 0 ∨ red = 1 then y_gf b g q k i R else R)
noncomputable def y_R0 (q : Nat → Nat) : Nat → Nat := fun j => if j = 2 then q 4 else 0
noncomputable def y_run (b g q k : Nat → Nat) (red s : Nat) : Nat → Nat := y_rl b g q k red s 0 (y_R0 q)
theorem y_br.up {b R : Nat → Nat} {m m' : Nat} (h : y_br b R m) (hm : m ≤ m') : y_br b R m' := by
  obtain ⟨b0, b1, b2, b3, b4, b5, b6, b7⟩ := h
  exact ⟨by omega, by omega, b2, b3, by omega, b5, b6, fun j => by have := b7 j; omega⟩
theorem y_go_br {b g q R : Nat → Nat} {s i to m : Nat} (hW : y_W b) (hv : y_vg b s g) (hb : y_br b R m) (hm : m < 120) (hi : i < s) (hto : to < y_ho b) : y_br b (y_go b g q i to R) (m + 1) := by
  have h2 := hW.b2
  have li := hv.2 i hi
  have h60 := hv.1
  unfold y_go
  split
  · exact y_set_br hW hb (by omega) hto (by omega) li.2.2.2.1 (by omega)
  · exact hb.up (by omega)
theorem y_go2_br {b g q R : Nat → Nat} {s i to th m : Nat} (hW : y_W b) (hv : y_vg b s g) (hb : y_br b R m) (hm : m + 1 < 120) (hi : i < s) (hto : to < y_ho b) (hth : th < y_ho b) : y_br b (y_go2 b g q i to th R) (m + 2) := by
  unfold y_go2
  split
  · exact y_go_br hW hv (y_go_br hW hv hb (by omega) hi hto) hm hi hth
  · exact hb.up (by omega)
theorem y_gf_br {b g q k R : Nat → Nat} {s i m : Nat} (hW : y_W b) (hv : y_vg b s g) (hb : y_br b R m) (hm : m + 1 < 120) (hi : i < s) : y_br b (y_gf b g q k i R) (m + 2) := by
  have li := hv.2 i hi
  unfold y_gf
  split
  · split
    · split
      · exact y_go2_br hW hv hb hm hi li.1 (by omega)
      · exact y_go2_br hW hv hb hm hi (by omega) li.1
    · exact (y_go_br hW hv hb (by omega) hi li.1).up (by omega)
  · split
    · exact (y_go_br hW hv hb (by omega) hi (by omega)).up (by omega)
    · exact hb.up (by omega)
theorem y_rl_br {b g q k : Nat → Nat} {s red : Nat} (hW : y_W b) (hv : y_vg b s g) : ∀ m i R, i + m ≤ s → y_br b R (2 * i) → y_br b (y_rl b g q k red m i R) (2 * (i + m)) := by
  have hs := hv.1
  intro m
  induction m with
  | zero => intro i R _ h; exact h
  | succ m ih =>
    intro i R h hb
    unfold y_rl
    rw [show i + (m + 1) = i + 1 + m from by omega]
    refine ih (i + 1) _ (by omega) ?_
    split
    · exact y_gf_br (m := 2 * i) hW hv hb (by omega) (by omega)
    · exact hb.up (by omega)
theorem y_R0_br {b q : Nat → Nat} (hq : y_vq b q) : y_br b (y_R0 q) (2 * 0) := by
  have h := hq.2.2.2.2
  refine ⟨Nat.zero_le _, Nat.zero_le _, h, Nat.zero_le _, Nat.zero_le _, fun k hk => absurd hk (by show ¬ k < 0; omega), fun j => ?_, fun j => ?_⟩
  · unfold y_R0; rw [if_neg (by omega)]; omega
  · unfold y_R0; rw [if_neg (by omega)]; omega
theorem y_run_br {b g q k : Nat → Nat} {s red : Nat} (hW : y_W b) (hv : y_vg b s g) (hq : y_vq b q) : y_br b (y_run b g q k red s) 120 := by
  have hs := hv.1
  exact (y_rl_br hW hv s 0 _ (by omega) (y_R0_br hq)).up (by omega)
section C
variable {σ : j_G} {b g q k R : Nat → Nat} {s a m i : Nat} {hs : Int32}
theorem yc_am0 (hk : y_mk hs k) {h : Nat} (hh : h < 12) : f_X9_among (nI h) hs = nP (if k h = 1 then h + 1 else 0) := by
  obtain ⟨k1, k2⟩ := hk h hh
  unfold f_X9_among
  simp (disch := omega) only [y_lit, y_n1, nI_add, pk_mul, j_lt, j_b1_s, j_b2_s, j_b3_s, j_b0_s, y_bo, y_bo1, y_bo0, y_i0, y_i1, Classical.not_not, nI_clamp, y_ix, y_lt, y_le, y_eq, y_nP, y_nPs, y_ltP, y_ltQ, y_ltPP, y_eqP, y_eqQ, y_eqPP, if_pos, if_neg, ite_true, ite_false, not_true_eq_false, not_false_eq_true, and_true, true_and, and_false, false_and, or_true, true_or, or_false, false_or]
  rw [k1]
  by_cases e : k h = 1
  · simp (disch := omega) only [y_lit, y_n1, nI_add, pk_mul, j_lt, j_b1_s, j_b2_s, j_b3_s, j_b0_s, y_bo, y_bo1, y_bo0, y_i0, y_i1, Classical.not_not, nI_clamp, y_ix, y_lt, y_le, y_eq, y_nP, y_nPs, y_ltP, y_ltQ, y_ltPP, y_eqP, y_eqQ, y_eqPP, if_pos, if_neg, ite_true, ite_false, not_true_eq_false, not_false_eq_true, and_true, true_and, and_false, false_and, or_true, true_or, or_false, false_or]
  · simp (disch := omega) only [y_lit, y_n1, nI_add, pk_mul, j_lt, j_b1_s, j_b2_s, j_b3_s, j_b0_s, y_bo, y_bo1, y_bo0, y_i0, y_i1, Classical.not_not, nI_clamp, y_ix, y_lt, y_le, y_eq, y_nP, y_nPs, y_ltP, y_ltQ, y_ltPP, y_eqP, y_eqQ, y_eqPP, if_pos, if_neg, ite_true, ite_false, not_true_eq_false, not_false_eq_true, and_true, true_and, and_false, false_and, or_true, true_or, or_false, false_or]
theorem yc_am1 (hk : y_mk hs k) {o : Nat} (ho : o ≤ 12) : f_X9_among (nP o) hs = nP (if 0 < o ∧ k (o - 1) = 1 then o else 0) := by
  unfold f_X9_among
  by_cases z : o = 0
  · subst z; simp (disch := omega) only [y_lit, y_n1, nI_add, pk_mul, j_lt, j_b1_s, j_b2_s, j_b3_s, j_b0_s, y_bo, y_bo1, y_bo0, y_i0, y_i1, Classical.not_not, nI_clamp, y_ix, y_lt, y_le, y_eq, y_nP, y_nPs, y_ltP, y_ltQ, y_ltPP, y_eqP, y_eqQ, y_eqPP, if_pos, if_neg, ite_true, ite_false, not_true_eq_false, not_false_eq_true, and_true, true_and, and_false, false_and, or_true, true_or, or_false, false_or, Nat.lt_irrefl]
  · obtain ⟨o, rfl⟩ : ∃ o', o = o' + 1 := ⟨o - 1, by omega⟩
    obtain ⟨k1, k2⟩ := hk o (by omega)
    rw [y_nPs]
    simp (disch := omega) only [y_lit, y_n1, nI_add, pk_mul, j_lt, j_b1_s, j_b2_s, j_b3_s, j_b0_s, y_bo, y_bo1, y_bo0, y_i0, y_i1, Classical.not_not, nI_clamp, y_ix, y_lt, y_le, y_eq, y_nP, y_nPs, y_ltP, y_ltQ, y_ltPP, y_eqP, y_eqQ, y_eqPP, if_pos, if_neg, ite_true, ite_false, not_true_eq_false, not_false_eq_true, and_true, true_and, and_false, false_and, or_true, true_or, or_false, false_or, Nat.add_sub_cancel]
    rw [k1]
    by_cases e : k o = 1
    · simp (disch := omega) only [y_lit, y_n1, nI_add, pk_mul, j_lt, j_b1_s, j_b2_s, j_b3_s, j_b0_s, y_bo, y_bo1, y_bo0, y_i0, y_i1, Classical.not_not, nI_clamp, y_ix, y_lt, y_le, y_eq, y_nP, y_nPs, y_ltP, y_ltQ, y_ltPP, y_eqP, y_eqQ, y_eqPP, if_pos, if_neg, ite_true, ite_false, not_true_eq_false, not_false_eq_true, and_true, true_and, and_false, false_and, or_true, true_or, or_false, false_or]
    · simp (disch := omega) only [y_lit, y_n1, nI_add, pk_mul, j_lt, j_b1_s, j_b2_s, j_b3_s, j_b0_s, y_bo, y_bo1, y_bo0, y_i0, y_i1, Classical.not_not, nI_clamp, y_ix, y_lt, y_le, y_eq, y_nP, y_nPs, y_ltP, y_ltQ, y_ltPP, y_eqP, y_eqQ, y_eqPP, if_pos, if_neg, ite_true, ite_false, not_true_eq_false, not_false_eq_true, and_true, true_and, and_false, false_and, or_true, true_or, or_false, false_or]
theorem yc_go2 {x y : Nat} (hN : y_N σ b) (hW : y_W b) (h9 : 0 < b 9) (hc : y_cg σ b s g) (hv : y_vg b s g) (hp : y_cp σ a q) (ha : a < 30) (hq : y_vq b q) (hr : y_cr σ R s) (hb : y_br b R m) (hm : m + 1 < 120) (hi : i < s) (hx : x < y_ho b) (hy : y < y_ho b) : ∃ σ', (j_b2 (f_X9_strike 30 26 a 33 34 31 32 (nI i) (nI x) σ) fun v10 σ9 =>
  if (¬ v10 = nI 0) ∧ (¬ nI y = nP 0) then (j_b2 (f_X9_strike 30 26 a 33 34 31 32 (nI i) (nI y) σ9) fun v12 σ11 =>
  some σ11) else (some σ9)) = some σ' ∧ y_cr σ' (y_go2 b g q i x y R) s ∧ y_fr 30 34 σ σ' ∧ σ'.1 30 4 = σ.1 30 4 := by
  have h4 := hW.ho
  obtain ⟨σ1, e1, e2, e3, e4⟩ := yc_strike hN hW h9 hc hv hp ha hq hr hb (by omega) hi hx
  rw [e1]
  unfold y_go2
  by_cases h : y_at b q i x R ≤ y_last b i
  · have hc1 : y_cg σ1 b s g := by
      unfold y_cg at hc ⊢
      rw [(e3 22 (by omega)).1, (e3 23 (by omega)).1, (e3 24 (by omega)).1, (e3 25 (by omega)).1, (e3 26 (by omega)).1, (e3 27 (by omega)).1]
      exact hc
    have hp1 : y_cp σ1 a q := by unfold y_cp at hp ⊢; rw [(e3 a (by omega)).1]; exact hp
    obtain ⟨σ2, f1, f2, f3, f4⟩ := yc_strike (hN.fr e3 (by omega)) hW h9 hc1 hv hp1 ha hq e2 (y_go_br hW hv hb (by omega) hi hx) hm hi hy
    simp (disch := omega) only [y_lit, y_n1, nI_add, pk_mul, j_lt, j_b1_s, j_b2_s, j_b3_s, j_b0_s, y_bo, y_bo1, y_bo0, y_i0, y_i1, Classical.not_not, nI_clamp, y_ix, y_lt, y_le, y_eq, y_nP, y_nPs, y_ltP, y_ltQ, y_ltPP, y_eqP, y_eqQ, y_eqPP, if_pos, if_neg, ite_true, ite_false, not_true_eq_false, not_false_eq_true, and_true, true_and, and_false, false_and, or_true, true_or, or_false, false_or]
    rw [f1]
    exact ⟨σ2, rfl, f2, e3.trans f3, f4.trans e4⟩
  · rw [if_neg h, if_neg h]
    refine ⟨σ1, ?_, ?_, e3, e4⟩
    · simp (disch := omega) only [y_lit, y_n1, nI_add, pk_mul, j_lt, j_b1_s, j_b2_s, j_b3_s, j_b0_s, y_bo, y_bo1, y_bo0, y_i0, y_i1, Classical.not_not, nI_clamp, y_ix, y_lt, y_le, y_eq, y_nP, y_nPs, y_ltP, y_ltQ, y_ltPP, y_eqP, y_eqQ, y_eqPP, if_pos, if_neg, ite_true, ite_false, not_true_eq_false, not_false_eq_true, and_true, true_and, and_false, false_and, or_true, true_or, or_false, false_or]
    · unfold y_go at e2; rw [if_neg h] at e2; exact e2
theorem yc_go1 {x : Nat} (hN : y_N σ b) (hW : y_W b) (h9 : 0 < b 9) (hc : y_cg σ b s g) (hv : y_vg b s g) (hp : y_cp σ a q) (ha : a < 30) (hq : y_vq b q) (hr : y_cr σ R s) (hb : y_br b R m) (hm : m + 1 < 120) (hi : i < s) (hx : x < y_ho b) : ∃ σ', (j_b2 (f_X9_strike 30 26 a 33 34 31 32 (nI i) (nI x) σ) fun v10 σ9 =>
  if (¬ v10 = nI 0) ∧ False then (j_b2 (f_X9_strike 30 26 a 33 34 31 32 (nI i) (nP 0) σ9) fun v12 σ11 =>
  some σ11) else (some σ9)) = some σ' ∧ y_cr σ' (y_go b g q i x R) s ∧ y_fr 30 34 σ σ' ∧ σ'.1 30 4 = σ.1 30 4 := by
  obtain ⟨σ1, e1, e2, e3, e4⟩ := yc_strike hN hW h9 hc hv hp ha hq hr hb (by omega) hi hx
  rw [e1]
  refine ⟨σ1, ?_, e2, e3, e4⟩
  simp (disch := omega) only [y_lit, y_n1, nI_add, pk_mul, j_lt, j_b1_s, j_b2_s, j_b3_s, j_b0_s, y_bo, y_bo1, y_bo0, y_i0, y_i1, Classical.not_not, nI_clamp, y_ix, y_lt, y_le, y_eq, y_nP, y_nPs, y_ltP, y_ltQ, y_ltPP, y_eqP, y_eqQ, y_eqPP, if_pos, if_neg, ite_true, ite_false, not_true_eq_false, not_false_eq_true, and_true, true_and, and_false, false_and, or_true, true_or, or_false, false_or]
theorem yc_goFor (hN : y_N σ b) (hW : y_W b) (h9 : 0 < b 9) (hc : y_cg σ b s g) (hv : y_vg b s g) (hp : y_cp σ a q) (ha : a < 30) (hq : y_vq b q) (hk : y_mk hs k) (hr : y_cr σ R s) (hb : y_br b R m) (hm : m + 1 < 120) (hi : i < s) : ∃ σ', f_X9_goFor 23 24 30 26 a 33 34 31 32 (nI i) hs σ = some σ' ∧ y_cr σ' (y_gf b g q k i R) s ∧ y_fr 30 34 σ σ' ∧ σ'.1 30 4 = σ.1 30 4 := by
  have h4 := hW.ho
  have h60 := hv.1
  have li := hv.2 i hi
  have ci := hc.2 i hi
  have b2 := hb.2.2.1
  unfold f_X9_goFor y_gf
  rw [y_m1, y_lit]
  simp (disch := omega) only [nI_clamp, ci.1, ci.2.1, y_ix, j_lt, hr.1.2.2.1, yc_am0 hk, yc_am1 hk]
  generalize hA : g (3 * i) = A at *
  generalize hO : g (3 * i + 1) = O at *
  by_cases c1 : k A = 1
  · by_cases c2 : 0 < O ∧ k (O - 1) = 1
    · obtain ⟨O, rfl⟩ : ∃ o', O = o' + 1 := ⟨O - 1, by omega⟩
      rw [Nat.add_sub_cancel] at c2
      simp only [if_pos c1, if_pos c2, y_nPs, Nat.add_sub_cancel]
      rw [yc_apart hN hW h9 (a := R 2) (c := O) (by omega) (by omega), yc_apart hN hW h9 (a := R 2) (c := A) (by omega) (by omega)]
      have hx := y_ap_bd (b := b) (a := R 2) (c := O) (by omega) (by omega)
      have hy := y_ap_bd (b := b) (a := R 2) (c := A) (by omega) (by omega)
      by_cases c3 : y_ap b (R 2) A ≤ y_ap b (R 2) O
      · rw [if_pos c3]
        have e1 : ¬ nI A = nP 0 := by rw [y_eqQ (by omega) (by omega)]; omega
        have e2 : ¬ nI O = nP 0 := by rw [y_eqQ (by omega) (by omega)]; omega
        have e3 : ¬ nI (y_ap b (R 2) O) < nI (y_ap b (R 2) A) := by rw [y_lt (by omega) (by omega)]; omega
        simp only [y_lit, if_pos e1, if_pos e2, j_b1_s, if_neg e3, not_true_eq_false, if_false]
        exact yc_go2 hN hW h9 hc hv hp ha hq hr hb hm hi li.1 (by omega)
      · rw [if_neg c3]
        have e1 : ¬ nI A = nP 0 := by rw [y_eqQ (by omega) (by omega)]; omega
        have e2 : ¬ nI O = nP 0 := by rw [y_eqQ (by omega) (by omega)]; omega
        have e3 : nI (y_ap b (R 2) O) < nI (y_ap b (R 2) A) := by rw [y_lt (by omega) (by omega)]; omega
        simp only [y_lit, if_pos e1, if_pos e2, j_b1_s, if_pos e3]
        have e4 : ¬ nI 1 = nI 0 := by decide
        simp only [if_pos e4, if_pos e2]
        exact yc_go2 hN hW h9 hc hv hp ha hq hr hb hm hi (by omega) li.1
    · simp only [if_pos c1, if_neg c2, y_nPs]
      have e1 : ¬ nI A = nP 0 := by rw [y_eqQ (by omega) (by omega)]; omega
      simp only [y_lit, if_pos e1, j_b1_s, not_true_eq_false, if_false]
      exact yc_go1 hN hW h9 hc hv hp ha hq hr hb hm hi li.1
  · by_cases c2 : 0 < O ∧ k (O - 1) = 1
    · obtain ⟨O, rfl⟩ : ∃ o', O = o' + 1 := ⟨O - 1, by omega⟩
      rw [Nat.add_sub_cancel] at c2
      simp only [if_neg c1, if_pos c2, y_nPs, Nat.add_sub_cancel]
      have e2 : ¬ nI O = nP 0 := by rw [y_eqQ (by omega) (by omega)]; omega
      have e4 : ¬ nI 1 = nI 0 := by decide
      simp only [y_lit, not_true_eq_false, if_false, j_b1_s, if_pos e4, if_pos e2]
      exact yc_go1 (x := O) hN hW h9 hc hv hp ha hq hr hb hm hi (by omega)
    · simp only [if_neg c1, if_neg c2]
      have e4 : ¬ nI 1 = nI 0 := by decide
      simp only [y_lit, not_true_eq_false, if_false, j_b1_s, if_pos e4]
      exact ⟨σ, rfl, hr, y_fr.refl, rfl⟩
end C
/-! ===== all comings, the class ===== -/
theorem y_cg.fr {σ σ' : j_G} {b g : Nat → Nat} {s lo hi : Nat} (h : y_cg σ b s g) (hf : y_fr lo hi σ σ') (hl : 28 ≤ lo) : y_cg σ' b s g := by
  unfold y_cg at *
  rw [(hf 22 (by omega)).1, (hf 23 (by omega)).1, (hf 24 (by omega)).1, (hf 25 (by omega)).1, (hf 26 (by omega)).1, (hf 27 (by omega)).1]
  exact h
theorem y_cp.fr {σ σ' : j_G} {q : Nat → Nat} {a lo hi : Nat} (h : y_cp σ a q) (hf : y_fr lo hi σ σ') (hl : a < lo ∨ hi < a) : y_cp σ' a q := by
  unfold y_cp at *
  rw [(hf a hl).1]
  exact h
section C
variable {b g q k : Nat → Nat} {s a : Nat} {hs : Int32}
theorem yc_begin_l {R : Nat → Nat} (hsz : s ≤ 60) : ∀ m i n σ, i + m = s → m < n → σ.1 22 0 = nI s → (∀ j, j < i → σ.1 31 j = nP 0 ∧ σ.1 32 j = nI 0) → ∃ σ', p_X9_begin_30 22 31 32 n (nI i) σ = some σ' ∧ (∀ j, j < s → σ'.1 31 j = nP 0 ∧ σ'.1 32 j = nI 0) ∧ y_fr 31 32 σ σ' := by
  intro m
  induction m with
  | zero =>
    intro i n σ h hn h0 hj
    obtain ⟨n, rfl⟩ := y_pos hn
    refine ⟨σ, ?_, fun j hj' => hj j (by omega), y_fr.refl⟩
    unfold p_X9_begin_30; simp (disch := omega) only [y_lit, y_n1, nI_add, pk_mul, j_lt, j_b1_s, j_b2_s, j_b3_s, j_b0_s, y_bo, y_bo1, y_bo0, y_i0, y_i1, Classical.not_not, nI_clamp, y_ix, y_lt, y_le, y_eq, y_nP, y_nPs, y_ltP, y_ltQ, y_ltPP, y_eqP, y_eqQ, y_eqPP, if_pos, if_neg, ite_true, ite_false, not_true_eq_false, not_false_eq_true, and_true, true_and, and_false, false_and, or_true, true_or, or_false, false_or, h0]
  | succ m ih =>
    intro i n σ h hn h0 hj
    obtain ⟨n, rfl⟩ := y_pos hn
    unfold p_X9_begin_30; simp (disch := omega) only [y_lit, y_n1, nI_add, pk_mul, j_lt, j_b1_s, j_b2_s, j_b3_s, j_b0_s, y_bo, y_bo1, y_bo0, y_i0, y_i1, Classical.not_not, nI_clamp, y_ix, y_lt, y_le, y_eq, y_nP, y_nPs, y_ltP, y_ltQ, y_ltPP, y_eqP, y_eqQ, y_eqPP, if_pos, if_neg, ite_true, ite_false, not_true_eq_false, not_false_eq_true, and_true, true_and, and_false, false_and, or_true, true_or, or_false, false_or, h0]
    have f : y_fr 31 32 σ (j_si (j_si σ 31 i (nP 0)) 32 i (nI 0)) := (y_fr.refl.si (by omega) (by omega)).si (by omega) (by omega)
    obtain ⟨σ', g1, g2, g3⟩ := ih (i + 1) n (j_si (j_si σ 31 i (nP 0)) 32 i (nI 0)) (by omega) (by omega) (by simp (disch := omega) only [j_r_ne, j_r_eq, j_r_nj, h0]) (fun j hj' => by
      by_cases e : j = i
      · subst e; simp (disch := omega) only [j_r_ne, j_r_eq, j_r_nj]; exact ⟨trivial, trivial⟩
      · have := hj j (by omega); simp (disch := omega) only [j_r_ne, j_r_eq, j_r_nj]; exact this)
    exact ⟨σ', g1, g2, f.trans g3⟩
theorem yc_begin {σ : j_G} (hsz : s ≤ 60) (ha : a < 30) (h0 : σ.1 22 0 = nI s) (hp : y_cp σ a q) : ∃ σ', f_X9_begin 30 a 22 31 32 σ = some σ' ∧ y_cr σ' (y_R0 q) s ∧ σ'.1 30 4 = nI 0 ∧ y_fr 30 34 σ σ' := by
  have e4 := hp 4 (by omega)
  unfold f_X9_begin
  simp (disch := omega) only [y_lit, y_n1, nI_add, pk_mul, j_lt, j_b1_s, j_b2_s, j_b3_s, j_b0_s, y_bo, y_bo1, y_bo0, y_i0, y_i1, Classical.not_not, nI_clamp, y_ix, y_lt, y_le, y_eq, y_nP, y_nPs, y_ltP, y_ltQ, y_ltPP, y_eqP, y_eqQ, y_eqPP, if_pos, if_neg, ite_true, ite_false, not_true_eq_false, not_false_eq_true, and_true, true_and, and_false, false_and, or_true, true_or, or_false, false_or, j_r_ne, j_r_eq, j_r_nj, e4]
  have f : y_fr 30 34 σ (j_si (j_si (j_si (j_si (j_si σ 30 0 (nI 0)) 30 4 (nI 0)) 30 1 (nI 0)) 30 8 (nI 0)) 30 7 (nI (q 4))) := (((((y_fr.refl.si (by omega) (by omega)).si (by omega) (by omega)).si (by omega) (by omega)).si (by omega) (by omega)).si (by omega) (by omega))
  obtain ⟨σ', g1, g2, g3⟩ := yc_begin_l (R := q) hsz s 0 j_F (j_si (j_si (j_si (j_si (j_si σ 30 0 (nI 0)) 30 4 (nI 0)) 30 1 (nI 0)) 30 8 (nI 0)) 30 7 (nI (q 4))) (by omega) (y_F (by omega)) (by simp (disch := omega) only [j_r_ne, j_r_eq, j_r_nj, h0]) (fun j hj => absurd hj (by omega))
  rw [g1]
  refine ⟨σ', rfl, ⟨⟨?_, ?_, ?_, ?_⟩, fun j hj => absurd hj (Nat.not_lt_zero _), fun j hj => ?_⟩, ?_, f.trans (g3.wide (by omega) (by omega))⟩
  · rw [g3.i 30 0 (by omega)]; simp (disch := omega) only [j_r_ne, j_r_eq, j_r_nj]; rfl
  · rw [g3.i 30 1 (by omega)]; simp (disch := omega) only [j_r_ne, j_r_eq, j_r_nj]; rfl
  · rw [g3.i 30 7 (by omega)]; simp (disch := omega) only [j_r_ne, j_r_eq, j_r_nj]; rfl
  · rw [g3.i 30 8 (by omega)]; simp (disch := omega) only [j_r_ne, j_r_eq, j_r_nj]; rfl
  · have z1 : y_R0 q (1000 + 2 * j) = 0 := by unfold y_R0; rw [if_neg (by omega)]
    have z2 : y_R0 q (1001 + 2 * j) = 0 := by unfold y_R0; rw [if_neg (by omega)]
    rw [z1, z2]; exact g2 j hj
  · rw [g3.i 30 4 (by omega)]; simp (disch := omega) only [j_r_ne, j_r_eq, j_r_nj]
theorem yc_good_l (hW : y_W b) (h9 : 0 < b 9) (hv : y_vg b s g) (ha : a < 30) (hq : y_vq b q) (hk : y_mk hs k) : ∀ m i n σ R, i + m = s → m < n → y_N σ b → y_cg σ b s g → y_cp σ a q → y_cr σ R s → y_br b R (2 * i) → ∃ σ', p_X9_good_9 22 25 23 24 30 26 a 33 34 31 32 hs n (nI i) σ = some σ' ∧ y_cr σ' (y_rl b g q k 0 m i R) s ∧ y_fr 30 34 σ σ' := by
  have h60 := hv.1
  intro m
  induction m with
  | zero =>
    intro i n σ R h hn hN hc hp hr hb
    obtain ⟨n, rfl⟩ := y_pos hn
    refine ⟨σ, ?_, hr, y_fr.refl⟩
    unfold p_X9_good_9; simp (disch := omega) only [y_lit, y_n1, nI_add, pk_mul, j_lt, j_b1_s, j_b2_s, j_b3_s, j_b0_s, y_bo, y_bo1, y_bo0, y_i0, y_i1, Classical.not_not, nI_clamp, y_ix, y_lt, y_le, y_eq, y_nP, y_nPs, y_ltP, y_ltQ, y_ltPP, y_eqP, y_eqQ, y_eqPP, if_pos, if_neg, ite_true, ite_false, not_true_eq_false, not_false_eq_true, and_true, true_and, and_false, false_and, or_true, true_or, or_false, false_or, hc.1]
  | succ m ih =>
    intro i n σ R h hn hN hc hp hr hb
    obtain ⟨n, rfl⟩ := y_pos hn
    have ci := (hc.2 i (by omega)).2.2.1
    have vi := (hv.2 i (by omega)).2.2.2.1
    unfold p_X9_good_9 y_rl
    simp (disch := omega) only [y_lit, y_n1, nI_add, pk_mul, j_lt, j_b1_s, j_b2_s, j_b3_s, j_b0_s, y_bo, y_bo1, y_bo0, y_i0, y_i1, Classical.not_not, nI_clamp, y_ix, y_lt, y_le, y_eq, y_nP, y_nPs, y_ltP, y_ltQ, y_ltPP, y_eqP, y_eqQ, y_eqPP, if_pos, if_neg, ite_true, ite_false, not_true_eq_false, not_false_eq_true, and_true, true_and, and_false, false_and, or_true, true_or, or_false, false_or, hc.1, ci]
    by_cases e : g (3 * i + 2) = 0
    · obtain ⟨σ1, f1, f2, f3, _⟩ := yc_goFor hN hW h9 hc hv hp ha hq hk hr hb (by omega) (show i < s by omega)
      rw [if_pos (Or.inl e)]
      simp (disch := omega) only [y_lit, y_n1, nI_add, pk_mul, j_lt, j_b1_s, j_b2_s, j_b3_s, j_b0_s, y_bo, y_bo1, y_bo0, y_i0, y_i1, Classical.not_not, nI_clamp, y_ix, y_lt, y_le, y_eq, y_nP, y_nPs, y_ltP, y_ltQ, y_ltPP, y_eqP, y_eqQ, y_eqPP, if_pos, if_neg, ite_true, ite_false, not_true_eq_false, not_false_eq_true, and_true, true_and, and_false, false_and, or_true, true_or, or_false, false_or]
      rw [f1]
      obtain ⟨σ', g1, g2, g3⟩ := ih (i + 1) n σ1 (y_gf b g q k i R) (by omega) (by omega) (hN.fr f3 (by omega)) (hc.fr f3 (by omega)) (hp.fr f3 (by omega)) f2 (y_gf_br (m := 2 * i) hW hv hb (by omega) (by omega))
      exact ⟨σ', g1, g2, f3.trans g3⟩
    · rw [if_neg (fun z : g (3 * i + 2) = 0 ∨ 0 = 1 => by omega)]
      simp (disch := omega) only [y_lit, y_n1, nI_add, pk_mul, j_lt, j_b1_s, j_b2_s, j_b3_s, j_b0_s, y_bo, y_bo1, y_bo0, y_i0, y_i1, Classical.not_not, nI_clamp, y_ix, y_lt, y_le, y_eq, y_nP, y_nPs, y_ltP, y_ltQ, y_ltPP, y_eqP, y_eqQ, y_eqPP, if_pos, if_neg, ite_true, ite_false, not_true_eq_false, not_false_eq_true, and_true, true_and, and_false, false_and, or_true, true_or, or_false, false_or]
      exact ih (i + 1) n σ R (by omega) (by omega) hN hc hp hr (hb.up (by omega))
theorem yc_good {σ : j_G} (hN : y_N σ b) (hW : y_W b) (h9 : 0 < b 9) (hc : y_cg σ b s g) (hv : y_vg b s g) (hp : y_cp σ a q) (ha : a < 30) (hq : y_vq b q) (hk : y_mk hs k) : ∃ σ', f_X9_good 30 a 22 31 32 25 23 24 26 33 34 hs σ = some (nI (y_run b g q k 0 s 0), σ') ∧ y_cr σ' (y_run b g q k 0 s) s ∧ y_fr 30 34 σ σ' := by
  have h60 := hv.1
  obtain ⟨σ1, f1, f2, _, f3⟩ := yc_begin hv.1 ha hc.1 hp
  obtain ⟨σ2, g1, g2, g3⟩ := yc_good_l hW h9 hv ha hq hk s 0 j_F σ1 (y_R0 q) (by omega) (y_F (by omega)) (hN.fr f3 (by omega)) (hc.fr f3 (by omega)) (hp.fr f3 (by omega)) f2 (y_R0_br hq)
  unfold f_X9_good
  rw [f1]
  simp only [j_b1_s, y_lit]
  rw [g1]
  refine ⟨σ2, ?_, g2, f3.trans g3⟩
  rw [j_b1_s, g2.1.1]
  rfl
end C
/-- what a coming's going changes -/
def y_pr (r i : Nat) (R R' : Nat → Nat) : Prop := (r = 0 → R' 4 = R 4) ∧ (r = 1 → R' 4 + R (1001 + 2 * i) = R 4 + R' (1001 + 2 * i)) ∧ ∀ j, j ≠ i → R' (1001 + 2 * j) = R (1001 + 2 * j) ∧ R' (1000 + 2 * j) = R (1000 + 2 * j)
theorem y_pr.refl {r i : Nat} {R : Nat → Nat} : y_pr r i R R := ⟨fun _ => rfl, fun _ => rfl, fun _ _ => ⟨rfl, rfl⟩⟩
theorem y_pr.trans {r i : Nat} {R R' R'' : Nat → Nat} (h : y_pr r i R R') (h' : y_pr r i R' R'') : y_pr r i R R'' :=
  ⟨fun z => (h'.1 z).trans (h.1 z), fun z => by have := h.2.1 z; have := h'.2.1 z; omega, fun j hj => ⟨(h'.2.2 j hj).1.trans (h.2.2 j hj).1, (h'.2.2 j hj).2.trans (h.2.2 j hj).2⟩⟩
theorem y_go_pr {b g q R : Nat → Nat} {i to m : Nat} (hb : y_br b R m) (hm : m < 200) (hi : i < 60) : y_pr (g (3 * i + 2)) i R (y_go b g q i to R) := by
  have h0 := hb.1
  unfold y_go
  split
  · unfold y_set
    refine ⟨fun z => ?_, fun z => ?_, fun j hj => ⟨?_, ?_⟩⟩
    · simp (disch := omega) only [y_ue, y_un, z]; omega
    · simp (disch := omega) only [y_ue, y_un, z]; omega
    · simp (disch := omega) only [y_ue, y_un]
    · simp (disch := omega) only [y_ue, y_un]
  · exact y_pr.refl
theorem y_go2_pr {b g q R : Nat → Nat} {s i to th m : Nat} (hW : y_W b) (hv : y_vg b s g) (hb : y_br b R m) (hm : m + 1 < 120) (hi : i < s) (hto : to < y_ho b) : y_pr (g (3 * i + 2)) i R (y_go2 b g q i to th R) := by
  have h60 := hv.1
  unfold y_go2
  split
  · exact (y_go_pr hb (by omega) (by omega)).trans (y_go_pr (y_go_br hW hv hb (by omega) hi hto) (by omega) (by omega))
  · exact y_pr.refl
theorem y_gf_pr {b g q k R : Nat → Nat} {s i m : Nat} (hW : y_W b) (hv : y_vg b s g) (hb : y_br b R m) (hm : m + 1 < 120) (hi : i < s) : y_pr (g (3 * i + 2)) i R (y_gf b g q k i R) := by
  have h60 := hv.1
  have li := hv.2 i hi
  unfold y_gf
  split
  · split
    · split
      · exact y_go2_pr hW hv hb hm hi li.1
      · exact y_go2_pr hW hv hb hm hi (by omega)
    · exact y_go_pr hb (by omega) (by omega)
  · split
    · exact y_go_pr hb (by omega) (by omega)
    · exact y_pr.refl
section C
variable {b g q k : Nat → Nat} {s a : Nat} {hs : Int32}
theorem yc_rash_l (hW : y_W b) (h9 : 0 < b 9) (hv : y_vg b s g) (hq : y_vq b q) (hk : y_mk (nP 0) k) : ∀ m i n σ R, i + m = s → m < n → y_N σ b → y_cg σ b s g → y_cp σ 28 q → y_cr σ R s → σ.1 30 4 = nI (R 4) → (∀ j, i ≤ j → R (1001 + 2 * j) = 0) → y_br b R (2 * i) → ∃ σ', p_X9_rashPoints_9 n (nI i) σ = some σ' ∧ y_cr σ' (y_rl b g q k 1 m i R) s ∧ σ'.1 30 4 = nI (y_rl b g q k 1 m i R 4) ∧ y_fr 30 34 σ σ' := by
  have h60 := hv.1
  intro m
  induction m with
  | zero =>
    intro i n σ R h hn hN hc hp hr h4 hz hb
    obtain ⟨n, rfl⟩ := y_pos hn
    refine ⟨σ, ?_, hr, h4, y_fr.refl⟩
    unfold p_X9_rashPoints_9; simp (disch := omega) only [y_lit, y_n1, nI_add, pk_mul, j_lt, j_b1_s, j_b2_s, j_b3_s, j_b0_s, y_bo, y_bo1, y_bo0, y_i0, y_i1, Classical.not_not, nI_clamp, y_ix, y_lt, y_le, y_eq, y_nP, y_nPs, y_ltP, y_ltQ, y_ltPP, y_eqP, y_eqQ, y_eqPP, if_pos, if_neg, ite_true, ite_false, not_true_eq_false, not_false_eq_true, and_true, true_and, and_false, false_and, or_true, true_or, or_false, false_or, hc.1]
  | succ m ih =>
    intro i n σ R h hn hN hc hp hr h4 hz hb
    obtain ⟨n, rfl⟩ := y_pos hn
    have ci := (hc.2 i (by omega)).2.2.1
    have vi := (hv.2 i (by omega)).2.2.2.1
    obtain ⟨σ1, f1, f2, f3, f4⟩ := yc_goFor hN hW h9 hc hv hp (by omega) hq hk hr hb (by omega) (show i < s by omega)
    have pr := y_gf_pr (q := q) (k := k) (i := i) hW hv hb (by omega) (by omega)
    have br := y_gf_br (m := 2 * i) (q := q) (k := k) (i := i) hW hv hb (by omega) (by omega)
    have c1 := hc.fr f3 (by omega)
    have e25 := (c1.2 i (by omega)).2.2.1
    have e32 := (f2.2.2 i (by omega)).2
    have z0 := hz i (by omega)
    unfold p_X9_rashPoints_9 y_rl
    rw [y_m1]
    simp (disch := omega) only [y_lit, y_n1, nI_add, pk_mul, j_lt, j_b1_s, j_b2_s, j_b3_s, j_b0_s, y_bo, y_bo1, y_bo0, y_i0, y_i1, Classical.not_not, nI_clamp, y_ix, y_lt, y_le, y_eq, y_nP, y_nPs, y_ltP, y_ltQ, y_ltPP, y_eqP, y_eqQ, y_eqPP, if_pos, if_neg, ite_true, ite_false, not_true_eq_false, not_false_eq_true, and_true, true_and, and_false, false_and, or_true, true_or, or_false, false_or, hc.1]
    rw [f1]
    simp (disch := omega) only [y_lit, y_n1, nI_add, pk_mul, j_lt, j_b1_s, j_b2_s, j_b3_s, j_b0_s, y_bo, y_bo1, y_bo0, y_i0, y_i1, Classical.not_not, nI_clamp, y_ix, y_lt, y_le, y_eq, y_nP, y_nPs, y_ltP, y_ltQ, y_ltPP, y_eqP, y_eqQ, y_eqPP, if_pos, if_neg, ite_true, ite_false, not_true_eq_false, not_false_eq_true, and_true, true_and, and_false, false_and, or_true, true_or, or_false, false_or, e25, f4, h4, e32]
    have zz : ∀ j, i + 1 ≤ j → y_gf b g q k i R (1001 + 2 * j) = 0 := fun j hj => by rw [(pr.2.2 j (by omega)).1]; exact hz j (by omega)
    by_cases e : g (3 * i + 2) = 0
    · simp (disch := omega) only [y_lit, y_n1, nI_add, pk_mul, j_lt, j_b1_s, j_b2_s, j_b3_s, j_b0_s, y_bo, y_bo1, y_bo0, y_i0, y_i1, Classical.not_not, nI_clamp, y_ix, y_lt, y_le, y_eq, y_nP, y_nPs, y_ltP, y_ltQ, y_ltPP, y_eqP, y_eqQ, y_eqPP, if_pos, if_neg, ite_true, ite_false, not_true_eq_false, not_false_eq_true, and_true, true_and, and_false, false_and, or_true, true_or, or_false, false_or]
      have p4 := pr.1 e
      obtain ⟨σ', g1, g2, g3, g4⟩ := ih (i + 1) n σ1 (y_gf b g q k i R) (by omega) (by omega) (hN.fr f3 (by omega)) c1 (hp.fr f3 (by omega)) f2 (by rw [f4, h4, p4]) zz br
      exact ⟨σ', g1, g2, g3, f3.trans g4⟩
    · simp (disch := omega) only [y_lit, y_n1, nI_add, pk_mul, j_lt, j_b1_s, j_b2_s, j_b3_s, j_b0_s, y_bo, y_bo1, y_bo0, y_i0, y_i1, Classical.not_not, nI_clamp, y_ix, y_lt, y_le, y_eq, y_nP, y_nPs, y_ltP, y_ltQ, y_ltPP, y_eqP, y_eqQ, y_eqPP, if_pos, if_neg, ite_true, ite_false, not_true_eq_false, not_false_eq_true, and_true, true_and, and_false, false_and, or_true, true_or, or_false, false_or]
      have p4 := pr.2.1 (by omega)
      have fr : y_fr 30 34 σ1 (j_si σ1 30 4 (nI (R 4 + y_gf b g q k i R (1001 + 2 * i)))) := y_fr.refl.si (by omega) (by omega)
      have fc : y_cr (j_si σ1 30 4 (nI (R 4 + y_gf b g q k i R (1001 + 2 * i)))) (y_gf b g q k i R) s := by
        obtain ⟨⟨r0, r1, r2, r3⟩, rk, ri⟩ := f2
        refine ⟨⟨?_, ?_, ?_, ?_⟩, fun j hj => ?_, fun j hj => ?_⟩
        · simp (disch := omega) only [j_r_ne, j_r_eq, j_r_nj]; exact r0
        · simp (disch := omega) only [j_r_ne, j_r_eq, j_r_nj]; exact r1
        · simp (disch := omega) only [j_r_ne, j_r_eq, j_r_nj]; exact r2
        · simp (disch := omega) only [j_r_ne, j_r_eq, j_r_nj]; exact r3
        · simp (disch := omega) only [j_r_ne, j_r_eq, j_r_nj]; exact rk j hj
        · simp (disch := omega) only [j_r_ne, j_r_eq, j_r_nj]; exact ri j hj
      obtain ⟨σ', g1, g2, g3, g4⟩ := ih (i + 1) n _ (y_gf b g q k i R) (by omega) (by omega) ((hN.fr f3 (by omega)).fr fr (by omega)) (c1.fr fr (by omega)) ((hp.fr f3 (by omega)).fr fr (by omega)) fc (by rw [j_r_eq]; congr 1; omega) zz br
      exact ⟨σ', g1, g2, g3, (f3.trans fr).trans g4⟩
theorem yc_rash {σ : j_G} (hN : y_N σ b) (hW : y_W b) (h9 : 0 < b 9) (hc : y_cg σ b s g) (hv : y_vg b s g) (hp : y_cp σ 28 q) (hq : y_vq b q) (hk : y_mk (nP 0) k) : ∃ σ', f_X9_rashPoints σ = some (nI 10 * (nI (y_run b g q k 1 s 0) - nI (y_run b g q k 1 s 4)) - nI 20 * nI (y_run b g q k 1 s 4), σ') ∧ y_fr 30 34 σ σ' := by
  have h60 := hv.1
  obtain ⟨σ1, f1, f2, f4, f3⟩ := yc_begin hv.1 (by omega) hc.1 hp
  obtain ⟨σ2, g1, g2, g4, g3⟩ := yc_rash_l hW h9 hv hq hk s 0 j_F σ1 (y_R0 q) (by omega) (y_F (by omega)) (hN.fr f3 (by omega)) (hc.fr f3 (by omega)) (hp.fr f3 (by omega)) f2 (by rw [f4]; rfl) (fun j _ => by unfold y_R0; rw [if_neg (by omega)]) (y_R0_br hq)
  unfold f_X9_rashPoints
  rw [f1]
  simp only [j_b1_s, y_lit]
  rw [g1]
  refine ⟨σ2, ?_, f3.trans g3⟩
  rw [j_b1_s, g2.1.1, g4]
  rfl
end C
/-! ===== a run of the reference ===== -/
theorem ym_steps_si {x y v : Int32} {c j : Nat} {σ : j_G} (hc : c ≠ 76) : f_X12_stepsOf x y (j_si σ c j v) = f_X12_stepsOf x y σ := by
  unfold f_X12_stepsOf
  have e : ∀ j', (j_si σ c j v).1 76 j' = σ.1 76 j' := fun j' => j_r_ne (fun z => hc z.symm)
  simp only [e]
theorem y_mg.fr {τ τ' : j_G} {b g : Nat → Nat} {s f h lo hi : Nat} (hg : y_mg τ b s g) (hf : y_fm f h lo hi τ τ') (hl : 19 ≤ f) (hl2 : 85 ≤ lo) : y_mg τ' b s g := by
  unfold y_mg at *
  rw [(hf.2 82 (by omega) (by omega)).1, (hf.2 83 (by omega) (by omega)).1, (hf.2 84 (by omega) (by omega)).1, hf.1 18 (by omega)]
  exact hg
theorem y_mp.fr {τ τ' : j_G} {b q : Nat → Nat} {p f h lo hi : Nat} (hg : y_mp τ b p q) (hf : y_fm f h lo hi τ τ') (hl : 25 ≤ f) : y_mp τ' b p q := by
  unfold y_mp at *
  rw [hf.1 19 (by omega), hf.1 20 (by omega), hf.1 21 (by omega), hf.1 22 (by omega)]
  exact hg
section M
variable {τ : j_G} {b g q R k : Nat → Nat} {s p m i to : Nat}
theorem ym_pace (hM : y_M τ b) (hW : y_W b) (hp : p < b 6) (h0 : b (96 + 5 * p) = q 0) (h2 : b (98 + 5 * p) = q 2) (hq : y_vq b q) {t : Nat} (ht : t < 2 ^ 30) : f_X12_paceIn (nI p) (nI t) τ = some (nI (y_pc q t)) := by
  have h6 := hW.b6
  have q0 := hq.1; have q2 := hq.2.2.1
  have e0 := ym_of hM (p := p) (q := 0) (by omega) (by omega)
  have e2 := ym_of hM (p := p) (q := 2) (by omega) (by omega)
  rw [Nat.add_zero, h0] at e0
  rw [show 96 + 5 * p + 2 = 98 + 5 * p from by omega, h2] at e2
  have := Nat.div_le_self t (q 2)
  unfold f_X12_paceIn y_pc; simp (disch := omega) only [y_lit, y_n1, nI_add, pk_mul, j_lt, j_b1_s, j_b2_s, j_b3_s, j_b0_s, y_bo, y_bo1, y_bo0, y_i0, y_i1, Classical.not_not, nI_clamp, y_ix, y_lt, y_le, y_eq, y_nP, y_nPs, y_ltP, y_ltQ, y_ltPP, y_eqP, y_eqQ, y_eqPP, if_pos, if_neg, ite_true, ite_false, not_true_eq_false, not_false_eq_true, and_true, true_and, and_false, false_and, or_true, true_or, or_false, false_or, e0, e2]
  by_cases z : q 2 = 0
  · simp (disch := omega) only [z, Nat.div_zero, Nat.add_zero, y_lit, y_n1, nI_add, pk_mul, j_lt, j_b1_s, j_b2_s, j_b3_s, j_b0_s, y_bo, y_bo1, y_bo0, y_i0, y_i1, Classical.not_not, nI_clamp, y_ix, y_lt, y_le, y_eq, y_nP, y_nPs, y_ltP, y_ltQ, y_ltPP, y_eqP, y_eqQ, y_eqPP, if_pos, if_neg, ite_true, ite_false, not_true_eq_false, not_false_eq_true, and_true, true_and, and_false, false_and, or_true, true_or, or_false, false_or]
  · simp (disch := omega) only [y_lit, y_n1, nI_add, pk_mul, j_lt, j_b1_s, j_b2_s, j_b3_s, j_b0_s, y_bo, y_bo1, y_bo0, y_i0, y_i1, Classical.not_not, nI_clamp, y_ix, y_lt, y_le, y_eq, y_nP, y_nPs, y_ltP, y_ltQ, y_ltPP, y_eqP, y_eqQ, y_eqPP, if_pos, if_neg, ite_true, ite_false, not_true_eq_false, not_false_eq_true, and_true, true_and, and_false, false_and, or_true, true_or, or_false, false_or, pk_div]
theorem ym_awareOf (hg : y_mg τ b s g) (hv : y_vg b s g) (hp : y_mp τ b p q) (hq : y_vq b q) (hW : y_W b) (hi : i < s) : f_X12_awareOf (nI i) τ = some (nI (y_aw b q i)) := by
  have hs := hv.1
  have h2 := hW.b2
  have h1 := hq.2.1; have h3 := hq.2.2.2.1
  have e1 := hp.2.1; have e3 := hp.2.2.1
  have ei := (hg.2 i hi).2.2.2.1
  have li := (hv.2 i hi).2.2.2.2.2
  have le := y_last_le hW i
  unfold f_X12_awareOf y_aw
  simp (disch := omega) only [y_lit, y_n1, nI_add, pk_mul, j_lt, j_b1_s, j_b2_s, j_b3_s, j_b0_s, y_bo, y_bo1, y_bo0, y_i0, y_i1, Classical.not_not, nI_clamp, y_ix, y_lt, y_le, y_eq, y_nP, y_nPs, y_ltP, y_ltQ, y_ltPP, y_eqP, y_eqQ, y_eqPP, if_pos, if_neg, ite_true, ite_false, not_true_eq_false, not_false_eq_true, and_true, true_and, and_false, false_and, or_true, true_or, or_false, false_or, e1, e3, ei]
  by_cases z : q 3 = 0
  · simp (disch := omega) only [y_lit, y_n1, nI_add, pk_mul, j_lt, j_b1_s, j_b2_s, j_b3_s, j_b0_s, y_bo, y_bo1, y_bo0, y_i0, y_i1, Classical.not_not, nI_clamp, y_ix, y_lt, y_le, y_eq, y_nP, y_nPs, y_ltP, y_ltQ, y_ltPP, y_eqP, y_eqQ, y_eqPP, if_pos, if_neg, ite_true, ite_false, not_true_eq_false, not_false_eq_true, and_true, true_and, and_false, false_and, or_true, true_or, or_false, false_or]
  · by_cases y : i < q 3
    · simp (disch := omega) only [y_lit, y_n1, nI_add, pk_mul, j_lt, j_b1_s, j_b2_s, j_b3_s, j_b0_s, y_bo, y_bo1, y_bo0, y_i0, y_i1, Classical.not_not, nI_clamp, y_ix, y_lt, y_le, y_eq, y_nP, y_nPs, y_ltP, y_ltQ, y_ltPP, y_eqP, y_eqQ, y_eqPP, if_pos, if_neg, ite_true, ite_false, not_true_eq_false, not_false_eq_true, and_true, true_and, and_false, false_and, or_true, true_or, or_false, false_or, y_pI]
    · have ej := (hg.2 (i - q 3) (by omega)).2.2.2.1
      have lj := (hv.2 (i - q 3) (by omega)).2.2.2.2.2
      have lf := y_last_le hW (i - q 3)
      simp (disch := omega) only [y_lit, y_n1, nI_add, pk_mul, j_lt, j_b1_s, j_b2_s, j_b3_s, j_b0_s, y_bo, y_bo1, y_bo0, y_i0, y_i1, Classical.not_not, nI_clamp, y_ix, y_lt, y_le, y_eq, y_nP, y_nPs, y_ltP, y_ltQ, y_ltPP, y_eqP, y_eqQ, y_eqPP, if_pos, if_neg, ite_true, ite_false, not_true_eq_false, not_false_eq_true, and_true, true_and, and_false, false_and, or_true, true_or, or_false, false_or, pk_sub, ej, y_pI]
theorem ym_goes (hM : y_M τ b) (hW : y_W b) (h9 : 0 < b 9) (hg : y_mg τ b s g) (hv : y_vg b s g) (hp : y_mp τ b p q) (hq : y_vq b q) (hr : y_mr τ R (i + 1)) (hb : y_br b R m) (hm : m < 120) (hi : i < s) (hto : to < y_ho b) : ∃ τ', f_X12_goes (nI i) (nI to) τ = some ((if y_at b q i to R ≤ y_last b i then nI 1 else nI 0), τ') ∧ y_mr τ' (y_go b g q i to R) (i + 1) ∧ y_fm 29 33 85 88 τ τ' := by
  have hs := hv.1
  have h2 := hW.b2
  have h4 := hW.ho
  have h6 := hW.b6
  have li := (hv.2 i hi).2.2.2.2.2
  have ri1 := (hv.2 i hi).2.2.2.1
  have le := y_last_le hW i
  obtain ⟨b0, b1, b2, b3, b4, b5, b6, b7⟩ := id hb
  obtain ⟨k1, k2, k3⟩ := y_at_bd hW hq hb hto (i := i) (by omega)
  have h1 := y_aw_bd hq (i := i)
  obtain ⟨⟨r0, r1, r2, r3, r4⟩, rk, ri⟩ := id hr
  have rb := b7 i
  have gi := hg.2 i hi
  have h5 := y_ap_bd (b := b) (a := R 2) (c := to) (by omega) (by omega)
  unfold f_X12_goes
  rw [ym_awareOf hg hv hp hq hW hi, r3, r2, hp.1]
  simp (disch := omega) only [y_lit, y_n1, nI_add, pk_mul, j_lt, j_b1_s, j_b2_s, j_b3_s, j_b0_s, y_bo, y_bo1, y_bo0, y_i0, y_i1, Classical.not_not, nI_clamp, y_ix, y_lt, y_le, y_eq, y_nP, y_nPs, y_ltP, y_ltQ, y_ltPP, y_eqP, y_eqQ, y_eqPP, if_pos, if_neg, ite_true, ite_false, not_true_eq_false, not_false_eq_true, and_true, true_and, and_false, false_and, or_true, true_or, or_false, false_or, y_mxI]
  rw [ym_stepsOf hM hW h9 (by omega) (by omega)]
  simp (disch := omega) only [y_lit, y_n1, nI_add, pk_mul, j_lt, j_b1_s, j_b2_s, j_b3_s, j_b0_s, y_bo, y_bo1, y_bo0, y_i0, y_i1, Classical.not_not, nI_clamp, y_ix, y_lt, y_le, y_eq, y_nP, y_nPs, y_ltP, y_ltQ, y_ltPP, y_eqP, y_eqQ, y_eqPP, if_pos, if_neg, ite_true, ite_false, not_true_eq_false, not_false_eq_true, and_true, true_and, and_false, false_and, or_true, true_or, or_false, false_or]
  rw [ym_pace hM hW hp.2.2.2.2.1 hp.2.2.2.2.2.1 hp.2.2.2.2.2.2 hq (by omega)]
  have eth : y_mx (R 3) (y_aw b q i) + y_ap b (R 2) to * y_pc q (y_mx (R 3) (y_aw b q i)) = y_th b q (R 2) to (y_mx (R 3) (y_aw b q i)) := rfl
  simp (disch := omega) only [nI_add, pk_mul, j_lt, j_b1_s, gi, y_lt, eth, y_mxI, nI_clamp, y_ix]
  rw [show y_mx (y_th b q (R 2) to (y_mx (R 3) (y_aw b q i))) (y_from b i) = y_at b q i to R from rfl]
  unfold y_go
  generalize y_at b q i to R = t at *
  by_cases h : t ≤ y_last b i
  · simp only [if_pos h]
    have e2 := (ri i (by omega)).2
    unfold f_X12_inGame
    simp (disch := omega) only [y_lit, y_n1, nI_add, pk_mul, j_lt, j_b1_s, j_b2_s, j_b3_s, j_b0_s, y_bo, y_bo1, y_bo0, y_i0, y_i1, Classical.not_not, nI_clamp, y_ix, y_lt, y_le, y_eq, y_nP, y_nPs, y_ltP, y_ltQ, y_ltPP, y_eqP, y_eqQ, y_eqPP, if_pos, if_neg, ite_true, ite_false, not_true_eq_false, not_false_eq_true, and_true, true_and, and_false, false_and, or_true, true_or, or_false, false_or, j_r_ne, j_r_eq, j_r_nj, r0, r1, r2, r4, e2, gi]
    refine ⟨_, rfl, ⟨⟨?_, ?_, ?_, ?_, ?_⟩, fun k hk => ?_, fun j hj => ?_⟩, ?_⟩
    · unfold y_set; simp (disch := omega) only [j_r_ne, j_r_eq, j_r_nj, y_ue, y_un]
    · unfold y_set; simp (disch := omega) only [j_r_ne, j_r_eq, j_r_nj, y_ue, y_un]
    · unfold y_set; simp (disch := omega) only [j_r_ne, j_r_eq, j_r_nj, y_ue, y_un]
    · unfold y_set; simp (disch := omega) only [j_r_ne, j_r_eq, j_r_nj, y_ue, y_un]
    · unfold y_set; simp (disch := omega) only [j_r_ne, j_r_eq, j_r_nj, y_ue, y_un]
    · unfold y_set at hk ⊢
      simp (disch := omega) only [y_ue, y_un] at hk
      by_cases e : k = R 0
      · subst e; simp (disch := omega) only [j_r_ne, j_r_eq, j_r_nj, y_ue, y_un]; exact ⟨trivial, trivial⟩
      · have := rk k (by omega)
        simp (disch := omega) only [j_r_ne, j_r_eq, j_r_nj, y_ue, y_un]; exact this
    · unfold y_set
      by_cases e : j = i
      · subst e; simp (disch := omega) only [j_r_ne, j_r_eq, j_r_nj, y_ue, y_un, y_nPs]; exact ⟨trivial, trivial⟩
      · have := ri j hj
        simp (disch := omega) only [j_r_ne, j_r_eq, j_r_nj, y_ue, y_un]; exact this
    · exact (((((((((y_fm.refl.so (by omega) (by omega)).so (by omega) (by omega)).so (by omega) (by omega)).si (by omega) (by omega) (by omega)).si (by omega) (by omega) (by omega)).si (by omega) (by omega) (by omega)).si (by omega) (by omega) (by omega)).so (by omega) (by omega)).so (by omega) (by omega))
  · simp only [if_neg h]
    refine ⟨τ, ?_, hr, y_fm.refl⟩
    simp (disch := omega) only [y_lit, y_n1, nI_add, pk_mul, j_lt, j_b1_s, j_b2_s, j_b3_s, j_b0_s, y_bo, y_bo1, y_bo0, y_i0, y_i1, Classical.not_not, nI_clamp, y_ix, y_lt, y_le, y_eq, y_nP, y_nPs, y_ltP, y_ltQ, y_ltPP, y_eqP, y_eqQ, y_eqPP, if_pos, if_neg, ite_true, ite_false, not_true_eq_false, not_false_eq_true, and_true, true_and, and_false, false_and, or_true, true_or, or_false, false_or]
end M
/-! ===== for one coming, and for all: the reference ===== -/
section M
variable {b g q R k : Nat → Nat} {s p m i to : Nat} {hs : Int32}
theorem ym_his0 {τ : j_G} (hk : y_mk (τ.1 75 23) k) {h : Nat} (hh : h < 12) : f_X12_isHis (nI h) τ = if k h = 1 then nI 1 else nI 0 := by
  obtain ⟨k1, k2⟩ := hk h hh
  unfold f_X12_isHis
  simp (disch := omega) only [y_lit, y_n1, nI_add, pk_mul, j_lt, j_b1_s, j_b2_s, j_b3_s, j_b0_s, y_bo, y_bo1, y_bo0, y_i0, y_i1, Classical.not_not, nI_clamp, y_ix, y_lt, y_le, y_eq, y_nP, y_nPs, y_ltP, y_ltQ, y_ltPP, y_eqP, y_eqQ, y_eqPP, if_pos, if_neg, ite_true, ite_false, not_true_eq_false, not_false_eq_true, and_true, true_and, and_false, false_and, or_true, true_or, or_false, false_or]
  rw [k1]
  by_cases e : k h = 1
  · simp (disch := omega) only [y_lit, y_n1, nI_add, pk_mul, j_lt, j_b1_s, j_b2_s, j_b3_s, j_b0_s, y_bo, y_bo1, y_bo0, y_i0, y_i1, Classical.not_not, nI_clamp, y_ix, y_lt, y_le, y_eq, y_nP, y_nPs, y_ltP, y_ltQ, y_ltPP, y_eqP, y_eqQ, y_eqPP, if_pos, if_neg, ite_true, ite_false, not_true_eq_false, not_false_eq_true, and_true, true_and, and_false, false_and, or_true, true_or, or_false, false_or]
  · simp (disch := omega) only [y_lit, y_n1, nI_add, pk_mul, j_lt, j_b1_s, j_b2_s, j_b3_s, j_b0_s, y_bo, y_bo1, y_bo0, y_i0, y_i1, Classical.not_not, nI_clamp, y_ix, y_lt, y_le, y_eq, y_nP, y_nPs, y_ltP, y_ltQ, y_ltPP, y_eqP, y_eqQ, y_eqPP, if_pos, if_neg, ite_true, ite_false, not_true_eq_false, not_false_eq_true, and_true, true_and, and_false, false_and, or_true, true_or, or_false, false_or]
theorem ym_his1 {τ : j_G} (hk : y_mk (τ.1 75 23) k) {o : Nat} (ho : o ≤ 12) : f_X12_isHis (nP o) τ = if 0 < o ∧ k (o - 1) = 1 then nI 1 else nI 0 := by
  unfold f_X12_isHis
  by_cases z : o = 0
  · subst z; simp (disch := omega) only [y_lit, y_n1, nI_add, pk_mul, j_lt, j_b1_s, j_b2_s, j_b3_s, j_b0_s, y_bo, y_bo1, y_bo0, y_i0, y_i1, Classical.not_not, nI_clamp, y_ix, y_lt, y_le, y_eq, y_nP, y_nPs, y_ltP, y_ltQ, y_ltPP, y_eqP, y_eqQ, y_eqPP, if_pos, if_neg, ite_true, ite_false, not_true_eq_false, not_false_eq_true, and_true, true_and, and_false, false_and, or_true, true_or, or_false, false_or, Nat.lt_irrefl]
  · obtain ⟨o, rfl⟩ : ∃ o', o = o' + 1 := ⟨o - 1, by omega⟩
    obtain ⟨k1, k2⟩ := hk o (by omega)
    rw [y_nPs]
    simp (disch := omega) only [y_lit, y_n1, nI_add, pk_mul, j_lt, j_b1_s, j_b2_s, j_b3_s, j_b0_s, y_bo, y_bo1, y_bo0, y_i0, y_i1, Classical.not_not, nI_clamp, y_ix, y_lt, y_le, y_eq, y_nP, y_nPs, y_ltP, y_ltQ, y_ltPP, y_eqP, y_eqQ, y_eqPP, if_pos, if_neg, ite_true, ite_false, not_true_eq_false, not_false_eq_true, and_true, true_and, and_false, false_and, or_true, true_or, or_false, false_or, Nat.add_sub_cancel]
    rw [k1]
    by_cases e : k o = 1
    · simp (disch := omega) only [y_lit, y_n1, nI_add, pk_mul, j_lt, j_b1_s, j_b2_s, j_b3_s, j_b0_s, y_bo, y_bo1, y_bo0, y_i0, y_i1, Classical.not_not, nI_clamp, y_ix, y_lt, y_le, y_eq, y_nP, y_nPs, y_ltP, y_ltQ, y_ltPP, y_eqP, y_eqQ, y_eqPP, if_pos, if_neg, ite_true, ite_false, not_true_eq_false, not_false_eq_true, and_true, true_and, and_false, false_and, or_true, true_or, or_false, false_or]
    · simp (disch := omega) only [y_lit, y_n1, nI_add, pk_mul, j_lt, j_b1_s, j_b2_s, j_b3_s, j_b0_s, y_bo, y_bo1, y_bo0, y_i0, y_i1, Classical.not_not, nI_clamp, y_ix, y_lt, y_le, y_eq, y_nP, y_nPs, y_ltP, y_ltQ, y_ltPP, y_eqP, y_eqQ, y_eqPP, if_pos, if_neg, ite_true, ite_false, not_true_eq_false, not_false_eq_true, and_true, true_and, and_false, false_and, or_true, true_or, or_false, false_or]
theorem ym_go2 {x y : Nat} {X Y : Int32} {τ : j_G} (hM : y_M τ b) (hW : y_W b) (h9 : 0 < b 9) (hg : y_mg τ b s g) (hv : y_vg b s g) (hp : y_mp τ b p q) (hq : y_vq b q) (hr : y_mr τ R (i + 1)) (hb : y_br b R m) (hm : m + 1 < 120) (hi : i < s) (hx : x < y_ho b) (hy : y < y_ho b) (eX : X = nI x) (eY : Y = nI y) : ∃ τ', (j_b2 (f_X12_goes (nI i) X τ) fun v12 σ11 =>
  if ¬ v12 = nI 0 then (j_b2 (f_X12_goes (nI i) Y σ11) fun v15 σ14 =>
  some σ14) else (some σ11)) = some τ' ∧ y_mr τ' (y_go2 b g q i x y R) (i + 1) ∧ y_fm 29 33 85 88 τ τ' := by
  subst eX eY
  obtain ⟨τ1, e1, e2, e3⟩ := ym_goes hM hW h9 hg hv hp hq hr hb (by omega) hi hx
  rw [e1]
  unfold y_go2
  by_cases h : y_at b q i x R ≤ y_last b i
  · obtain ⟨τ2, f1, f2, f3⟩ := ym_goes (hM.fr e3 (by omega)) hW h9 (hg.fr e3 (by omega) (by omega)) hv (hp.fr e3 (by omega)) hq e2 (y_go_br hW hv hb (by omega) hi hx) hm hi hy
    simp (disch := omega) only [y_lit, y_n1, nI_add, pk_mul, j_lt, j_b1_s, j_b2_s, j_b3_s, j_b0_s, y_bo, y_bo1, y_bo0, y_i0, y_i1, Classical.not_not, nI_clamp, y_ix, y_lt, y_le, y_eq, y_nP, y_nPs, y_ltP, y_ltQ, y_ltPP, y_eqP, y_eqQ, y_eqPP, if_pos, if_neg, ite_true, ite_false, not_true_eq_false, not_false_eq_true, and_true, true_and, and_false, false_and, or_true, true_or, or_false, false_or]
    rw [f1]
    exact ⟨τ2, rfl, f2, e3.trans f3⟩
  · rw [if_neg h, if_neg h]
    refine ⟨τ1, ?_, ?_, e3⟩
    · simp (disch := omega) only [y_lit, y_n1, nI_add, pk_mul, j_lt, j_b1_s, j_b2_s, j_b3_s, j_b0_s, y_bo, y_bo1, y_bo0, y_i0, y_i1, Classical.not_not, nI_clamp, y_ix, y_lt, y_le, y_eq, y_nP, y_nPs, y_ltP, y_ltQ, y_ltPP, y_eqP, y_eqQ, y_eqPP, if_pos, if_neg, ite_true, ite_false, not_true_eq_false, not_false_eq_true, and_true, true_and, and_false, false_and, or_true, true_or, or_false, false_or]
    · unfold y_go at e2; rw [if_neg h] at e2; exact e2
theorem ym_goesFor {τ : j_G} (hM : y_M τ b) (hW : y_W b) (h9 : 0 < b 9) (hg : y_mg τ b s g) (hv : y_vg b s g) (hp : y_mp τ b p q) (hq : y_vq b q) (hk : y_mk (τ.1 75 23) k) (hr : y_mr τ R (i + 1)) (hb : y_br b R m) (hm : m + 1 < 120) (hi : i < s) : ∃ τ', f_X12_goesFor (nI i) τ = some τ' ∧ y_mr τ' (y_gf b g q k i R) (i + 1) ∧ y_fm 29 33 85 88 τ τ' := by
  have h4 := hW.ho
  have h60 := hv.1
  have li := hv.2 i hi
  have gi := hg.2 i hi
  have b2 := hb.2.2.1
  unfold f_X12_goesFor f_X12_inGame y_gf
  simp (disch := omega) only [y_lit, nI_add, pk_mul, nI_clamp, Nat.add_zero, gi.1, gi.2.1, y_ix, j_lt, j_b1_s, hr.1.2.2.1, ym_his0 hk, ym_his1 hk]
  generalize hA : g (3 * i) = A at *
  generalize hO : g (3 * i + 1) = O at *
  by_cases c1 : k A = 1
  · by_cases c2 : 0 < O ∧ k (O - 1) = 1
    · obtain ⟨O, rfl⟩ : ∃ o', O = o' + 1 := ⟨O - 1, by omega⟩
      rw [Nat.add_sub_cancel] at c2
      have e4 : ¬ nI 1 = nI 0 := by decide
      simp only [if_pos c1, if_pos c2, y_nPs, Nat.add_sub_cancel, e4, or_self, if_false]
      rw [ym_stepsOf hM hW h9 (a := R 2) (c := A) (by omega) (by omega), ym_stepsOf hM hW h9 (a := R 2) (c := O) (by omega) (by omega)]
      have hx := y_ap_bd (b := b) (a := R 2) (c := O) (by omega) (by omega)
      have hy := y_ap_bd (b := b) (a := R 2) (c := A) (by omega) (by omega)
      by_cases c3 : y_ap b (R 2) A ≤ y_ap b (R 2) O
      · simp (disch := omega) only [j_b1_s, y_lt, if_pos, if_neg, y_i0, Classical.not_not]
        exact ym_go2 (x := A) (y := O) hM hW h9 hg hv hp hq hr hb hm hi li.1 (by omega) rfl rfl
      · simp (disch := omega) only [j_b1_s, y_lt, if_pos, if_neg, y_i0, Classical.not_not]
        exact ym_go2 (x := O) (y := A) hM hW h9 hg hv hp hq hr hb hm hi (by omega) li.1 rfl rfl
    · have e4 : ¬ nI 1 = nI 0 := by decide
      simp only [if_pos c1, if_neg c2, y_nPs, e4, false_or, if_true, not_false_eq_true]
      obtain ⟨τ1, f1, f2, f3⟩ := ym_goes hM hW h9 hg hv hp hq hr hb (by omega) hi (show A < y_ho b from li.1)
      rw [f1]
      exact ⟨τ1, rfl, f2, f3⟩
  · by_cases c2 : 0 < O ∧ k (O - 1) = 1
    · obtain ⟨O, rfl⟩ : ∃ o', O = o' + 1 := ⟨O - 1, by omega⟩
      rw [Nat.add_sub_cancel] at c2
      have e4 : ¬ nI 1 = nI 0 := by decide
      simp only [if_neg c1, if_pos c2, y_nPs, Nat.add_sub_cancel, e4, true_or, if_true, not_true_eq_false, not_false_eq_true, if_false]
      obtain ⟨τ1, f1, f2, f3⟩ := ym_goes hM hW h9 hg hv hp hq hr hb (by omega) hi (show O < y_ho b by omega)
      rw [f1]
      exact ⟨τ1, rfl, f2, f3⟩
    · simp only [if_neg c1, if_neg c2, true_or, if_true, not_true_eq_false, if_false]
      exact ⟨τ, rfl, hr, y_fm.refl⟩
theorem ym_run_l {red : Nat} (hW : y_W b) (h9 : 0 < b 9) (hv : y_vg b s g) (hq : y_vq b q) (hred : red ≤ 1) : ∀ m i n τ R, i + m = s → m < n → y_M τ b → y_mg τ b s g → y_mp τ b p q → y_mk (τ.1 75 23) k → τ.1 75 24 = nI red → y_mr τ R i → (∀ j, i ≤ j → R (1001 + 2 * j) = 0 ∧ R (1000 + 2 * j) = 0) → y_br b R (2 * i) → ∃ τ', p_X12_run_30 n (nI i) τ = some τ' ∧ y_mr τ' (y_rl b g q k red m i R) s ∧ y_fm 29 33 85 88 τ τ' := by
  have h60 := hv.1
  intro m
  induction m with
  | zero =>
    intro i n τ R h hn hM hg hp hk hd hr hz hb
    obtain ⟨n, rfl⟩ := y_pos hn
    obtain rfl : i = s := by omega
    refine ⟨τ, ?_, hr, y_fm.refl⟩
    unfold p_X12_run_30; simp (disch := omega) only [y_lit, y_n1, nI_add, pk_mul, j_lt, j_b1_s, j_b2_s, j_b3_s, j_b0_s, y_bo, y_bo1, y_bo0, y_i0, y_i1, Classical.not_not, nI_clamp, y_ix, y_lt, y_le, y_eq, y_nP, y_nPs, y_ltP, y_ltQ, y_ltPP, y_eqP, y_eqQ, y_eqPP, if_pos, if_neg, ite_true, ite_false, not_true_eq_false, not_false_eq_true, and_true, true_and, and_false, false_and, or_true, true_or, or_false, false_or, hg.1]
  | succ m ih =>
    intro i n τ R h hn hM hg hp hk hd hr hz hb
    obtain ⟨n, rfl⟩ := y_pos hn
    have gi := (hg.2 i (by omega)).2.2.1
    have vi := (hv.2 i (by omega)).2.2.2.1
    have hzi := hz i (by omega)
    unfold p_X12_run_30 y_rl f_X12_inGame
    simp (disch := omega) only [y_lit, y_n1, nI_add, pk_mul, j_lt, j_b1_s, j_b2_s, j_b3_s, j_b0_s, y_bo, y_bo1, y_bo0, y_i0, y_i1, Classical.not_not, nI_clamp, y_ix, y_lt, y_le, y_eq, y_nP, y_nPs, y_ltP, y_ltQ, y_ltPP, y_eqP, y_eqQ, y_eqPP, if_pos, if_neg, ite_true, ite_false, not_true_eq_false, not_false_eq_true, and_true, true_and, and_false, false_and, or_true, true_or, or_false, false_or, j_r_ne, j_r_eq, j_r_nj, hg.1, gi, hd]
    have fr : y_fm 29 33 85 88 τ (j_si (j_si τ 85 i (nI 0)) 86 i (nP 0)) := (y_fm.refl.si (by omega) (by omega) (by omega)).si (by omega) (by omega) (by omega)
    have hr1 : y_mr (j_si (j_si τ 85 i (nI 0)) 86 i (nP 0)) R (i + 1) := by
      obtain ⟨⟨r0, r1, r2, r3, r4⟩, rk, ri⟩ := hr
      refine ⟨⟨?_, ?_, ?_, ?_, ?_⟩, fun j hj => ?_, fun j hj => ?_⟩
      · simp (disch := omega) only [j_r_ne, j_r_eq, j_r_nj]; exact r0
      · simp (disch := omega) only [j_r_ne, j_r_eq, j_r_nj]; exact r1
      · simp (disch := omega) only [j_r_ne, j_r_eq, j_r_nj]; exact r2
      · simp (disch := omega) only [j_r_ne, j_r_eq, j_r_nj]; exact r3
      · simp (disch := omega) only [j_r_ne, j_r_eq, j_r_nj]; exact r4
      · simp (disch := omega) only [j_r_ne, j_r_eq, j_r_nj]; exact rk j hj
      · by_cases e : j = i
        · subst e; simp (disch := omega) only [j_r_ne, j_r_eq, j_r_nj, hzi]; exact ⟨trivial, trivial⟩
        · have := ri j (by omega); simp (disch := omega) only [j_r_ne, j_r_eq, j_r_nj]; exact this
    generalize j_si (j_si τ 85 i (nI 0)) 86 i (nP 0) = τ1 at *
    have hM1 := hM.fr fr (by omega)
    have hg1 := hg.fr fr (by omega) (by omega)
    have hp1 := hp.fr fr (by omega)
    have hk1 : y_mk (τ1.1 75 23) k := by rw [fr.1 23 (by omega)]; exact hk
    have hd1 : τ1.1 75 24 = nI red := by rw [fr.1 24 (by omega)]; exact hd
    by_cases e : g (3 * i + 2) = 0 ∨ red = 1
    · rw [if_pos e, if_pos (by omega)]
      obtain ⟨τ2, f1, f2, f3⟩ := ym_goesFor hM1 hW h9 hg1 hv hp1 hq hk1 hr1 hb (by omega) (show i < s by omega)
      have pr := y_gf_pr (q := q) (k := k) (i := i) hW hv hb (by omega) (by omega)
      rw [f1]
      obtain ⟨τ3, g1, g2, g3⟩ := ih (i + 1) n τ2 (y_gf b g q k i R) (by omega) (by omega) (hM1.fr f3 (by omega)) (hg1.fr f3 (by omega) (by omega)) (hp1.fr f3 (by omega)) (by rw [f3.1 23 (by omega)]; exact hk1) (by rw [f3.1 24 (by omega)]; exact hd1) f2 (fun j hj => ⟨by rw [(pr.2.2 j (by omega)).1]; exact (hz j (by omega)).1, by rw [(pr.2.2 j (by omega)).2]; exact (hz j (by omega)).2⟩) (y_gf_br (m := 2 * i) hW hv hb (by omega) (by omega))
      exact ⟨τ3, g1, g2, fr.trans (f3.trans g3)⟩
    · rw [if_neg e, if_neg (by omega)]
      obtain ⟨τ3, g1, g2, g3⟩ := ih (i + 1) n τ1 R (by omega) (by omega) hM1 hg1 hp1 hk1 hd1 hr1 (fun j hj => hz j (by omega)) (hb.up (by omega))
      exact ⟨τ3, g1, g2, fr.trans g3⟩
theorem ym_run {red : Nat} {τ : j_G} (hM : y_M τ b) (hW : y_W b) (h9 : 0 < b 9) (hg : y_mg τ b s g) (hv : y_vg b s g) (hp : y_mp τ b p q) (hq : y_vq b q) (hk : y_mk (τ.1 75 23) k) (hred : red ≤ 1) (hd : τ.1 75 24 = nI red) : ∃ τ', f_X12_run τ = some τ' ∧ y_mr τ' (y_run b g q k red s) s ∧ y_fm 29 33 85 88 τ τ' := by
  have h60 := hv.1
  have e4 := hp.2.2.2.1
  unfold f_X12_run
  simp (disch := omega) only [y_lit, y_n1, nI_add, pk_mul, j_lt, j_b1_s, j_b2_s, j_b3_s, j_b0_s, y_bo, y_bo1, y_bo0, y_i0, y_i1, Classical.not_not, nI_clamp, y_ix, y_lt, y_le, y_eq, y_nP, y_nPs, y_ltP, y_ltQ, y_ltPP, y_eqP, y_eqQ, y_eqPP, if_pos, if_neg, ite_true, ite_false, not_true_eq_false, not_false_eq_true, and_true, true_and, and_false, false_and, or_true, true_or, or_false, false_or, j_r_ne, j_r_eq, j_r_nj, e4]
  have fr : y_fm 29 33 85 88 τ (j_si (j_si (j_si (j_si (j_si τ 75 29 (nI 0)) 75 30 (nI 0)) 75 33 (nI 0)) 75 32 (nI 0)) 75 31 (nI (q 4))) := ((((y_fm.refl.so (by omega) (by omega)).so (by omega) (by omega)).so (by omega) (by omega)).so (by omega) (by omega)).so (by omega) (by omega)
  have hr : y_mr (j_si (j_si (j_si (j_si (j_si τ 75 29 (nI 0)) 75 30 (nI 0)) 75 33 (nI 0)) 75 32 (nI 0)) 75 31 (nI (q 4))) (y_R0 q) 0 := by
    refine ⟨⟨?_, ?_, ?_, ?_, ?_⟩, fun j hj => absurd hj (Nat.not_lt_zero _), fun j hj => absurd hj (Nat.not_lt_zero _)⟩
    · simp (disch := omega) only [j_r_ne, j_r_eq, j_r_nj]; rfl
    · simp (disch := omega) only [j_r_ne, j_r_eq, j_r_nj]; rfl
    · simp (disch := omega) only [j_r_ne, j_r_eq, j_r_nj]; rfl
    · simp (disch := omega) only [j_r_ne, j_r_eq, j_r_nj]; rfl
    · simp (disch := omega) only [j_r_ne, j_r_eq, j_r_nj]; rfl
  generalize j_si (j_si (j_si (j_si (j_si τ 75 29 (nI 0)) 75 30 (nI 0)) 75 33 (nI 0)) 75 32 (nI 0)) 75 31 (nI (q 4)) = τ1 at *
  obtain ⟨τ2, g1, g2, g3⟩ := ym_run_l (k := k) hW h9 hv hq hred s 0 j_F τ1 (y_R0 q) (by omega) (y_F (by omega)) (hM.fr fr (by omega)) (hg.fr fr (by omega) (by omega)) (hp.fr fr (by omega)) (by rw [fr.1 23 (by omega)]; exact hk) (by rw [fr.1 24 (by omega)]; exact hd) hr (fun j _ => ⟨by unfold y_R0; rw [if_neg (by omega)], by unfold y_R0; rw [if_neg (by omega)]⟩) (y_R0_br hq)
  rw [g1]
  exact ⟨τ2, rfl, g2, fr.trans g3⟩
end M
/-! ===== the two objects alike ===== -/
def y_im (σ τ : j_G) (k c c1 c2 c3 c4 c5 c6 c7 : Nat) : Prop := (σ.1 c 0 = nI 0 ∧ τ.1 78 k = nI 0) ∨ (σ.1 c 0 = nI 1 ∧ τ.1 78 k = nI 1 ∧ ∃ b, y_W b ∧ y_cb σ c c1 c2 c3 c4 c5 c6 c7 b ∧ y_mb (fun j => τ.1 77 (116 * k + j)) b)
def y_sl (σ τ : j_G) (s c d : Nat) : Prop := (σ.1 c 0 = nP 0 ∧ τ.1 94 s = nP 0) ∨ ∃ n w, n ≤ 60 ∧ w ≤ 3 ∧ σ.1 c 0 = nI n ∧ τ.1 94 s = nI n ∧ σ.1 c 1 = nI w ∧ τ.1 95 s = nI w ∧ ∀ i, i < n → σ.2 d i = τ.2 96 (60 * s + i)
def y_tp (σ τ : j_G) : Prop := ∃ n, n ≤ 1200 ∧ σ.1 19 0 = nI n ∧ τ.1 75 5 = nI n ∧ ∀ i, i < n → σ.1 20 i = τ.1 79 i ∧ -128 ≤ (τ.1 79 i).toInt ∧ (τ.1 79 i).toInt ≤ 127
def y_ft (σ τ : j_G) : Prop := σ.1 10 1 = τ.1 75 12 ∧ σ.1 10 2 = τ.1 75 13
def y_K (σ τ : j_G) : Prop := (y_im σ τ 0 43 44 45 46 47 48 49 50 ∧ y_im σ τ 1 51 52 53 54 55 56 57 58 ∧ y_im σ τ 2 59 60 61 62 63 64 65 66) ∧ (y_sl σ τ 0 67 68 ∧ y_sl σ τ 1 69 70 ∧ y_sl σ τ 2 71 72 ∧ y_sl σ τ 3 73 74) ∧ y_tp σ τ ∧ y_ft σ τ
def j_Rel (σ τ : j_G) : Prop := ∃ b, y_W b ∧ y_N σ b ∧ y_M τ b ∧ y_K σ τ
theorem y_im.fr {σ τ σ' τ' : j_G} {k c c1 c2 c3 c4 c5 c6 c7 : Nat} (h : y_im σ τ k c c1 c2 c3 c4 c5 c6 c7) (e : ∀ x, x = c ∨ x = c1 ∨ x = c2 ∨ x = c3 ∨ x = c4 ∨ x = c5 ∨ x = c6 ∨ x = c7 → σ'.1 x = σ.1 x) (e1 : τ'.1 77 = τ.1 77) (e2 : τ'.1 78 = τ.1 78) : y_im σ' τ' k c c1 c2 c3 c4 c5 c6 c7 := by
  unfold y_im y_cb at *
  rw [e c (by omega), e c1 (by omega), e c2 (by omega), e c3 (by omega), e c4 (by omega), e c5 (by omega), e c6 (by omega), e c7 (by omega), e1, e2]
  exact h
theorem y_sl.fr {σ τ σ' τ' : j_G} {s c d : Nat} (h : y_sl σ τ s c d) (e : σ'.1 c = σ.1 c) (e' : σ'.2 d = σ.2 d) (e1 : τ'.1 94 = τ.1 94) (e2 : τ'.1 95 = τ.1 95) (e3 : τ'.2 96 = τ.2 96) : y_sl σ' τ' s c d := by
  unfold y_sl at *
  rw [e, e', e1, e2, e3]
  exact h
theorem y_K.fr {σ τ σ' τ' : j_G} (h : y_K σ τ) (h1 : y_fr 22 41 σ σ') (h2 : y_fm 18 42 80 93 τ τ') : y_K σ' τ' := by
  obtain ⟨⟨i0, i1, i2⟩, ⟨s0, s1, s2, s3⟩, ht, hf⟩ := h
  have e77 := (h2.2 77 (by omega) (by omega)).1
  have e78 := (h2.2 78 (by omega) (by omega)).1
  have e94 := (h2.2 94 (by omega) (by omega)).1
  have e95 := (h2.2 95 (by omega) (by omega)).1
  have e96 := (h2.2 96 (by omega) (by omega)).2
  refine ⟨⟨i0.fr (fun x hx => (h1 x (by omega)).1) e77 e78, i1.fr (fun x hx => (h1 x (by omega)).1) e77 e78, i2.fr (fun x hx => (h1 x (by omega)).1) e77 e78⟩,
    ⟨s0.fr (h1 67 (by omega)).1 (h1 68 (by omega)).2 e94 e95 e96, s1.fr (h1 69 (by omega)).1 (h1 70 (by omega)).2 e94 e95 e96, s2.fr (h1 71 (by omega)).1 (h1 72 (by omega)).2 e94 e95 e96, s3.fr (h1 73 (by omega)).1 (h1 74 (by omega)).2 e94 e95 e96⟩, ?_, ?_⟩
  · unfold y_tp at *
    rw [(h1 19 (by omega)).1, (h1 20 (by omega)).1, h2.1 5 (by omega), (h2.2 79 (by omega) (by omega)).1]
    exact ht
  · unfold y_ft at *
    rw [(h1 10 (by omega)).1, h2.1 12 (by omega), h2.1 13 (by omega)]
    exact hf
theorem y_done {σ τ σ' τ' : j_G} (hR : j_Rel σ τ) (h1 : y_fr 22 41 σ σ') (h2 : y_fm 18 42 80 93 τ τ') : j_Rel σ' τ' := by
  obtain ⟨b, hW, hN, hM, hK⟩ := hR
  exact ⟨b, hW, hN.fr h1 (by omega), hM.fr h2 (by omega), hK.fr h1 h2⟩
noncomputable def y_b0 : Nat → Nat := fun j => if 24 ≤ j ∧ j < 96 ∧ j % 3 = 1 then 1 else 0
theorem j_Rel0 : j_Rel j_s0 j_t0 := by
  have e0 : y_b0 0 = 0 := rfl
  have e1 : y_b0 1 = 0 := rfl
  have e2 : y_b0 2 = 0 := rfl
  have e3 : y_b0 3 = 0 := rfl
  have e4 : y_b0 4 = 0 := rfl
  have e5 : y_b0 5 = 0 := rfl
  have e6 : y_b0 6 = 0 := rfl
  have e7 : y_b0 7 = 0 := rfl
  have e8 : y_b0 8 = 0 := rfl
  have e9 : y_b0 9 = 0 := rfl
  refine ⟨y_b0, ?_, ?_, ?_, ⟨Or.inl ⟨rfl, rfl⟩, Or.inl ⟨rfl, rfl⟩, Or.inl ⟨rfl, rfl⟩⟩, ⟨Or.inl ⟨rfl, rfl⟩, Or.inl ⟨rfl, rfl⟩, Or.inl ⟨rfl, rfl⟩, Or.inl ⟨rfl, rfl⟩⟩, ⟨0, by omega, rfl, rfl, fun i hi => absurd hi (by omega)⟩, ⟨rfl, rfl⟩⟩
  · refine ⟨⟨by omega, by omega, by omega, by omega, by omega, by omega, by omega, ?_, by omega⟩, fun _ => ⟨rfl, rfl, rfl, rfl, rfl, rfl, rfl⟩, fun h => absurd h (by omega), fun h => absurd h (by omega), fun _ => rfl, fun k hk => absurd hk (by omega), fun k l h1 h2 => absurd h2 (by omega), fun k hk => absurd hk (by omega), fun k hk => absurd hk (by omega)⟩
    rw [e7]; exact Nat.pow_pos (by omega)
  · exact ⟨⟨rfl, rfl, rfl, rfl, rfl, rfl, rfl, rfl, rfl, rfl⟩, fun h => absurd h (by omega), fun k hk => absurd hk (by omega), fun p q hp => absurd hp (by omega), fun k hk => absurd hk (by omega)⟩
  · intro j hj
    have e : j_t0.1 76 j = nI 0 := rfl
    rw [e]
    unfold y_b0
    split
    · rfl
    · rfl
/-! ===== a player taken, a game dealt ===== -/
noncomputable def y_pq (b : Nat → Nat) (p : Nat) : Nat → Nat := fun j => b (96 + 5 * p + j)
noncomputable def y_k1 : Nat → Nat := fun _ => 1
theorem y_mkC : y_mk (nP 0) y_k1 := by
  have : ∀ h, h < 12 → ((nP 0 >>> (nI h &&& nI 31)) &&& nI 1) = nI 1 := by decide
  exact fun h hh => ⟨this h hh, Nat.le_refl _⟩
theorem y_mkM : y_mk (nI 4095) y_k1 := by
  have : ∀ h, h < 12 → ((nI 4095 >>> (nI h &&& nI 31)) &&& nI 1) = nI 1 := by decide
  exact fun h hh => ⟨this h hh, Nat.le_refl _⟩
theorem y_pqv {b : Nat → Nat} (hW : y_W b) {p : Nat} (hp : p < b 6) : y_vq b (y_pq b p) := by
  have h := hW.pl hp
  unfold y_pq
  refine ⟨h.2.1, ?_, ?_, ?_, ?_⟩
  · show b (96 + 5 * p + 1) ≤ 40; rw [show 96 + 5 * p + 1 = 97 + 5 * p from by omega]; omega
  · show b (96 + 5 * p + 2) ≤ 99; rw [show 96 + 5 * p + 2 = 98 + 5 * p from by omega]; omega
  · show b (96 + 5 * p + 3) ≤ 9; rw [show 96 + 5 * p + 3 = 99 + 5 * p from by omega]; omega
  · show b (96 + 5 * p + 4) < _; rw [show 96 + 5 * p + 4 = 100 + 5 * p from by omega]; omega
theorem yc_trait_si {x y v : Int32} {c j : Nat} {σ : j_G} (hc : c ≠ 4) : f_X2_trait x y (j_si σ c j v) = f_X2_trait x y σ := by
  unfold f_X2_trait
  have e : ∀ j', (j_si σ c j v).1 4 j' = σ.1 4 j' := fun j' => j_r_ne (fun z => hc z.symm)
  simp only [e]
theorem ym_of_si {x y v : Int32} {c j : Nat} {σ : j_G} (hc : c ≠ 76) : f_X12_of x y (j_si σ c j v) = f_X12_of x y σ := by
  unfold f_X12_of
  have e : ∀ j', (j_si σ c j v).1 76 j' = σ.1 76 j' := fun j' => j_r_ne (fun z => hc z.symm)
  simp only [e]
section Z
variable {σ τ : j_G} {b g : Nat → Nat} {p a : Nat}
theorem yc_take (hN : y_N σ b) (hW : y_W b) (hp : p < b 6) (ha : 20 < a) : ∃ σ', f_X6_take a (nI p) σ = some σ' ∧ y_cp σ' a (y_pq b p) ∧ y_fr a a σ σ' := by
  unfold f_X6_take
  simp (disch := omega) only [y_lit, y_n1, nI_add, pk_mul, j_lt, j_b1_s, j_b2_s, j_b3_s, j_b0_s, y_bo, y_bo1, y_bo0, y_i0, y_i1, Classical.not_not, nI_clamp, y_ix, y_lt, y_le, y_eq, y_nP, y_nPs, y_ltP, y_ltQ, y_ltPP, y_eqP, y_eqQ, y_eqPP, if_pos, if_neg, ite_true, ite_false, not_true_eq_false, not_false_eq_true, and_true, true_and, and_false, false_and, or_true, true_or, or_false, false_or, yc_trait_si, yc_trait hN hW hp]
  refine ⟨_, rfl, fun j hj => ?_, ((((y_fr.refl.si (by omega) (by omega)).si (by omega) (by omega)).si (by omega) (by omega)).si (by omega) (by omega)).si (by omega) (by omega)⟩
  obtain rfl | rfl | rfl | rfl | rfl : j = 0 ∨ j = 1 ∨ j = 2 ∨ j = 3 ∨ j = 4 := by omega
  · simp (disch := omega) only [j_r_ne, j_r_eq, j_r_nj]; rfl
  · simp (disch := omega) only [j_r_ne, j_r_eq, j_r_nj]; rfl
  · simp (disch := omega) only [j_r_ne, j_r_eq, j_r_nj]; rfl
  · simp (disch := omega) only [j_r_ne, j_r_eq, j_r_nj]; rfl
  · simp (disch := omega) only [j_r_ne, j_r_eq, j_r_nj]; rfl
theorem ym_told (hM : y_M τ b) (hW : y_W b) (hp : p < b 6) : ∃ τ', f_X12_asTold (nI p) τ = some τ' ∧ y_mp τ' b p (y_pq b p) ∧ τ'.1 75 23 = nI 4095 ∧ τ'.1 75 24 = nI 0 ∧ y_fm 19 24 80 79 τ τ' := by
  have h6 := hW.b6
  unfold f_X12_asTold
  simp (disch := omega) only [y_lit, y_n1, nI_add, pk_mul, j_lt, j_b1_s, j_b2_s, j_b3_s, j_b0_s, y_bo, y_bo1, y_bo0, y_i0, y_i1, Classical.not_not, nI_clamp, y_ix, y_lt, y_le, y_eq, y_nP, y_nPs, y_ltP, y_ltQ, y_ltPP, y_eqP, y_eqQ, y_eqPP, if_pos, if_neg, ite_true, ite_false, not_true_eq_false, not_false_eq_true, and_true, true_and, and_false, false_and, or_true, true_or, or_false, false_or, ym_of_si, ym_of hM]
  refine ⟨_, rfl, ⟨?_, ?_, ?_, ?_, hp, rfl, ?_⟩, ?_, ?_, (((((y_fm.refl.so (by omega) (by omega)).so (by omega) (by omega)).so (by omega) (by omega)).so (by omega) (by omega)).so (by omega) (by omega)).so (by omega) (by omega)⟩
  · simp (disch := omega) only [j_r_ne, j_r_eq, j_r_nj]
  · simp (disch := omega) only [j_r_ne, j_r_eq, j_r_nj]; rfl
  · simp (disch := omega) only [j_r_ne, j_r_eq, j_r_nj]; rfl
  · simp (disch := omega) only [j_r_ne, j_r_eq, j_r_nj]; rfl
  · show b (98 + 5 * p) = b (96 + 5 * p + 2); congr 1; omega
  · simp (disch := omega) only [j_r_ne, j_r_eq, j_r_nj]
  · simp (disch := omega) only [j_r_ne, j_r_eq, j_r_nj]
theorem yc_dealt (hN : y_N σ b) (hW : y_W b) : ∃ σ', f_X4_deal (σ.1 5 1) σ = some σ' ∧ y_cg σ' b (y_gs b) (y_dg b (b 8)) ∧ y_fr 22 27 σ σ' := by
  rw [hN.d1]
  refine yc_deal hN hW ?_
  have := hW.2.2.2.1
  omega
/-- what is there behind makeReady -/
def y_rdy (σ : j_G) (b : Nat → Nat) (p : Nat) : Prop := y_N σ b ∧ y_cg σ b (y_gs b) (y_dg b (b 8)) ∧ y_cp σ 28 (y_pq b p)
theorem yc_ready (hN : y_N σ b) (hW : y_W b) (hp : p < b 6) : ∃ σ', f_X11_makeReady (nI p) σ = some (nI 1, σ') ∧ y_rdy σ' b p ∧ y_fr 22 41 σ σ' := by
  have h6 := hW.b6
  obtain ⟨σ1, e1, e2, e3⟩ := yc_dealt hN hW
  have hN1 := hN.fr e3 (by omega)
  obtain ⟨σ2, f1, f2, f3⟩ := yc_take (a := 28) hN1 hW hp (by omega)
  unfold f_X11_makeReady
  simp (disch := omega) only [y_lit, y_n1, nI_add, pk_mul, j_lt, j_b1_s, j_b2_s, j_b3_s, j_b0_s, y_bo, y_bo1, y_bo0, y_i0, y_i1, Classical.not_not, nI_clamp, y_ix, y_lt, y_le, y_eq, y_nP, y_nPs, y_ltP, y_ltQ, y_ltPP, y_eqP, y_eqQ, y_eqPP, if_pos, if_neg, ite_true, ite_false, not_true_eq_false, not_false_eq_true, and_true, true_and, and_false, false_and, or_true, true_or, or_false, false_or, yc_isPlayer hN hW, y_rn]
  rw [e1, j_b1_s, f1]
  exact ⟨σ2, rfl, ⟨hN1.fr f3 (by omega), e2.fr f3 (by omega), f2⟩, (e3.wide (by omega) (by omega)).trans (f3.wide (by omega) (by omega))⟩
theorem yc_unready (hN : y_N σ b) (hW : y_W b) {x : Int32} (hx : ¬ y_rg x (b 6)) : f_X11_makeReady x σ = some (nI 0, σ) := by
  unfold f_X11_makeReady
  rw [yc_isPlayer hN hW, if_neg hx]
  rfl
/-- the run of one's own -/
noncomputable def y_own (b : Nat → Nat) (p : Nat) : Nat → Nat := y_run b (y_dg b (b 8)) (y_pq b p) y_k1 0 (y_gs b)
theorem yc_runOf (hN : y_N σ b) (hW : y_W b) (hp : p < b 6) : ∃ σ', f_X11_runOf (nI p) σ = some (nI 1, σ') ∧ y_rdy σ' b p ∧ y_cr σ' (y_own b p) (y_gs b) ∧ y_fr 22 41 σ σ' := by
  have h9 := hW.on0 (Or.inr (Or.inr (Or.inr (Or.inl (by omega : 0 < b 6)))))
  obtain ⟨σ1, e1, ⟨e2, e3, e4⟩, e5⟩ := yc_ready hN hW hp
  obtain ⟨σ2, f1, f2, f3⟩ := yc_good e2 hW h9 e3 (y_dg_vg hW _) e4 (by omega) (y_pqv hW hp) y_mkC
  unfold f_X11_runOf
  rw [e1]
  simp only [j_b2_s, y_lit, if_neg (show ¬ nI 1 = nI 0 from by decide)]
  rw [y_n1, f1]
  exact ⟨σ2, rfl, ⟨e2.fr f3 (by omega), e3.fr f3 (by omega), e4.fr f3 (by omega)⟩, f2, e5.trans (f3.wide (by omega) (by omega))⟩
theorem yc_unrun (hN : y_N σ b) (hW : y_W b) {x : Int32} (hx : ¬ y_rg x (b 6)) : f_X11_runOf x σ = some (nI 0, σ) := by
  unfold f_X11_runOf
  rw [yc_unready hN hW hx]
  rfl
/-- what is there behind lay -/
def y_ldy (τ : j_G) (b : Nat → Nat) : Prop := y_M τ b ∧ y_mg τ b (y_gs b) (y_dg b (b 8))
theorem ym_laid (hM : y_M τ b) (hW : y_W b) : ∃ τ', f_X12_lay τ = some τ' ∧ y_ldy τ' b ∧ y_fm 18 42 80 93 τ τ' := by
  obtain ⟨τ1, e1, e2, e3⟩ := ym_lay hM hW
  exact ⟨τ1, e1, ⟨hM.fr e3 (by omega), e2⟩, e3.wide (by omega) (by omega) (by omega) (by omega)⟩
theorem y_ldy.fr {τ τ' : j_G} {f h lo hi : Nat} (hl : y_ldy τ b) (hf : y_fm f h lo hi τ τ') (h1 : 19 ≤ f) (h2 : 85 ≤ lo ∨ hi < lo ∧ hi ≤ 80 ∧ 77 ≤ lo) : y_ldy τ' b := by
  obtain ⟨hM, hg⟩ := hl
  have e : ∀ c, c ≠ 75 → (c = 76 ∨ c = 82 ∨ c = 83 ∨ c = 84) → τ'.1 c = τ.1 c := fun c hn hc => (hf.2 c hn (by omega)).1
  refine ⟨?_, ?_⟩
  · unfold y_M; rw [e 76 (by omega) (by omega)]; exact hM
  · unfold y_mg at *
    rw [e 82 (by omega) (by omega), e 83 (by omega) (by omega), e 84 (by omega) (by omega), hf.1 18 (by omega)]
    exact hg
/-- the reference's run with one of the player's numbers told otherwise -/
theorem ym_runq {q k : Nat → Nat} {red : Nat} {τ1 : j_G} (hL : y_ldy τ1 b) (hW : y_W b) (hp : p < b 6) (hmp : y_mp τ1 b p q) (hq : y_vq b q) (hk : y_mk (τ1.1 75 23) k) (hred : red ≤ 1) (hd : τ1.1 75 24 = nI red) : ∃ τ', f_X12_run τ1 = some τ' ∧ y_mr τ' (y_run b (y_dg b (b 8)) q k red (y_gs b)) (y_gs b) ∧ y_ldy τ' b ∧ y_mp τ' b p q ∧ y_fm 29 33 85 88 τ1 τ' := by
  have h9 := hW.on0 (Or.inr (Or.inr (Or.inr (Or.inl (by omega : 0 < b 6)))))
  obtain ⟨τ2, e1, e2, e3⟩ := ym_run hL.1 hW h9 hL.2 (y_dg_vg hW _) hmp hq hk hred hd
  exact ⟨τ2, e1, e2, hL.fr e3 (by omega) (by omega), hmp.fr e3 (by omega), e3⟩
theorem ym_ras (hM : y_M τ b) (hW : y_W b) (hp : p < b 6) : ∃ τ', f_X12_runAsTold (nI p) τ = some τ' ∧ y_ldy τ' b ∧ y_mr τ' (y_own b p) (y_gs b) ∧ τ'.1 75 22 = nI (b (96 + 5 * p + 4)) ∧ y_fm 18 42 80 93 τ τ' := by
  obtain ⟨τ1, e1, e2, e3⟩ := ym_laid hM hW
  obtain ⟨τ2, f1, f2, f3, f4, f5⟩ := ym_told e2.1 hW hp
  obtain ⟨τ3, g1, g2, g3, g4, g5⟩ := ym_runq (k := y_k1) (red := 0) (e2.fr f5 (by omega) (by omega)) hW hp f2 (y_pqv hW hp) (by rw [f3]; exact y_mkM) (by omega) f4
  unfold f_X12_runAsTold
  rw [e1, j_b1_s, f1, j_b1_s, g1]
  exact ⟨τ3, rfl, g3, g2, g4.2.2.2.1, e3.trans ((f5.wide (by omega) (by omega) (by omega) (by omega)).trans (g5.wide (by omega) (by omega) (by omega) (by omega)))⟩
end Z
/-! ===== bits counted ===== -/
noncomputable def y_pop : Nat → Nat → Nat
  | 0, _ => 0
  | m + 1, n => n % 2 + y_pop m (n / 2)
noncomputable def y_bcF (n : Nat) : Nat := (fun a => (fun c => (fun d => (fun e => (fun g => g &&& 63) (e + e / 65536)) (d + d / 256)) ((c + c / 16) &&& 252645135)) ((a &&& 858993459) + (a / 4 &&& 858993459))) (n - (n / 2 &&& 1431655765))
theorem y_bcf (n : Nat) (hn : n < 4096) : y_bcF n = y_pop 12 n := Nat.eq_of_beq_eq_true (List.all_eq_true.mp (show (List.range 4096).all (fun n => Nat.beq (y_bcF n) (y_pop 12 n)) = true by decide +kernel) n (List.mem_range.mpr hn))
theorem y_us {s : Nat} (hs : s < 2 ^ 31) (m : UInt32) (k : Nat) (hm : (UInt32.mod m 32).toBitVec.toNat = k) : ((nI s).toUInt32 >>> m).toInt32 = nI (s / 2 ^ k) := by
  apply Int32.toBitVec_inj.mp
  apply BitVec.eq_of_toNat_eq
  show (BitVec.ofNat 32 s >>> ((UInt32.mod m 32).toBitVec).toNat).toNat = (BitVec.ofNat 32 (s / 2 ^ k)).toNat
  rw [hm, BitVec.toNat_ushiftRight, BitVec.toNat_ofNat, BitVec.toNat_ofNat, Nat.mod_eq_of_lt (by omega), Nat.mod_eq_of_lt (Nat.lt_of_le_of_lt (Nat.div_le_self _ _) (by omega)), Nat.shiftRight_eq_div_pow]
theorem y_bcd {a c : Nat} : nI a &&& nI c = nI (a &&& c) := by
  apply Int32.toBitVec_inj.mp
  show BitVec.ofNat 32 a &&& BitVec.ofNat 32 c = BitVec.ofNat 32 (a &&& c)
  rw [BitVec.ofNat_and]
theorem y_bcn : ∀ n, n < 4096 → f_J6_bitCount_0f7a4 (nI n) = nI (y_pop 12 n) := by
  intro n hn
  rw [← y_bcf n hn]
  have l1 : n / 2 &&& 1431655765 ≤ n := Nat.le_trans Nat.and_le_left (Nat.div_le_self _ _)
  unfold f_J6_bitCount_0f7a4 y_bcF
  simp only [j_lt]
  rw [y_us (by omega) _ 1 (by decide), show (1431655765 : Int32) = nI 1431655765 from rfl, y_bcd, Nat.pow_one, pk_sub l1]
  have b1 : n - (n / 2 &&& 1431655765) < 4096 := by omega
  generalize n - (n / 2 &&& 1431655765) = a at b1 ⊢
  have l2 : a &&& 858993459 ≤ a := Nat.and_le_left
  have l3 : a / 4 &&& 858993459 ≤ a := Nat.le_trans Nat.and_le_left (Nat.div_le_self _ _)
  rw [y_us (by omega) _ 2 (by decide), show (858993459 : Int32) = nI 858993459 from rfl, y_bcd, y_bcd, nI_add, show (2 : Nat) ^ 2 = 4 from rfl]
  have b2 : (a &&& 858993459) + (a / 4 &&& 858993459) < 8192 := by omega
  generalize (a &&& 858993459) + (a / 4 &&& 858993459) = c at b2 ⊢
  have l4 : (c + c / 16) &&& 252645135 ≤ c + c / 16 := Nat.and_le_left
  rw [y_us (by omega) _ 4 (by decide), show (252645135 : Int32) = nI 252645135 from rfl, nI_add, y_bcd, show (2 : Nat) ^ 4 = 16 from rfl]
  have b3 : (c + c / 16) &&& 252645135 < 16384 := by omega
  generalize (c + c / 16) &&& 252645135 = d at b3 ⊢
  rw [y_us (by omega) _ 8 (by decide), nI_add, show (2 : Nat) ^ 8 = 256 from rfl]
  have b4 : d + d / 256 < 32768 := by omega
  generalize d + d / 256 = e at b4 ⊢
  rw [y_us (by omega) _ 16 (by decide), nI_add, show (63 : Int32) = nI 63 from rfl, y_bcd]
/-! ===== questions to the run, first part ===== -/
theorem ym_ing {τ : j_G} {s : Nat} (h : τ.1 75 18 = nI s) (hs : s ≤ 60) (x : Int32) : f_X12_isInGame x τ = if y_rg x s then nI 1 else nI 0 := by
  unfold f_X12_isInGame; rw [h]; simp (disch := omega) only [y_lit, y_n1, nI_add, pk_mul, j_lt, j_b1_s, j_b2_s, j_b3_s, j_b0_s, y_bo, y_bo1, y_bo0, y_i0, y_i1, Classical.not_not, nI_clamp, y_ix, y_lt, y_le, y_eq, y_nP, y_nPs, y_ltP, y_ltQ, y_ltPP, y_eqP, y_eqQ, y_eqPP, if_pos, if_neg, ite_true, ite_false, not_true_eq_false, not_false_eq_true, and_true, true_and, and_false, false_and, or_true, true_or, or_false, false_or, y_lit64, y_in, y_c2]
section Z
variable {σ τ : j_G}
theorem z_hits (hR : j_Rel σ τ) (a1 : Int32) : ∃ v σ1 τ1, f_X11_hits a1 σ = some (v, σ1) ∧ f_X12_hits a1 τ = some (v, τ1) ∧ j_Rel σ1 τ1 := by
  obtain ⟨b, hW, hN, hM, hK⟩ := id hR
  by_cases h : y_rg a1 (b 6)
  · obtain ⟨p, hp, rfl⟩ := y_of _ _ h.1 h.2
    obtain ⟨σ1, e1, e2, e3, e4⟩ := yc_runOf hN hW hp
    obtain ⟨τ1, f1, f2, f3, f4, f5⟩ := ym_ras hM hW hp
    refine ⟨nI (y_own b p 0), σ1, τ1, ?_, ?_, y_done hR e4 f5⟩
    · unfold f_X11_hits; simp (disch := omega) only [y_lit, y_n1, nI_add, pk_mul, j_lt, j_b1_s, j_b2_s, j_b3_s, j_b0_s, y_bo, y_bo1, y_bo0, y_i0, y_i1, Classical.not_not, nI_clamp, y_ix, y_lt, y_le, y_eq, y_nP, y_nPs, y_ltP, y_ltQ, y_ltPP, y_eqP, y_eqQ, y_eqPP, if_pos, if_neg, ite_true, ite_false, not_true_eq_false, not_false_eq_true, and_true, true_and, and_false, false_and, or_true, true_or, or_false, false_or, e1, e3.1.1]
    · unfold f_X12_hits; simp (disch := omega) only [y_lit, y_n1, nI_add, pk_mul, j_lt, j_b1_s, j_b2_s, j_b3_s, j_b0_s, y_bo, y_bo1, y_bo0, y_i0, y_i1, Classical.not_not, nI_clamp, y_ix, y_lt, y_le, y_eq, y_nP, y_nPs, y_ltP, y_ltQ, y_ltPP, y_eqP, y_eqQ, y_eqPP, if_pos, if_neg, ite_true, ite_false, not_true_eq_false, not_false_eq_true, and_true, true_and, and_false, false_and, or_true, true_or, or_false, false_or, ym_isPlayer hM hW, if_pos h, f1, f3.1.1]
  · refine ⟨-2, σ, τ, ?_, ?_, hR⟩
    · unfold f_X11_hits; rw [yc_unrun hN hW h]; simp (disch := omega) only [y_lit, y_n1, nI_add, pk_mul, j_lt, j_b1_s, j_b2_s, j_b3_s, j_b0_s, y_bo, y_bo1, y_bo0, y_i0, y_i1, Classical.not_not, nI_clamp, y_ix, y_lt, y_le, y_eq, y_nP, y_nPs, y_ltP, y_ltQ, y_ltPP, y_eqP, y_eqQ, y_eqPP, if_pos, if_neg, ite_true, ite_false, not_true_eq_false, not_false_eq_true, and_true, true_and, and_false, false_and, or_true, true_or, or_false, false_or]
    · unfold f_X12_hits; rw [ym_isPlayer hM hW, if_neg h]; simp (disch := omega) only [y_lit, y_n1, nI_add, pk_mul, j_lt, j_b1_s, j_b2_s, j_b3_s, j_b0_s, y_bo, y_bo1, y_bo0, y_i0, y_i1, Classical.not_not, nI_clamp, y_ix, y_lt, y_le, y_eq, y_nP, y_nPs, y_ltP, y_ltQ, y_ltPP, y_eqP, y_eqQ, y_eqPP, if_pos, if_neg, ite_true, ite_false, not_true_eq_false, not_false_eq_true, and_true, true_and, and_false, false_and, or_true, true_or, or_false, false_or]
theorem z_walked (hR : j_Rel σ τ) (a1 : Int32) : ∃ v σ1 τ1, f_X11_walked a1 σ = some (v, σ1) ∧ f_X12_walked a1 τ = some (v, τ1) ∧ j_Rel σ1 τ1 := by
  obtain ⟨b, hW, hN, hM, hK⟩ := id hR
  by_cases h : y_rg a1 (b 6)
  · obtain ⟨p, hp, rfl⟩ := y_of _ _ h.1 h.2
    obtain ⟨σ1, e1, e2, e3, e4⟩ := yc_runOf hN hW hp
    obtain ⟨τ1, f1, f2, f3, f4, f5⟩ := ym_ras hM hW hp
    refine ⟨nI (y_own b p 1), σ1, τ1, ?_, ?_, y_done hR e4 f5⟩
    · unfold f_X11_walked; simp (disch := omega) only [y_lit, y_n1, nI_add, pk_mul, j_lt, j_b1_s, j_b2_s, j_b3_s, j_b0_s, y_bo, y_bo1, y_bo0, y_i0, y_i1, Classical.not_not, nI_clamp, y_ix, y_lt, y_le, y_eq, y_nP, y_nPs, y_ltP, y_ltQ, y_ltPP, y_eqP, y_eqQ, y_eqPP, if_pos, if_neg, ite_true, ite_false, not_true_eq_false, not_false_eq_true, and_true, true_and, and_false, false_and, or_true, true_or, or_false, false_or, e1, e3.1.2.1]
    · unfold f_X12_walked; simp (disch := omega) only [y_lit, y_n1, nI_add, pk_mul, j_lt, j_b1_s, j_b2_s, j_b3_s, j_b0_s, y_bo, y_bo1, y_bo0, y_i0, y_i1, Classical.not_not, nI_clamp, y_ix, y_lt, y_le, y_eq, y_nP, y_nPs, y_ltP, y_ltQ, y_ltPP, y_eqP, y_eqQ, y_eqPP, if_pos, if_neg, ite_true, ite_false, not_true_eq_false, not_false_eq_true, and_true, true_and, and_false, false_and, or_true, true_or, or_false, false_or, ym_isPlayer hM hW, if_pos h, f1, f3.1.2.1]
  · refine ⟨-2, σ, τ, ?_, ?_, hR⟩
    · unfold f_X11_walked; rw [yc_unrun hN hW h]; simp (disch := omega) only [y_lit, y_n1, nI_add, pk_mul, j_lt, j_b1_s, j_b2_s, j_b3_s, j_b0_s, y_bo, y_bo1, y_bo0, y_i0, y_i1, Classical.not_not, nI_clamp, y_ix, y_lt, y_le, y_eq, y_nP, y_nPs, y_ltP, y_ltQ, y_ltPP, y_eqP, y_eqQ, y_eqPP, if_pos, if_neg, ite_true, ite_false, not_true_eq_false, not_false_eq_true, and_true, true_and, and_false, false_and, or_true, true_or, or_false, false_or]
    · unfold f_X12_walked; rw [ym_isPlayer hM hW, if_neg h]; simp (disch := omega) only [y_lit, y_n1, nI_add, pk_mul, j_lt, j_b1_s, j_b2_s, j_b3_s, j_b0_s, y_bo, y_bo1, y_bo0, y_i0, y_i1, Classical.not_not, nI_clamp, y_ix, y_lt, y_le, y_eq, y_nP, y_nPs, y_ltP, y_ltQ, y_ltPP, y_eqP, y_eqQ, y_eqPP, if_pos, if_neg, ite_true, ite_false, not_true_eq_false, not_false_eq_true, and_true, true_and, and_false, false_and, or_true, true_or, or_false, false_or]
theorem z_hit (hR : j_Rel σ τ) (a1 a2 : Int32) : ∃ v σ1 τ1, f_X11_hit a1 a2 σ = some (v, σ1) ∧ f_X12_hit a1 a2 τ = some (v, τ1) ∧ j_Rel σ1 τ1 := by
  obtain ⟨b, hW, hN, hM, hK⟩ := id hR
  have hs := y_gs_le (b := b)
  by_cases h : y_rg a1 (b 6)
  · obtain ⟨p, hp, rfl⟩ := y_of _ _ h.1 h.2
    obtain ⟨σ1, e1, e2, e3, e4⟩ := yc_runOf hN hW hp
    obtain ⟨τ1, f1, f2, f3, f4, f5⟩ := ym_ras hM hW hp
    by_cases h2 : y_rg a2 (y_gs b)
    · obtain ⟨i, hi, rfl⟩ := y_of _ _ h2.1 h2.2
      have c := e3.2.2 i hi
      have m := f3.2.2 i hi
      refine ⟨nP (y_own b p (1000 + 2 * i)), σ1, τ1, ?_, ?_, y_done hR e4 f5⟩
      · unfold f_X11_hit; simp (disch := omega) only [y_lit, y_n1, nI_add, pk_mul, j_lt, j_b1_s, j_b2_s, j_b3_s, j_b0_s, y_bo, y_bo1, y_bo0, y_i0, y_i1, Classical.not_not, nI_clamp, y_ix, y_lt, y_le, y_eq, y_nP, y_nPs, y_ltP, y_ltQ, y_ltPP, y_eqP, y_eqQ, y_eqPP, if_pos, if_neg, ite_true, ite_false, not_true_eq_false, not_false_eq_true, and_true, true_and, and_false, false_and, or_true, true_or, or_false, false_or, e1, yc_ghas e2.2.1 hs, y_rn, c]
      · unfold f_X12_hit; simp (disch := omega) only [y_lit, y_n1, nI_add, pk_mul, j_lt, j_b1_s, j_b2_s, j_b3_s, j_b0_s, y_bo, y_bo1, y_bo0, y_i0, y_i1, Classical.not_not, nI_clamp, y_ix, y_lt, y_le, y_eq, y_nP, y_nPs, y_ltP, y_ltQ, y_ltPP, y_eqP, y_eqQ, y_eqPP, if_pos, if_neg, ite_true, ite_false, not_true_eq_false, not_false_eq_true, and_true, true_and, and_false, false_and, or_true, true_or, or_false, false_or, ym_isPlayer hM hW, if_pos h, f1, ym_ing f2.2.1 hs, y_rn, m]
    · refine ⟨-1, σ1, τ1, ?_, ?_, y_done hR e4 f5⟩
      · unfold f_X11_hit; simp (disch := omega) only [y_lit, y_n1, nI_add, pk_mul, j_lt, j_b1_s, j_b2_s, j_b3_s, j_b0_s, y_bo, y_bo1, y_bo0, y_i0, y_i1, Classical.not_not, nI_clamp, y_ix, y_lt, y_le, y_eq, y_nP, y_nPs, y_ltP, y_ltQ, y_ltPP, y_eqP, y_eqQ, y_eqPP, if_pos, if_neg, ite_true, ite_false, not_true_eq_false, not_false_eq_true, and_true, true_and, and_false, false_and, or_true, true_or, or_false, false_or, e1, yc_ghas e2.2.1 hs, h2]
      · unfold f_X12_hit; simp (disch := omega) only [y_lit, y_n1, nI_add, pk_mul, j_lt, j_b1_s, j_b2_s, j_b3_s, j_b0_s, y_bo, y_bo1, y_bo0, y_i0, y_i1, Classical.not_not, nI_clamp, y_ix, y_lt, y_le, y_eq, y_nP, y_nPs, y_ltP, y_ltQ, y_ltPP, y_eqP, y_eqQ, y_eqPP, if_pos, if_neg, ite_true, ite_false, not_true_eq_false, not_false_eq_true, and_true, true_and, and_false, false_and, or_true, true_or, or_false, false_or, ym_isPlayer hM hW, if_pos h, f1, ym_ing f2.2.1 hs, h2]
  · refine ⟨-2, σ, τ, ?_, ?_, hR⟩
    · unfold f_X11_hit; rw [yc_unrun hN hW h]; simp (disch := omega) only [y_lit, y_n1, nI_add, pk_mul, j_lt, j_b1_s, j_b2_s, j_b3_s, j_b0_s, y_bo, y_bo1, y_bo0, y_i0, y_i1, Classical.not_not, nI_clamp, y_ix, y_lt, y_le, y_eq, y_nP, y_nPs, y_ltP, y_ltQ, y_ltPP, y_eqP, y_eqQ, y_eqPP, if_pos, if_neg, ite_true, ite_false, not_true_eq_false, not_false_eq_true, and_true, true_and, and_false, false_and, or_true, true_or, or_false, false_or]
    · unfold f_X12_hit; rw [ym_isPlayer hM hW, if_neg h]; simp (disch := omega) only [y_lit, y_n1, nI_add, pk_mul, j_lt, j_b1_s, j_b2_s, j_b3_s, j_b0_s, y_bo, y_bo1, y_bo0, y_i0, y_i1, Classical.not_not, nI_clamp, y_ix, y_lt, y_le, y_eq, y_nP, y_nPs, y_ltP, y_ltQ, y_ltPP, y_eqP, y_eqQ, y_eqPP, if_pos, if_neg, ite_true, ite_false, not_true_eq_false, not_false_eq_true, and_true, true_and, and_false, false_and, or_true, true_or, or_false, false_or]
theorem z_twice (hR : j_Rel σ τ) (a1 a2 : Int32) : ∃ v σ1 τ1, f_X11_twice a1 a2 σ = some (v, σ1) ∧ f_X12_twice a1 a2 τ = some (v, τ1) ∧ j_Rel σ1 τ1 := by
  obtain ⟨b, hW, hN, hM, hK⟩ := id hR
  have hs := y_gs_le (b := b)
  by_cases h : y_rg a1 (b 6)
  · obtain ⟨p, hp, rfl⟩ := y_of _ _ h.1 h.2
    obtain ⟨σ1, e1, e2, e3, e4⟩ := yc_runOf hN hW hp
    obtain ⟨τ1, f1, f2, f3, f4, f5⟩ := ym_ras hM hW hp
    by_cases h2 : y_rg a2 (y_gs b)
    · obtain ⟨i, hi, rfl⟩ := y_of _ _ h2.1 h2.2
      have c := e3.2.2 i hi
      have m := f3.2.2 i hi
      refine ⟨nI (y_own b p (1001 + 2 * i)), σ1, τ1, ?_, ?_, y_done hR e4 f5⟩
      · unfold f_X11_twice; simp (disch := omega) only [y_lit, y_n1, nI_add, pk_mul, j_lt, j_b1_s, j_b2_s, j_b3_s, j_b0_s, y_bo, y_bo1, y_bo0, y_i0, y_i1, Classical.not_not, nI_clamp, y_ix, y_lt, y_le, y_eq, y_nP, y_nPs, y_ltP, y_ltQ, y_ltPP, y_eqP, y_eqQ, y_eqPP, if_pos, if_neg, ite_true, ite_false, not_true_eq_false, not_false_eq_true, and_true, true_and, and_false, false_and, or_true, true_or, or_false, false_or, e1, yc_ghas e2.2.1 hs, y_rn, c]
      · unfold f_X12_twice; simp (disch := omega) only [y_lit, y_n1, nI_add, pk_mul, j_lt, j_b1_s, j_b2_s, j_b3_s, j_b0_s, y_bo, y_bo1, y_bo0, y_i0, y_i1, Classical.not_not, nI_clamp, y_ix, y_lt, y_le, y_eq, y_nP, y_nPs, y_ltP, y_ltQ, y_ltPP, y_eqP, y_eqQ, y_eqPP, if_pos, if_neg, ite_true, ite_false, not_true_eq_false, not_false_eq_true, and_true, true_and, and_false, false_and, or_true, true_or, or_false, false_or, ym_isPlayer hM hW, if_pos h, f1, ym_ing f2.2.1 hs, y_rn, m]
    · refine ⟨-1, σ1, τ1, ?_, ?_, y_done hR e4 f5⟩
      · unfold f_X11_twice; simp (disch := omega) only [y_lit, y_n1, nI_add, pk_mul, j_lt, j_b1_s, j_b2_s, j_b3_s, j_b0_s, y_bo, y_bo1, y_bo0, y_i0, y_i1, Classical.not_not, nI_clamp, y_ix, y_lt, y_le, y_eq, y_nP, y_nPs, y_ltP, y_ltQ, y_ltPP, y_eqP, y_eqQ, y_eqPP, if_pos, if_neg, ite_true, ite_false, not_true_eq_false, not_false_eq_true, and_true, true_and, and_false, false_and, or_true, true_or, or_false, false_or, e1, yc_ghas e2.2.1 hs, h2]
      · unfold f_X12_twice; simp (disch := omega) only [y_lit, y_n1, nI_add, pk_mul, j_lt, j_b1_s, j_b2_s, j_b3_s, j_b0_s, y_bo, y_bo1, y_bo0, y_i0, y_i1, Classical.not_not, nI_clamp, y_ix, y_lt, y_le, y_eq, y_nP, y_nPs, y_ltP, y_ltQ, y_ltPP, y_eqP, y_eqQ, y_eqPP, if_pos, if_neg, ite_true, ite_false, not_true_eq_false, not_false_eq_true, and_true, true_and, and_false, false_and, or_true, true_or, or_false, false_or, ym_isPlayer hM hW, if_pos h, f1, ym_ing f2.2.1 hs, h2]
  · refine ⟨-2, σ, τ, ?_, ?_, hR⟩
    · unfold f_X11_twice; rw [yc_unrun hN hW h]; simp (disch := omega) only [y_lit, y_n1, nI_add, pk_mul, j_lt, j_b1_s, j_b2_s, j_b3_s, j_b0_s, y_bo, y_bo1, y_bo0, y_i0, y_i1, Classical.not_not, nI_clamp, y_ix, y_lt, y_le, y_eq, y_nP, y_nPs, y_ltP, y_ltQ, y_ltPP, y_eqP, y_eqQ, y_eqPP, if_pos, if_neg, ite_true, ite_false, not_true_eq_false, not_false_eq_true, and_true, true_and, and_false, false_and, or_true, true_or, or_false, false_or]
    · unfold f_X12_twice; rw [ym_isPlayer hM hW, if_neg h]; simp (disch := omega) only [y_lit, y_n1, nI_add, pk_mul, j_lt, j_b1_s, j_b2_s, j_b3_s, j_b0_s, y_bo, y_bo1, y_bo0, y_i0, y_i1, Classical.not_not, nI_clamp, y_ix, y_lt, y_le, y_eq, y_nP, y_nPs, y_ltP, y_ltQ, y_ltPP, y_eqP, y_eqQ, y_eqPP, if_pos, if_neg, ite_true, ite_false, not_true_eq_false, not_false_eq_true, and_true, true_and, and_false, false_and, or_true, true_or, or_false, false_or]
theorem z_comings (hR : j_Rel σ τ) : ∃ v σ1 τ1, f_X11_comings σ = some (v, σ1) ∧ f_X12_comings τ = some (v, τ1) ∧ j_Rel σ1 τ1 := by
  obtain ⟨b, hW, hN, hM, hK⟩ := id hR
  by_cases h : 0 < b 9
  · obtain ⟨σ1, e1, e2, e3⟩ := yc_dealt hN hW
    obtain ⟨τ1, f1, f2, f3⟩ := ym_laid hM hW
    refine ⟨nI (y_gs b), σ1, τ1, ?_, ?_, y_done hR (e3.wide (by omega) (by omega)) f3⟩
    · unfold f_X11_comings; simp (disch := omega) only [y_lit, y_n1, nI_add, pk_mul, j_lt, j_b1_s, j_b2_s, j_b3_s, j_b0_s, y_bo, y_bo1, y_bo0, y_i0, y_i1, Classical.not_not, nI_clamp, y_ix, y_lt, y_le, y_eq, y_nP, y_nPs, y_ltP, y_ltQ, y_ltPP, y_eqP, y_eqQ, y_eqPP, if_pos, if_neg, ite_true, ite_false, not_true_eq_false, not_false_eq_true, and_true, true_and, and_false, false_and, or_true, true_or, or_false, false_or, yc_isTold hN hW, e1, e2.1]
    · unfold f_X12_comings; simp (disch := omega) only [y_lit, y_n1, nI_add, pk_mul, j_lt, j_b1_s, j_b2_s, j_b3_s, j_b0_s, y_bo, y_bo1, y_bo0, y_i0, y_i1, Classical.not_not, nI_clamp, y_ix, y_lt, y_le, y_eq, y_nP, y_nPs, y_ltP, y_ltQ, y_ltPP, y_eqP, y_eqQ, y_eqPP, if_pos, if_neg, ite_true, ite_false, not_true_eq_false, not_false_eq_true, and_true, true_and, and_false, false_and, or_true, true_or, or_false, false_or, ym_isBoard hM hW, f1, f2.2.1]
  · refine ⟨-2, σ, τ, ?_, ?_, hR⟩
    · unfold f_X11_comings; simp (disch := omega) only [y_lit, y_n1, nI_add, pk_mul, j_lt, j_b1_s, j_b2_s, j_b3_s, j_b0_s, y_bo, y_bo1, y_bo0, y_i0, y_i1, Classical.not_not, nI_clamp, y_ix, y_lt, y_le, y_eq, y_nP, y_nPs, y_ltP, y_ltQ, y_ltPP, y_eqP, y_eqQ, y_eqPP, if_pos, if_neg, ite_true, ite_false, not_true_eq_false, not_false_eq_true, and_true, true_and, and_false, false_and, or_true, true_or, or_false, false_or, yc_isTold hN hW]
    · unfold f_X12_comings; simp (disch := omega) only [y_lit, y_n1, nI_add, pk_mul, j_lt, j_b1_s, j_b2_s, j_b3_s, j_b0_s, y_bo, y_bo1, y_bo0, y_i0, y_i1, Classical.not_not, nI_clamp, y_ix, y_lt, y_le, y_eq, y_nP, y_nPs, y_ltP, y_ltQ, y_ltPP, y_eqP, y_eqQ, y_eqPP, if_pos, if_neg, ite_true, ite_false, not_true_eq_false, not_false_eq_true, and_true, true_and, and_false, false_and, or_true, true_or, or_false, false_or, ym_isBoard hM hW]
theorem z_stay (hR : j_Rel σ τ) (a1 : Int32) : ∃ v, f_X11_stay a1 σ = some v ∧ f_X12_stay a1 τ = some v := by
  obtain ⟨b, hW, hN, hM, hK⟩ := id hR
  have h2 := hW.b2
  by_cases h : y_rg a1 (b 2)
  · obtain ⟨t, ht, rfl⟩ := y_of _ _ h.1 h.2
    refine ⟨nI (y_stay b t), ?_, ?_⟩
    · unfold f_X11_stay; simp (disch := omega) only [y_lit, y_n1, nI_add, pk_mul, j_lt, j_b1_s, j_b2_s, j_b3_s, j_b0_s, y_bo, y_bo1, y_bo0, y_i0, y_i1, Classical.not_not, nI_clamp, y_ix, y_lt, y_le, y_eq, y_nP, y_nPs, y_ltP, y_ltQ, y_ltPP, y_eqP, y_eqQ, y_eqPP, if_pos, if_neg, ite_true, ite_false, not_true_eq_false, not_false_eq_true, and_true, true_and, and_false, false_and, or_true, true_or, or_false, false_or, yc_isTick hN hW, y_rn, yc_stay hN hW]
    · unfold f_X12_stay; simp (disch := omega) only [y_lit, y_n1, nI_add, pk_mul, j_lt, j_b1_s, j_b2_s, j_b3_s, j_b0_s, y_bo, y_bo1, y_bo0, y_i0, y_i1, Classical.not_not, nI_clamp, y_ix, y_lt, y_le, y_eq, y_nP, y_nPs, y_ltP, y_ltQ, y_ltPP, y_eqP, y_eqQ, y_eqPP, if_pos, if_neg, ite_true, ite_false, not_true_eq_false, not_false_eq_true, and_true, true_and, and_false, false_and, or_true, true_or, or_false, false_or, ym_isTick hM hW, y_rn, ym_stay hM hW]
  · refine ⟨-2, ?_, ?_⟩
    · unfold f_X11_stay; simp (disch := omega) only [y_lit, y_n1, nI_add, pk_mul, j_lt, j_b1_s, j_b2_s, j_b3_s, j_b0_s, y_bo, y_bo1, y_bo0, y_i0, y_i1, Classical.not_not, nI_clamp, y_ix, y_lt, y_le, y_eq, y_nP, y_nPs, y_ltP, y_ltQ, y_ltPP, y_eqP, y_eqQ, y_eqPP, if_pos, if_neg, ite_true, ite_false, not_true_eq_false, not_false_eq_true, and_true, true_and, and_false, false_and, or_true, true_or, or_false, false_or, yc_isTick hN hW, h]
    · unfold f_X12_stay; simp (disch := omega) only [y_lit, y_n1, nI_add, pk_mul, j_lt, j_b1_s, j_b2_s, j_b3_s, j_b0_s, y_bo, y_bo1, y_bo0, y_i0, y_i1, Classical.not_not, nI_clamp, y_ix, y_lt, y_le, y_eq, y_nP, y_nPs, y_ltP, y_ltQ, y_ltPP, y_eqP, y_eqQ, y_eqPP, if_pos, if_neg, ite_true, ite_false, not_true_eq_false, not_false_eq_true, and_true, true_and, and_false, false_and, or_true, true_or, or_false, false_or, ym_isTick hM hW, h]
theorem z_steps (hR : j_Rel σ τ) (a1 a2 : Int32) : ∃ v, f_X11_steps a1 a2 σ = some v ∧ f_X12_steps a1 a2 τ = some v := by
  obtain ⟨b, hW, hN, hM, hK⟩ := id hR
  have h2 := hW.ho
  by_cases h : y_rg a1 (y_ho b)
  · by_cases h3 : y_rg a2 (y_ho b)
    · have h9 : 0 < b 9 := hW.on0 (by omega)
      obtain ⟨x, hx, rfl⟩ := y_of _ _ h.1 h.2
      obtain ⟨y, hy, rfl⟩ := y_of _ _ h3.1 h3.2
      refine ⟨nI (y_ap b x y), ?_, ?_⟩
      · unfold f_X11_steps; simp (disch := omega) only [y_lit, y_n1, nI_add, pk_mul, j_lt, j_b1_s, j_b2_s, j_b3_s, j_b0_s, y_bo, y_bo1, y_bo0, y_i0, y_i1, Classical.not_not, nI_clamp, y_ix, y_lt, y_le, y_eq, y_nP, y_nPs, y_ltP, y_ltQ, y_ltPP, y_eqP, y_eqQ, y_eqPP, if_pos, if_neg, ite_true, ite_false, not_true_eq_false, not_false_eq_true, and_true, true_and, and_false, false_and, or_true, true_or, or_false, false_or, yc_isHole hN hW, y_rn, yc_apart hN hW h9]
      · unfold f_X12_steps; simp (disch := omega) only [y_lit, y_n1, nI_add, pk_mul, j_lt, j_b1_s, j_b2_s, j_b3_s, j_b0_s, y_bo, y_bo1, y_bo0, y_i0, y_i1, Classical.not_not, nI_clamp, y_ix, y_lt, y_le, y_eq, y_nP, y_nPs, y_ltP, y_ltQ, y_ltPP, y_eqP, y_eqQ, y_eqPP, if_pos, if_neg, ite_true, ite_false, not_true_eq_false, not_false_eq_true, and_true, true_and, and_false, false_and, or_true, true_or, or_false, false_or, ym_isHole hM hW, y_rn, ym_stepsOf hM hW h9]
    · refine ⟨-2, ?_, ?_⟩
      · unfold f_X11_steps; simp (disch := omega) only [y_lit, y_n1, nI_add, pk_mul, j_lt, j_b1_s, j_b2_s, j_b3_s, j_b0_s, y_bo, y_bo1, y_bo0, y_i0, y_i1, Classical.not_not, nI_clamp, y_ix, y_lt, y_le, y_eq, y_nP, y_nPs, y_ltP, y_ltQ, y_ltPP, y_eqP, y_eqQ, y_eqPP, if_pos, if_neg, ite_true, ite_false, not_true_eq_false, not_false_eq_true, and_true, true_and, and_false, false_and, or_true, true_or, or_false, false_or, yc_isHole hN hW, h, h3]
      · unfold f_X12_steps; simp (disch := omega) only [y_lit, y_n1, nI_add, pk_mul, j_lt, j_b1_s, j_b2_s, j_b3_s, j_b0_s, y_bo, y_bo1, y_bo0, y_i0, y_i1, Classical.not_not, nI_clamp, y_ix, y_lt, y_le, y_eq, y_nP, y_nPs, y_ltP, y_ltQ, y_ltPP, y_eqP, y_eqQ, y_eqPP, if_pos, if_neg, ite_true, ite_false, not_true_eq_false, not_false_eq_true, and_true, true_and, and_false, false_and, or_true, true_or, or_false, false_or, ym_isHole hM hW, h, h3]
  · refine ⟨-2, ?_, ?_⟩
    · unfold f_X11_steps; simp (disch := omega) only [y_lit, y_n1, nI_add, pk_mul, j_lt, j_b1_s, j_b2_s, j_b3_s, j_b0_s, y_bo, y_bo1, y_bo0, y_i0, y_i1, Classical.not_not, nI_clamp, y_ix, y_lt, y_le, y_eq, y_nP, y_nPs, y_ltP, y_ltQ, y_ltPP, y_eqP, y_eqQ, y_eqPP, if_pos, if_neg, ite_true, ite_false, not_true_eq_false, not_false_eq_true, and_true, true_and, and_false, false_and, or_true, true_or, or_false, false_or, yc_isHole hN hW, h]
    · unfold f_X12_steps; simp (disch := omega) only [y_lit, y_n1, nI_add, pk_mul, j_lt, j_b1_s, j_b2_s, j_b3_s, j_b0_s, y_bo, y_bo1, y_bo0, y_i0, y_i1, Classical.not_not, nI_clamp, y_ix, y_lt, y_le, y_eq, y_nP, y_nPs, y_ltP, y_ltQ, y_ltPP, y_eqP, y_eqQ, y_eqPP, if_pos, if_neg, ite_true, ite_false, not_true_eq_false, not_false_eq_true, and_true, true_and, and_false, false_and, or_true, true_or, or_false, false_or, ym_isHole hM hW, h]
theorem z_pace (hR : j_Rel σ τ) (a1 a2 : Int32) : ∃ v σ1, f_X11_pace a1 a2 σ = some (v, σ1) ∧ f_X12_pace a1 a2 τ = some v ∧ j_Rel σ1 τ := by
  obtain ⟨b, hW, hN, hM, hK⟩ := id hR
  have h2 := hW.b2
  have h6 := hW.b6
  by_cases h : y_rg a1 (b 6)
  · by_cases h3 : y_rg a2 (b 2)
    · obtain ⟨p, hp, rfl⟩ := y_of _ _ h.1 h.2
      obtain ⟨t, ht, rfl⟩ := y_of _ _ h3.1 h3.2
      obtain ⟨σ1, e1, e2, e3⟩ := yc_take (a := 28) hN hW hp (by omega)
      have hq := y_pqv hW hp
      refine ⟨nI (y_pc (y_pq b p) t), σ1, ?_, ?_, y_done hR (e3.wide (by omega) (by omega)) y_fm.refl⟩
      · unfold f_X11_pace; simp (disch := omega) only [y_lit, y_n1, nI_add, pk_mul, j_lt, j_b1_s, j_b2_s, j_b3_s, j_b0_s, y_bo, y_bo1, y_bo0, y_i0, y_i1, Classical.not_not, nI_clamp, y_ix, y_lt, y_le, y_eq, y_nP, y_nPs, y_ltP, y_ltQ, y_ltPP, y_eqP, y_eqQ, y_eqPP, if_pos, if_neg, ite_true, ite_false, not_true_eq_false, not_false_eq_true, and_true, true_and, and_false, false_and, or_true, true_or, or_false, false_or, yc_isTick hN hW, yc_isPlayer hN hW, y_rn, e1, yc_pace e2 hq]
      · have e := ym_pace (q := y_pq b p) hM hW hp rfl (by show b (98 + 5 * p) = b (96 + 5 * p + 2); congr 1; omega) hq (t := t) (by omega)
        unfold f_X12_pace; simp (disch := omega) only [y_lit, y_n1, nI_add, pk_mul, j_lt, j_b1_s, j_b2_s, j_b3_s, j_b0_s, y_bo, y_bo1, y_bo0, y_i0, y_i1, Classical.not_not, nI_clamp, y_ix, y_lt, y_le, y_eq, y_nP, y_nPs, y_ltP, y_ltQ, y_ltPP, y_eqP, y_eqQ, y_eqPP, if_pos, if_neg, ite_true, ite_false, not_true_eq_false, not_false_eq_true, and_true, true_and, and_false, false_and, or_true, true_or, or_false, false_or, ym_isTick hM hW, ym_isPlayer hM hW, y_rn, e]
    · refine ⟨-2, σ, ?_, ?_, hR⟩
      · unfold f_X11_pace; simp (disch := omega) only [y_lit, y_n1, nI_add, pk_mul, j_lt, j_b1_s, j_b2_s, j_b3_s, j_b0_s, y_bo, y_bo1, y_bo0, y_i0, y_i1, Classical.not_not, nI_clamp, y_ix, y_lt, y_le, y_eq, y_nP, y_nPs, y_ltP, y_ltQ, y_ltPP, y_eqP, y_eqQ, y_eqPP, if_pos, if_neg, ite_true, ite_false, not_true_eq_false, not_false_eq_true, and_true, true_and, and_false, false_and, or_true, true_or, or_false, false_or, yc_isTick hN hW, yc_isPlayer hN hW, h, h3]
      · unfold f_X12_pace; simp (disch := omega) only [y_lit, y_n1, nI_add, pk_mul, j_lt, j_b1_s, j_b2_s, j_b3_s, j_b0_s, y_bo, y_bo1, y_bo0, y_i0, y_i1, Classical.not_not, nI_clamp, y_ix, y_lt, y_le, y_eq, y_nP, y_nPs, y_ltP, y_ltQ, y_ltPP, y_eqP, y_eqQ, y_eqPP, if_pos, if_neg, ite_true, ite_false, not_true_eq_false, not_false_eq_true, and_true, true_and, and_false, false_and, or_true, true_or, or_false, false_or, ym_isTick hM hW, ym_isPlayer hM hW, h, h3]
  · refine ⟨-2, σ, ?_, ?_, hR⟩
    · unfold f_X11_pace; simp (disch := omega) only [y_lit, y_n1, nI_add, pk_mul, j_lt, j_b1_s, j_b2_s, j_b3_s, j_b0_s, y_bo, y_bo1, y_bo0, y_i0, y_i1, Classical.not_not, nI_clamp, y_ix, y_lt, y_le, y_eq, y_nP, y_nPs, y_ltP, y_ltQ, y_ltPP, y_eqP, y_eqQ, y_eqPP, if_pos, if_neg, ite_true, ite_false, not_true_eq_false, not_false_eq_true, and_true, true_and, and_false, false_and, or_true, true_or, or_false, false_or, yc_isPlayer hN hW, h]
    · unfold f_X12_pace; simp (disch := omega) only [y_lit, y_n1, nI_add, pk_mul, j_lt, j_b1_s, j_b2_s, j_b3_s, j_b0_s, y_bo, y_bo1, y_bo0, y_i0, y_i1, Classical.not_not, nI_clamp, y_ix, y_lt, y_le, y_eq, y_nP, y_nPs, y_ltP, y_ltQ, y_ltPP, y_eqP, y_eqQ, y_eqPP, if_pos, if_neg, ite_true, ite_false, not_true_eq_false, not_false_eq_true, and_true, true_and, and_false, false_and, or_true, true_or, or_false, false_or, ym_isPlayer hM hW, h]
theorem z_aware (hR : j_Rel σ τ) (a1 a2 : Int32) : ∃ v σ1 τ1, f_X11_aware a1 a2 σ = some (v, σ1) ∧ f_X12_aware a1 a2 τ = some (v, τ1) ∧ j_Rel σ1 τ1 := by
  obtain ⟨b, hW, hN, hM, hK⟩ := id hR
  have hs := y_gs_le (b := b)
  by_cases h : y_rg a1 (b 6)
  · obtain ⟨p, hp, rfl⟩ := y_of _ _ h.1 h.2
    have hq := y_pqv hW hp
    have hv := y_dg_vg hW (b 8)
    obtain ⟨σ1, e1, ⟨e2, e3, e4⟩, e5⟩ := yc_ready hN hW hp
    obtain ⟨τ1, f1, f2, f3⟩ := ym_laid hM hW
    obtain ⟨τ2, g1, g2, g3, g4, g5⟩ := ym_told f2.1 hW hp
    have f2' := f2.fr g5 (by omega) (by omega)
    have hr := y_done hR e5 (f3.trans (g5.wide (by omega) (by omega) (by omega) (by omega)))
    by_cases h2 : y_rg a2 (y_gs b)
    · obtain ⟨i, hi, rfl⟩ := y_of _ _ h2.1 h2.2
      refine ⟨nI (y_aw b (y_pq b p) i), σ1, τ2, ?_, ?_, hr⟩
      · unfold f_X11_aware; simp (disch := omega) only [y_lit, y_n1, nI_add, pk_mul, j_lt, j_b1_s, j_b2_s, j_b3_s, j_b0_s, y_bo, y_bo1, y_bo0, y_i0, y_i1, Classical.not_not, nI_clamp, y_ix, y_lt, y_le, y_eq, y_nP, y_nPs, y_ltP, y_ltQ, y_ltPP, y_eqP, y_eqQ, y_eqPP, if_pos, if_neg, ite_true, ite_false, not_true_eq_false, not_false_eq_true, and_true, true_and, and_false, false_and, or_true, true_or, or_false, false_or, e1, yc_ghas e3 hs, y_rn, yc_awareOf e3 hv e4 hq hW]
      · unfold f_X12_aware; simp (disch := omega) only [y_lit, y_n1, nI_add, pk_mul, j_lt, j_b1_s, j_b2_s, j_b3_s, j_b0_s, y_bo, y_bo1, y_bo0, y_i0, y_i1, Classical.not_not, nI_clamp, y_ix, y_lt, y_le, y_eq, y_nP, y_nPs, y_ltP, y_ltQ, y_ltPP, y_eqP, y_eqQ, y_eqPP, if_pos, if_neg, ite_true, ite_false, not_true_eq_false, not_false_eq_true, and_true, true_and, and_false, false_and, or_true, true_or, or_false, false_or, ym_isPlayer hM hW, if_pos h, f1, g1, ym_ing f2'.2.1 hs, y_rn, ym_awareOf f2'.2 hv g2 hq hW]
    · refine ⟨-1, σ1, τ2, ?_, ?_, hr⟩
      · unfold f_X11_aware; simp (disch := omega) only [y_lit, y_n1, nI_add, pk_mul, j_lt, j_b1_s, j_b2_s, j_b3_s, j_b0_s, y_bo, y_bo1, y_bo0, y_i0, y_i1, Classical.not_not, nI_clamp, y_ix, y_lt, y_le, y_eq, y_nP, y_nPs, y_ltP, y_ltQ, y_ltPP, y_eqP, y_eqQ, y_eqPP, if_pos, if_neg, ite_true, ite_false, not_true_eq_false, not_false_eq_true, and_true, true_and, and_false, false_and, or_true, true_or, or_false, false_or, e1, yc_ghas e3 hs, h2]
      · unfold f_X12_aware; simp (disch := omega) only [y_lit, y_n1, nI_add, pk_mul, j_lt, j_b1_s, j_b2_s, j_b3_s, j_b0_s, y_bo, y_bo1, y_bo0, y_i0, y_i1, Classical.not_not, nI_clamp, y_ix, y_lt, y_le, y_eq, y_nP, y_nPs, y_ltP, y_ltQ, y_ltPP, y_eqP, y_eqQ, y_eqPP, if_pos, if_neg, ite_true, ite_false, not_true_eq_false, not_false_eq_true, and_true, true_and, and_false, false_and, or_true, true_or, or_false, false_or, ym_isPlayer hM hW, if_pos h, f1, g1, ym_ing f2'.2.1 hs, h2]
  · refine ⟨-2, σ, τ, ?_, ?_, hR⟩
    · unfold f_X11_aware; rw [yc_unready hN hW h]; simp (disch := omega) only [y_lit, y_n1, nI_add, pk_mul, j_lt, j_b1_s, j_b2_s, j_b3_s, j_b0_s, y_bo, y_bo1, y_bo0, y_i0, y_i1, Classical.not_not, nI_clamp, y_ix, y_lt, y_le, y_eq, y_nP, y_nPs, y_ltP, y_ltQ, y_ltPP, y_eqP, y_eqQ, y_eqPP, if_pos, if_neg, ite_true, ite_false, not_true_eq_false, not_false_eq_true, and_true, true_and, and_false, false_and, or_true, true_or, or_false, false_or]
    · unfold f_X12_aware; rw [ym_isPlayer hM hW, if_neg h]; simp (disch := omega) only [y_lit, y_n1, nI_add, pk_mul, j_lt, j_b1_s, j_b2_s, j_b3_s, j_b0_s, y_bo, y_bo1, y_bo0, y_i0, y_i1, Classical.not_not, nI_clamp, y_ix, y_lt, y_le, y_eq, y_nP, y_nPs, y_ltP, y_ltQ, y_ltPP, y_eqP, y_eqQ, y_eqPP, if_pos, if_neg, ite_true, ite_false, not_true_eq_false, not_false_eq_true, and_true, true_and, and_false, false_and, or_true, true_or, or_false, false_or]
end Z
/-! ===== questions, second part ===== -/
section Z
variable {σ τ : j_G}
theorem z_fault (hR : j_Rel σ τ) (a1 : Int32) : f_X11_fault a1 σ = f_X12_fault a1 τ := by
  obtain ⟨b, hW, hN, hM, hK⟩ := id hR
  have f := hK.2.2.2
  unfold f_X11_fault f_X12_fault
  rw [f.1, f.2]
theorem z_drum (hR : j_Rel σ τ) (a1 a2 : Int32) : ∃ v, f_X11_drum a1 a2 σ = some v ∧ f_X12_drum a1 a2 τ = some v := by
  obtain ⟨b, hW, hN, hM, hK⟩ := id hR
  have h5 := hW.b5
  have w : y_rg a2 3 ↔ a2 = nI 0 ∨ a2 = nI 1 ∨ a2 = nI 2 := by
    unfold y_rg; rw [y_eqr (by omega), y_eqr (by omega), y_eqr (by omega)]; omega
  have ei : f_X12_in a2.toInt64 (0 : Int64) (2 : Int64) = if y_rg a2 3 then nI 1 else nI 0 := by
    simp (disch := omega) only [y_lit, y_n1, nI_add, pk_mul, j_lt, j_b1_s, j_b2_s, j_b3_s, j_b0_s, y_bo, y_bo1, y_bo0, y_i0, y_i1, Classical.not_not, nI_clamp, y_ix, y_lt, y_le, y_eq, y_nP, y_nPs, y_ltP, y_ltQ, y_ltPP, y_eqP, y_eqQ, y_eqPP, if_pos, if_neg, ite_true, ite_false, not_true_eq_false, not_false_eq_true, and_true, true_and, and_false, false_and, or_true, true_or, or_false, false_or, y_lit64, y_in]
    rw [show nI 2 = nP 3 from rfl]; simp (disch := omega) only [y_c2]
  by_cases h : y_rg a1 (b 5)
  · obtain ⟨k, hk, rfl⟩ := y_of _ _ h.1 h.2
    by_cases c : y_rg a2 3
    · rcases w.mp c with rfl | rfl | rfl
      · refine ⟨nI (b (24 + 3 * k)), ?_, ?_⟩
        · unfold f_X11_drum; simp (disch := omega) only [y_lit, y_n1, nI_add, pk_mul, j_lt, j_b1_s, j_b2_s, j_b3_s, j_b0_s, y_bo, y_bo1, y_bo0, y_i0, y_i1, Classical.not_not, nI_clamp, y_ix, y_lt, y_le, y_eq, y_nP, y_nPs, y_ltP, y_ltQ, y_ltPP, y_eqP, y_eqQ, y_eqPP, if_pos, if_neg, ite_true, ite_false, not_true_eq_false, not_false_eq_true, and_true, true_and, and_false, false_and, or_true, true_or, or_false, false_or, yc_has hN hW, y_rn, hN.k0 hk]
        · unfold f_X12_drum; simp (disch := omega) only [y_lit, y_n1, nI_add, pk_mul, j_lt, j_b1_s, j_b2_s, j_b3_s, j_b0_s, y_bo, y_bo1, y_bo0, y_i0, y_i1, Classical.not_not, nI_clamp, y_ix, y_lt, y_le, y_eq, y_nP, y_nPs, y_ltP, y_ltQ, y_ltPP, y_eqP, y_eqQ, y_eqPP, if_pos, if_neg, ite_true, ite_false, not_true_eq_false, not_false_eq_true, and_true, true_and, and_false, false_and, or_true, true_or, or_false, false_or, ym_isComing hM hW, y_rn, ei, ym_co0 hM]
      · refine ⟨nP (b (25 + 3 * k)), ?_, ?_⟩
        · unfold f_X11_drum; simp (disch := omega) only [y_lit, y_n1, nI_add, pk_mul, j_lt, j_b1_s, j_b2_s, j_b3_s, j_b0_s, y_bo, y_bo1, y_bo0, y_i0, y_i1, Classical.not_not, nI_clamp, y_ix, y_lt, y_le, y_eq, y_nP, y_nPs, y_ltP, y_ltQ, y_ltPP, y_eqP, y_eqQ, y_eqPP, if_pos, if_neg, ite_true, ite_false, not_true_eq_false, not_false_eq_true, and_true, true_and, and_false, false_and, or_true, true_or, or_false, false_or, yc_has hN hW, y_rn, hN.k1 hk]
        · unfold f_X12_drum; simp (disch := omega) only [y_lit, y_n1, nI_add, pk_mul, j_lt, j_b1_s, j_b2_s, j_b3_s, j_b0_s, y_bo, y_bo1, y_bo0, y_i0, y_i1, Classical.not_not, nI_clamp, y_ix, y_lt, y_le, y_eq, y_nP, y_nPs, y_ltP, y_ltQ, y_ltPP, y_eqP, y_eqQ, y_eqPP, if_pos, if_neg, ite_true, ite_false, not_true_eq_false, not_false_eq_true, and_true, true_and, and_false, false_and, or_true, true_or, or_false, false_or, ym_isComing hM hW, y_rn, ei, ym_co1 hM]
      · refine ⟨nI (b (26 + 3 * k)), ?_, ?_⟩
        · unfold f_X11_drum; simp (disch := omega) only [y_lit, y_n1, nI_add, pk_mul, j_lt, j_b1_s, j_b2_s, j_b3_s, j_b0_s, y_bo, y_bo1, y_bo0, y_i0, y_i1, Classical.not_not, nI_clamp, y_ix, y_lt, y_le, y_eq, y_nP, y_nPs, y_ltP, y_ltQ, y_ltPP, y_eqP, y_eqQ, y_eqPP, if_pos, if_neg, ite_true, ite_false, not_true_eq_false, not_false_eq_true, and_true, true_and, and_false, false_and, or_true, true_or, or_false, false_or, yc_has hN hW, y_rn, hN.k2 hk]
        · unfold f_X12_drum; simp (disch := omega) only [y_lit, y_n1, nI_add, pk_mul, j_lt, j_b1_s, j_b2_s, j_b3_s, j_b0_s, y_bo, y_bo1, y_bo0, y_i0, y_i1, Classical.not_not, nI_clamp, y_ix, y_lt, y_le, y_eq, y_nP, y_nPs, y_ltP, y_ltQ, y_ltPP, y_eqP, y_eqQ, y_eqPP, if_pos, if_neg, ite_true, ite_false, not_true_eq_false, not_false_eq_true, and_true, true_and, and_false, false_and, or_true, true_or, or_false, false_or, ym_isComing hM hW, y_rn, ei, ym_co2 hM]
    · refine ⟨-2, ?_, ?_⟩
      · have n0 : ¬ a2 = nI 0 := fun z => c (w.mpr (Or.inl z))
        have n1 : ¬ a2 = nI 1 := fun z => c (w.mpr (Or.inr (Or.inl z)))
        have n2 : ¬ a2 = nI 2 := fun z => c (w.mpr (Or.inr (Or.inr z)))
        unfold f_X11_drum; simp (disch := omega) only [y_lit, y_n1, nI_add, pk_mul, j_lt, j_b1_s, j_b2_s, j_b3_s, j_b0_s, y_bo, y_bo1, y_bo0, y_i0, y_i1, Classical.not_not, nI_clamp, y_ix, y_lt, y_le, y_eq, y_nP, y_nPs, y_ltP, y_ltQ, y_ltPP, y_eqP, y_eqQ, y_eqPP, if_pos, if_neg, ite_true, ite_false, not_true_eq_false, not_false_eq_true, and_true, true_and, and_false, false_and, or_true, true_or, or_false, false_or, yc_has hN hW, y_rn, n0, n1, n2]
      · unfold f_X12_drum; rw [ei, if_neg c]; simp (disch := omega) only [y_lit, y_n1, nI_add, pk_mul, j_lt, j_b1_s, j_b2_s, j_b3_s, j_b0_s, y_bo, y_bo1, y_bo0, y_i0, y_i1, Classical.not_not, nI_clamp, y_ix, y_lt, y_le, y_eq, y_nP, y_nPs, y_ltP, y_ltQ, y_ltPP, y_eqP, y_eqQ, y_eqPP, if_pos, if_neg, ite_true, ite_false, not_true_eq_false, not_false_eq_true, and_true, true_and, and_false, false_and, or_true, true_or, or_false, false_or, ym_isComing hM hW, y_rn]
  · refine ⟨-2, ?_, ?_⟩
    · unfold f_X11_drum; simp (disch := omega) only [y_lit, y_n1, nI_add, pk_mul, j_lt, j_b1_s, j_b2_s, j_b3_s, j_b0_s, y_bo, y_bo1, y_bo0, y_i0, y_i1, Classical.not_not, nI_clamp, y_ix, y_lt, y_le, y_eq, y_nP, y_nPs, y_ltP, y_ltQ, y_ltPP, y_eqP, y_eqQ, y_eqPP, if_pos, if_neg, ite_true, ite_false, not_true_eq_false, not_false_eq_true, and_true, true_and, and_false, false_and, or_true, true_or, or_false, false_or, yc_has hN hW, h]
    · unfold f_X12_drum; rw [ym_isComing hM hW, if_neg h]; simp (disch := omega) only [y_lit, y_n1, nI_add, pk_mul, j_lt, j_b1_s, j_b2_s, j_b3_s, j_b0_s, y_bo, y_bo1, y_bo0, y_i0, y_i1, Classical.not_not, nI_clamp, y_ix, y_lt, y_le, y_eq, y_nP, y_nPs, y_ltP, y_ltQ, y_ltPP, y_eqP, y_eqQ, y_eqPP, if_pos, if_neg, ite_true, ite_false, not_true_eq_false, not_false_eq_true, and_true, true_and, and_false, false_and, or_true, true_or, or_false, false_or]
theorem y_c3 {x : Int32} {n : Nat} (hn : n + 1 < 2 ^ 31) : (¬ x < nI 0 ∧ ¬ nI n < x) ↔ y_rg x (n + 1) := by
  rw [j_ltI, j_ltI, nI_toInt (by omega), nI_toInt (by omega)]; unfold y_rg; omega
theorem y_c4 {x : Int32} {n : Nat} (hn : n < 2 ^ 31) : (x < nI 0 ∨ ¬ x < nI n) ↔ ¬ y_rg x n := by
  rw [j_ltI, j_ltI, nI_toInt hn, nI_toInt (by omega)]; unfold y_rg; omega
theorem y_c5 {x : Int32} {n : Nat} (hn : n + 1 < 2 ^ 31) : (x < nI 0 ∨ nI n < x) ↔ ¬ y_rg x (n + 1) := by
  rw [j_ltI, j_ltI, nI_toInt (by omega), nI_toInt (by omega)]; unfold y_rg; omega
theorem z_player (hR : j_Rel σ τ) (a1 a2 : Int32) : ∃ v, f_X11_player a1 a2 σ = some v ∧ f_X12_player a1 a2 τ = some v := by
  obtain ⟨b, hW, hN, hM, hK⟩ := id hR
  have h6 := hW.b6
  by_cases h : y_rg a1 (b 6)
  · obtain ⟨p, hp, rfl⟩ := y_of _ _ h.1 h.2
    by_cases c : y_rg a2 5
    · obtain ⟨q, hq, rfl⟩ := y_of _ _ c.1 c.2
      refine ⟨nI (b (96 + 5 * p + q)), ?_, ?_⟩
      · unfold f_X11_player; simp (disch := omega) only [y_lit, y_n1, nI_add, pk_mul, j_lt, j_b1_s, j_b2_s, j_b3_s, j_b0_s, y_bo, y_bo1, y_bo0, y_i0, y_i1, Classical.not_not, nI_clamp, y_ix, y_lt, y_le, y_eq, y_nP, y_nPs, y_ltP, y_ltQ, y_ltPP, y_eqP, y_eqQ, y_eqPP, if_pos, if_neg, ite_true, ite_false, not_true_eq_false, not_false_eq_true, and_true, true_and, and_false, false_and, or_true, true_or, or_false, false_or, yc_isPlayer hN hW, y_rn, yc_trait hN hW]
      · unfold f_X12_player; simp (disch := omega) only [y_lit, y_n1, nI_add, pk_mul, j_lt, j_b1_s, j_b2_s, j_b3_s, j_b0_s, y_bo, y_bo1, y_bo0, y_i0, y_i1, Classical.not_not, nI_clamp, y_ix, y_lt, y_le, y_eq, y_nP, y_nPs, y_ltP, y_ltQ, y_ltPP, y_eqP, y_eqQ, y_eqPP, if_pos, if_neg, ite_true, ite_false, not_true_eq_false, not_false_eq_true, and_true, true_and, and_false, false_and, or_true, true_or, or_false, false_or, ym_isPlayer hM hW, y_rn, y_lit64, y_in, ym_of hM]
    · refine ⟨-2, ?_, ?_⟩
      · unfold f_X11_player; simp (disch := omega) only [y_lit, y_n1, nI_add, pk_mul, j_lt, j_b1_s, j_b2_s, j_b3_s, j_b0_s, y_bo, y_bo1, y_bo0, y_i0, y_i1, Classical.not_not, nI_clamp, y_ix, y_lt, y_le, y_eq, y_nP, y_nPs, y_ltP, y_ltQ, y_ltPP, y_eqP, y_eqQ, y_eqPP, if_pos, if_neg, ite_true, ite_false, not_true_eq_false, not_false_eq_true, and_true, true_and, and_false, false_and, or_true, true_or, or_false, false_or, yc_isPlayer hN hW, y_rn, y_c4, c]
      · unfold f_X12_player; simp (disch := omega) only [y_lit, y_n1, nI_add, pk_mul, j_lt, j_b1_s, j_b2_s, j_b3_s, j_b0_s, y_bo, y_bo1, y_bo0, y_i0, y_i1, Classical.not_not, nI_clamp, y_ix, y_lt, y_le, y_eq, y_nP, y_nPs, y_ltP, y_ltQ, y_ltPP, y_eqP, y_eqQ, y_eqPP, if_pos, if_neg, ite_true, ite_false, not_true_eq_false, not_false_eq_true, and_true, true_and, and_false, false_and, or_true, true_or, or_false, false_or, ym_isPlayer hM hW, y_rn, y_lit64, y_in, y_c3, c]
  · refine ⟨-2, ?_, ?_⟩
    · unfold f_X11_player; simp (disch := omega) only [y_lit, y_n1, nI_add, pk_mul, j_lt, j_b1_s, j_b2_s, j_b3_s, j_b0_s, y_bo, y_bo1, y_bo0, y_i0, y_i1, Classical.not_not, nI_clamp, y_ix, y_lt, y_le, y_eq, y_nP, y_nPs, y_ltP, y_ltQ, y_ltPP, y_eqP, y_eqQ, y_eqPP, if_pos, if_neg, ite_true, ite_false, not_true_eq_false, not_false_eq_true, and_true, true_and, and_false, false_and, or_true, true_or, or_false, false_or, yc_isPlayer hN hW, h]
    · unfold f_X12_player; simp (disch := omega) only [y_lit, y_n1, nI_add, pk_mul, j_lt, j_b1_s, j_b2_s, j_b3_s, j_b0_s, y_bo, y_bo1, y_bo0, y_i0, y_i1, Classical.not_not, nI_clamp, y_ix, y_lt, y_le, y_eq, y_nP, y_nPs, y_ltP, y_ltQ, y_ltPP, y_eqP, y_eqQ, y_eqPP, if_pos, if_neg, ite_true, ite_false, not_true_eq_false, not_false_eq_true, and_true, true_and, and_false, false_and, or_true, true_or, or_false, false_or, ym_isPlayer hM hW, h]
theorem z_comes (hR : j_Rel σ τ) (a1 a2 : Int32) : ∃ v σ1 τ1, f_X11_comes a1 a2 σ = some (v, σ1) ∧ f_X12_comes a1 a2 τ = some (v, τ1) ∧ j_Rel σ1 τ1 := by
  obtain ⟨b, hW, hN, hM, hK⟩ := id hR
  have hs := y_gs_le (b := b)
  have hv := y_dg_vg hW (b 8)
  have w : y_rg a2 5 ↔ a2 = nI 0 ∨ a2 = nI 1 ∨ a2 = nI 2 ∨ a2 = nI 3 ∨ a2 = nI 4 := by
    unfold y_rg; rw [y_eqr (by omega), y_eqr (by omega), y_eqr (by omega), y_eqr (by omega), y_eqr (by omega)]; omega
  by_cases h : 0 < b 9 ∧ y_rg a2 5
  · obtain ⟨σ1, e1, e2, e3⟩ := yc_dealt hN hW
    obtain ⟨τ1, f1, f2, f3⟩ := ym_laid hM hW
    have hr := y_done hR (e3.wide (by omega) (by omega)) f3
    have h9 := h.1
    by_cases h2 : y_rg a1 (y_gs b)
    · obtain ⟨i, hi, rfl⟩ := y_of _ _ h2.1 h2.2
      have c := e2.2 i hi
      have m := f2.2.2 i hi
      have mm : ∀ q, q < 3 → f_X12_inGame (nI i) (nI q) τ1 = some (τ1.1 82 (3 * i + q)) := by
        intro q hq
        unfold f_X12_inGame; simp (disch := omega) only [y_lit, y_n1, nI_add, pk_mul, j_lt, j_b1_s, j_b2_s, j_b3_s, j_b0_s, y_bo, y_bo1, y_bo0, y_i0, y_i1, Classical.not_not, nI_clamp, y_ix, y_lt, y_le, y_eq, y_nP, y_nPs, y_ltP, y_ltQ, y_ltPP, y_eqP, y_eqQ, y_eqPP, if_pos, if_neg, ite_true, ite_false, not_true_eq_false, not_false_eq_true, and_true, true_and, and_false, false_and, or_true, true_or, or_false, false_or]
      rcases w.mp h.2 with rfl | rfl | rfl | rfl | rfl
      · refine ⟨nI (y_dg b (b 8) (3 * i)), σ1, τ1, ?_, ?_, hr⟩
        · unfold f_X11_comes; simp (disch := omega) only [y_lit, y_n1, nI_add, pk_mul, j_lt, j_b1_s, j_b2_s, j_b3_s, j_b0_s, y_bo, y_bo1, y_bo0, y_i0, y_i1, Classical.not_not, nI_clamp, y_ix, y_lt, y_le, y_eq, y_nP, y_nPs, y_ltP, y_ltQ, y_ltPP, y_eqP, y_eqQ, y_eqPP, if_pos, if_neg, ite_true, ite_false, not_true_eq_false, not_false_eq_true, and_true, true_and, and_false, false_and, or_true, true_or, or_false, false_or, yc_isTold hN hW, e1, yc_ghas e2 hs, y_rn, c]
        · unfold f_X12_comes; simp (disch := omega) only [y_lit, y_n1, nI_add, pk_mul, j_lt, j_b1_s, j_b2_s, j_b3_s, j_b0_s, y_bo, y_bo1, y_bo0, y_i0, y_i1, Classical.not_not, nI_clamp, y_ix, y_lt, y_le, y_eq, y_nP, y_nPs, y_ltP, y_ltQ, y_ltPP, y_eqP, y_eqQ, y_eqPP, if_pos, if_neg, ite_true, ite_false, not_true_eq_false, not_false_eq_true, and_true, true_and, and_false, false_and, or_true, true_or, or_false, false_or, ym_isBoard hM hW, y_lit64, y_in, f1, ym_ing f2.2.1 hs, y_rn, mm, m, Nat.add_zero]
      · refine ⟨nP (y_dg b (b 8) (3 * i + 1)), σ1, τ1, ?_, ?_, hr⟩
        · unfold f_X11_comes; simp (disch := omega) only [y_lit, y_n1, nI_add, pk_mul, j_lt, j_b1_s, j_b2_s, j_b3_s, j_b0_s, y_bo, y_bo1, y_bo0, y_i0, y_i1, Classical.not_not, nI_clamp, y_ix, y_lt, y_le, y_eq, y_nP, y_nPs, y_ltP, y_ltQ, y_ltPP, y_eqP, y_eqQ, y_eqPP, if_pos, if_neg, ite_true, ite_false, not_true_eq_false, not_false_eq_true, and_true, true_and, and_false, false_and, or_true, true_or, or_false, false_or, yc_isTold hN hW, e1, yc_ghas e2 hs, y_rn, c]
        · unfold f_X12_comes; simp (disch := omega) only [y_lit, y_n1, nI_add, pk_mul, j_lt, j_b1_s, j_b2_s, j_b3_s, j_b0_s, y_bo, y_bo1, y_bo0, y_i0, y_i1, Classical.not_not, nI_clamp, y_ix, y_lt, y_le, y_eq, y_nP, y_nPs, y_ltP, y_ltQ, y_ltPP, y_eqP, y_eqQ, y_eqPP, if_pos, if_neg, ite_true, ite_false, not_true_eq_false, not_false_eq_true, and_true, true_and, and_false, false_and, or_true, true_or, or_false, false_or, ym_isBoard hM hW, y_lit64, y_in, f1, ym_ing f2.2.1 hs, y_rn, mm, m, Nat.add_zero]
      · refine ⟨nI (y_dg b (b 8) (3 * i + 2)), σ1, τ1, ?_, ?_, hr⟩
        · unfold f_X11_comes; simp (disch := omega) only [y_lit, y_n1, nI_add, pk_mul, j_lt, j_b1_s, j_b2_s, j_b3_s, j_b0_s, y_bo, y_bo1, y_bo0, y_i0, y_i1, Classical.not_not, nI_clamp, y_ix, y_lt, y_le, y_eq, y_nP, y_nPs, y_ltP, y_ltQ, y_ltPP, y_eqP, y_eqQ, y_eqPP, if_pos, if_neg, ite_true, ite_false, not_true_eq_false, not_false_eq_true, and_true, true_and, and_false, false_and, or_true, true_or, or_false, false_or, yc_isTold hN hW, e1, yc_ghas e2 hs, y_rn, c]
        · unfold f_X12_comes; simp (disch := omega) only [y_lit, y_n1, nI_add, pk_mul, j_lt, j_b1_s, j_b2_s, j_b3_s, j_b0_s, y_bo, y_bo1, y_bo0, y_i0, y_i1, Classical.not_not, nI_clamp, y_ix, y_lt, y_le, y_eq, y_nP, y_nPs, y_ltP, y_ltQ, y_ltPP, y_eqP, y_eqQ, y_eqPP, if_pos, if_neg, ite_true, ite_false, not_true_eq_false, not_false_eq_true, and_true, true_and, and_false, false_and, or_true, true_or, or_false, false_or, ym_isBoard hM hW, y_lit64, y_in, f1, ym_ing f2.2.1 hs, y_rn, mm, m, Nat.add_zero]
      · refine ⟨nI (y_from b i), σ1, τ1, ?_, ?_, hr⟩
        · unfold f_X11_comes; simp (disch := omega) only [y_lit, y_n1, nI_add, pk_mul, j_lt, j_b1_s, j_b2_s, j_b3_s, j_b0_s, y_bo, y_bo1, y_bo0, y_i0, y_i1, Classical.not_not, nI_clamp, y_ix, y_lt, y_le, y_eq, y_nP, y_nPs, y_ltP, y_ltQ, y_ltPP, y_eqP, y_eqQ, y_eqPP, if_pos, if_neg, ite_true, ite_false, not_true_eq_false, not_false_eq_true, and_true, true_and, and_false, false_and, or_true, true_or, or_false, false_or, yc_isTold hN hW, e1, yc_ghas e2 hs, y_rn, c]
        · unfold f_X12_comes; simp (disch := omega) only [y_lit, y_n1, nI_add, pk_mul, j_lt, j_b1_s, j_b2_s, j_b3_s, j_b0_s, y_bo, y_bo1, y_bo0, y_i0, y_i1, Classical.not_not, nI_clamp, y_ix, y_lt, y_le, y_eq, y_nP, y_nPs, y_ltP, y_ltQ, y_ltPP, y_eqP, y_eqQ, y_eqPP, if_pos, if_neg, ite_true, ite_false, not_true_eq_false, not_false_eq_true, and_true, true_and, and_false, false_and, or_true, true_or, or_false, false_or, ym_isBoard hM hW, y_lit64, y_in, f1, ym_ing f2.2.1 hs, y_rn, mm, m, Nat.add_zero]
      · refine ⟨nI (y_last b i), σ1, τ1, ?_, ?_, hr⟩
        · unfold f_X11_comes; simp (disch := omega) only [y_lit, y_n1, nI_add, pk_mul, j_lt, j_b1_s, j_b2_s, j_b3_s, j_b0_s, y_bo, y_bo1, y_bo0, y_i0, y_i1, Classical.not_not, nI_clamp, y_ix, y_lt, y_le, y_eq, y_nP, y_nPs, y_ltP, y_ltQ, y_ltPP, y_eqP, y_eqQ, y_eqPP, if_pos, if_neg, ite_true, ite_false, not_true_eq_false, not_false_eq_true, and_true, true_and, and_false, false_and, or_true, true_or, or_false, false_or, yc_isTold hN hW, e1, yc_ghas e2 hs, y_rn, c]
        · unfold f_X12_comes; simp (disch := omega) only [y_lit, y_n1, nI_add, pk_mul, j_lt, j_b1_s, j_b2_s, j_b3_s, j_b0_s, y_bo, y_bo1, y_bo0, y_i0, y_i1, Classical.not_not, nI_clamp, y_ix, y_lt, y_le, y_eq, y_nP, y_nPs, y_ltP, y_ltQ, y_ltPP, y_eqP, y_eqQ, y_eqPP, if_pos, if_neg, ite_true, ite_false, not_true_eq_false, not_false_eq_true, and_true, true_and, and_false, false_and, or_true, true_or, or_false, false_or, ym_isBoard hM hW, y_lit64, y_in, f1, ym_ing f2.2.1 hs, y_rn, mm, m, Nat.add_zero]
    · refine ⟨-1, σ1, τ1, ?_, ?_, hr⟩
      · unfold f_X11_comes; simp (disch := omega) only [y_lit, y_n1, nI_add, pk_mul, j_lt, j_b1_s, j_b2_s, j_b3_s, j_b0_s, y_bo, y_bo1, y_bo0, y_i0, y_i1, Classical.not_not, nI_clamp, y_ix, y_lt, y_le, y_eq, y_nP, y_nPs, y_ltP, y_ltQ, y_ltPP, y_eqP, y_eqQ, y_eqPP, if_pos, if_neg, ite_true, ite_false, not_true_eq_false, not_false_eq_true, and_true, true_and, and_false, false_and, or_true, true_or, or_false, false_or, yc_isTold hN hW, e1, yc_ghas e2 hs, h2, y_c5, h.2]
      · unfold f_X12_comes; simp (disch := omega) only [y_lit, y_n1, nI_add, pk_mul, j_lt, j_b1_s, j_b2_s, j_b3_s, j_b0_s, y_bo, y_bo1, y_bo0, y_i0, y_i1, Classical.not_not, nI_clamp, y_ix, y_lt, y_le, y_eq, y_nP, y_nPs, y_ltP, y_ltQ, y_ltPP, y_eqP, y_eqQ, y_eqPP, if_pos, if_neg, ite_true, ite_false, not_true_eq_false, not_false_eq_true, and_true, true_and, and_false, false_and, or_true, true_or, or_false, false_or, ym_isBoard hM hW, y_lit64, y_in, y_c3, h.2, f1, ym_ing f2.2.1 hs, h2]
  · refine ⟨-2, σ, τ, ?_, ?_, hR⟩
    · unfold f_X11_comes; simp (disch := omega) only [y_lit, y_n1, nI_add, pk_mul, j_lt, j_b1_s, j_b2_s, j_b3_s, j_b0_s, y_bo, y_bo1, y_bo0, y_i0, y_i1, Classical.not_not, nI_clamp, y_ix, y_lt, y_le, y_eq, y_nP, y_nPs, y_ltP, y_ltQ, y_ltPP, y_eqP, y_eqQ, y_eqPP, if_pos, if_neg, ite_true, ite_false, not_true_eq_false, not_false_eq_true, and_true, true_and, and_false, false_and, or_true, true_or, or_false, false_or, yc_isTold hN hW, y_c5]
    · unfold f_X12_comes; simp (disch := omega) only [y_lit, y_n1, nI_add, pk_mul, j_lt, j_b1_s, j_b2_s, j_b3_s, j_b0_s, y_bo, y_bo1, y_bo0, y_i0, y_i1, Classical.not_not, nI_clamp, y_ix, y_lt, y_le, y_eq, y_nP, y_nPs, y_ltP, y_ltQ, y_ltPP, y_eqP, y_eqQ, y_eqPP, if_pos, if_neg, ite_true, ite_false, not_true_eq_false, not_false_eq_true, and_true, true_and, and_false, false_and, or_true, true_or, or_false, false_or, ym_isBoard hM hW, y_lit64, y_in, y_c3]
end Z
/-! ===== what is up, how long nothing is ===== -/
theorem y_or {a c : Nat} : nI a ||| nI c = nI (a ||| c) := by
  apply Int32.toBitVec_inj.mp
  show BitVec.ofNat 32 a ||| BitVec.ofNat 32 c = BitVec.ofNat 32 (a ||| c)
  rw [BitVec.ofNat_or]
theorem y_and {a c : Nat} : nI a &&& nI c = nI (a &&& c) := by
  apply Int32.toBitVec_inj.mp
  show BitVec.ofNat 32 a &&& BitVec.ofNat 32 c = BitVec.ofNat 32 (a &&& c)
  rw [BitVec.ofNat_and]
theorem y_subsub {a c : Nat} (x : Int32) : x - nI a - nI c = x - nI (a + c) := by
  rw [← nI_add]
  apply Int32.toBitVec_inj.mp
  show x.toBitVec - (nI a).toBitVec - (nI c).toBitVec = x.toBitVec - ((nI a).toBitVec + (nI c).toBitVec)
  rw [BitVec.sub_sub]
noncomputable def y_su (f : Nat → Nat) : Nat → Nat → Nat → Nat
  | 0, _, s => s
  | m + 1, i, s => y_su f m (i + 1) (s + f i)
theorem y_su_add {f : Nat → Nat} : ∀ m i s x, y_su f m i (s + x) = y_su f m i s + x := by
  intro m
  induction m with
  | zero => intro i s x; rfl
  | succ m ih => intro i s x; unfold y_su; rw [show s + x + f i = s + f i + x from by omega, ih]
theorem y_su_congr {f g : Nat → Nat} : ∀ m i s, (∀ j, i ≤ j → j < i + m → f j = g j) → y_su f m i s = y_su g m i s := by
  intro m
  induction m with
  | zero => intro i s _; rfl
  | succ m ih => intro i s h; unfold y_su; rw [h i (by omega) (by omega), ih _ _ (fun j h1 h2 => h j (by omega) (by omega))]
theorem y_su_le {f g : Nat → Nat} : ∀ m i s s', s ≤ s' → (∀ j, i ≤ j → j < i + m → f j ≤ g j) → y_su f m i s ≤ y_su g m i s' := by
  intro m
  induction m with
  | zero => intro i s s' h _; exact h
  | succ m ih => intro i s s' h hj; unfold y_su; exact ih _ _ _ (by have := hj i (by omega) (by omega); omega) (fun j h1 h2 => hj j (by omega) (by omega))
/-- the coming that is up, and 1 -/
noncomputable def y_ui (b : Nat → Nat) (t : Nat) : Nat → Nat → Nat
  | 0, _ => 0
  | m + 1, i => if y_from b i ≤ t ∧ t ≤ y_last b i then i + 1 else y_ui b t m (i + 1)
theorem y_apart {b : Nat → Nat} (hW : y_W b) : ∀ d i, y_last b i < y_from b (i + d + 1) := by
  intro d
  induction d with
  | zero => intro i; show y_last b i < y_from b (i + 1); rw [y_from_s]; omega
  | succ d ih =>
    intro i
    have h1 := ih i
    have h2 := y_from_s b (i + d + 1)
    have h3 := y_last_le hW (i + d + 1)
    rw [show i + (d + 1) + 1 = i + d + 1 + 1 from by omega]
    omega
theorem y_apart2 {b : Nat → Nat} (hW : y_W b) {i j : Nat} (h : i < j) : y_last b i < y_from b j := by
  have := y_apart hW (j - i - 1) i
  rw [show i + (j - i - 1) + 1 = j from by omega] at this
  exact this
theorem y_ui_le {b : Nat → Nat} {t : Nat} : ∀ m i, y_ui b t m i = 0 ∨ (i < y_ui b t m i ∧ y_ui b t m i ≤ i + m) := by
  intro m
  induction m with
  | zero => intro i; exact Or.inl rfl
  | succ m ih =>
    intro i
    unfold y_ui
    split
    · omega
    · have := ih (i + 1); omega
theorem y_ui_no {b : Nat → Nat} {t : Nat} : ∀ m i, (∀ j, i ≤ j → j < i + m → t < y_from b j) → y_ui b t m i = 0 := by
  intro m
  induction m with
  | zero => intro i _; rfl
  | succ m ih =>
    intro i h
    unfold y_ui
    rw [if_neg (fun z => by have := h i (by omega) (by omega); omega)]
    exact ih (i + 1) (fun j h1 h2 => h j (by omega) (by omega))
/-- a coming's holes as bits -/
noncomputable def y_hb (g : Nat → Nat) (i : Nat) : Nat := 2 ^ g (3 * i) ||| (if g (3 * i + 1) = 0 then 0 else 2 ^ (g (3 * i + 1) - 1))
noncomputable def y_upb (g : Nat → Nat) (u : Nat) : Nat := if u = 0 then 0 else y_hb g (u - 1)
theorem y_hb_pos {g : Nat → Nat} {i : Nat} : 0 < y_hb g i := Nat.lt_of_lt_of_le (Nat.pow_pos (by omega)) Nat.left_le_or
theorem y_hb_lt {b g : Nat → Nat} {s i : Nat} (hW : y_W b) (hv : y_vg b s g) (hi : i < s) : y_hb g i < 4096 := by
  have h := hv.2 i hi
  have h4 := hW.ho
  unfold y_hb
  refine Nat.or_lt_two_pow (n := 12) (Nat.pow_lt_pow_right (by omega) (by omega)) ?_
  split
  · omega
  · exact Nat.pow_lt_pow_right (by omega) (by omega)
section C
variable {σ τ : j_G} {b g : Nat → Nat} {s t : Nat}
theorem yc_upIn (hc : y_cg σ b s g) (hv : y_vg b s g) (hW : y_W b) (ht : t < 1000) : f_X4_upIn (nI t) σ = some (nP (y_ui b t s 0)) := by
  have hs := hv.1
  have h2 := hW.b2
  have key : ∀ m i n, i + m = s → m < n → p_X4_upIn_2 (nI t) σ n (nI i) = some (nP (y_ui b t m i)) := by
    intro m
    induction m with
    | zero =>
      intro i n h hn
      obtain ⟨n, rfl⟩ := y_pos hn
      unfold p_X4_upIn_2 y_ui; simp (disch := omega) only [y_lit, y_n1, nI_add, pk_mul, j_lt, j_b1_s, j_b2_s, j_b3_s, j_b0_s, y_bo, y_bo1, y_bo0, y_i0, y_i1, Classical.not_not, nI_clamp, y_ix, y_lt, y_le, y_eq, y_nP, y_nPs, y_ltP, y_ltQ, y_ltPP, y_eqP, y_eqQ, y_eqPP, if_pos, if_neg, ite_true, ite_false, not_true_eq_false, not_false_eq_true, and_true, true_and, and_false, false_and, or_true, true_or, or_false, false_or, hc.1]
    | succ m ih =>
      intro i n h hn
      obtain ⟨n, rfl⟩ := y_pos hn
      have ci := hc.2 i (by omega)
      have vi := (hv.2 i (by omega)).2.2.2.2.2
      have le := y_last_le hW i
      unfold p_X4_upIn_2 y_ui; simp (disch := omega) only [y_lit, y_n1, nI_add, pk_mul, j_lt, j_b1_s, j_b2_s, j_b3_s, j_b0_s, y_bo, y_bo1, y_bo0, y_i0, y_i1, Classical.not_not, nI_clamp, y_ix, y_lt, y_le, y_eq, y_nP, y_nPs, y_ltP, y_ltQ, y_ltPP, y_eqP, y_eqQ, y_eqPP, if_pos, if_neg, ite_true, ite_false, not_true_eq_false, not_false_eq_true, and_true, true_and, and_false, false_and, or_true, true_or, or_false, false_or, hc.1, ci]
      rw [ih (i + 1) n (by omega) (by omega)]
      by_cases c : y_from b i ≤ t
      · by_cases c2 : t ≤ y_last b i
        · simp (disch := omega) only [y_lit, y_n1, nI_add, pk_mul, j_lt, j_b1_s, j_b2_s, j_b3_s, j_b0_s, y_bo, y_bo1, y_bo0, y_i0, y_i1, Classical.not_not, nI_clamp, y_ix, y_lt, y_le, y_eq, y_nP, y_nPs, y_ltP, y_ltQ, y_ltPP, y_eqP, y_eqQ, y_eqPP, if_pos, if_neg, ite_true, ite_false, not_true_eq_false, not_false_eq_true, and_true, true_and, and_false, false_and, or_true, true_or, or_false, false_or]
        · simp (disch := omega) only [y_lit, y_n1, nI_add, pk_mul, j_lt, j_b1_s, j_b2_s, j_b3_s, j_b0_s, y_bo, y_bo1, y_bo0, y_i0, y_i1, Classical.not_not, nI_clamp, y_ix, y_lt, y_le, y_eq, y_nP, y_nPs, y_ltP, y_ltQ, y_ltPP, y_eqP, y_eqQ, y_eqPP, if_pos, if_neg, ite_true, ite_false, not_true_eq_false, not_false_eq_true, and_true, true_and, and_false, false_and, or_true, true_or, or_false, false_or]
      · simp (disch := omega) only [y_lit, y_n1, nI_add, pk_mul, j_lt, j_b1_s, j_b2_s, j_b3_s, j_b0_s, y_bo, y_bo1, y_bo0, y_i0, y_i1, Classical.not_not, nI_clamp, y_ix, y_lt, y_le, y_eq, y_nP, y_nPs, y_ltP, y_ltQ, y_ltPP, y_eqP, y_eqQ, y_eqPP, if_pos, if_neg, ite_true, ite_false, not_true_eq_false, not_false_eq_true, and_true, true_and, and_false, false_and, or_true, true_or, or_false, false_or]
  unfold f_X4_upIn
  rw [y_lit]
  exact key s 0 j_F (by omega) (y_F (by omega))
theorem yc_holesOf (hc : y_cg σ b s g) (hv : y_vg b s g) (hW : y_W b) {i : Nat} (hi : i < s) : f_X4_holesOf (nI i) σ = some (nI (y_hb g i)) := by
  have hs := hv.1
  have h4 := hW.ho
  have ci := hc.2 i hi
  have vi := hv.2 i hi
  unfold f_X4_holesOf y_hb
  simp (disch := omega) only [y_lit, y_n1, nI_add, pk_mul, j_lt, j_b1_s, j_b2_s, j_b3_s, j_b0_s, y_bo, y_bo1, y_bo0, y_i0, y_i1, Classical.not_not, nI_clamp, y_ix, y_lt, y_le, y_eq, y_nP, y_nPs, y_ltP, y_ltQ, y_ltPP, y_eqP, y_eqQ, y_eqPP, if_pos, if_neg, ite_true, ite_false, not_true_eq_false, not_false_eq_true, and_true, true_and, and_false, false_and, or_true, true_or, or_false, false_or, yc_ghas hc hs, y_rn, ci]
  by_cases z : g (3 * i + 1) = 0
  · simp (disch := omega) only [y_lit, y_n1, nI_add, pk_mul, j_lt, j_b1_s, j_b2_s, j_b3_s, j_b0_s, y_bo, y_bo1, y_bo0, y_i0, y_i1, Classical.not_not, nI_clamp, y_ix, y_lt, y_le, y_eq, y_nP, y_nPs, y_ltP, y_ltQ, y_ltPP, y_eqP, y_eqQ, y_eqPP, if_pos, if_neg, ite_true, ite_false, not_true_eq_false, not_false_eq_true, and_true, true_and, and_false, false_and, or_true, true_or, or_false, false_or, y_shl, y_or]
  · obtain ⟨o, ho⟩ : ∃ o, g (3 * i + 1) = o + 1 := ⟨g (3 * i + 1) - 1, by omega⟩
    rw [ho, y_nPs]
    simp (disch := omega) only [y_lit, y_n1, nI_add, pk_mul, j_lt, j_b1_s, j_b2_s, j_b3_s, j_b0_s, y_bo, y_bo1, y_bo0, y_i0, y_i1, Classical.not_not, nI_clamp, y_ix, y_lt, y_le, y_eq, y_nP, y_nPs, y_ltP, y_ltQ, y_ltPP, y_eqP, y_eqQ, y_eqPP, if_pos, if_neg, ite_true, ite_false, not_true_eq_false, not_false_eq_true, and_true, true_and, and_false, false_and, or_true, true_or, or_false, false_or, y_shl, y_or, Nat.add_sub_cancel]
theorem ym_upIn (hg : y_mg τ b s g) (hv : y_vg b s g) (hW : y_W b) (ht : t < 1000) : f_X12_upIn (nI t) τ = some (nI (y_upb g (y_ui b t s 0))) := by
  have hs := hv.1
  have h2 := hW.b2
  have h4 := hW.ho
  have skip : ∀ m i n v, i + m = s → m < n → (∀ j, i ≤ j → j < s → t < y_from b j) → p_X12_upIn_4 (nI t) τ n (nI v) (nI i) = some (nI v) := by
    intro m
    induction m with
    | zero =>
      intro i n v h hn _
      obtain ⟨n, rfl⟩ := y_pos hn
      unfold p_X12_upIn_4; simp (disch := omega) only [y_lit, y_n1, nI_add, pk_mul, j_lt, j_b1_s, j_b2_s, j_b3_s, j_b0_s, y_bo, y_bo1, y_bo0, y_i0, y_i1, Classical.not_not, nI_clamp, y_ix, y_lt, y_le, y_eq, y_nP, y_nPs, y_ltP, y_ltQ, y_ltPP, y_eqP, y_eqQ, y_eqPP, if_pos, if_neg, ite_true, ite_false, not_true_eq_false, not_false_eq_true, and_true, true_and, and_false, false_and, or_true, true_or, or_false, false_or, hg.1]
    | succ m ih =>
      intro i n v h hn hj
      obtain ⟨n, rfl⟩ := y_pos hn
      have gi := hg.2 i (by omega)
      have vi := (hv.2 i (by omega)).2.2.2.2.2
      have le := y_last_le hW i
      have := hj i (by omega) (by omega)
      unfold p_X12_upIn_4; simp (disch := omega) only [y_lit, y_n1, nI_add, pk_mul, j_lt, j_b1_s, j_b2_s, j_b3_s, j_b0_s, y_bo, y_bo1, y_bo0, y_i0, y_i1, Classical.not_not, nI_clamp, y_ix, y_lt, y_le, y_eq, y_nP, y_nPs, y_ltP, y_ltQ, y_ltPP, y_eqP, y_eqQ, y_eqPP, if_pos, if_neg, ite_true, ite_false, not_true_eq_false, not_false_eq_true, and_true, true_and, and_false, false_and, or_true, true_or, or_false, false_or, hg.1, gi, y_in]
      exact ih (i + 1) n v (by omega) (by omega) (fun j h1 h2 => hj j (by omega) h2)
  have key : ∀ m i n, i + m = s → m < n → p_X12_upIn_4 (nI t) τ n (nI 0) (nI i) = some (nI (y_upb g (y_ui b t m i))) := by
    intro m
    induction m with
    | zero =>
      intro i n h hn
      obtain ⟨n, rfl⟩ := y_pos hn
      unfold p_X12_upIn_4 y_ui; simp (disch := omega) only [y_lit, y_n1, nI_add, pk_mul, j_lt, j_b1_s, j_b2_s, j_b3_s, j_b0_s, y_bo, y_bo1, y_bo0, y_i0, y_i1, Classical.not_not, nI_clamp, y_ix, y_lt, y_le, y_eq, y_nP, y_nPs, y_ltP, y_ltQ, y_ltPP, y_eqP, y_eqQ, y_eqPP, if_pos, if_neg, ite_true, ite_false, not_true_eq_false, not_false_eq_true, and_true, true_and, and_false, false_and, or_true, true_or, or_false, false_or, hg.1]; rfl
    | succ m ih =>
      intro i n h hn
      obtain ⟨n, rfl⟩ := y_pos hn
      have gi := hg.2 i (by omega)
      have vi := hv.2 i (by omega)
      have le := y_last_le hW i
      unfold p_X12_upIn_4 y_ui f_X12_inGame
      by_cases c : y_from b i ≤ t ∧ t ≤ y_last b i
      · have sk := fun v => skip m (i + 1) n v (by omega) (by omega) (fun j h1 h2 => by have := y_apart2 hW (show i < j by omega); omega)
        obtain ⟨c1, c2⟩ := c
        simp (disch := omega) only [y_lit, y_n1, nI_add, pk_mul, j_lt, j_b1_s, j_b2_s, j_b3_s, j_b0_s, y_bo, y_bo1, y_bo0, y_i0, y_i1, Classical.not_not, nI_clamp, y_ix, y_lt, y_le, y_eq, y_nP, y_nPs, y_ltP, y_ltQ, y_ltPP, y_eqP, y_eqQ, y_eqPP, if_pos, if_neg, ite_true, ite_false, not_true_eq_false, not_false_eq_true, and_true, true_and, and_false, false_and, or_true, true_or, or_false, false_or, hg.1, gi, y_in, Nat.add_zero, y_shl, y_or]
        unfold y_upb y_hb
        rw [if_neg (Nat.succ_ne_zero i), Nat.add_sub_cancel]
        by_cases z : g (3 * i + 1) = 0
        · simp (disch := omega) only [y_lit, y_n1, nI_add, pk_mul, j_lt, j_b1_s, j_b2_s, j_b3_s, j_b0_s, y_bo, y_bo1, y_bo0, y_i0, y_i1, Classical.not_not, nI_clamp, y_ix, y_lt, y_le, y_eq, y_nP, y_nPs, y_ltP, y_ltQ, y_ltPP, y_eqP, y_eqQ, y_eqPP, if_pos, if_neg, ite_true, ite_false, not_true_eq_false, not_false_eq_true, and_true, true_and, and_false, false_and, or_true, true_or, or_false, false_or, sk, Nat.zero_or, Nat.or_zero]
        · obtain ⟨o, ho⟩ : ∃ o, g (3 * i + 1) = o + 1 := ⟨g (3 * i + 1) - 1, by omega⟩
          rw [ho, y_nPs]
          simp (disch := omega) only [y_lit, y_n1, nI_add, pk_mul, j_lt, j_b1_s, j_b2_s, j_b3_s, j_b0_s, y_bo, y_bo1, y_bo0, y_i0, y_i1, Classical.not_not, nI_clamp, y_ix, y_lt, y_le, y_eq, y_nP, y_nPs, y_ltP, y_ltQ, y_ltPP, y_eqP, y_eqQ, y_eqPP, if_pos, if_neg, ite_true, ite_false, not_true_eq_false, not_false_eq_true, and_true, true_and, and_false, false_and, or_true, true_or, or_false, false_or, y_shl, y_or, sk, Nat.add_sub_cancel, Nat.zero_or]
      · rw [if_neg c]
        by_cases c1 : y_from b i ≤ t
        · have : ¬ t ≤ y_last b i := fun z => c ⟨c1, z⟩
          simp (disch := omega) only [y_lit, y_n1, nI_add, pk_mul, j_lt, j_b1_s, j_b2_s, j_b3_s, j_b0_s, y_bo, y_bo1, y_bo0, y_i0, y_i1, Classical.not_not, nI_clamp, y_ix, y_lt, y_le, y_eq, y_nP, y_nPs, y_ltP, y_ltQ, y_ltPP, y_eqP, y_eqQ, y_eqPP, if_pos, if_neg, ite_true, ite_false, not_true_eq_false, not_false_eq_true, and_true, true_and, and_false, false_and, or_true, true_or, or_false, false_or, hg.1, gi, y_in]
          exact ih (i + 1) n (by omega) (by omega)
        · simp (disch := omega) only [y_lit, y_n1, nI_add, pk_mul, j_lt, j_b1_s, j_b2_s, j_b3_s, j_b0_s, y_bo, y_bo1, y_bo0, y_i0, y_i1, Classical.not_not, nI_clamp, y_ix, y_lt, y_le, y_eq, y_nP, y_nPs, y_ltP, y_ltQ, y_ltPP, y_eqP, y_eqQ, y_eqPP, if_pos, if_neg, ite_true, ite_false, not_true_eq_false, not_false_eq_true, and_true, true_and, and_false, false_and, or_true, true_or, or_false, false_or, hg.1, gi, y_in]
          exact ih (i + 1) n (by omega) (by omega)
  unfold f_X12_upIn
  rw [y_lit, key s 0 j_F (by omega) (y_F (by omega))]
  rfl
end C
section Z
variable {σ τ : j_G}
theorem z_up (hR : j_Rel σ τ) (a1 : Int32) : ∃ v σ1 τ1, f_X11_up a1 σ = some (v, σ1) ∧ f_X12_up a1 τ = some (v, τ1) ∧ j_Rel σ1 τ1 := by
  obtain ⟨b, hW, hN, hM, hK⟩ := id hR
  have h2 := hW.b2
  have hv := y_dg_vg hW (b 8)
  have hs := hv.1
  by_cases h : y_rg a1 (b 2)
  · obtain ⟨t, ht, rfl⟩ := y_of _ _ h.1 h.2
    obtain ⟨σ1, e1, e2, e3⟩ := yc_dealt hN hW
    obtain ⟨τ1, f1, f2, f3⟩ := ym_laid hM hW
    have hr := y_done hR (e3.wide (by omega) (by omega)) f3
    refine ⟨nI (y_upb (y_dg b (b 8)) (y_ui b t (y_gs b) 0)), σ1, τ1, ?_, ?_, hr⟩
    · unfold f_X11_up; simp (disch := omega) only [y_lit, y_n1, nI_add, pk_mul, j_lt, j_b1_s, j_b2_s, j_b3_s, j_b0_s, y_bo, y_bo1, y_bo0, y_i0, y_i1, Classical.not_not, nI_clamp, y_ix, y_lt, y_le, y_eq, y_nP, y_nPs, y_ltP, y_ltQ, y_ltPP, y_eqP, y_eqQ, y_eqPP, if_pos, if_neg, ite_true, ite_false, not_true_eq_false, not_false_eq_true, and_true, true_and, and_false, false_and, or_true, true_or, or_false, false_or, yc_isTick hN hW, y_rn, e1, yc_upIn e2 hv hW, yc_ghas e2 hs]
      have le := y_ui_le (b := b) (t := t) (y_gs b) 0
      unfold y_upb
      by_cases z : y_ui b t (y_gs b) 0 = 0
      · rw [z, if_pos rfl, if_neg (fun q : y_rg (nP 0) _ => absurd q.1 (by decide))]
      · obtain ⟨u, hu⟩ : ∃ u, y_ui b t (y_gs b) 0 = u + 1 := ⟨y_ui b t (y_gs b) 0 - 1, by omega⟩
        rw [hu, y_nPs, if_neg (Nat.succ_ne_zero u), Nat.add_sub_cancel]
        simp (disch := omega) only [y_lit, y_n1, nI_add, pk_mul, j_lt, j_b1_s, j_b2_s, j_b3_s, j_b0_s, y_bo, y_bo1, y_bo0, y_i0, y_i1, Classical.not_not, nI_clamp, y_ix, y_lt, y_le, y_eq, y_nP, y_nPs, y_ltP, y_ltQ, y_ltPP, y_eqP, y_eqQ, y_eqPP, if_pos, if_neg, ite_true, ite_false, not_true_eq_false, not_false_eq_true, and_true, true_and, and_false, false_and, or_true, true_or, or_false, false_or, y_rn, yc_holesOf e2 hv hW]
    · unfold f_X12_up; simp (disch := omega) only [y_lit, y_n1, nI_add, pk_mul, j_lt, j_b1_s, j_b2_s, j_b3_s, j_b0_s, y_bo, y_bo1, y_bo0, y_i0, y_i1, Classical.not_not, nI_clamp, y_ix, y_lt, y_le, y_eq, y_nP, y_nPs, y_ltP, y_ltQ, y_ltPP, y_eqP, y_eqQ, y_eqPP, if_pos, if_neg, ite_true, ite_false, not_true_eq_false, not_false_eq_true, and_true, true_and, and_false, false_and, or_true, true_or, or_false, false_or, ym_isTick hM hW, y_rn, f1, ym_upIn f2.2 hv hW]
  · refine ⟨-2, σ, τ, ?_, ?_, hR⟩
    · unfold f_X11_up; simp (disch := omega) only [y_lit, y_n1, nI_add, pk_mul, j_lt, j_b1_s, j_b2_s, j_b3_s, j_b0_s, y_bo, y_bo1, y_bo0, y_i0, y_i1, Classical.not_not, nI_clamp, y_ix, y_lt, y_le, y_eq, y_nP, y_nPs, y_ltP, y_ltQ, y_ltPP, y_eqP, y_eqQ, y_eqPP, if_pos, if_neg, ite_true, ite_false, not_true_eq_false, not_false_eq_true, and_true, true_and, and_false, false_and, or_true, true_or, or_false, false_or, yc_isTick hN hW, h]
    · unfold f_X12_up; simp (disch := omega) only [y_lit, y_n1, nI_add, pk_mul, j_lt, j_b1_s, j_b2_s, j_b3_s, j_b0_s, y_bo, y_bo1, y_bo0, y_i0, y_i1, Classical.not_not, nI_clamp, y_ix, y_lt, y_le, y_eq, y_nP, y_nPs, y_ltP, y_ltQ, y_ltPP, y_eqP, y_eqQ, y_eqPP, if_pos, if_neg, ite_true, ite_false, not_true_eq_false, not_false_eq_true, and_true, true_and, and_false, false_and, or_true, true_or, or_false, false_or, ym_isTick hM hW, h]
end Z
/-! ===== calm, where, missed ===== -/
noncomputable def y_cf (b : Nat → Nat) (t : Nat) : Nat → Nat := fun i => min t (y_last b i + 1) - min t (y_from b i)
theorem y_su_s {f : Nat → Nat} {m i : Nat} : y_su f (m + 1) i 0 = y_su f m (i + 1) 0 + f i := by
  show y_su f m (i + 1) (0 + f i) = _
  rw [y_su_add]
theorem y_cs {b : Nat → Nat} (hW : y_W b) (t : Nat) : ∀ m i, y_su (y_cf b (t + 1)) m i 0 = y_su (y_cf b t) m i 0 + (if y_ui b t m i = 0 then 0 else 1) := by
  intro m
  induction m with
  | zero => intro i; rfl
  | succ m ih =>
    intro i
    have le := y_last_le hW i
    rw [y_su_s, y_su_s]
    unfold y_ui
    by_cases c : y_from b i ≤ t ∧ t ≤ y_last b i
    · rw [if_pos c, if_neg (Nat.succ_ne_zero i)]
      rw [y_su_congr (f := y_cf b (t + 1)) (g := y_cf b t) m (i + 1) 0 (fun j h1 h2 => by
        have := y_apart2 hW (show i < j by omega)
        have := y_last_le hW j
        unfold y_cf; omega)]
      unfold y_cf; omega
    · rw [if_neg c, ih (i + 1)]
      have : y_cf b (t + 1) i = y_cf b t i := by unfold y_cf; omega
      omega
theorem y_cs0 {b : Nat → Nat} : ∀ m i, y_su (y_cf b 0) m i 0 = 0 := by
  intro m
  induction m with
  | zero => intro i; rfl
  | succ m ih => intro i; rw [y_su_s, ih]; unfold y_cf; omega
theorem y_cs_le {b : Nat → Nat} (hW : y_W b) (s : Nat) : ∀ t, y_su (y_cf b t) s 0 0 ≤ t := by
  intro t
  induction t with
  | zero => rw [y_cs0]; omega
  | succ t ih => rw [y_cs hW t s 0]; split <;> omega
noncomputable def y_len (b : Nat → Nat) : Nat → Nat := fun i => y_last b i - y_from b i + 1
theorem y_upb0 {g : Nat → Nat} {u : Nat} : y_upb g u = 0 ↔ u = 0 := by
  unfold y_upb
  by_cases h : u = 0
  · rw [if_pos h]; omega
  · rw [if_neg h]
    have := y_hb_pos (g := g) (i := u - 1)
    omega
theorem y_upb_lt {b g : Nat → Nat} {s t : Nat} (hW : y_W b) (hv : y_vg b s g) : y_upb g (y_ui b t s 0) < 4096 := by
  have le := y_ui_le (b := b) (t := t) s 0
  unfold y_upb
  split
  · omega
  · exact y_hb_lt hW hv (by omega)
section Z
variable {σ τ : j_G}
theorem z_calm (hR : j_Rel σ τ) : ∃ v σ1 τ1, f_X11_calm σ = some (v, σ1) ∧ f_X12_calm τ = some (v, τ1) ∧ j_Rel σ1 τ1 := by
  obtain ⟨b, hW, hN, hM, hK⟩ := id hR
  have h2 := hW.b2
  have hv := y_dg_vg hW (b 8)
  have hs := hv.1
  by_cases h : 0 < b 9
  · obtain ⟨σ1, e1, e2, e3⟩ := yc_dealt hN hW
    obtain ⟨τ1, f1, f2, f3⟩ := ym_laid hM hW
    have hr := y_done hR (e3.wide (by omega) (by omega)) f3
    have hN1 := hN.fr e3 (by omega)
    unfold y_ldy at f2
    generalize hgs : y_gs b = s at *
    generalize y_dg b (b 8) = g at *
    have eq : y_su (y_cf b (b 2)) s 0 0 = y_su (y_len b) s 0 0 := y_su_congr _ _ _ (fun j _ hj => by
      have := (hv.2 j (by omega)).2.2.2.2.2
      have := y_last_le hW j
      unfold y_cf y_len; omega)
    have le := y_cs_le hW s (b 2)
    have kc : ∀ m i n v, i + m = s → m < n → p_X11_calm_44 σ1 n (nI (b 2) - nI v) (nI i) = some (nI (b 2) - nI (y_su (y_len b) m i v)) := by
      intro m
      induction m with
      | zero =>
        intro i n v h hn
        obtain ⟨n, rfl⟩ := y_pos hn
        unfold p_X11_calm_44 y_su; simp (disch := omega) only [y_lit, y_n1, nI_add, pk_mul, j_lt, j_b1_s, j_b2_s, j_b3_s, j_b0_s, y_bo, y_bo1, y_bo0, y_i0, y_i1, Classical.not_not, nI_clamp, y_ix, y_lt, y_le, y_eq, y_nP, y_nPs, y_ltP, y_ltQ, y_ltPP, y_eqP, y_eqQ, y_eqPP, if_pos, if_neg, ite_true, ite_false, not_true_eq_false, not_false_eq_true, and_true, true_and, and_false, false_and, or_true, true_or, or_false, false_or, e2.1]
      | succ m ih =>
        intro i n v h hn
        obtain ⟨n, rfl⟩ := y_pos hn
        have ci := e2.2 i (by omega)
        have vi := (hv.2 i (by omega)).2.2.2.2.2
        have le := y_last_le hW i
        unfold p_X11_calm_44 y_su; simp (disch := omega) only [y_lit, y_n1, nI_add, pk_mul, j_lt, j_b1_s, j_b2_s, j_b3_s, j_b0_s, y_bo, y_bo1, y_bo0, y_i0, y_i1, Classical.not_not, nI_clamp, y_ix, y_lt, y_le, y_eq, y_nP, y_nPs, y_ltP, y_ltQ, y_ltPP, y_eqP, y_eqQ, y_eqPP, if_pos, if_neg, ite_true, ite_false, not_true_eq_false, not_false_eq_true, and_true, true_and, and_false, false_and, or_true, true_or, or_false, false_or, e2.1, ci, pk_sub, y_subsub]
        exact ih (i + 1) n _ (by omega) (by omega)
    have km : ∀ m t n v, t + m = b 2 → m < n → v + y_su (y_cf b t) s 0 0 = t → p_X12_calm_18 τ1 n (nI v) (nI t) = some (nI (b 2 - y_su (y_cf b (b 2)) s 0 0)) := by
      intro m
      induction m with
      | zero =>
        intro t n v h hn hq
        obtain ⟨n, rfl⟩ := y_pos hn
        obtain rfl : t = b 2 := by omega
        unfold p_X12_calm_18; simp (disch := omega) only [y_lit, y_n1, nI_add, pk_mul, j_lt, j_b1_s, j_b2_s, j_b3_s, j_b0_s, y_bo, y_bo1, y_bo0, y_i0, y_i1, Classical.not_not, nI_clamp, y_ix, y_lt, y_le, y_eq, y_nP, y_nPs, y_ltP, y_ltQ, y_ltPP, y_eqP, y_eqQ, y_eqPP, if_pos, if_neg, ite_true, ite_false, not_true_eq_false, not_false_eq_true, and_true, true_and, and_false, false_and, or_true, true_or, or_false, false_or, f2.1.f]
        congr 2; omega
      | succ m ih =>
        intro t n v h hn hq
        obtain ⟨n, rfl⟩ := y_pos hn
        have lt := y_upb_lt (t := t) hW hv
        have cs := y_cs hW t s 0
        unfold p_X12_calm_18; simp (disch := omega) only [y_lit, y_n1, nI_add, pk_mul, j_lt, j_b1_s, j_b2_s, j_b3_s, j_b0_s, y_bo, y_bo1, y_bo0, y_i0, y_i1, Classical.not_not, nI_clamp, y_ix, y_lt, y_le, y_eq, y_nP, y_nPs, y_ltP, y_ltQ, y_ltPP, y_eqP, y_eqQ, y_eqPP, if_pos, if_neg, ite_true, ite_false, not_true_eq_false, not_false_eq_true, and_true, true_and, and_false, false_and, or_true, true_or, or_false, false_or, f2.1.f, ym_upIn f2.2 hv hW, y_upb0]
        by_cases z : y_ui b t s 0 = 0
        · rw [if_pos z] at cs ⊢
          rw [nI_add]
          exact ih (t + 1) n (v + 1) (by omega) (by omega) (by omega)
        · rw [if_neg z] at cs ⊢
          rw [nI_add]
          exact ih (t + 1) n (v + 0) (by omega) (by omega) (by omega)
    refine ⟨nI (b 2 - y_su (y_len b) s 0 0), σ1, τ1, ?_, ?_, hr⟩
    · have k := kc s 0 j_F 0 (by omega) (y_F (by omega))
      rw [show nI (b 2) - nI 0 = nI (b 2) from by rw [pk_sub (by omega)]; rfl] at k
      unfold f_X11_calm; simp (disch := omega) only [y_lit, y_n1, nI_add, pk_mul, j_lt, j_b1_s, j_b2_s, j_b3_s, j_b0_s, y_bo, y_bo1, y_bo0, y_i0, y_i1, Classical.not_not, nI_clamp, y_ix, y_lt, y_le, y_eq, y_nP, y_nPs, y_ltP, y_ltQ, y_ltPP, y_eqP, y_eqQ, y_eqPP, if_pos, if_neg, ite_true, ite_false, not_true_eq_false, not_false_eq_true, and_true, true_and, and_false, false_and, or_true, true_or, or_false, false_or, yc_isTold hN hW, e1, hN1.f4, k, pk_sub]
    · have k := km (b 2) 0 j_F 0 (by omega) (y_F (by omega)) (by rw [y_cs0])
      unfold f_X12_calm; simp (disch := omega) only [y_lit, y_n1, nI_add, pk_mul, j_lt, j_b1_s, j_b2_s, j_b3_s, j_b0_s, y_bo, y_bo1, y_bo0, y_i0, y_i1, Classical.not_not, nI_clamp, y_ix, y_lt, y_le, y_eq, y_nP, y_nPs, y_ltP, y_ltQ, y_ltPP, y_eqP, y_eqQ, y_eqPP, if_pos, if_neg, ite_true, ite_false, not_true_eq_false, not_false_eq_true, and_true, true_and, and_false, false_and, or_true, true_or, or_false, false_or, ym_isBoard hM hW, f1, k, eq]
  · refine ⟨-2, σ, τ, ?_, ?_, hR⟩
    · unfold f_X11_calm; simp (disch := omega) only [y_lit, y_n1, nI_add, pk_mul, j_lt, j_b1_s, j_b2_s, j_b3_s, j_b0_s, y_bo, y_bo1, y_bo0, y_i0, y_i1, Classical.not_not, nI_clamp, y_ix, y_lt, y_le, y_eq, y_nP, y_nPs, y_ltP, y_ltQ, y_ltPP, y_eqP, y_eqQ, y_eqPP, if_pos, if_neg, ite_true, ite_false, not_true_eq_false, not_false_eq_true, and_true, true_and, and_false, false_and, or_true, true_or, or_false, false_or, yc_isTold hN hW]
    · unfold f_X12_calm; simp (disch := omega) only [y_lit, y_n1, nI_add, pk_mul, j_lt, j_b1_s, j_b2_s, j_b3_s, j_b0_s, y_bo, y_bo1, y_bo0, y_i0, y_i1, Classical.not_not, nI_clamp, y_ix, y_lt, y_le, y_eq, y_nP, y_nPs, y_ltP, y_ltQ, y_ltPP, y_eqP, y_eqQ, y_eqPP, if_pos, if_neg, ite_true, ite_false, not_true_eq_false, not_false_eq_true, and_true, true_and, and_false, false_and, or_true, true_or, or_false, false_or, ym_isBoard hM hW]
end Z
/-- ticks of a run go up -/
def y_mo (R : Nat → Nat) : Prop := (∀ k, k < R 0 → R (8 + 2 * k) < R 3) ∧ ∀ k l, k < l → l < R 0 → R (8 + 2 * k) ≤ R (8 + 2 * l)
theorem y_at_ge {b q R : Nat → Nat} {i to : Nat} : R 3 ≤ y_at b q i to R := by
  have mx : ∀ x z, x ≤ y_mx x z := fun x z => by unfold y_mx; split <;> omega
  have th : ∀ h c t, t ≤ y_th b q h c t := fun h c t => Nat.le_add_right _ _
  exact Nat.le_trans (mx _ (y_aw b q i)) (Nat.le_trans (th _ _ _) (mx _ _))
theorem y_go_mo {b g q R : Nat → Nat} {i to m : Nat} (hb : y_br b R m) (hm : m < 200) (hi : i < 60) (hm0 : y_mo R) : y_mo (y_go b g q i to R) := by
  have h0 := hb.1
  have ge := y_at_ge (b := b) (q := q) (R := R) (i := i) (to := to)
  unfold y_go
  split
  · generalize y_at b q i to R = t at *
    unfold y_set
    refine ⟨fun k hk => ?_, fun k l hk hl => ?_⟩
    · simp (disch := omega) only [y_ue, y_un] at hk ⊢
      by_cases e : k = R 0
      · subst e; simp (disch := omega) only [y_ue, y_un]; omega
      · have := hm0.1 k (by omega)
        simp (disch := omega) only [y_ue, y_un]; omega
    · simp (disch := omega) only [y_ue, y_un] at hl ⊢
      have h1 := hm0.1 k (by omega)
      by_cases e : l = R 0
      · subst e; simp (disch := omega) only [y_ue, y_un]; omega
      · have := hm0.2 k l hk (by omega)
        simp (disch := omega) only [y_ue, y_un]; omega
  · exact hm0
theorem y_go2_mo {b g q R : Nat → Nat} {s i to th m : Nat} (hW : y_W b) (hv : y_vg b s g) (hb : y_br b R m) (hm : m + 1 < 120) (hi : i < s) (hto : to < y_ho b) (hm0 : y_mo R) : y_mo (y_go2 b g q i to th R) := by
  have h60 := hv.1
  unfold y_go2
  split
  · exact y_go_mo (y_go_br hW hv hb (by omega) hi hto) (by omega) (by omega) (y_go_mo hb (by omega) (by omega) hm0)
  · exact hm0
theorem y_gf_mo {b g q k R : Nat → Nat} {s i m : Nat} (hW : y_W b) (hv : y_vg b s g) (hb : y_br b R m) (hm : m + 1 < 120) (hi : i < s) (hm0 : y_mo R) : y_mo (y_gf b g q k i R) := by
  have h60 := hv.1
  have li := hv.2 i hi
  unfold y_gf
  split
  · split
    · split
      · exact y_go2_mo hW hv hb hm hi li.1 hm0
      · exact y_go2_mo hW hv hb hm hi (by omega) hm0
    · exact y_go_mo hb (by omega) (by omega) hm0
  · split
    · exact y_go_mo hb (by omega) (by omega) hm0
    · exact hm0
theorem y_rl_mo {b g q k : Nat → Nat} {s red : Nat} (hW : y_W b) (hv : y_vg b s g) : ∀ m i R, i + m ≤ s → y_br b R (2 * i) → y_mo R → y_mo (y_rl b g q k red m i R) := by
  have hs := hv.1
  intro m
  induction m with
  | zero => intro i R _ _ h; exact h
  | succ m ih =>
    intro i R h hb hm0
    unfold y_rl
    refine ih (i + 1) _ (by omega) ?_ ?_
    · split
      · exact y_gf_br (m := 2 * i) hW hv hb (by omega) (by omega)
      · exact hb.up (by omega)
    · split
      · exact y_gf_mo hW hv hb (by omega) (by omega) hm0
      · exact hm0
theorem y_run_mo {b g q k : Nat → Nat} {s red : Nat} (hW : y_W b) (hv : y_vg b s g) (hq : y_vq b q) : y_mo (y_run b g q k red s) :=
  y_rl_mo hW hv s 0 _ (by omega) (y_R0_br hq) ⟨fun k hk => absurd hk (Nat.not_lt_zero _), fun k l _ hl => absurd hl (Nat.not_lt_zero _)⟩
noncomputable def y_wh (R : Nat → Nat) (t : Nat) : Nat → Nat → Nat → Nat
  | 0, _, a => a
  | m + 1, k, a => if R (8 + 2 * k) ≤ t then y_wh R t m (k + 1) (R (9 + 2 * k)) else a
section Z
variable {σ τ : j_G}
theorem z_where (hR : j_Rel σ τ) (a1 a2 : Int32) : ∃ v σ1 τ1, f_X11_where a1 a2 σ = some (v, σ1) ∧ f_X12_where a1 a2 τ = some (v, τ1) ∧ j_Rel σ1 τ1 := by
  obtain ⟨b, hW, hN, hM, hK⟩ := id hR
  have h2 := hW.b2
  have hv := y_dg_vg hW (b 8)
  by_cases h : y_rg a1 (b 6)
  · by_cases h3 : y_rg a2 (b 2)
    · obtain ⟨p, hp, rfl⟩ := y_of _ _ h.1 h.2
      obtain ⟨t, ht, rfl⟩ := y_of _ _ h3.1 h3.2
      obtain ⟨σ1, e1, e2, e3, e4⟩ := yc_runOf hN hW hp
      obtain ⟨τ1, f1, f2, f3, f4, f5⟩ := ym_ras hM hW hp
      have hr := y_done hR e4 f5
      have br : y_br b (y_own b p) 120 := y_run_br hW hv (y_pqv hW hp)
      have mo : y_mo (y_own b p) := y_run_mo hW hv (y_pqv hW hp)
      have e28 := e2.2.2 4 (by omega)
      have e28' : σ1.1 28 4 = nI (b (96 + 5 * p + 4)) := e28
      generalize y_own b p = R at *
      have b0 := br.1
      have kc : ∀ m k n a, k + m = R 0 → m < n → p_X9_holeBehind_5 (nI t) σ1 n (nI a) (nI k) = some (nI (y_wh R t m k a)) := by
        intro m
        induction m with
        | zero =>
          intro k n a h hn
          obtain ⟨n, rfl⟩ := y_pos hn
          unfold p_X9_holeBehind_5 y_wh; simp (disch := omega) only [y_lit, y_n1, nI_add, pk_mul, j_lt, j_b1_s, j_b2_s, j_b3_s, j_b0_s, y_bo, y_bo1, y_bo0, y_i0, y_i1, Classical.not_not, nI_clamp, y_ix, y_lt, y_le, y_eq, y_nP, y_nPs, y_ltP, y_ltQ, y_ltPP, y_eqP, y_eqQ, y_eqPP, if_pos, if_neg, ite_true, ite_false, not_true_eq_false, not_false_eq_true, and_true, true_and, and_false, false_and, or_true, true_or, or_false, false_or, e3.1.1]
        | succ m ih =>
          intro k n a h hn
          obtain ⟨n, rfl⟩ := y_pos hn
          have ci := e3.2.1 k (by omega)
          have bi := br.2.2.2.2.2.1 k (by omega)
          unfold p_X9_holeBehind_5 y_wh; simp (disch := omega) only [y_lit, y_n1, nI_add, pk_mul, j_lt, j_b1_s, j_b2_s, j_b3_s, j_b0_s, y_bo, y_bo1, y_bo0, y_i0, y_i1, Classical.not_not, nI_clamp, y_ix, y_lt, y_le, y_eq, y_nP, y_nPs, y_ltP, y_ltQ, y_ltPP, y_eqP, y_eqQ, y_eqPP, if_pos, if_neg, ite_true, ite_false, not_true_eq_false, not_false_eq_true, and_true, true_and, and_false, false_and, or_true, true_or, or_false, false_or, e3.1.1, ci]
          by_cases c : R (8 + 2 * k) ≤ t
          · simp (disch := omega) only [y_lit, y_n1, nI_add, pk_mul, j_lt, j_b1_s, j_b2_s, j_b3_s, j_b0_s, y_bo, y_bo1, y_bo0, y_i0, y_i1, Classical.not_not, nI_clamp, y_ix, y_lt, y_le, y_eq, y_nP, y_nPs, y_ltP, y_ltQ, y_ltPP, y_eqP, y_eqQ, y_eqPP, if_pos, if_neg, ite_true, ite_false, not_true_eq_false, not_false_eq_true, and_true, true_and, and_false, false_and, or_true, true_or, or_false, false_or]
            exact ih (k + 1) n _ (by omega) (by omega)
          · simp (disch := omega) only [y_lit, y_n1, nI_add, pk_mul, j_lt, j_b1_s, j_b2_s, j_b3_s, j_b0_s, y_bo, y_bo1, y_bo0, y_i0, y_i1, Classical.not_not, nI_clamp, y_ix, y_lt, y_le, y_eq, y_nP, y_nPs, y_ltP, y_ltQ, y_ltPP, y_eqP, y_eqQ, y_eqPP, if_pos, if_neg, ite_true, ite_false, not_true_eq_false, not_false_eq_true, and_true, true_and, and_false, false_and, or_true, true_or, or_false, false_or]
      have sk : ∀ m k n a, k + m = R 0 → m < n → (∀ l, k ≤ l → l < R 0 → t < R (8 + 2 * l)) → p_X12_where_33 (nI t) τ1 n (nI a) (nI k) = some (nI a) := by
        intro m
        induction m with
        | zero =>
          intro k n a h hn _
          obtain ⟨n, rfl⟩ := y_pos hn
          unfold p_X12_where_33; simp (disch := omega) only [y_lit, y_n1, nI_add, pk_mul, j_lt, j_b1_s, j_b2_s, j_b3_s, j_b0_s, y_bo, y_bo1, y_bo0, y_i0, y_i1, Classical.not_not, nI_clamp, y_ix, y_lt, y_le, y_eq, y_nP, y_nPs, y_ltP, y_ltQ, y_ltPP, y_eqP, y_eqQ, y_eqPP, if_pos, if_neg, ite_true, ite_false, not_true_eq_false, not_false_eq_true, and_true, true_and, and_false, false_and, or_true, true_or, or_false, false_or, f3.1.1]
        | succ m ih =>
          intro k n a h hn hl
          obtain ⟨n, rfl⟩ := y_pos hn
          have ci := f3.2.1 k (by omega)
          have bi := br.2.2.2.2.2.1 k (by omega)
          have := hl k (by omega) (by omega)
          unfold p_X12_where_33; simp (disch := omega) only [y_lit, y_n1, nI_add, pk_mul, j_lt, j_b1_s, j_b2_s, j_b3_s, j_b0_s, y_bo, y_bo1, y_bo0, y_i0, y_i1, Classical.not_not, nI_clamp, y_ix, y_lt, y_le, y_eq, y_nP, y_nPs, y_ltP, y_ltQ, y_ltPP, y_eqP, y_eqQ, y_eqPP, if_pos, if_neg, ite_true, ite_false, not_true_eq_false, not_false_eq_true, and_true, true_and, and_false, false_and, or_true, true_or, or_false, false_or, f3.1.1, ci]
          exact ih (k + 1) n _ (by omega) (by omega) (fun l h1 h2 => hl l (by omega) h2)
      have km : ∀ m k n a, k + m = R 0 → m < n → p_X12_where_33 (nI t) τ1 n (nI a) (nI k) = some (nI (y_wh R t m k a)) := by
        intro m
        induction m with
        | zero =>
          intro k n a h hn
          obtain ⟨n, rfl⟩ := y_pos hn
          unfold p_X12_where_33 y_wh; simp (disch := omega) only [y_lit, y_n1, nI_add, pk_mul, j_lt, j_b1_s, j_b2_s, j_b3_s, j_b0_s, y_bo, y_bo1, y_bo0, y_i0, y_i1, Classical.not_not, nI_clamp, y_ix, y_lt, y_le, y_eq, y_nP, y_nPs, y_ltP, y_ltQ, y_ltPP, y_eqP, y_eqQ, y_eqPP, if_pos, if_neg, ite_true, ite_false, not_true_eq_false, not_false_eq_true, and_true, true_and, and_false, false_and, or_true, true_or, or_false, false_or, f3.1.1]
        | succ m ih =>
          intro k n a h hn
          by_cases c : R (8 + 2 * k) ≤ t
          · obtain ⟨n, rfl⟩ := y_pos hn
            have ci := f3.2.1 k (by omega)
            have bi := br.2.2.2.2.2.1 k (by omega)
            unfold p_X12_where_33 y_wh; simp (disch := omega) only [y_lit, y_n1, nI_add, pk_mul, j_lt, j_b1_s, j_b2_s, j_b3_s, j_b0_s, y_bo, y_bo1, y_bo0, y_i0, y_i1, Classical.not_not, nI_clamp, y_ix, y_lt, y_le, y_eq, y_nP, y_nPs, y_ltP, y_ltQ, y_ltPP, y_eqP, y_eqQ, y_eqPP, if_pos, if_neg, ite_true, ite_false, not_true_eq_false, not_false_eq_true, and_true, true_and, and_false, false_and, or_true, true_or, or_false, false_or, f3.1.1, ci]
            exact ih (k + 1) n _ (by omega) (by omega)
          · unfold y_wh
            rw [if_neg c]
            exact sk (m + 1) k n a h hn (fun l h1 h2 => by
              by_cases e : l = k
              · subst e; omega
              · have := mo.2 k l (by omega) h2; omega)
      refine ⟨nI (y_wh R t (R 0) 0 (b (96 + 5 * p + 4))), σ1, τ1, ?_, ?_, hr⟩
      · have k := kc (R 0) 0 j_F (b (96 + 5 * p + 4)) (by omega) (y_F (by omega))
        unfold f_X11_where f_X9_holeBehind; simp (disch := omega) only [y_lit, y_n1, nI_add, pk_mul, j_lt, j_b1_s, j_b2_s, j_b3_s, j_b0_s, y_bo, y_bo1, y_bo0, y_i0, y_i1, Classical.not_not, nI_clamp, y_ix, y_lt, y_le, y_eq, y_nP, y_nPs, y_ltP, y_ltQ, y_ltPP, y_eqP, y_eqQ, y_eqPP, if_pos, if_neg, ite_true, ite_false, not_true_eq_false, not_false_eq_true, and_true, true_and, and_false, false_and, or_true, true_or, or_false, false_or, yc_isTick hN hW, y_rn, e1, e28', k]
      · have k := km (R 0) 0 j_F (b (96 + 5 * p + 4)) (by omega) (y_F (by omega))
        unfold f_X12_where; simp (disch := omega) only [y_lit, y_n1, nI_add, pk_mul, j_lt, j_b1_s, j_b2_s, j_b3_s, j_b0_s, y_bo, y_bo1, y_bo0, y_i0, y_i1, Classical.not_not, nI_clamp, y_ix, y_lt, y_le, y_eq, y_nP, y_nPs, y_ltP, y_ltQ, y_ltPP, y_eqP, y_eqQ, y_eqPP, if_pos, if_neg, ite_true, ite_false, not_true_eq_false, not_false_eq_true, and_true, true_and, and_false, false_and, or_true, true_or, or_false, false_or, ym_isPlayer hM hW, ym_isTick hM hW, y_rn, if_pos h, f1, f4, k]
    · refine ⟨-2, σ, τ, ?_, ?_, hR⟩
      · unfold f_X11_where; simp (disch := omega) only [y_lit, y_n1, nI_add, pk_mul, j_lt, j_b1_s, j_b2_s, j_b3_s, j_b0_s, y_bo, y_bo1, y_bo0, y_i0, y_i1, Classical.not_not, nI_clamp, y_ix, y_lt, y_le, y_eq, y_nP, y_nPs, y_ltP, y_ltQ, y_ltPP, y_eqP, y_eqQ, y_eqPP, if_pos, if_neg, ite_true, ite_false, not_true_eq_false, not_false_eq_true, and_true, true_and, and_false, false_and, or_true, true_or, or_false, false_or, yc_isTick hN hW, h3]
      · unfold f_X12_where; simp (disch := omega) only [y_lit, y_n1, nI_add, pk_mul, j_lt, j_b1_s, j_b2_s, j_b3_s, j_b0_s, y_bo, y_bo1, y_bo0, y_i0, y_i1, Classical.not_not, nI_clamp, y_ix, y_lt, y_le, y_eq, y_nP, y_nPs, y_ltP, y_ltQ, y_ltPP, y_eqP, y_eqQ, y_eqPP, if_pos, if_neg, ite_true, ite_false, not_true_eq_false, not_false_eq_true, and_true, true_and, and_false, false_and, or_true, true_or, or_false, false_or, ym_isPlayer hM hW, ym_isTick hM hW, h, h3]
  · refine ⟨-2, σ, τ, ?_, ?_, hR⟩
    · unfold f_X11_where; rw [yc_unrun hN hW h]; simp (disch := omega) only [y_lit, y_n1, nI_add, pk_mul, j_lt, j_b1_s, j_b2_s, j_b3_s, j_b0_s, y_bo, y_bo1, y_bo0, y_i0, y_i1, Classical.not_not, nI_clamp, y_ix, y_lt, y_le, y_eq, y_nP, y_nPs, y_ltP, y_ltQ, y_ltPP, y_eqP, y_eqQ, y_eqPP, if_pos, if_neg, ite_true, ite_false, not_true_eq_false, not_false_eq_true, and_true, true_and, and_false, false_and, or_true, true_or, or_false, false_or, yc_isTick hN hW]
      split <;> rfl
    · unfold f_X12_where; simp (disch := omega) only [y_lit, y_n1, nI_add, pk_mul, j_lt, j_b1_s, j_b2_s, j_b3_s, j_b0_s, y_bo, y_bo1, y_bo0, y_i0, y_i1, Classical.not_not, nI_clamp, y_ix, y_lt, y_le, y_eq, y_nP, y_nPs, y_ltP, y_ltQ, y_ltPP, y_eqP, y_eqQ, y_eqPP, if_pos, if_neg, ite_true, ite_false, not_true_eq_false, not_false_eq_true, and_true, true_and, and_false, false_and, or_true, true_or, or_false, false_or, ym_isPlayer hM hW, h]
end Z
/-! ===== runs with a number told otherwise ===== -/
theorem y_uu {q : Nat → Nat} {k x z : Nat} : y_u (y_u q k x) k z = y_u q k z := by
  funext j
  unfold y_u
  split <;> rfl
theorem y_uid {q : Nat → Nat} {k : Nat} : y_u q k (q k) = q := by
  funext j
  unfold y_u
  split
  · rename_i h; rw [h]
  · rfl
/-- hits of a run with such numbers -/
noncomputable def y_H (b q : Nat → Nat) : Nat := y_run b (y_dg b (b 8)) q y_k1 0 (y_gs b) 0
def y_ra (σ : j_G) (b q : Nat → Nat) : Prop := y_N σ b ∧ y_cg σ b (y_gs b) (y_dg b (b 8)) ∧ y_cp σ 28 q
theorem y_vq1 {b q : Nat → Nat} (h : y_vq b q) {n : Nat} (hn : n ≤ 40) : y_vq b (y_u q 1 n) := by
  obtain ⟨h0, h1, h2, h3, h4⟩ := h
  unfold y_vq; simp (disch := omega) only [y_ue, y_un]; exact ⟨h0, hn, h2, h3, h4⟩
theorem y_vq3 {b q : Nat → Nat} (h : y_vq b q) {n : Nat} (hn : n ≤ 9) : y_vq b (y_u q 3 n) := by
  obtain ⟨h0, h1, h2, h3, h4⟩ := h
  unfold y_vq; simp (disch := omega) only [y_ue, y_un]; exact ⟨h0, h1, h2, hn, h4⟩
theorem y_vq4 {b q : Nat → Nat} (h : y_vq b q) {n : Nat} (hn : n < y_ho b) : y_vq b (y_u q 4 n) := by
  obtain ⟨h0, h1, h2, h3, h4⟩ := h
  unfold y_vq; simp (disch := omega) only [y_ue, y_un]; exact ⟨h0, h1, h2, h3, hn⟩
theorem y_H_le {b q : Nat → Nat} (hW : y_W b) (hq : y_vq b q) : y_H b q ≤ 120 := (y_run_br hW (y_dg_vg hW _) hq).1
theorem y_cp_u {σ : j_G} {q : Nat → Nat} {a k n : Nat} (h : y_cp σ a q) : y_cp (j_si σ a k (nI n)) a (y_u q k n) := by
  intro j hj
  by_cases e : j = k
  · subst e; rw [j_r_eq, y_ue]
  · rw [j_r_nj e, y_un e]; exact h j hj
section Z
variable {σ τ : j_G} {b q : Nat → Nat} {p k n : Nat}
theorem y_ra.set (h : y_ra σ b q) : y_ra (j_si σ 28 k (nI n)) b (y_u q k n) := by
  obtain ⟨h1, h2, h3⟩ := h
  have f : y_fr 28 28 σ (j_si σ 28 k (nI n)) := y_fr.refl.si (by omega) (by omega)
  exact ⟨h1.fr f (by omega), h2.fr f (by omega), y_cp_u h3⟩
theorem yc_ra (h : y_ra σ b q) (hW : y_W b) (h9 : 0 < b 9) (hq : y_vq b q) : ∃ σ', f_X9_good 30 28 22 31 32 25 23 24 26 33 34 (nP 0) σ = some (nI (y_H b q), σ') ∧ y_ra σ' b q ∧ y_fr 28 34 σ σ' := by
  obtain ⟨h1, h2, h3⟩ := h
  obtain ⟨σ2, f1, f2, f3⟩ := yc_good h1 hW h9 h2 (y_dg_vg hW _) h3 (by omega) hq y_mkC
  exact ⟨σ2, f1, ⟨h1.fr f3 (by omega), h2.fr f3 (by omega), h3.fr f3 (by omega)⟩, f3.wide (by omega) (by omega)⟩
theorem yc_know (h : y_ra σ b q) (hW : y_W b) (h9 : 0 < b 9) (hq : y_vq b q) (hn : n ≤ 9) : ∃ σ', f_X11_hitsKnowing (nI n) σ = some (nI (y_H b (y_u q 3 n)), σ') ∧ y_ra σ' b (y_u q 3 n) ∧ y_fr 28 34 σ σ' := by
  obtain ⟨σ2, f1, f2, f3⟩ := yc_ra (h.set (k := 3) (n := n)) hW h9 (y_vq3 hq hn)
  unfold f_X11_hitsKnowing
  simp only [j_lt]; rw [y_m1, f1]
  exact ⟨σ2, rfl, f2, (y_fr.refl.si (by omega) (by omega)).trans f3⟩
theorem yc_lagg (h : y_ra σ b q) (hW : y_W b) (h9 : 0 < b 9) (hq : y_vq b q) (hn : n ≤ 40) : ∃ σ', f_X11_hitsLagging (nI n) σ = some (nI (y_H b (y_u q 1 n)), σ') ∧ y_ra σ' b (y_u q 1 n) ∧ y_fr 28 34 σ σ' := by
  obtain ⟨σ2, f1, f2, f3⟩ := yc_ra (h.set (k := 1) (n := n)) hW h9 (y_vq1 hq hn)
  unfold f_X11_hitsLagging
  simp only [j_lt]; rw [y_m1, f1]
  exact ⟨σ2, rfl, f2, (y_fr.refl.si (by omega) (by omega)).trans f3⟩
theorem yc_look (h : y_ra σ b q) (hW : y_W b) (h9 : 0 < b 9) (hq : y_vq b q) (hn : n ≤ 40) : ∃ σ', f_X11_lookPoints (nI n) σ = some (nI (10 * y_H b (y_u (y_u q 1 n) 3 0)), σ') ∧ y_ra σ' b (y_u (y_u q 1 n) 3 0) ∧ y_fr 28 34 σ σ' := by
  obtain ⟨σ2, f1, f2, f3⟩ := yc_ra ((h.set (k := 1) (n := n)).set (k := 3) (n := 0)) hW h9 (y_vq3 (y_vq1 hq hn) (by omega))
  unfold f_X11_lookPoints
  simp only [j_lt, y_lit]; rw [y_n1, f1]
  refine ⟨σ2, ?_, f2, ((y_fr.refl.si (by omega) (by omega)).si (by omega) (by omega)).trans f3⟩
  rw [j_b2_s, pk_mul]
/-- the reference's run behind asTold with changes -/
theorem ym_asked {τ1 : j_G} (hL : y_ldy τ b) (hW : y_W b) (hp : p < b 6) (hq : y_vq b q) (hf : y_fm 18 42 80 81 τ τ1) (h18 : τ1.1 75 18 = τ.1 75 18) (hmp : y_mp τ1 b p q) (h23 : τ1.1 75 23 = nI 4095) (h24 : τ1.1 75 24 = nI 0) : ∃ τ', f_X12_run τ1 = some τ' ∧ τ'.1 75 29 = nI (y_H b q) ∧ y_ldy τ' b ∧ y_fm 18 42 80 93 τ τ' := by
  have hL1 : y_ldy τ1 b := by
    obtain ⟨hM, hg⟩ := hL
    refine ⟨hM.fr hf (by omega), ?_⟩
    unfold y_mg at *
    rw [(hf.2 82 (by omega) (by omega)).1, (hf.2 83 (by omega) (by omega)).1, (hf.2 84 (by omega) (by omega)).1, h18]
    exact hg
  obtain ⟨τ2, e1, e2, e3, e4, e5⟩ := ym_runq (k := y_k1) (red := 0) hL1 hW hp hmp hq (by rw [h23]; exact y_mkM) (by omega) h24
  exact ⟨τ2, e1, e2.1.1, e3, (hf.wide (by omega) (by omega) (by omega) (by omega)).trans (e5.wide (by omega) (by omega) (by omega) (by omega))⟩
theorem ym_know (hL : y_ldy τ b) (hW : y_W b) (hp : p < b 6) (hn : n ≤ 9) : ∃ τ', f_X12_learnsBy (nI p) (nI n) τ = some (nI (y_H b (y_u (y_pq b p) 3 n)), τ') ∧ y_ldy τ' b ∧ y_fm 18 42 80 93 τ τ' := by
  obtain ⟨τ1, g1, ⟨m0, m1, m2, m3, m4, m5, m6⟩, g3, g4, g5⟩ := ym_told hL.1 hW hp
  obtain ⟨τ2, e1, e2, e3, e4⟩ := ym_asked (τ1 := j_si τ1 75 21 (nI n)) (p := p) (q := y_u (y_pq b p) 3 n) hL hW hp (y_vq3 (y_pqv hW hp) hn) ((g5.wide (by omega) (by omega) (by omega) (by omega)).trans (y_fm.refl.so (by omega) (by omega))) (by simp (disch := omega) only [j_r_ne, j_r_eq, j_r_nj]; exact g5.1 18 (by omega)) (by unfold y_mp; simp (disch := omega) only [j_r_ne, j_r_eq, j_r_nj, y_ue, y_un]; exact ⟨m0, m1, trivial, m3, m4, m5, m6⟩) (by simp (disch := omega) only [j_r_ne, j_r_eq, j_r_nj]; exact g3) (by simp (disch := omega) only [j_r_ne, j_r_eq, j_r_nj]; exact g4)
  unfold f_X12_learnsBy
  rw [g1]; simp only [j_b1_s, j_lt]; rw [e1]
  exact ⟨τ2, by rw [j_b1_s, e2], e3, e4⟩
theorem ym_lagg (hL : y_ldy τ b) (hW : y_W b) (hp : p < b 6) (hn : n ≤ 40) : ∃ τ', f_X12_lagging (nI p) (nI n) τ = some (nI (y_H b (y_u (y_pq b p) 1 n)), τ') ∧ y_ldy τ' b ∧ y_fm 18 42 80 93 τ τ' := by
  obtain ⟨τ1, g1, ⟨m0, m1, m2, m3, m4, m5, m6⟩, g3, g4, g5⟩ := ym_told hL.1 hW hp
  obtain ⟨τ2, e1, e2, e3, e4⟩ := ym_asked (τ1 := j_si τ1 75 20 (nI n)) (p := p) (q := y_u (y_pq b p) 1 n) hL hW hp (y_vq1 (y_pqv hW hp) hn) ((g5.wide (by omega) (by omega) (by omega) (by omega)).trans (y_fm.refl.so (by omega) (by omega))) (by simp (disch := omega) only [j_r_ne, j_r_eq, j_r_nj]; exact g5.1 18 (by omega)) (by unfold y_mp; simp (disch := omega) only [j_r_ne, j_r_eq, j_r_nj, y_ue, y_un]; exact ⟨m0, trivial, m2, m3, m4, m5, m6⟩) (by simp (disch := omega) only [j_r_ne, j_r_eq, j_r_nj]; exact g3) (by simp (disch := omega) only [j_r_ne, j_r_eq, j_r_nj]; exact g4)
  unfold f_X12_lagging
  rw [g1]; simp only [j_b1_s, j_lt]; rw [e1]
  exact ⟨τ2, by rw [j_b1_s, e2], e3, e4⟩
theorem ym_wait (hL : y_ldy τ b) (hW : y_W b) (hp : p < b 6) (hn : n < y_ho b) : ∃ τ', f_X12_waitingAt (nI p) (nI n) τ = some (nI (y_H b (y_u (y_pq b p) 4 n)), τ') ∧ y_ldy τ' b ∧ y_fm 18 42 80 93 τ τ' := by
  obtain ⟨τ1, g1, ⟨m0, m1, m2, m3, m4, m5, m6⟩, g3, g4, g5⟩ := ym_told hL.1 hW hp
  obtain ⟨τ2, e1, e2, e3, e4⟩ := ym_asked (τ1 := j_si τ1 75 22 (nI n)) (p := p) (q := y_u (y_pq b p) 4 n) hL hW hp (y_vq4 (y_pqv hW hp) hn) ((g5.wide (by omega) (by omega) (by omega) (by omega)).trans (y_fm.refl.so (by omega) (by omega))) (by simp (disch := omega) only [j_r_ne, j_r_eq, j_r_nj]; exact g5.1 18 (by omega)) (by unfold y_mp; simp (disch := omega) only [j_r_ne, j_r_eq, j_r_nj, y_ue, y_un]; exact ⟨m0, m1, m2, trivial, m4, m5, m6⟩) (by simp (disch := omega) only [j_r_ne, j_r_eq, j_r_nj]; exact g3) (by simp (disch := omega) only [j_r_ne, j_r_eq, j_r_nj]; exact g4)
  unfold f_X12_waitingAt
  rw [g1]; simp only [j_b1_s, j_lt]; rw [e1]
  exact ⟨τ2, by rw [j_b1_s, e2], e3, e4⟩
theorem ym_look (hL : y_ldy τ b) (hW : y_W b) (hp : p < b 6) (hn : n ≤ 20) : ∃ τ', f_X12_lookOf (nI p) (nI n) τ = some (nI (10 * y_H b (y_u (y_u (y_pq b p) 1 (y_pq b p 1 + n)) 3 0)), τ') ∧ y_ldy τ' b ∧ y_fm 18 42 80 93 τ τ' := by
  have q1 : y_pq b p 1 ≤ 20 := by
    have h := hW.pl hp
    show b (96 + 5 * p + 1) ≤ 20; rw [show 96 + 5 * p + 1 = 97 + 5 * p from by omega]; omega
  obtain ⟨τ1, g1, ⟨m0, m1, m2, m3, m4, m5, m6⟩, g3, g4, g5⟩ := ym_told hL.1 hW hp
  obtain ⟨τ2, e1, e2, e3, e4⟩ := ym_asked (τ1 := j_si (j_si τ1 75 20 (nI (y_pq b p 1 + n))) 75 21 (nI 0)) (p := p) (q := y_u (y_u (y_pq b p) 1 (y_pq b p 1 + n)) 3 0) hL hW hp (y_vq3 (y_vq1 (y_pqv hW hp) (by omega)) (by omega)) ((g5.wide (by omega) (by omega) (by omega) (by omega)).trans ((y_fm.refl.so (by omega) (by omega)).so (by omega) (by omega))) (by simp (disch := omega) only [j_r_ne, j_r_eq, j_r_nj]; exact g5.1 18 (by omega)) (by unfold y_mp; simp (disch := omega) only [j_r_ne, j_r_eq, j_r_nj, y_ue, y_un]; exact ⟨m0, trivial, trivial, m3, m4, m5, m6⟩) (by simp (disch := omega) only [j_r_ne, j_r_eq, j_r_nj]; exact g3) (by simp (disch := omega) only [j_r_ne, j_r_eq, j_r_nj]; exact g4)
  unfold f_X12_lookOf
  rw [g1]; simp only [j_b1_s, j_lt, y_lit, m1, nI_add]; rw [e1]
  exact ⟨τ2, by rw [j_b1_s, e2, pk_mul], e3, e4⟩
theorem ym_rashOf (hL : y_ldy τ b) (hW : y_W b) (hp : p < b 6) : ∃ τ', f_X12_rashOf (nI p) τ = some (nI 10 * (nI (y_run b (y_dg b (b 8)) (y_pq b p) y_k1 1 (y_gs b) 0) - nI (y_run b (y_dg b (b 8)) (y_pq b p) y_k1 1 (y_gs b) 4)) - nI 20 * nI (y_run b (y_dg b (b 8)) (y_pq b p) y_k1 1 (y_gs b) 4), τ') ∧ y_ldy τ' b ∧ y_fm 18 42 80 93 τ τ' := by
  obtain ⟨τ1, g1, g2, g3, g4, g5⟩ := ym_told hL.1 hW hp
  have hL1 := hL.fr g5 (by omega) (by omega)
  have f : y_fm 24 24 80 79 τ1 (j_si τ1 75 24 (nI 1)) := y_fm.refl.so (by omega) (by omega)
  obtain ⟨τ2, e1, e2, e3, e4, e5⟩ := ym_runq (k := y_k1) (red := 1) (hL1.fr f (by omega) (by omega)) hW hp (q := y_pq b p) (by obtain ⟨m0, m1, m2, m3, m4, m5, m6⟩ := g2; unfold y_mp; simp (disch := omega) only [j_r_ne, j_r_eq, j_r_nj]; exact ⟨m0, m1, m2, m3, m4, m5, m6⟩) (y_pqv hW hp) (by simp (disch := omega) only [j_r_ne, j_r_eq, j_r_nj, g3]; exact y_mkM) (by omega) (by simp (disch := omega) only [j_r_ne, j_r_eq, j_r_nj])
  unfold f_X12_rashOf
  rw [g1]; simp only [j_b1_s, j_lt, y_lit]; rw [e1]
  exact ⟨τ2, by rw [j_b1_s, e2.1.1, e2.1.2.2.2.2], e3, (g5.wide (by omega) (by omega) (by omega) (by omega)).trans ((f.wide (by omega) (by omega) (by omega) (by omega)).trans (e5.wide (by omega) (by omega) (by omega) (by omega)))⟩
end Z
/-! ===== learns, enough, waits, slack, rash, look, line, tickets, prize ===== -/
/-- the first of the greatest -/
noncomputable def y_am (h : Nat → Nat) : Nat → Nat → Nat → Nat
  | 0, _, z => z
  | m + 1, i, z => y_am h m (i + 1) (if h z < h i then i else z)
theorem y_ra_of {σ : j_G} {b : Nat → Nat} {p : Nat} (h : y_rdy σ b p) : y_ra σ b (y_pq b p) := h
section Z
variable {σ τ : j_G}
theorem z_learns (hR : j_Rel σ τ) (a1 a2 : Int32) : ∃ v σ1 τ1, f_X11_learns a1 a2 σ = some (v, σ1) ∧ f_X12_learns a1 a2 τ = some (v, τ1) ∧ j_Rel σ1 τ1 := by
  obtain ⟨b, hW, hN, hM, hK⟩ := id hR
  by_cases h : y_rg a1 (b 6)
  · by_cases h2 : y_rg a2 10
    · obtain ⟨p, hp, rfl⟩ := y_of _ _ h.1 h.2
      obtain ⟨n, hn, rfl⟩ := y_of _ _ h2.1 h2.2
      have h9 := hW.on0 (Or.inr (Or.inr (Or.inr (Or.inl (by omega : 0 < b 6)))))
      obtain ⟨σ1, e1, e2, e3⟩ := yc_ready hN hW hp
      obtain ⟨τ1, f1, f2, f3⟩ := ym_laid hM hW
      obtain ⟨σ2, g1, g2, g3⟩ := yc_know (n := n) e2 hW h9 (y_pqv hW hp) (by omega)
      obtain ⟨τ2, k1, k2, k3⟩ := ym_know (n := n) f2 hW hp (by omega)
      refine ⟨nI (y_H b (y_u (y_pq b p) 3 n)), σ2, τ2, ?_, ?_, y_done hR (e3.trans (g3.wide (by omega) (by omega))) (f3.trans k3)⟩
      · unfold f_X11_learns; simp (disch := omega) only [y_lit, y_n1, nI_add, pk_mul, j_lt, j_b1_s, j_b2_s, j_b3_s, j_b0_s, y_bo, y_bo1, y_bo0, y_i0, y_i1, Classical.not_not, nI_clamp, y_ix, y_lt, y_le, y_eq, y_nP, y_nPs, y_ltP, y_ltQ, y_ltPP, y_eqP, y_eqQ, y_eqPP, if_pos, if_neg, ite_true, ite_false, not_true_eq_false, not_false_eq_true, and_true, true_and, and_false, false_and, or_true, true_or, or_false, false_or, e1, g1]
      · unfold f_X12_learns; simp (disch := omega) only [y_lit, y_n1, nI_add, pk_mul, j_lt, j_b1_s, j_b2_s, j_b3_s, j_b0_s, y_bo, y_bo1, y_bo0, y_i0, y_i1, Classical.not_not, nI_clamp, y_ix, y_lt, y_le, y_eq, y_nP, y_nPs, y_ltP, y_ltQ, y_ltPP, y_eqP, y_eqQ, y_eqPP, if_pos, if_neg, ite_true, ite_false, not_true_eq_false, not_false_eq_true, and_true, true_and, and_false, false_and, or_true, true_or, or_false, false_or, ym_isPlayer hM hW, if_pos h, y_lit64, y_in, f1, k1]
    · refine ⟨-2, σ, τ, ?_, ?_, hR⟩
      · unfold f_X11_learns; simp (disch := omega) only [y_lit, y_n1, nI_add, pk_mul, j_lt, j_b1_s, j_b2_s, j_b3_s, j_b0_s, y_bo, y_bo1, y_bo0, y_i0, y_i1, Classical.not_not, nI_clamp, y_ix, y_lt, y_le, y_eq, y_nP, y_nPs, y_ltP, y_ltQ, y_ltPP, y_eqP, y_eqQ, y_eqPP, if_pos, if_neg, ite_true, ite_false, not_true_eq_false, not_false_eq_true, and_true, true_and, and_false, false_and, or_true, true_or, or_false, false_or, y_c3, h2]
      · unfold f_X12_learns; simp (disch := omega) only [y_lit, y_n1, nI_add, pk_mul, j_lt, j_b1_s, j_b2_s, j_b3_s, j_b0_s, y_bo, y_bo1, y_bo0, y_i0, y_i1, Classical.not_not, nI_clamp, y_ix, y_lt, y_le, y_eq, y_nP, y_nPs, y_ltP, y_ltQ, y_ltPP, y_eqP, y_eqQ, y_eqPP, if_pos, if_neg, ite_true, ite_false, not_true_eq_false, not_false_eq_true, and_true, true_and, and_false, false_and, or_true, true_or, or_false, false_or, ym_isPlayer hM hW, y_lit64, y_in, y_c3, h2]
  · refine ⟨-2, σ, τ, ?_, ?_, hR⟩
    · unfold f_X11_learns; rw [yc_unready hN hW h]; simp (disch := omega) only [y_lit, y_n1, nI_add, pk_mul, j_lt, j_b1_s, j_b2_s, j_b3_s, j_b0_s, y_bo, y_bo1, y_bo0, y_i0, y_i1, Classical.not_not, nI_clamp, y_ix, y_lt, y_le, y_eq, y_nP, y_nPs, y_ltP, y_ltQ, y_ltPP, y_eqP, y_eqQ, y_eqPP, if_pos, if_neg, ite_true, ite_false, not_true_eq_false, not_false_eq_true, and_true, true_and, and_false, false_and, or_true, true_or, or_false, false_or]
      split <;> rfl
    · unfold f_X12_learns; simp (disch := omega) only [y_lit, y_n1, nI_add, pk_mul, j_lt, j_b1_s, j_b2_s, j_b3_s, j_b0_s, y_bo, y_bo1, y_bo0, y_i0, y_i1, Classical.not_not, nI_clamp, y_ix, y_lt, y_le, y_eq, y_nP, y_nPs, y_ltP, y_ltQ, y_ltPP, y_eqP, y_eqQ, y_eqPP, if_pos, if_neg, ite_true, ite_false, not_true_eq_false, not_false_eq_true, and_true, true_and, and_false, false_and, or_true, true_or, or_false, false_or, ym_isPlayer hM hW, h]
theorem z_enough (hR : j_Rel σ τ) (a1 : Int32) : ∃ v σ1 τ1, f_X11_enough a1 σ = some (v, σ1) ∧ f_X12_enough a1 τ = some (v, τ1) ∧ j_Rel σ1 τ1 := by
  obtain ⟨b, hW, hN, hM, hK⟩ := id hR
  by_cases h : y_rg a1 (b 6)
  · obtain ⟨p, hp, rfl⟩ := y_of _ _ h.1 h.2
    have h9 := hW.on0 (Or.inr (Or.inr (Or.inr (Or.inl (by omega : 0 < b 6)))))
    have hq := y_pqv hW hp
    obtain ⟨σ1, e1, e2, e3⟩ := yc_ready hN hW hp
    obtain ⟨τ1, f1, f2, f3⟩ := ym_laid hM hW
    obtain ⟨σ2, g1, g2, g3⟩ := yc_know (n := 0) e2 hW h9 hq (by omega)
    have hb : ∀ n, n ≤ 9 → y_H b (y_u (y_pq b p) 3 n) ≤ 120 := fun n hn => y_H_le hW (y_vq3 hq hn)
    have kc : ∀ m i n z x σ', i + m = 10 → m < n → z < 10 → x < 10 → y_ra σ' b (y_u (y_pq b p) 3 x) → ∃ σ'', p_X11_enough_22 n (nI z) (nI (y_H b (y_u (y_pq b p) 3 z))) (nI i) σ' = some (nI (y_am (fun n => y_H b (y_u (y_pq b p) 3 n)) m i z), σ'') ∧ y_fr 28 34 σ' σ'' := by
      intro m
      induction m with
      | zero =>
        intro i n z x σ' h hn hz hx hr
        obtain ⟨n, rfl⟩ := y_pos hn
        refine ⟨σ', ?_, y_fr.refl⟩
        unfold p_X11_enough_22 y_am; simp (disch := omega) only [y_lit, y_n1, nI_add, pk_mul, j_lt, j_b1_s, j_b2_s, j_b3_s, j_b0_s, y_bo, y_bo1, y_bo0, y_i0, y_i1, Classical.not_not, nI_clamp, y_ix, y_lt, y_le, y_eq, y_nP, y_nPs, y_ltP, y_ltQ, y_ltPP, y_eqP, y_eqQ, y_eqPP, if_pos, if_neg, ite_true, ite_false, not_true_eq_false, not_false_eq_true, and_true, true_and, and_false, false_and, or_true, true_or, or_false, false_or]
      | succ m ih =>
        intro i n z x σ' h hn hz hx hr
        obtain ⟨n, rfl⟩ := y_pos hn
        obtain ⟨σ3, k1, k2, k3⟩ := yc_know (n := i) hr hW h9 (y_vq3 hq (by omega)) (by omega)
        rw [y_uu] at k1 k2
        have b1 := hb i (by omega); have b2 := hb z (by omega)
        unfold p_X11_enough_22 y_am; simp (disch := omega) only [y_lit, y_n1, nI_add, pk_mul, j_lt, j_b1_s, j_b2_s, j_b3_s, j_b0_s, y_bo, y_bo1, y_bo0, y_i0, y_i1, Classical.not_not, nI_clamp, y_ix, y_lt, y_le, y_eq, y_nP, y_nPs, y_ltP, y_ltQ, y_ltPP, y_eqP, y_eqQ, y_eqPP, if_pos, if_neg, ite_true, ite_false, not_true_eq_false, not_false_eq_true, and_true, true_and, and_false, false_and, or_true, true_or, or_false, false_or, k1]
        by_cases c : y_H b (y_u (y_pq b p) 3 z) < y_H b (y_u (y_pq b p) 3 i)
        · obtain ⟨σ4, l1, l2⟩ := ih (i + 1) n i i σ3 (by omega) (by omega) (by omega) (by omega) k2
          simp (disch := omega) only [y_lit, y_n1, nI_add, pk_mul, j_lt, j_b1_s, j_b2_s, j_b3_s, j_b0_s, y_bo, y_bo1, y_bo0, y_i0, y_i1, Classical.not_not, nI_clamp, y_ix, y_lt, y_le, y_eq, y_nP, y_nPs, y_ltP, y_ltQ, y_ltPP, y_eqP, y_eqQ, y_eqPP, if_pos, if_neg, ite_true, ite_false, not_true_eq_false, not_false_eq_true, and_true, true_and, and_false, false_and, or_true, true_or, or_false, false_or]
          exact ⟨σ4, l1, k3.trans l2⟩
        · obtain ⟨σ4, l1, l2⟩ := ih (i + 1) n z i σ3 (by omega) (by omega) (by omega) (by omega) k2
          simp (disch := omega) only [y_lit, y_n1, nI_add, pk_mul, j_lt, j_b1_s, j_b2_s, j_b3_s, j_b0_s, y_bo, y_bo1, y_bo0, y_i0, y_i1, Classical.not_not, nI_clamp, y_ix, y_lt, y_le, y_eq, y_nP, y_nPs, y_ltP, y_ltQ, y_ltPP, y_eqP, y_eqQ, y_eqPP, if_pos, if_neg, ite_true, ite_false, not_true_eq_false, not_false_eq_true, and_true, true_and, and_false, false_and, or_true, true_or, or_false, false_or]
          exact ⟨σ4, l1, k3.trans l2⟩
    have km : ∀ m i n z τ', i + m = 10 → m < n → z < 10 → y_ldy τ' b → ∃ τ'', p_X12_enough_19 (nI p) n (nI z) (nI i) τ' = some (nI (y_am (fun n => y_H b (y_u (y_pq b p) 3 n)) m i z), τ'') ∧ y_fm 18 42 80 93 τ' τ'' := by
      intro m
      induction m with
      | zero =>
        intro i n z τ' h hn hz hr
        obtain ⟨n, rfl⟩ := y_pos hn
        refine ⟨τ', ?_, y_fm.refl⟩
        unfold p_X12_enough_19 y_am; simp (disch := omega) only [y_lit, y_n1, nI_add, pk_mul, j_lt, j_b1_s, j_b2_s, j_b3_s, j_b0_s, y_bo, y_bo1, y_bo0, y_i0, y_i1, Classical.not_not, nI_clamp, y_ix, y_lt, y_le, y_eq, y_nP, y_nPs, y_ltP, y_ltQ, y_ltPP, y_eqP, y_eqQ, y_eqPP, if_pos, if_neg, ite_true, ite_false, not_true_eq_false, not_false_eq_true, and_true, true_and, and_false, false_and, or_true, true_or, or_false, false_or]
      | succ m ih =>
        intro i n z τ' h hn hz hr
        obtain ⟨n, rfl⟩ := y_pos hn
        obtain ⟨τ3, k1, k2, k3⟩ := ym_know (n := i) hr hW hp (by omega)
        obtain ⟨τ4, k4, k5, k6⟩ := ym_know (n := z) k2 hW hp (by omega)
        have b1 := hb i (by omega); have b2 := hb z (by omega)
        unfold p_X12_enough_19 y_am; simp (disch := omega) only [y_lit, y_n1, nI_add, pk_mul, j_lt, j_b1_s, j_b2_s, j_b3_s, j_b0_s, y_bo, y_bo1, y_bo0, y_i0, y_i1, Classical.not_not, nI_clamp, y_ix, y_lt, y_le, y_eq, y_nP, y_nPs, y_ltP, y_ltQ, y_ltPP, y_eqP, y_eqQ, y_eqPP, if_pos, if_neg, ite_true, ite_false, not_true_eq_false, not_false_eq_true, and_true, true_and, and_false, false_and, or_true, true_or, or_false, false_or, k1, k4]
        by_cases c : y_H b (y_u (y_pq b p) 3 z) < y_H b (y_u (y_pq b p) 3 i)
        · obtain ⟨σ4, l1, l2⟩ := ih (i + 1) n i τ4 (by omega) (by omega) (by omega) k5
          simp (disch := omega) only [y_lit, y_n1, nI_add, pk_mul, j_lt, j_b1_s, j_b2_s, j_b3_s, j_b0_s, y_bo, y_bo1, y_bo0, y_i0, y_i1, Classical.not_not, nI_clamp, y_ix, y_lt, y_le, y_eq, y_nP, y_nPs, y_ltP, y_ltQ, y_ltPP, y_eqP, y_eqQ, y_eqPP, if_pos, if_neg, ite_true, ite_false, not_true_eq_false, not_false_eq_true, and_true, true_and, and_false, false_and, or_true, true_or, or_false, false_or]
          exact ⟨σ4, l1, k3.trans (k6.trans l2)⟩
        · obtain ⟨σ4, l1, l2⟩ := ih (i + 1) n z τ4 (by omega) (by omega) (by omega) k5
          simp (disch := omega) only [y_lit, y_n1, nI_add, pk_mul, j_lt, j_b1_s, j_b2_s, j_b3_s, j_b0_s, y_bo, y_bo1, y_bo0, y_i0, y_i1, Classical.not_not, nI_clamp, y_ix, y_lt, y_le, y_eq, y_nP, y_nPs, y_ltP, y_ltQ, y_ltPP, y_eqP, y_eqQ, y_eqPP, if_pos, if_neg, ite_true, ite_false, not_true_eq_false, not_false_eq_true, and_true, true_and, and_false, false_and, or_true, true_or, or_false, false_or]
          exact ⟨σ4, l1, k3.trans (k6.trans l2)⟩
    obtain ⟨σ3, c1, c2⟩ := kc 9 1 j_F 0 0 σ2 (by omega) (y_F (by omega)) (by omega) (by omega) g2
    obtain ⟨τ3, d1, d2⟩ := km 9 1 j_F 0 τ1 (by omega) (y_F (by omega)) (by omega) f2
    refine ⟨nI (y_am (fun n => y_H b (y_u (y_pq b p) 3 n)) 9 1 0), σ3, τ3, ?_, ?_, y_done hR (e3.trans ((g3.trans c2).wide (by omega) (by omega))) (f3.trans d2)⟩
    · unfold f_X11_enough; simp (disch := omega) only [y_lit, y_n1, nI_add, pk_mul, j_lt, j_b1_s, j_b2_s, j_b3_s, j_b0_s, y_bo, y_bo1, y_bo0, y_i0, y_i1, Classical.not_not, nI_clamp, y_ix, y_lt, y_le, y_eq, y_nP, y_nPs, y_ltP, y_ltQ, y_ltPP, y_eqP, y_eqQ, y_eqPP, if_pos, if_neg, ite_true, ite_false, not_true_eq_false, not_false_eq_true, and_true, true_and, and_false, false_and, or_true, true_or, or_false, false_or, e1, g1, c1]
    · unfold f_X12_enough; simp (disch := omega) only [y_lit, y_n1, nI_add, pk_mul, j_lt, j_b1_s, j_b2_s, j_b3_s, j_b0_s, y_bo, y_bo1, y_bo0, y_i0, y_i1, Classical.not_not, nI_clamp, y_ix, y_lt, y_le, y_eq, y_nP, y_nPs, y_ltP, y_ltQ, y_ltPP, y_eqP, y_eqQ, y_eqPP, if_pos, if_neg, ite_true, ite_false, not_true_eq_false, not_false_eq_true, and_true, true_and, and_false, false_and, or_true, true_or, or_false, false_or, ym_isPlayer hM hW, if_pos h, f1, d1]
  · refine ⟨-2, σ, τ, ?_, ?_, hR⟩
    · unfold f_X11_enough; rw [yc_unready hN hW h]; simp (disch := omega) only [y_lit, y_n1, nI_add, pk_mul, j_lt, j_b1_s, j_b2_s, j_b3_s, j_b0_s, y_bo, y_bo1, y_bo0, y_i0, y_i1, Classical.not_not, nI_clamp, y_ix, y_lt, y_le, y_eq, y_nP, y_nPs, y_ltP, y_ltQ, y_ltPP, y_eqP, y_eqQ, y_eqPP, if_pos, if_neg, ite_true, ite_false, not_true_eq_false, not_false_eq_true, and_true, true_and, and_false, false_and, or_true, true_or, or_false, false_or]
    · unfold f_X12_enough; simp (disch := omega) only [y_lit, y_n1, nI_add, pk_mul, j_lt, j_b1_s, j_b2_s, j_b3_s, j_b0_s, y_bo, y_bo1, y_bo0, y_i0, y_i1, Classical.not_not, nI_clamp, y_ix, y_lt, y_le, y_eq, y_nP, y_nPs, y_ltP, y_ltQ, y_ltPP, y_eqP, y_eqQ, y_eqPP, if_pos, if_neg, ite_true, ite_false, not_true_eq_false, not_false_eq_true, and_true, true_and, and_false, false_and, or_true, true_or, or_false, false_or, ym_isPlayer hM hW, h]
theorem z_slack (hR : j_Rel σ τ) (a1 : Int32) : ∃ v σ1 τ1, f_X11_slack a1 σ = some (v, σ1) ∧ f_X12_slack a1 τ = some (v, τ1) ∧ j_Rel σ1 τ1 := by
  obtain ⟨b, hW, hN, hM, hK⟩ := id hR
  by_cases h : y_rg a1 (b 6)
  · obtain ⟨p, hp, rfl⟩ := y_of _ _ h.1 h.2
    have h9 := hW.on0 (Or.inr (Or.inr (Or.inr (Or.inl (by omega : 0 < b 6)))))
    have hq := y_pqv hW hp
    obtain ⟨σ1, e1, e2, e3⟩ := yc_ready hN hW hp
    obtain ⟨τ1, f1, f2, f3⟩ := ym_laid hM hW
    obtain ⟨σ2, g1, g2, g3⟩ := yc_lagg (n := 0) e2 hW h9 hq (by omega)
    obtain ⟨τ2, w1, w2, w3⟩ := ym_lagg (n := 0) f2 hW hp (by omega)
    have hb : ∀ n, n ≤ 40 → y_H b (y_u (y_pq b p) 1 n) ≤ 120 := fun n hn => y_H_le hW (y_vq1 hq hn)
    have both : ∀ m i n z x σ' τ', i + m = 21 → m < n → z < 21 → x < 21 → y_ra σ' b (y_u (y_pq b p) 1 x) → y_ldy τ' b → ∃ v σ'' τ'', p_X11_slack_22 (nI (y_H b (y_u (y_pq b p) 1 0))) n (nI z) (nI i) σ' = some (v, σ'') ∧ y_fr 28 34 σ' σ'' ∧ p_X12_slack_27 (nI p) (nI (y_H b (y_u (y_pq b p) 1 0))) n (nI z) (nI i) τ' = some (v, τ'') ∧ y_fm 18 42 80 93 τ' τ'' := by
      intro m
      induction m with
      | zero =>
        intro i n z x σ' τ' h hn hz hx hr hl
        obtain ⟨n, rfl⟩ := y_pos hn
        refine ⟨nI z, σ', τ', ?_, y_fr.refl, ?_, y_fm.refl⟩
        · unfold p_X11_slack_22; simp (disch := omega) only [y_lit, y_n1, nI_add, pk_mul, j_lt, j_b1_s, j_b2_s, j_b3_s, j_b0_s, y_bo, y_bo1, y_bo0, y_i0, y_i1, Classical.not_not, nI_clamp, y_ix, y_lt, y_le, y_eq, y_nP, y_nPs, y_ltP, y_ltQ, y_ltPP, y_eqP, y_eqQ, y_eqPP, if_pos, if_neg, ite_true, ite_false, not_true_eq_false, not_false_eq_true, and_true, true_and, and_false, false_and, or_true, true_or, or_false, false_or]
        · unfold p_X12_slack_27; simp (disch := omega) only [y_lit, y_n1, nI_add, pk_mul, j_lt, j_b1_s, j_b2_s, j_b3_s, j_b0_s, y_bo, y_bo1, y_bo0, y_i0, y_i1, Classical.not_not, nI_clamp, y_ix, y_lt, y_le, y_eq, y_nP, y_nPs, y_ltP, y_ltQ, y_ltPP, y_eqP, y_eqQ, y_eqPP, if_pos, if_neg, ite_true, ite_false, not_true_eq_false, not_false_eq_true, and_true, true_and, and_false, false_and, or_true, true_or, or_false, false_or]
      | succ m ih =>
        intro i n z x σ' τ' h hn hz hx hr hl
        obtain ⟨n, rfl⟩ := y_pos hn
        obtain ⟨σ3, k1, k2, k3⟩ := yc_lagg (n := i) hr hW h9 (y_vq1 hq (by omega)) (by omega)
        rw [y_uu] at k1 k2
        obtain ⟨τ3, l1, l2, l3⟩ := ym_lagg (n := i) hl hW hp (by omega)
        have b1 := hb i (by omega); have b2 := hb 0 (by omega)
        unfold p_X11_slack_22 p_X12_slack_27; simp (disch := omega) only [y_lit, y_n1, nI_add, pk_mul, j_lt, j_b1_s, j_b2_s, j_b3_s, j_b0_s, y_bo, y_bo1, y_bo0, y_i0, y_i1, Classical.not_not, nI_clamp, y_ix, y_lt, y_le, y_eq, y_nP, y_nPs, y_ltP, y_ltQ, y_ltPP, y_eqP, y_eqQ, y_eqPP, if_pos, if_neg, ite_true, ite_false, not_true_eq_false, not_false_eq_true, and_true, true_and, and_false, false_and, or_true, true_or, or_false, false_or, k1, l1]
        by_cases c : y_H b (y_u (y_pq b p) 1 i) = y_H b (y_u (y_pq b p) 1 0)
        · obtain ⟨v, σ4, τ4, m1, m2, m3, m4⟩ := ih (i + 1) n i i σ3 τ3 (by omega) (by omega) (by omega) (by omega) k2 l2
          simp (disch := omega) only [y_lit, y_n1, nI_add, pk_mul, j_lt, j_b1_s, j_b2_s, j_b3_s, j_b0_s, y_bo, y_bo1, y_bo0, y_i0, y_i1, Classical.not_not, nI_clamp, y_ix, y_lt, y_le, y_eq, y_nP, y_nPs, y_ltP, y_ltQ, y_ltPP, y_eqP, y_eqQ, y_eqPP, if_pos, if_neg, ite_true, ite_false, not_true_eq_false, not_false_eq_true, and_true, true_and, and_false, false_and, or_true, true_or, or_false, false_or]
          exact ⟨v, σ4, τ4, m1, k3.trans m2, m3, l3.trans m4⟩
        · obtain ⟨v, σ4, τ4, m1, m2, m3, m4⟩ := ih (i + 1) n z i σ3 τ3 (by omega) (by omega) (by omega) (by omega) k2 l2
          simp (disch := omega) only [y_lit, y_n1, nI_add, pk_mul, j_lt, j_b1_s, j_b2_s, j_b3_s, j_b0_s, y_bo, y_bo1, y_bo0, y_i0, y_i1, Classical.not_not, nI_clamp, y_ix, y_lt, y_le, y_eq, y_nP, y_nPs, y_ltP, y_ltQ, y_ltPP, y_eqP, y_eqQ, y_eqPP, if_pos, if_neg, ite_true, ite_false, not_true_eq_false, not_false_eq_true, and_true, true_and, and_false, false_and, or_true, true_or, or_false, false_or]
          exact ⟨v, σ4, τ4, m1, k3.trans m2, m3, l3.trans m4⟩
    obtain ⟨v, σ3, τ3, c1, c2, d1, d2⟩ := both 20 1 j_F 0 0 σ2 τ2 (by omega) (y_F (by omega)) (by omega) (by omega) g2 w2
    refine ⟨v, σ3, τ3, ?_, ?_, y_done hR (e3.trans ((g3.trans c2).wide (by omega) (by omega))) (f3.trans (w3.trans d2))⟩
    · unfold f_X11_slack; simp (disch := omega) only [y_lit, y_n1, nI_add, pk_mul, j_lt, j_b1_s, j_b2_s, j_b3_s, j_b0_s, y_bo, y_bo1, y_bo0, y_i0, y_i1, Classical.not_not, nI_clamp, y_ix, y_lt, y_le, y_eq, y_nP, y_nPs, y_ltP, y_ltQ, y_ltPP, y_eqP, y_eqQ, y_eqPP, if_pos, if_neg, ite_true, ite_false, not_true_eq_false, not_false_eq_true, and_true, true_and, and_false, false_and, or_true, true_or, or_false, false_or, e1, g1, c1]
    · unfold f_X12_slack; simp (disch := omega) only [y_lit, y_n1, nI_add, pk_mul, j_lt, j_b1_s, j_b2_s, j_b3_s, j_b0_s, y_bo, y_bo1, y_bo0, y_i0, y_i1, Classical.not_not, nI_clamp, y_ix, y_lt, y_le, y_eq, y_nP, y_nPs, y_ltP, y_ltQ, y_ltPP, y_eqP, y_eqQ, y_eqPP, if_pos, if_neg, ite_true, ite_false, not_true_eq_false, not_false_eq_true, and_true, true_and, and_false, false_and, or_true, true_or, or_false, false_or, ym_isPlayer hM hW, if_pos h, f1, w1, d1]
  · refine ⟨-2, σ, τ, ?_, ?_, hR⟩
    · unfold f_X11_slack; rw [yc_unready hN hW h]; simp (disch := omega) only [y_lit, y_n1, nI_add, pk_mul, j_lt, j_b1_s, j_b2_s, j_b3_s, j_b0_s, y_bo, y_bo1, y_bo0, y_i0, y_i1, Classical.not_not, nI_clamp, y_ix, y_lt, y_le, y_eq, y_nP, y_nPs, y_ltP, y_ltQ, y_ltPP, y_eqP, y_eqQ, y_eqPP, if_pos, if_neg, ite_true, ite_false, not_true_eq_false, not_false_eq_true, and_true, true_and, and_false, false_and, or_true, true_or, or_false, false_or]
    · unfold f_X12_slack; simp (disch := omega) only [y_lit, y_n1, nI_add, pk_mul, j_lt, j_b1_s, j_b2_s, j_b3_s, j_b0_s, y_bo, y_bo1, y_bo0, y_i0, y_i1, Classical.not_not, nI_clamp, y_ix, y_lt, y_le, y_eq, y_nP, y_nPs, y_ltP, y_ltQ, y_ltPP, y_eqP, y_eqQ, y_eqPP, if_pos, if_neg, ite_true, ite_false, not_true_eq_false, not_false_eq_true, and_true, true_and, and_false, false_and, or_true, true_or, or_false, false_or, ym_isPlayer hM hW, h]
theorem z_waits (hR : j_Rel σ τ) (a1 a2 : Int32) : ∃ v σ1 τ1, f_X11_waits a1 a2 σ = some (v, σ1) ∧ f_X12_waits a1 a2 τ = some (v, τ1) ∧ j_Rel σ1 τ1 := by
  obtain ⟨b, hW, hN, hM, hK⟩ := id hR
  have h4 := hW.ho
  by_cases h : y_rg a1 (b 6)
  · by_cases h2 : y_rg a2 2
    · obtain ⟨p, hp, rfl⟩ := y_of _ _ h.1 h.2
      have h9 := hW.on0 (Or.inr (Or.inr (Or.inr (Or.inl (by omega : 0 < b 6)))))
      have ho := hW.on1 h9
      have hq := y_pqv hW hp
      obtain ⟨σ1, e1, e2, e3⟩ := yc_ready hN hW hp
      obtain ⟨τ1, f1, f2, f3⟩ := ym_laid hM hW
      have hb : ∀ n, n < y_ho b → y_H b (y_u (y_pq b p) 4 n) ≤ 120 := fun n hn => y_H_le hW (y_vq4 hq hn)
      have both : ∀ m i n n' z x σ' τ', i + m = y_ho b → m < n → m < n' → z < y_ho b → x < y_ho b → y_ra σ' b (y_u (y_pq b p) 4 x) → y_ldy τ' b → ∃ v σ'' τ'', v < y_ho b ∧ p_X11_waits_28 a2 n (nI z) (nI (y_H b (y_u (y_pq b p) 4 z))) (nI i) σ' = some (nI v, nI (y_H b (y_u (y_pq b p) 4 v)), σ'') ∧ y_fr 28 34 σ' σ'' ∧ p_X12_waits_30 (nI p) a2 n' (nI z) (nI i) τ' = some (nI v, τ'') ∧ y_ldy τ'' b ∧ y_fm 18 42 80 93 τ' τ'' := by
        intro m
        induction m with
        | zero =>
          intro i n n' z x σ' τ' h hn hn' hz hx hr hl
          obtain ⟨n, rfl⟩ := y_pos hn; obtain ⟨n', rfl⟩ := y_pos hn'
          refine ⟨z, σ', τ', hz, ?_, y_fr.refl, ?_, hl, y_fm.refl⟩
          · unfold p_X11_waits_28; simp (disch := omega) only [y_lit, y_n1, nI_add, pk_mul, j_lt, j_b1_s, j_b2_s, j_b3_s, j_b0_s, y_bo, y_bo1, y_bo0, y_i0, y_i1, Classical.not_not, nI_clamp, y_ix, y_lt, y_le, y_eq, y_nP, y_nPs, y_ltP, y_ltQ, y_ltPP, y_eqP, y_eqQ, y_eqPP, if_pos, if_neg, ite_true, ite_false, not_true_eq_false, not_false_eq_true, and_true, true_and, and_false, false_and, or_true, true_or, or_false, false_or, yc_holes hr.1]
          · unfold p_X12_waits_30; simp (disch := omega) only [y_lit, y_n1, nI_add, pk_mul, j_lt, j_b1_s, j_b2_s, j_b3_s, j_b0_s, y_bo, y_bo1, y_bo0, y_i0, y_i1, Classical.not_not, nI_clamp, y_ix, y_lt, y_le, y_eq, y_nP, y_nPs, y_ltP, y_ltQ, y_ltPP, y_eqP, y_eqQ, y_eqPP, if_pos, if_neg, ite_true, ite_false, not_true_eq_false, not_false_eq_true, and_true, true_and, and_false, false_and, or_true, true_or, or_false, false_or, ym_holes hl.1]
        | succ m ih =>
          intro i n n' z x σ' τ' h hn hn' hz hx hr hl
          obtain ⟨n, rfl⟩ := y_pos hn; obtain ⟨n', rfl⟩ := y_pos hn'
          obtain ⟨σ3, k1, k2, k3⟩ := yc_ra (hr.set (k := 4) (n := i)) hW h9 (y_vq4 (y_vq4 hq hx) (by omega))
          rw [y_uu] at k1 k2
          obtain ⟨τ3, l1, l2, l3⟩ := ym_wait (n := i) hl hW hp (by omega)
          obtain ⟨τ4, l4, l5, l6⟩ := ym_wait (n := z) l2 hW hp (by omega)
          have b1 := hb i (by omega); have b2 := hb z (by omega)
          have k3' : y_fr 28 34 σ' σ3 := (y_fr.refl.si (by omega) (by omega)).trans k3
          unfold p_X11_waits_28 p_X12_waits_30; rw [y_m1]; simp (disch := omega) only [y_lit, y_n1, nI_add, pk_mul, j_lt, j_b1_s, j_b2_s, j_b3_s, j_b0_s, y_bo, y_bo1, y_bo0, y_i0, y_i1, Classical.not_not, nI_clamp, y_ix, y_lt, y_le, y_eq, y_nP, y_nPs, y_ltP, y_ltQ, y_ltPP, y_eqP, y_eqQ, y_eqPP, if_pos, if_neg, ite_true, ite_false, not_true_eq_false, not_false_eq_true, and_true, true_and, and_false, false_and, or_true, true_or, or_false, false_or, yc_holes hr.1, ym_holes hl.1, k1, l1, l4]
          by_cases c : y_H b (y_u (y_pq b p) 4 z) < y_H b (y_u (y_pq b p) 4 i)
          · obtain ⟨v, σ4, τ5, m0, m1, m2, m3, m4, m5⟩ := ih (i + 1) n n' i i σ3 τ4 (by omega) (by omega) (by omega) (by omega) (by omega) k2 l5
            simp (disch := omega) only [y_lit, y_n1, nI_add, pk_mul, j_lt, j_b1_s, j_b2_s, j_b3_s, j_b0_s, y_bo, y_bo1, y_bo0, y_i0, y_i1, Classical.not_not, nI_clamp, y_ix, y_lt, y_le, y_eq, y_nP, y_nPs, y_ltP, y_ltQ, y_ltPP, y_eqP, y_eqQ, y_eqPP, if_pos, if_neg, ite_true, ite_false, not_true_eq_false, not_false_eq_true, and_true, true_and, and_false, false_and, or_true, true_or, or_false, false_or]
            exact ⟨v, σ4, τ5, m0, m1, k3'.trans m2, m3, m4, l3.trans (l6.trans m5)⟩
          · obtain ⟨v, σ4, τ5, m0, m1, m2, m3, m4, m5⟩ := ih (i + 1) n n' z i σ3 τ4 (by omega) (by omega) (by omega) (by omega) (by omega) k2 l5
            simp (disch := omega) only [y_lit, y_n1, nI_add, pk_mul, j_lt, j_b1_s, j_b2_s, j_b3_s, j_b0_s, y_bo, y_bo1, y_bo0, y_i0, y_i1, Classical.not_not, nI_clamp, y_ix, y_lt, y_le, y_eq, y_nP, y_nPs, y_ltP, y_ltQ, y_ltPP, y_eqP, y_eqQ, y_eqPP, if_pos, if_neg, ite_true, ite_false, not_true_eq_false, not_false_eq_true, and_true, true_and, and_false, false_and, or_true, true_or, or_false, false_or]
            exact ⟨v, σ4, τ5, m0, m1, k3'.trans m2, m3, m4, l3.trans (l6.trans m5)⟩
      obtain ⟨σ2, k1, k2, k3⟩ := yc_ra ((y_ra_of e2).set (k := 4) (n := 0)) hW h9 (y_vq4 hq (by omega))
      have k3' : y_fr 28 34 σ1 σ2 := (y_fr.refl.si (by omega) (by omega)).trans k3
      obtain ⟨v, σ3, τ3, m0, c1, c2, d1, d2, d3⟩ := both (y_ho b - 1) 1 4999 j_F 0 0 σ2 τ1 (by omega) (by omega) (y_F (by omega)) (by omega) (by omega) k2 f2
      obtain ⟨τ4, l1, l2, l3⟩ := ym_wait (n := v) d2 hW hp (by omega)
      have hr := y_done hR (e3.trans ((k3'.trans c2).wide (by omega) (by omega))) (f3.trans d3)
      have hr2 := y_done hR (e3.trans ((k3'.trans c2).wide (by omega) (by omega))) (f3.trans (d3.trans l3))
      have b0 := hb 0 (by omega)
      have w0 : p_X11_waits_28 a2 j_F (nI 0) (nP 0) (nI 0) σ1 = some (nI v, nI (y_H b (y_u (y_pq b p) 4 v)), σ3) := by
        rw [show j_F = 4999 + 1 from rfl]
        unfold p_X11_waits_28; rw [y_m1]; simp (disch := omega) only [y_lit, y_n1, nI_add, pk_mul, j_lt, j_b1_s, j_b2_s, j_b3_s, j_b0_s, y_bo, y_bo1, y_bo0, y_i0, y_i1, Classical.not_not, nI_clamp, y_ix, y_lt, y_le, y_eq, y_nP, y_nPs, y_ltP, y_ltQ, y_ltPP, y_eqP, y_eqQ, y_eqPP, if_pos, if_neg, ite_true, ite_false, not_true_eq_false, not_false_eq_true, and_true, true_and, and_false, false_and, or_true, true_or, or_false, false_or, yc_holes e2.1, k1]
        exact c1
      by_cases c : a2 = nI 0
      · subst c
        refine ⟨nI v, σ3, τ3, ?_, ?_, hr⟩
        · unfold f_X11_waits; simp (disch := omega) only [y_lit, y_n1, nI_add, pk_mul, j_lt, j_b1_s, j_b2_s, j_b3_s, j_b0_s, y_bo, y_bo1, y_bo0, y_i0, y_i1, Classical.not_not, nI_clamp, y_ix, y_lt, y_le, y_eq, y_nP, y_nPs, y_ltP, y_ltQ, y_ltPP, y_eqP, y_eqQ, y_eqPP, if_pos, if_neg, ite_true, ite_false, not_true_eq_false, not_false_eq_true, and_true, true_and, and_false, false_and, or_true, true_or, or_false, false_or, e1, w0]
        · unfold f_X12_waits; simp (disch := omega) only [y_lit, y_n1, nI_add, pk_mul, j_lt, j_b1_s, j_b2_s, j_b3_s, j_b0_s, y_bo, y_bo1, y_bo0, y_i0, y_i1, Classical.not_not, nI_clamp, y_ix, y_lt, y_le, y_eq, y_nP, y_nPs, y_ltP, y_ltQ, y_ltPP, y_eqP, y_eqQ, y_eqPP, if_pos, if_neg, ite_true, ite_false, not_true_eq_false, not_false_eq_true, and_true, true_and, and_false, false_and, or_true, true_or, or_false, false_or, ym_isPlayer hM hW, if_pos h, y_lit64, y_in, f1, d1]
      · refine ⟨nI (y_H b (y_u (y_pq b p) 4 v)), σ3, τ4, ?_, ?_, hr2⟩
        · unfold f_X11_waits; simp (disch := omega) only [y_lit, y_n1, nI_add, pk_mul, j_lt, j_b1_s, j_b2_s, j_b3_s, j_b0_s, y_bo, y_bo1, y_bo0, y_i0, y_i1, Classical.not_not, nI_clamp, y_ix, y_lt, y_le, y_eq, y_nP, y_nPs, y_ltP, y_ltQ, y_ltPP, y_eqP, y_eqQ, y_eqPP, if_pos, if_neg, ite_true, ite_false, not_true_eq_false, not_false_eq_true, and_true, true_and, and_false, false_and, or_true, true_or, or_false, false_or, y_c3, h2, e1, w0, c]
        · unfold f_X12_waits; simp (disch := omega) only [y_lit, y_n1, nI_add, pk_mul, j_lt, j_b1_s, j_b2_s, j_b3_s, j_b0_s, y_bo, y_bo1, y_bo0, y_i0, y_i1, Classical.not_not, nI_clamp, y_ix, y_lt, y_le, y_eq, y_nP, y_nPs, y_ltP, y_ltQ, y_ltPP, y_eqP, y_eqQ, y_eqPP, if_pos, if_neg, ite_true, ite_false, not_true_eq_false, not_false_eq_true, and_true, true_and, and_false, false_and, or_true, true_or, or_false, false_or, ym_isPlayer hM hW, if_pos h, y_lit64, y_in, y_c3, h2, f1, d1, c, l1]
    · refine ⟨-2, σ, τ, ?_, ?_, hR⟩
      · unfold f_X11_waits; simp (disch := omega) only [y_lit, y_n1, nI_add, pk_mul, j_lt, j_b1_s, j_b2_s, j_b3_s, j_b0_s, y_bo, y_bo1, y_bo0, y_i0, y_i1, Classical.not_not, nI_clamp, y_ix, y_lt, y_le, y_eq, y_nP, y_nPs, y_ltP, y_ltQ, y_ltPP, y_eqP, y_eqQ, y_eqPP, if_pos, if_neg, ite_true, ite_false, not_true_eq_false, not_false_eq_true, and_true, true_and, and_false, false_and, or_true, true_or, or_false, false_or, y_c3, h2]
      · unfold f_X12_waits; simp (disch := omega) only [y_lit, y_n1, nI_add, pk_mul, j_lt, j_b1_s, j_b2_s, j_b3_s, j_b0_s, y_bo, y_bo1, y_bo0, y_i0, y_i1, Classical.not_not, nI_clamp, y_ix, y_lt, y_le, y_eq, y_nP, y_nPs, y_ltP, y_ltQ, y_ltPP, y_eqP, y_eqQ, y_eqPP, if_pos, if_neg, ite_true, ite_false, not_true_eq_false, not_false_eq_true, and_true, true_and, and_false, false_and, or_true, true_or, or_false, false_or, ym_isPlayer hM hW, y_lit64, y_in, y_c3, h2]
  · refine ⟨-2, σ, τ, ?_, ?_, hR⟩
    · unfold f_X11_waits; rw [yc_unready hN hW h]; simp (disch := omega) only [y_lit, y_n1, nI_add, pk_mul, j_lt, j_b1_s, j_b2_s, j_b3_s, j_b0_s, y_bo, y_bo1, y_bo0, y_i0, y_i1, Classical.not_not, nI_clamp, y_ix, y_lt, y_le, y_eq, y_nP, y_nPs, y_ltP, y_ltQ, y_ltPP, y_eqP, y_eqQ, y_eqPP, if_pos, if_neg, ite_true, ite_false, not_true_eq_false, not_false_eq_true, and_true, true_and, and_false, false_and, or_true, true_or, or_false, false_or]
      split <;> rfl
    · unfold f_X12_waits; simp (disch := omega) only [y_lit, y_n1, nI_add, pk_mul, j_lt, j_b1_s, j_b2_s, j_b3_s, j_b0_s, y_bo, y_bo1, y_bo0, y_i0, y_i1, Classical.not_not, nI_clamp, y_ix, y_lt, y_le, y_eq, y_nP, y_nPs, y_ltP, y_ltQ, y_ltPP, y_eqP, y_eqQ, y_eqPP, if_pos, if_neg, ite_true, ite_false, not_true_eq_false, not_false_eq_true, and_true, true_and, and_false, false_and, or_true, true_or, or_false, false_or, ym_isPlayer hM hW, h]
end Z
/-! ===== missed, rash, look, line, tickets, prize ===== -/
theorem y_pop2 : ∀ h, h < 12 → ∀ o, o < 13 → o ≠ h + 1 → y_pop 12 (2 ^ h ||| (if o = 0 then 0 else 2 ^ (o - 1))) = if o = 0 then 1 else 2 := by decide
theorem y_m0 (x : Int32) : x - 1 = (nI 0 - 1) + x := by
  apply Int32.toBitVec_inj.mp
  show x.toBitVec - 1#32 = ((nI 0).toBitVec - 1#32) + x.toBitVec
  rw [show (nI 0).toBitVec = 0#32 from rfl, BitVec.zero_sub, BitVec.add_comm, BitVec.sub_eq_add_neg]
noncomputable def y_ms (g R : Nat → Nat) : Nat → Nat → Nat
  | 0, _ => 0
  | m + 1, i => if g (3 * i + 2) = 0 ∧ R (1001 + 2 * i) < (if g (3 * i + 1) = 0 then 1 else 2) then i + 1 else y_ms g R m (i + 1)
section Z
variable {σ τ : j_G}
theorem z_missed (hR : j_Rel σ τ) (a1 : Int32) : ∃ v σ1 τ1, f_X11_missed a1 σ = some (v, σ1) ∧ f_X12_missed a1 τ = some (v, τ1) ∧ j_Rel σ1 τ1 := by
  obtain ⟨b, hW, hN, hM, hK⟩ := id hR
  have h4 := hW.ho
  by_cases h : y_rg a1 (b 6)
  · obtain ⟨p, hp, rfl⟩ := y_of _ _ h.1 h.2
    have hv := y_dg_vg hW (b 8)
    obtain ⟨σ1, e1, e2, e3, e4⟩ := yc_runOf hN hW hp
    obtain ⟨τ1, f1, f2, f3, f4, f5⟩ := ym_ras hM hW hp
    have hr := y_done hR e4 f5
    have br : y_br b (y_own b p) 120 := y_run_br hW hv (y_pqv hW hp)
    have hs := hv.1
    obtain ⟨_, hc, _⟩ := id e2
    obtain ⟨_, hg⟩ := id f2
    generalize y_own b p = R at *
    generalize y_gs b = s at *
    generalize y_dg b (b 8) = g at *
    have kc : ∀ m i n, i + m = s → m < n → p_X9_firstMissed_2 σ1 n (nI i) = some (nP (y_ms g R m i)) := by
      intro m
      induction m with
      | zero =>
        intro i n h hn
        obtain ⟨n, rfl⟩ := y_pos hn
        unfold p_X9_firstMissed_2 y_ms; simp (disch := omega) only [y_lit, y_n1, nI_add, pk_mul, j_lt, j_b1_s, j_b2_s, j_b3_s, j_b0_s, y_bo, y_bo1, y_bo0, y_i0, y_i1, Classical.not_not, nI_clamp, y_ix, y_lt, y_le, y_eq, y_nP, y_nPs, y_ltP, y_ltQ, y_ltPP, y_eqP, y_eqQ, y_eqPP, if_pos, if_neg, ite_true, ite_false, not_true_eq_false, not_false_eq_true, and_true, true_and, and_false, false_and, or_true, true_or, or_false, false_or, hc.1]
      | succ m ih =>
        intro i n h hn
        obtain ⟨n, rfl⟩ := y_pos hn
        have ci := hc.2 i (by omega)
        have vi := hv.2 i (by omega)
        have ri := (e3.2.2 i (by omega)).2
        have bi := br.2.2.2.2.2.2.2 i
        have hb := y_hb_lt hW hv (show i < s by omega)
        have pp := y_pop2 (g (3 * i)) (by omega) (g (3 * i + 1)) (by omega) vi.2.2.1
        rw [show (2 ^ g (3 * i) ||| (if g (3 * i + 1) = 0 then 0 else 2 ^ (g (3 * i + 1) - 1))) = y_hb g i from rfl] at pp
        have p3 : y_pop 12 (y_hb g i) < 3 := by rw [pp]; split <;> omega
        unfold p_X9_firstMissed_2 y_ms; simp (disch := omega) only [y_lit, y_n1, nI_add, pk_mul, j_lt, j_b1_s, j_b2_s, j_b3_s, j_b0_s, y_bo, y_bo1, y_bo0, y_i0, y_i1, Classical.not_not, nI_clamp, y_ix, y_lt, y_le, y_eq, y_nP, y_nPs, y_ltP, y_ltQ, y_ltPP, y_eqP, y_eqQ, y_eqPP, if_pos, if_neg, ite_true, ite_false, not_true_eq_false, not_false_eq_true, and_true, true_and, and_false, false_and, or_true, true_or, or_false, false_or, hc.1, ci]
        rw [ih (i + 1) n (by omega) (by omega)]
        by_cases c : g (3 * i + 2) = 0
        · simp (disch := omega) only [y_lit, y_n1, nI_add, pk_mul, j_lt, j_b1_s, j_b2_s, j_b3_s, j_b0_s, y_bo, y_bo1, y_bo0, y_i0, y_i1, Classical.not_not, nI_clamp, y_ix, y_lt, y_le, y_eq, y_nP, y_nPs, y_ltP, y_ltQ, y_ltPP, y_eqP, y_eqQ, y_eqPP, if_pos, if_neg, ite_true, ite_false, not_true_eq_false, not_false_eq_true, and_true, true_and, and_false, false_and, or_true, true_or, or_false, false_or, yc_holesOf hc hv hW, y_bcn, ri]
          rw [pp]
          by_cases c2 : R (1001 + 2 * i) < (if g (3 * i + 1) = 0 then 1 else 2)
          · rw [if_pos c2, if_pos ⟨c, c2⟩, y_nPs]
          · rw [if_neg c2, if_neg (fun z => c2 z.2)]
        · rw [if_neg (fun z : g (3 * i + 2) = 0 ∧ _ => c z.1)]; simp (disch := omega) only [y_lit, y_n1, nI_add, pk_mul, j_lt, j_b1_s, j_b2_s, j_b3_s, j_b0_s, y_bo, y_bo1, y_bo0, y_i0, y_i1, Classical.not_not, nI_clamp, y_ix, y_lt, y_le, y_eq, y_nP, y_nPs, y_ltP, y_ltQ, y_ltPP, y_eqP, y_eqQ, y_eqPP, if_pos, if_neg, ite_true, ite_false, not_true_eq_false, not_false_eq_true, and_true, true_and, and_false, false_and, or_true, true_or, or_false, false_or]
    have km : ∀ m i n, i + m = s → m < n → p_X12_missed_18 τ1 n (nI i) = some (nP (y_ms g R m i), τ1) := by
      intro m
      induction m with
      | zero =>
        intro i n h hn
        obtain ⟨n, rfl⟩ := y_pos hn
        unfold p_X12_missed_18 y_ms; simp (disch := omega) only [y_lit, y_n1, nI_add, pk_mul, j_lt, j_b1_s, j_b2_s, j_b3_s, j_b0_s, y_bo, y_bo1, y_bo0, y_i0, y_i1, Classical.not_not, nI_clamp, y_ix, y_lt, y_le, y_eq, y_nP, y_nPs, y_ltP, y_ltQ, y_ltPP, y_eqP, y_eqQ, y_eqPP, if_pos, if_neg, ite_true, ite_false, not_true_eq_false, not_false_eq_true, and_true, true_and, and_false, false_and, or_true, true_or, or_false, false_or, hg.1]
      | succ m ih =>
        intro i n h hn
        obtain ⟨n, rfl⟩ := y_pos hn
        have gi := hg.2 i (by omega)
        have vi := hv.2 i (by omega)
        have ri := (f3.2.2 i (by omega)).2
        have bi := br.2.2.2.2.2.2.2 i
        unfold p_X12_missed_18 y_ms f_X12_inGame; simp (disch := omega) only [y_lit, y_n1, nI_add, pk_mul, j_lt, j_b1_s, j_b2_s, j_b3_s, j_b0_s, y_bo, y_bo1, y_bo0, y_i0, y_i1, Classical.not_not, nI_clamp, y_ix, y_lt, y_le, y_eq, y_nP, y_nPs, y_ltP, y_ltQ, y_ltPP, y_eqP, y_eqQ, y_eqPP, if_pos, if_neg, ite_true, ite_false, not_true_eq_false, not_false_eq_true, and_true, true_and, and_false, false_and, or_true, true_or, or_false, false_or, hg.1, gi]
        rw [ih (i + 1) n (by omega) (by omega)]
        by_cases c : g (3 * i + 2) = 0
        · simp (disch := omega) only [y_lit, y_n1, nI_add, pk_mul, j_lt, j_b1_s, j_b2_s, j_b3_s, j_b0_s, y_bo, y_bo1, y_bo0, y_i0, y_i1, Classical.not_not, nI_clamp, y_ix, y_lt, y_le, y_eq, y_nP, y_nPs, y_ltP, y_ltQ, y_ltPP, y_eqP, y_eqQ, y_eqPP, if_pos, if_neg, ite_true, ite_false, not_true_eq_false, not_false_eq_true, and_true, true_and, and_false, false_and, or_true, true_or, or_false, false_or, ri]
          by_cases c0 : g (3 * i + 1) = 0
          · simp (disch := omega) only [y_lit, y_n1, nI_add, pk_mul, j_lt, j_b1_s, j_b2_s, j_b3_s, j_b0_s, y_bo, y_bo1, y_bo0, y_i0, y_i1, Classical.not_not, nI_clamp, y_ix, y_lt, y_le, y_eq, y_nP, y_nPs, y_ltP, y_ltQ, y_ltPP, y_eqP, y_eqQ, y_eqPP, if_pos, if_neg, ite_true, ite_false, not_true_eq_false, not_false_eq_true, and_true, true_and, and_false, false_and, or_true, true_or, or_false, false_or]
            by_cases c2 : R (1001 + 2 * i) < 1
            · rw [if_pos c2, if_pos ⟨c, c2⟩, y_nPs]
            · rw [if_neg c2, if_neg (fun z => c2 z.2)]
          · simp (disch := omega) only [y_lit, y_n1, nI_add, pk_mul, j_lt, j_b1_s, j_b2_s, j_b3_s, j_b0_s, y_bo, y_bo1, y_bo0, y_i0, y_i1, Classical.not_not, nI_clamp, y_ix, y_lt, y_le, y_eq, y_nP, y_nPs, y_ltP, y_ltQ, y_ltPP, y_eqP, y_eqQ, y_eqPP, if_pos, if_neg, ite_true, ite_false, not_true_eq_false, not_false_eq_true, and_true, true_and, and_false, false_and, or_true, true_or, or_false, false_or]
            by_cases c2 : R (1001 + 2 * i) < 2
            · rw [if_pos c2, if_pos ⟨c, c2⟩, y_nPs]
            · rw [if_neg c2, if_neg (fun z => c2 z.2)]
        · rw [if_neg (fun z : g (3 * i + 2) = 0 ∧ _ => c z.1)]; simp (disch := omega) only [y_lit, y_n1, nI_add, pk_mul, j_lt, j_b1_s, j_b2_s, j_b3_s, j_b0_s, y_bo, y_bo1, y_bo0, y_i0, y_i1, Classical.not_not, nI_clamp, y_ix, y_lt, y_le, y_eq, y_nP, y_nPs, y_ltP, y_ltQ, y_ltPP, y_eqP, y_eqQ, y_eqPP, if_pos, if_neg, ite_true, ite_false, not_true_eq_false, not_false_eq_true, and_true, true_and, and_false, false_and, or_true, true_or, or_false, false_or]
    refine ⟨nP (y_ms g R s 0), σ1, τ1, ?_, ?_, hr⟩
    · have k := kc s 0 j_F (by omega) (y_F (by omega))
      unfold f_X11_missed f_X9_firstMissed; simp (disch := omega) only [y_lit, y_n1, nI_add, pk_mul, j_lt, j_b1_s, j_b2_s, j_b3_s, j_b0_s, y_bo, y_bo1, y_bo0, y_i0, y_i1, Classical.not_not, nI_clamp, y_ix, y_lt, y_le, y_eq, y_nP, y_nPs, y_ltP, y_ltQ, y_ltPP, y_eqP, y_eqQ, y_eqPP, if_pos, if_neg, ite_true, ite_false, not_true_eq_false, not_false_eq_true, and_true, true_and, and_false, false_and, or_true, true_or, or_false, false_or, e1, k]
    · have k := km s 0 j_F (by omega) (y_F (by omega))
      unfold f_X12_missed; simp (disch := omega) only [y_lit, y_n1, nI_add, pk_mul, j_lt, j_b1_s, j_b2_s, j_b3_s, j_b0_s, y_bo, y_bo1, y_bo0, y_i0, y_i1, Classical.not_not, nI_clamp, y_ix, y_lt, y_le, y_eq, y_nP, y_nPs, y_ltP, y_ltQ, y_ltPP, y_eqP, y_eqQ, y_eqPP, if_pos, if_neg, ite_true, ite_false, not_true_eq_false, not_false_eq_true, and_true, true_and, and_false, false_and, or_true, true_or, or_false, false_or, ym_isPlayer hM hW, if_pos h, f1, k]
  · refine ⟨-2, σ, τ, ?_, ?_, hR⟩
    · unfold f_X11_missed; rw [yc_unrun hN hW h]; simp (disch := omega) only [y_lit, y_n1, nI_add, pk_mul, j_lt, j_b1_s, j_b2_s, j_b3_s, j_b0_s, y_bo, y_bo1, y_bo0, y_i0, y_i1, Classical.not_not, nI_clamp, y_ix, y_lt, y_le, y_eq, y_nP, y_nPs, y_ltP, y_ltQ, y_ltPP, y_eqP, y_eqQ, y_eqPP, if_pos, if_neg, ite_true, ite_false, not_true_eq_false, not_false_eq_true, and_true, true_and, and_false, false_and, or_true, true_or, or_false, false_or]
    · unfold f_X12_missed; rw [ym_isPlayer hM hW, if_neg h]; simp (disch := omega) only [y_lit, y_n1, nI_add, pk_mul, j_lt, j_b1_s, j_b2_s, j_b3_s, j_b0_s, y_bo, y_bo1, y_bo0, y_i0, y_i1, Classical.not_not, nI_clamp, y_ix, y_lt, y_le, y_eq, y_nP, y_nPs, y_ltP, y_ltQ, y_ltPP, y_eqP, y_eqQ, y_eqPP, if_pos, if_neg, ite_true, ite_false, not_true_eq_false, not_false_eq_true, and_true, true_and, and_false, false_and, or_true, true_or, or_false, false_or]
theorem z_rash (hR : j_Rel σ τ) (a1 : Int32) : ∃ v σ1 τ1, f_X11_rash a1 σ = some (v, σ1) ∧ f_X12_rash a1 τ = some (v, τ1) ∧ j_Rel σ1 τ1 := by
  obtain ⟨b, hW, hN, hM, hK⟩ := id hR
  by_cases h : y_rg a1 (b 6)
  · obtain ⟨p, hp, rfl⟩ := y_of _ _ h.1 h.2
    have h9 := hW.on0 (Or.inr (Or.inr (Or.inr (Or.inl (by omega : 0 < b 6)))))
    obtain ⟨σ1, e1, ⟨e2, e3, e4⟩, e5⟩ := yc_ready hN hW hp
    obtain ⟨σ2, g1, g2⟩ := yc_rash e2 hW h9 e3 (y_dg_vg hW _) e4 (y_pqv hW hp) y_mkC
    obtain ⟨τ1, f1, f2, f3⟩ := ym_laid hM hW
    obtain ⟨τ2, k1, k2, k3⟩ := ym_rashOf f2 hW hp
    generalize hx : nI 10 * (nI (y_run b (y_dg b (b 8)) (y_pq b p) y_k1 1 (y_gs b) 0) - nI (y_run b (y_dg b (b 8)) (y_pq b p) y_k1 1 (y_gs b) 4)) - nI 20 * nI (y_run b (y_dg b (b 8)) (y_pq b p) y_k1 1 (y_gs b) 4) = x at *
    refine ⟨x, σ2, τ2, ?_, ?_, y_done hR (e5.trans (g2.wide (by omega) (by omega))) (f3.trans k3)⟩
    · unfold f_X11_rash; simp (disch := omega) only [y_lit, y_n1, nI_add, pk_mul, j_lt, j_b1_s, j_b2_s, j_b3_s, j_b0_s, y_bo, y_bo1, y_bo0, y_i0, y_i1, Classical.not_not, nI_clamp, y_ix, y_lt, y_le, y_eq, y_nP, y_nPs, y_ltP, y_ltQ, y_ltPP, y_eqP, y_eqQ, y_eqPP, if_pos, if_neg, ite_true, ite_false, not_true_eq_false, not_false_eq_true, and_true, true_and, and_false, false_and, or_true, true_or, or_false, false_or, e1, g1]
    · unfold f_X12_rash; simp (disch := omega) only [y_lit, y_n1, nI_add, pk_mul, j_lt, j_b1_s, j_b2_s, j_b3_s, j_b0_s, y_bo, y_bo1, y_bo0, y_i0, y_i1, Classical.not_not, nI_clamp, y_ix, y_lt, y_le, y_eq, y_nP, y_nPs, y_ltP, y_ltQ, y_ltPP, y_eqP, y_eqQ, y_eqPP, if_pos, if_neg, ite_true, ite_false, not_true_eq_false, not_false_eq_true, and_true, true_and, and_false, false_and, or_true, true_or, or_false, false_or, ym_isPlayer hM hW, if_pos h, f1, k1]
  · refine ⟨-2000, σ, τ, ?_, ?_, hR⟩
    · unfold f_X11_rash; rw [yc_unready hN hW h]; simp (disch := omega) only [y_lit, y_n1, nI_add, pk_mul, j_lt, j_b1_s, j_b2_s, j_b3_s, j_b0_s, y_bo, y_bo1, y_bo0, y_i0, y_i1, Classical.not_not, nI_clamp, y_ix, y_lt, y_le, y_eq, y_nP, y_nPs, y_ltP, y_ltQ, y_ltPP, y_eqP, y_eqQ, y_eqPP, if_pos, if_neg, ite_true, ite_false, not_true_eq_false, not_false_eq_true, and_true, true_and, and_false, false_and, or_true, true_or, or_false, false_or]
    · unfold f_X12_rash; rw [ym_isPlayer hM hW, if_neg h]; simp (disch := omega) only [y_lit, y_n1, nI_add, pk_mul, j_lt, j_b1_s, j_b2_s, j_b3_s, j_b0_s, y_bo, y_bo1, y_bo0, y_i0, y_i1, Classical.not_not, nI_clamp, y_ix, y_lt, y_le, y_eq, y_nP, y_nPs, y_ltP, y_ltQ, y_ltPP, y_eqP, y_eqQ, y_eqPP, if_pos, if_neg, ite_true, ite_false, not_true_eq_false, not_false_eq_true, and_true, true_and, and_false, false_and, or_true, true_or, or_false, false_or]
theorem z_look (hR : j_Rel σ τ) (a1 a2 : Int32) : ∃ v σ1 τ1, f_X11_look a1 a2 σ = some (v, σ1) ∧ f_X12_look a1 a2 τ = some (v, τ1) ∧ j_Rel σ1 τ1 := by
  obtain ⟨b, hW, hN, hM, hK⟩ := id hR
  by_cases h : y_rg a1 (b 6)
  · by_cases h2 : y_rg a2 21
    · obtain ⟨p, hp, rfl⟩ := y_of _ _ h.1 h.2
      obtain ⟨n, hn, rfl⟩ := y_of _ _ h2.1 h2.2
      have h9 := hW.on0 (Or.inr (Or.inr (Or.inr (Or.inl (by omega : 0 < b 6)))))
      have q1 : y_pq b p 1 ≤ 20 := by
        have h := hW.pl hp
        show b (96 + 5 * p + 1) ≤ 20; rw [show 96 + 5 * p + 1 = 97 + 5 * p from by omega]; omega
      obtain ⟨σ1, e1, e2, e3⟩ := yc_ready hN hW hp
      obtain ⟨τ1, f1, f2, f3⟩ := ym_laid hM hW
      obtain ⟨σ2, g1, g2, g3⟩ := yc_look (n := y_pq b p 1 + n) (y_ra_of e2) hW h9 (y_pqv hW hp) (by omega)
      obtain ⟨τ2, k1, k2, k3⟩ := ym_look (n := n) f2 hW hp (by omega)
      have et : f_X2_trait (nI p) (nI 1) σ1 = some (nI (y_pq b p 1)) := yc_trait e2.1 hW hp (by omega)
      refine ⟨nI (10 * y_H b (y_u (y_u (y_pq b p) 1 (y_pq b p 1 + n)) 3 0)), σ2, τ2, ?_, ?_, y_done hR (e3.trans (g3.wide (by omega) (by omega))) (f3.trans k3)⟩
      · unfold f_X11_look; simp (disch := omega) only [y_lit, y_n1, nI_add, pk_mul, j_lt, j_b1_s, j_b2_s, j_b3_s, j_b0_s, y_bo, y_bo1, y_bo0, y_i0, y_i1, Classical.not_not, nI_clamp, y_ix, y_lt, y_le, y_eq, y_nP, y_nPs, y_ltP, y_ltQ, y_ltPP, y_eqP, y_eqQ, y_eqPP, if_pos, if_neg, ite_true, ite_false, not_true_eq_false, not_false_eq_true, and_true, true_and, and_false, false_and, or_true, true_or, or_false, false_or, e1, et, g1]
      · unfold f_X12_look; simp (disch := omega) only [y_lit, y_n1, nI_add, pk_mul, j_lt, j_b1_s, j_b2_s, j_b3_s, j_b0_s, y_bo, y_bo1, y_bo0, y_i0, y_i1, Classical.not_not, nI_clamp, y_ix, y_lt, y_le, y_eq, y_nP, y_nPs, y_ltP, y_ltQ, y_ltPP, y_eqP, y_eqQ, y_eqPP, if_pos, if_neg, ite_true, ite_false, not_true_eq_false, not_false_eq_true, and_true, true_and, and_false, false_and, or_true, true_or, or_false, false_or, ym_isPlayer hM hW, if_pos h, y_lit64, y_in, f1, k1]
    · refine ⟨-2000, σ, τ, ?_, ?_, hR⟩
      · unfold f_X11_look; simp (disch := omega) only [y_lit, y_n1, nI_add, pk_mul, j_lt, j_b1_s, j_b2_s, j_b3_s, j_b0_s, y_bo, y_bo1, y_bo0, y_i0, y_i1, Classical.not_not, nI_clamp, y_ix, y_lt, y_le, y_eq, y_nP, y_nPs, y_ltP, y_ltQ, y_ltPP, y_eqP, y_eqQ, y_eqPP, if_pos, if_neg, ite_true, ite_false, not_true_eq_false, not_false_eq_true, and_true, true_and, and_false, false_and, or_true, true_or, or_false, false_or, y_c3, h2]
      · unfold f_X12_look; simp (disch := omega) only [y_lit, y_n1, nI_add, pk_mul, j_lt, j_b1_s, j_b2_s, j_b3_s, j_b0_s, y_bo, y_bo1, y_bo0, y_i0, y_i1, Classical.not_not, nI_clamp, y_ix, y_lt, y_le, y_eq, y_nP, y_nPs, y_ltP, y_ltQ, y_ltPP, y_eqP, y_eqQ, y_eqPP, if_pos, if_neg, ite_true, ite_false, not_true_eq_false, not_false_eq_true, and_true, true_and, and_false, false_and, or_true, true_or, or_false, false_or, ym_isPlayer hM hW, y_lit64, y_in, y_c3, h2]
  · refine ⟨-2000, σ, τ, ?_, ?_, hR⟩
    · unfold f_X11_look; rw [yc_unready hN hW h]; simp (disch := omega) only [y_lit, y_n1, nI_add, pk_mul, j_lt, j_b1_s, j_b2_s, j_b3_s, j_b0_s, y_bo, y_bo1, y_bo0, y_i0, y_i1, Classical.not_not, nI_clamp, y_ix, y_lt, y_le, y_eq, y_nP, y_nPs, y_ltP, y_ltQ, y_ltPP, y_eqP, y_eqQ, y_eqPP, if_pos, if_neg, ite_true, ite_false, not_true_eq_false, not_false_eq_true, and_true, true_and, and_false, false_and, or_true, true_or, or_false, false_or]
      split <;> rfl
    · unfold f_X12_look; simp (disch := omega) only [y_lit, y_n1, nI_add, pk_mul, j_lt, j_b1_s, j_b2_s, j_b3_s, j_b0_s, y_bo, y_bo1, y_bo0, y_i0, y_i1, Classical.not_not, nI_clamp, y_ix, y_lt, y_le, y_eq, y_nP, y_nPs, y_ltP, y_ltQ, y_ltPP, y_eqP, y_eqQ, y_eqPP, if_pos, if_neg, ite_true, ite_false, not_true_eq_false, not_false_eq_true, and_true, true_and, and_false, false_and, or_true, true_or, or_false, false_or, ym_isPlayer hM hW, h]
theorem z_line (hR : j_Rel σ τ) (a1 : Int32) : ∃ v σ1 τ1, f_X11_line a1 σ = some (v, σ1) ∧ f_X12_line a1 τ = some (v, τ1) ∧ j_Rel σ1 τ1 := by
  obtain ⟨b, hW, hN, hM, hK⟩ := id hR
  by_cases h : y_rg a1 (b 6)
  · obtain ⟨p, hp, rfl⟩ := y_of _ _ h.1 h.2
    have h9 := hW.on0 (Or.inr (Or.inr (Or.inr (Or.inl (by omega : 0 < b 6)))))
    have hq := y_pqv hW hp
    have q1 : y_pq b p 1 ≤ 20 := by
      have h := hW.pl hp
      show b (96 + 5 * p + 1) ≤ 20; rw [show 96 + 5 * p + 1 = 97 + 5 * p from by omega]; omega
    obtain ⟨σ1, e1, ⟨e2, e3, e4⟩, e5⟩ := yc_ready hN hW hp
    obtain ⟨σ2, g1, g2⟩ := yc_rash e2 hW h9 e3 (y_dg_vg hW _) e4 hq y_mkC
    obtain ⟨τ1, f1, f2, f3⟩ := ym_laid hM hW
    obtain ⟨τ2, k1, k2, k3⟩ := ym_rashOf f2 hW hp
    generalize hx : nI 10 * (nI (y_run b (y_dg b (b 8)) (y_pq b p) y_k1 1 (y_gs b) 0) - nI (y_run b (y_dg b (b 8)) (y_pq b p) y_k1 1 (y_gs b) 4)) - nI 20 * nI (y_run b (y_dg b (b 8)) (y_pq b p) y_k1 1 (y_gs b) 4) = x at *
    have hN2 := e2.fr g2 (by omega)
    have ra2 : y_ra σ2 b (y_pq b p) := ⟨hN2, e3.fr g2 (by omega), e4.fr g2 (by omega)⟩
    have et : f_X2_trait (nI p) (nI 1) σ2 = some (nI (y_pq b p 1)) := yc_trait hN2 hW hp (by omega)
    have both : ∀ m n q σ' τ', m < 22 → m < n → y_ra σ' b q → y_vq b q → (∀ j, j ≠ 1 → j ≠ 3 → q j = y_pq b p j) → y_ldy τ' b → ∃ v σ'' τ'', p_X11_line_45 x (nI (y_pq b p 1)) n (nP m) σ' = some (v, σ'') ∧ y_fr 28 34 σ' σ'' ∧ p_X12_line_24 (nI p) x n (nP m) τ' = some (v, τ'') ∧ y_fm 18 42 80 93 τ' τ'' := by
      intro m
      induction m with
      | zero =>
        intro n q σ' τ' hm hn hr hv hj hl
        obtain ⟨n, rfl⟩ := y_pos hn
        refine ⟨-1, σ', τ', ?_, y_fr.refl, ?_, y_fm.refl⟩
        · unfold p_X11_line_45; simp (disch := omega) only [y_lit, y_n1, nI_add, pk_mul, j_lt, j_b1_s, j_b2_s, j_b3_s, j_b0_s, y_bo, y_bo1, y_bo0, y_i0, y_i1, Classical.not_not, nI_clamp, y_ix, y_lt, y_le, y_eq, y_nP, y_nPs, y_ltP, y_ltQ, y_ltPP, y_eqP, y_eqQ, y_eqPP, if_pos, if_neg, ite_true, ite_false, not_true_eq_false, not_false_eq_true, and_true, true_and, and_false, false_and, or_true, true_or, or_false, false_or]
        · unfold p_X12_line_24; simp (disch := omega) only [y_lit, y_n1, nI_add, pk_mul, j_lt, j_b1_s, j_b2_s, j_b3_s, j_b0_s, y_bo, y_bo1, y_bo0, y_i0, y_i1, Classical.not_not, nI_clamp, y_ix, y_lt, y_le, y_eq, y_nP, y_nPs, y_ltP, y_ltQ, y_ltPP, y_eqP, y_eqQ, y_eqPP, if_pos, if_neg, ite_true, ite_false, not_true_eq_false, not_false_eq_true, and_true, true_and, and_false, false_and, or_true, true_or, or_false, false_or]
      | succ m ih =>
        intro n q σ' τ' hm hn hr hv hj hl
        obtain ⟨n, rfl⟩ := y_pos hn
        obtain ⟨σ3, c1, c2, c3⟩ := yc_look (n := y_pq b p 1 + m) hr hW h9 hv (by omega)
        obtain ⟨τ3, d1, d2, d3⟩ := ym_look (n := m) hl hW hp (by omega)
        have eq : y_u (y_u q 1 (y_pq b p 1 + m)) 3 0 = y_u (y_u (y_pq b p) 1 (y_pq b p 1 + m)) 3 0 := by
          funext j
          by_cases j3 : j = 3
          · subst j3; rw [y_ue, y_ue]
          · rw [y_un j3, y_un j3]
            by_cases j1 : j = 1
            · subst j1; rw [y_ue, y_ue]
            · rw [y_un j1, y_un j1, hj j j1 j3]
        rw [eq] at c1 c2
        have hv2 : y_vq b (y_u (y_u (y_pq b p) 1 (y_pq b p 1 + m)) 3 0) := y_vq3 (y_vq1 hq (by omega)) (by omega)
        obtain ⟨v, σ4, τ4, m1, m2, m3, m4⟩ := ih n _ σ3 τ3 (by omega) (by omega) c2 hv2 (fun j j1 j3 => by rw [y_un j3, y_un j1]) d2
        have hle : y_H b (y_u (y_u (y_pq b p) 1 (y_pq b p 1 + m)) 3 0) ≤ 120 := y_H_le hW hv2
        rw [y_nPs]
        unfold p_X11_line_45 p_X12_line_24
        have ep : nI m + nP 0 = nP m := by
          show nI m + (nI 0 - 1) = nI m - 1
          rw [Int32.add_comm, ← y_m0 (nI m)]
        simp (disch := omega) only [y_lit, y_n1, nI_add, pk_mul, j_lt, j_b1_s, j_b2_s, j_b3_s, j_b0_s, y_bo, y_bo1, y_bo0, y_i0, y_i1, Classical.not_not, nI_clamp, y_ix, y_lt, y_le, y_eq, y_nP, y_nPs, y_ltP, y_ltQ, y_ltPP, y_eqP, y_eqQ, y_eqPP, if_pos, if_neg, ite_true, ite_false, not_true_eq_false, not_false_eq_true, and_true, true_and, and_false, false_and, or_true, true_or, or_false, false_or, c1, d1, ep]
        generalize nI (10 * y_H b (y_u (y_u (y_pq b p) 1 (y_pq b p 1 + m)) 3 0)) = X
        by_cases c : X < x
        · rw [if_neg (fun z => z c), if_neg (fun z => z c)]
          exact ⟨v, σ4, τ4, m1, c3.trans m2, m3, d3.trans m4⟩
        · rw [if_pos c, if_pos c]
          exact ⟨nI m, σ3, τ3, rfl, c3, rfl, d3⟩
    obtain ⟨v, σ3, τ3, c1, c2, d1, d2⟩ := both 21 j_F (y_pq b p) σ2 τ2 (by omega) (y_F (by omega)) ra2 hq (fun _ _ _ => rfl) k2
    rw [show nP 21 = nI 20 from y_nPs 20] at c1 d1
    refine ⟨v, σ3, τ3, ?_, ?_, y_done hR (e5.trans ((g2.wide (by omega) (by omega)).trans (c2.wide (by omega) (by omega)))) (f3.trans (k3.trans d2))⟩
    · unfold f_X11_line; simp (disch := omega) only [y_lit, y_n1, nI_add, pk_mul, j_lt, j_b1_s, j_b2_s, j_b3_s, j_b0_s, y_bo, y_bo1, y_bo0, y_i0, y_i1, Classical.not_not, nI_clamp, y_ix, y_lt, y_le, y_eq, y_nP, y_nPs, y_ltP, y_ltQ, y_ltPP, y_eqP, y_eqQ, y_eqPP, if_pos, if_neg, ite_true, ite_false, not_true_eq_false, not_false_eq_true, and_true, true_and, and_false, false_and, or_true, true_or, or_false, false_or, e1, g1, et, c1]
    · unfold f_X12_line
      rw [ym_isPlayer hM hW, if_pos h, j_b1_s, y_lit, if_neg (show ¬ nI 1 = nI 0 from by decide), f1, j_b1_s, k1, j_b2_s, y_lit, d1]
  · refine ⟨-2, σ, τ, ?_, ?_, hR⟩
    · unfold f_X11_line; rw [yc_unready hN hW h]; simp (disch := omega) only [y_lit, y_n1, nI_add, pk_mul, j_lt, j_b1_s, j_b2_s, j_b3_s, j_b0_s, y_bo, y_bo1, y_bo0, y_i0, y_i1, Classical.not_not, nI_clamp, y_ix, y_lt, y_le, y_eq, y_nP, y_nPs, y_ltP, y_ltQ, y_ltPP, y_eqP, y_eqQ, y_eqPP, if_pos, if_neg, ite_true, ite_false, not_true_eq_false, not_false_eq_true, and_true, true_and, and_false, false_and, or_true, true_or, or_false, false_or]
    · unfold f_X12_line; rw [ym_isPlayer hM hW, if_neg h]; simp (disch := omega) only [y_lit, y_n1, nI_add, pk_mul, j_lt, j_b1_s, j_b2_s, j_b3_s, j_b0_s, y_bo, y_bo1, y_bo0, y_i0, y_i1, Classical.not_not, nI_clamp, y_ix, y_lt, y_le, y_eq, y_nP, y_nPs, y_ltP, y_ltQ, y_ltPP, y_eqP, y_eqQ, y_eqPP, if_pos, if_neg, ite_true, ite_false, not_true_eq_false, not_false_eq_true, and_true, true_and, and_false, false_and, or_true, true_or, or_false, false_or]
theorem z_tickets (hR : j_Rel σ τ) (a1 : Int32) : ∃ v σ1 τ1, f_X11_tickets a1 σ = some (v, σ1) ∧ f_X12_tickets a1 τ = some (v, τ1) ∧ j_Rel σ1 τ1 := by
  obtain ⟨b, hW, hN, hM, hK⟩ := id hR
  by_cases h : y_rg a1 (b 6)
  · obtain ⟨p, hp, rfl⟩ := y_of _ _ h.1 h.2
    have h9 := hW.on0 (Or.inr (Or.inr (Or.inr (Or.inl (by omega : 0 < b 6)))))
    have hon := hW.on h9
    obtain ⟨σ1, e1, e2, e3, e4⟩ := yc_runOf hN hW hp
    obtain ⟨τ1, f1, f2, f3, f4, f5⟩ := ym_ras hM hW hp
    have br : y_br b (y_own b p) 120 := y_run_br hW (y_dg_vg hW (b 8)) (y_pqv hW hp)
    have b0 := br.1
    refine ⟨nI (10 * y_own b p 0 / b 11), σ1, τ1, ?_, ?_, y_done hR e4 f5⟩
    · unfold f_X11_tickets f_X11_ticketsOfRun; simp (disch := omega) only [y_lit, y_n1, nI_add, pk_mul, j_lt, j_b1_s, j_b2_s, j_b3_s, j_b0_s, y_bo, y_bo1, y_bo0, y_i0, y_i1, Classical.not_not, nI_clamp, y_ix, y_lt, y_le, y_eq, y_nP, y_nPs, y_ltP, y_ltQ, y_ltPP, y_eqP, y_eqQ, y_eqPP, if_pos, if_neg, ite_true, ite_false, not_true_eq_false, not_false_eq_true, and_true, true_and, and_false, false_and, or_true, true_or, or_false, false_or, e1, e3.1.1, e2.1.f9 h9, pk_div]
    · unfold f_X12_tickets f_X12_ticketsOf; simp (disch := omega) only [y_lit, y_n1, nI_add, pk_mul, j_lt, j_b1_s, j_b2_s, j_b3_s, j_b0_s, y_bo, y_bo1, y_bo0, y_i0, y_i1, Classical.not_not, nI_clamp, y_ix, y_lt, y_le, y_eq, y_nP, y_nPs, y_ltP, y_ltQ, y_ltPP, y_eqP, y_eqQ, y_eqPP, if_pos, if_neg, ite_true, ite_false, not_true_eq_false, not_false_eq_true, and_true, true_and, and_false, false_and, or_true, true_or, or_false, false_or, ym_isPlayer hM hW, if_pos h, f1, f3.1.1, f2.1.f, pk_div]
  · refine ⟨-2, σ, τ, ?_, ?_, hR⟩
    · unfold f_X11_tickets; rw [yc_unrun hN hW h]; simp (disch := omega) only [y_lit, y_n1, nI_add, pk_mul, j_lt, j_b1_s, j_b2_s, j_b3_s, j_b0_s, y_bo, y_bo1, y_bo0, y_i0, y_i1, Classical.not_not, nI_clamp, y_ix, y_lt, y_le, y_eq, y_nP, y_nPs, y_ltP, y_ltQ, y_ltPP, y_eqP, y_eqQ, y_eqPP, if_pos, if_neg, ite_true, ite_false, not_true_eq_false, not_false_eq_true, and_true, true_and, and_false, false_and, or_true, true_or, or_false, false_or]
    · unfold f_X12_tickets; rw [ym_isPlayer hM hW, if_neg h]; simp (disch := omega) only [y_lit, y_n1, nI_add, pk_mul, j_lt, j_b1_s, j_b2_s, j_b3_s, j_b0_s, y_bo, y_bo1, y_bo0, y_i0, y_i1, Classical.not_not, nI_clamp, y_ix, y_lt, y_le, y_eq, y_nP, y_nPs, y_ltP, y_ltQ, y_ltPP, y_eqP, y_eqQ, y_eqPP, if_pos, if_neg, ite_true, ite_false, not_true_eq_false, not_false_eq_true, and_true, true_and, and_false, false_and, or_true, true_or, or_false, false_or]
theorem z_prize (hR : j_Rel σ τ) (a1 : Int32) : ∃ v σ1 τ1, f_X11_prize a1 σ = some (v, σ1) ∧ f_X12_prize a1 τ = some (v, τ1) ∧ j_Rel σ1 τ1 := by
  obtain ⟨b, hW, hN, hM, hK⟩ := id hR
  by_cases h : y_rg a1 (b 6)
  · obtain ⟨p, hp, rfl⟩ := y_of _ _ h.1 h.2
    have h9 := hW.on0 (Or.inr (Or.inr (Or.inr (Or.inl (by omega : 0 < b 6)))))
    have hon := hW.on h9
    obtain ⟨σ1, e1, e2, e3, e4⟩ := yc_runOf hN hW hp
    obtain ⟨τ1, f1, f2, f3, f4, f5⟩ := ym_ras hM hW hp
    have br : y_br b (y_own b p) 120 := y_run_br hW (y_dg_vg hW (b 8)) (y_pqv hW hp)
    have b0 := br.1
    have hr := y_done hR e4 f5
    have dl : 10 * y_own b p 0 / b 11 ≤ 10 * y_own b p 0 := Nat.div_le_self _ _
    by_cases z : 10 * y_own b p 0 / b 11 = 0
    · refine ⟨-1, σ1, τ1, ?_, ?_, hr⟩
      · unfold f_X11_prize f_X11_ticketsOfRun; simp (disch := omega) only [y_lit, y_n1, nI_add, pk_mul, j_lt, j_b1_s, j_b2_s, j_b3_s, j_b0_s, y_bo, y_bo1, y_bo0, y_i0, y_i1, Classical.not_not, nI_clamp, y_ix, y_lt, y_le, y_eq, y_nP, y_nPs, y_ltP, y_ltQ, y_ltPP, y_eqP, y_eqQ, y_eqPP, if_pos, if_neg, ite_true, ite_false, not_true_eq_false, not_false_eq_true, and_true, true_and, and_false, false_and, or_true, true_or, or_false, false_or, e1, e3.1.1, e2.1.f9 h9, pk_div, z]
      · unfold f_X12_prize f_X12_ticketsOf; simp (disch := omega) only [y_lit, y_n1, nI_add, pk_mul, j_lt, j_b1_s, j_b2_s, j_b3_s, j_b0_s, y_bo, y_bo1, y_bo0, y_i0, y_i1, Classical.not_not, nI_clamp, y_ix, y_lt, y_le, y_eq, y_nP, y_nPs, y_ltP, y_ltQ, y_ltPP, y_eqP, y_eqQ, y_eqPP, if_pos, if_neg, ite_true, ite_false, not_true_eq_false, not_false_eq_true, and_true, true_and, and_false, false_and, or_true, true_or, or_false, false_or, ym_isPlayer hM hW, if_pos h, f1, f3.1.1, f2.1.f, pk_div, z]
    · generalize hd : 10 * y_own b p 0 / b 11 = d at *
      refine ⟨nI ((b 10 + d - 1) / d), σ1, τ1, ?_, ?_, hr⟩
      · unfold f_X11_prize f_X11_ticketsOfRun; simp (disch := omega) only [y_lit, y_n1, nI_add, pk_mul, j_lt, j_b1_s, j_b2_s, j_b3_s, j_b0_s, y_bo, y_bo1, y_bo0, y_i0, y_i1, Classical.not_not, nI_clamp, y_ix, y_lt, y_le, y_eq, y_nP, y_nPs, y_ltP, y_ltQ, y_ltPP, y_eqP, y_eqQ, y_eqPP, if_pos, if_neg, ite_true, ite_false, not_true_eq_false, not_false_eq_true, and_true, true_and, and_false, false_and, or_true, true_or, or_false, false_or, e1, e3.1.1, e2.1.f9 h9, pk_div, hd, e2.1.f8 h9, pk_sub]
      · unfold f_X12_prize f_X12_ticketsOf; simp (disch := omega) only [y_lit, y_n1, nI_add, pk_mul, j_lt, j_b1_s, j_b2_s, j_b3_s, j_b0_s, y_bo, y_bo1, y_bo0, y_i0, y_i1, Classical.not_not, nI_clamp, y_ix, y_lt, y_le, y_eq, y_nP, y_nPs, y_ltP, y_ltQ, y_ltPP, y_eqP, y_eqQ, y_eqPP, if_pos, if_neg, ite_true, ite_false, not_true_eq_false, not_false_eq_true, and_true, true_and, and_false, false_and, or_true, true_or, or_false, false_or, ym_isPlayer hM hW, if_pos h, f1, f3.1.1, f2.1.f, pk_div, hd, pk_sub]
  · refine ⟨-2, σ, τ, ?_, ?_, hR⟩
    · unfold f_X11_prize; rw [yc_unrun hN hW h]; simp (disch := omega) only [y_lit, y_n1, nI_add, pk_mul, j_lt, j_b1_s, j_b2_s, j_b3_s, j_b0_s, y_bo, y_bo1, y_bo0, y_i0, y_i1, Classical.not_not, nI_clamp, y_ix, y_lt, y_le, y_eq, y_nP, y_nPs, y_ltP, y_ltQ, y_ltPP, y_eqP, y_eqQ, y_eqPP, if_pos, if_neg, ite_true, ite_false, not_true_eq_false, not_false_eq_true, and_true, true_and, and_false, false_and, or_true, true_or, or_false, false_or]
    · unfold f_X12_prize; rw [ym_isPlayer hM hW, if_neg h]; simp (disch := omega) only [y_lit, y_n1, nI_add, pk_mul, j_lt, j_b1_s, j_b2_s, j_b3_s, j_b0_s, y_bo, y_bo1, y_bo0, y_i0, y_i1, Classical.not_not, nI_clamp, y_ix, y_lt, y_le, y_eq, y_nP, y_nPs, y_ltP, y_ltQ, y_ltPP, y_eqP, y_eqQ, y_eqPP, if_pos, if_neg, ite_true, ite_false, not_true_eq_false, not_false_eq_true, and_true, true_and, and_false, false_and, or_true, true_or, or_false, false_or]
end Z
/-! ===== open holes, mean, middle ===== -/
theorem y_su_pop : ∀ m i n, y_su (fun h => n / 2 ^ h % 2) m i 0 = y_pop m (n / 2 ^ i) := by
  intro m
  induction m with
  | zero => intro i n; rfl
  | succ m ih =>
    intro i n
    rw [y_su_s, ih]
    show _ = n / 2 ^ i % 2 + y_pop m (n / 2 ^ i / 2)
    rw [Nat.div_div_eq_div_mul, ← Nat.pow_succ, Nat.add_comm]
theorem y_pop0 : ∀ m, y_pop m 0 = 0 := by
  intro m
  induction m with
  | zero => rfl
  | succ m ih => show 0 % 2 + y_pop m (0 / 2) = 0; rw [Nat.zero_div, ih]
theorem y_pop_more : ∀ a d n, n < 2 ^ a → y_pop (a + d) n = y_pop a n := by
  intro a
  induction a with
  | zero => intro d n h; obtain rfl : n = 0 := by omega
            rw [y_pop0, y_pop0]
  | succ a ih =>
    intro d n h
    rw [show a + 1 + d = a + d + 1 from by omega]
    show n % 2 + y_pop (a + d) (n / 2) = n % 2 + y_pop a (n / 2)
    rw [ih d (n / 2) (by rw [Nat.pow_succ] at h; omega)]
theorem y_su_not {f : Nat → Nat} (hf : ∀ j, f j ≤ 1) : ∀ m i, y_su f m i 0 + y_su (fun j => 1 - f j) m i 0 = m := by
  intro m
  induction m with
  | zero => intro i; rfl
  | succ m ih => intro i; rw [y_su_s, y_su_s]; have := ih (i + 1); have := hf i; omega
theorem y_su_bd {f : Nat → Nat} {c : Nat} : ∀ m i, (∀ j, i ≤ j → j < i + m → f j ≤ c) → y_su f m i 0 ≤ c * m := by
  intro m
  induction m with
  | zero => intro i _; exact Nat.zero_le _
  | succ m ih =>
    intro i h
    rw [y_su_s]
    have := ih (i + 1) (fun j h1 h2 => h j (by omega) (by omega))
    have := h i (by omega) (by omega)
    rw [Nat.mul_succ]; omega
noncomputable def y_op (b : Nat → Nat) : Nat := y_su (fun h => 1 - y_sh b h) (y_ho b) 0 0
theorem y_sh_le (b : Nat → Nat) (h : Nat) : y_sh b h ≤ 1 := by unfold y_sh; omega
theorem y_op_e {b : Nat → Nat} (hW : y_W b) : y_op b = y_ho b - y_pop 12 (b 7) ∧ y_pop 12 (b 7) ≤ y_ho b := by
  have h4 := hW.ho
  have h7 := hW.1.2.2.2.2.2.2.2.1
  have e := y_su_not (f := fun h => b 7 / 2 ^ h % 2) (fun j => by show b 7 / 2 ^ j % 2 ≤ 1; omega) (y_ho b) 0
  rw [y_su_pop, Nat.pow_zero, Nat.div_one] at e
  have m := y_pop_more (y_ho b) (12 - y_ho b) (b 7) h7
  rw [show y_ho b + (12 - y_ho b) = 12 from by omega] at m
  rw [m]
  unfold y_op
  show y_su (fun j => 1 - b 7 / 2 ^ j % 2) (y_ho b) 0 0 = _ ∧ _
  omega
theorem y_op_le {b : Nat → Nat} (hW : y_W b) : y_op b ≤ 12 := by
  have := y_op_e hW; have := hW.ho; omega
noncomputable def y_sf (b : Nat → Nat) (x : Nat) : Nat → Nat := fun h => if y_sh b h = 1 then 0 else y_ap b x h
noncomputable def y_sa (b : Nat → Nat) (x : Nat) : Nat := y_su (y_sf b x) (y_ho b) 0 0
theorem y_sa_le {b : Nat → Nat} (hW : y_W b) {x : Nat} (hx : x < 12) : y_sa b x ≤ 24 * y_ho b := by
  have h4 := hW.ho
  exact y_su_bd _ _ (fun j _ hj => by
    have := y_ap_bd (b := b) (a := x) (c := j) hx (by omega)
    unfold y_sf; split <;> omega)
section C
variable {σ τ : j_G} {b : Nat → Nat}
theorem yc_open (hN : y_N σ b) (hW : y_W b) : f_X2_openHoles σ = nI (y_op b) := by
  have h := y_op_e hW
  have h7 := hW.b7
  unfold f_X2_openHoles
  rw [yc_holes hN, hN.f6, y_bcn _ h7, pk_sub h.2, h.1]
theorem ym_open (hM : y_M τ b) (hW : y_W b) : f_X12_openHoles τ = some (nI (y_op b)) := by
  have h4 := hW.ho
  have key : ∀ m i n v, i + m = y_ho b → m < n → p_X12_openHoles_4 τ n (nI v) (nI i) = some (nI (y_su (fun h => 1 - y_sh b h) m i v)) := by
    intro m
    induction m with
    | zero =>
      intro i n v h hn
      obtain ⟨n, rfl⟩ := y_pos hn
      unfold p_X12_openHoles_4 y_su; simp (disch := omega) only [y_lit, y_n1, nI_add, pk_mul, j_lt, j_b1_s, j_b2_s, j_b3_s, j_b0_s, y_bo, y_bo1, y_bo0, y_i0, y_i1, Classical.not_not, nI_clamp, y_ix, y_lt, y_le, y_eq, y_nP, y_nPs, y_ltP, y_ltQ, y_ltPP, y_eqP, y_eqQ, y_eqPP, if_pos, if_neg, ite_true, ite_false, not_true_eq_false, not_false_eq_true, and_true, true_and, and_false, false_and, or_true, true_or, or_false, false_or, ym_holes hM]
    | succ m ih =>
      intro i n v h hn
      obtain ⟨n, rfl⟩ := y_pos hn
      have hs := y_sh_le b i
      unfold p_X12_openHoles_4 y_su; simp (disch := omega) only [y_lit, y_n1, nI_add, pk_mul, j_lt, j_b1_s, j_b2_s, j_b3_s, j_b0_s, y_bo, y_bo1, y_bo0, y_i0, y_i1, Classical.not_not, nI_clamp, y_ix, y_lt, y_le, y_eq, y_nP, y_nPs, y_ltP, y_ltQ, y_ltPP, y_eqP, y_eqQ, y_eqPP, if_pos, if_neg, ite_true, ite_false, not_true_eq_false, not_false_eq_true, and_true, true_and, and_false, false_and, or_true, true_or, or_false, false_or, ym_holes hM, ym_isShut hM hW]
      by_cases c : y_sh b i = 1
      · simp (disch := omega) only [y_lit, y_n1, nI_add, pk_mul, j_lt, j_b1_s, j_b2_s, j_b3_s, j_b0_s, y_bo, y_bo1, y_bo0, y_i0, y_i1, Classical.not_not, nI_clamp, y_ix, y_lt, y_le, y_eq, y_nP, y_nPs, y_ltP, y_ltQ, y_ltPP, y_eqP, y_eqQ, y_eqPP, if_pos, if_neg, ite_true, ite_false, not_true_eq_false, not_false_eq_true, and_true, true_and, and_false, false_and, or_true, true_or, or_false, false_or, c]
        exact ih (i + 1) n _ (by omega) (by omega)
      · have c0 : y_sh b i = 0 := by omega
        simp (disch := omega) only [y_lit, y_n1, nI_add, pk_mul, j_lt, j_b1_s, j_b2_s, j_b3_s, j_b0_s, y_bo, y_bo1, y_bo0, y_i0, y_i1, Classical.not_not, nI_clamp, y_ix, y_lt, y_le, y_eq, y_nP, y_nPs, y_ltP, y_ltQ, y_ltPP, y_eqP, y_eqQ, y_eqPP, if_pos, if_neg, ite_true, ite_false, not_true_eq_false, not_false_eq_true, and_true, true_and, and_false, false_and, or_true, true_or, or_false, false_or, c0]
        exact ih (i + 1) n _ (by omega) (by omega)
  unfold f_X12_openHoles
  rw [y_lit, key (y_ho b) 0 j_F 0 (by omega) (y_F (by omega))]
  rfl
theorem yc_toAll (hN : y_N σ b) (hW : y_W b) (h9 : 0 < b 9) {x : Nat} (hx : x < y_ho b) : f_X2_stepsToAll (nI x) σ = some (nI (y_sa b x)) := by
  have h4 := hW.ho
  have key : ∀ m i n v, i + m = y_ho b → m < n → p_X2_stepsToAll_4 (nI x) σ n (nI v) (nI i) = some (nI (y_su (y_sf b x) m i v)) := by
    intro m
    induction m with
    | zero =>
      intro i n v h hn
      obtain ⟨n, rfl⟩ := y_pos hn
      unfold p_X2_stepsToAll_4 y_su; simp (disch := omega) only [y_lit, y_n1, nI_add, pk_mul, j_lt, j_b1_s, j_b2_s, j_b3_s, j_b0_s, y_bo, y_bo1, y_bo0, y_i0, y_i1, Classical.not_not, nI_clamp, y_ix, y_lt, y_le, y_eq, y_nP, y_nPs, y_ltP, y_ltQ, y_ltPP, y_eqP, y_eqQ, y_eqPP, if_pos, if_neg, ite_true, ite_false, not_true_eq_false, not_false_eq_true, and_true, true_and, and_false, false_and, or_true, true_or, or_false, false_or, yc_holes hN]
    | succ m ih =>
      intro i n v h hn
      obtain ⟨n, rfl⟩ := y_pos hn
      have hs := y_sh_le b i
      unfold p_X2_stepsToAll_4 y_su; simp (disch := omega) only [y_lit, y_n1, nI_add, pk_mul, j_lt, j_b1_s, j_b2_s, j_b3_s, j_b0_s, y_bo, y_bo1, y_bo0, y_i0, y_i1, Classical.not_not, nI_clamp, y_ix, y_lt, y_le, y_eq, y_nP, y_nPs, y_ltP, y_ltQ, y_ltPP, y_eqP, y_eqQ, y_eqPP, if_pos, if_neg, ite_true, ite_false, not_true_eq_false, not_false_eq_true, and_true, true_and, and_false, false_and, or_true, true_or, or_false, false_or, yc_holes hN, yc_isShut hN hW]
      by_cases c : y_sh b i = 1
      · have e : y_sf b x i = 0 := if_pos c
        rw [e]; simp (disch := omega) only [y_lit, y_n1, nI_add, pk_mul, j_lt, j_b1_s, j_b2_s, j_b3_s, j_b0_s, y_bo, y_bo1, y_bo0, y_i0, y_i1, Classical.not_not, nI_clamp, y_ix, y_lt, y_le, y_eq, y_nP, y_nPs, y_ltP, y_ltQ, y_ltPP, y_eqP, y_eqQ, y_eqPP, if_pos, if_neg, ite_true, ite_false, not_true_eq_false, not_false_eq_true, and_true, true_and, and_false, false_and, or_true, true_or, or_false, false_or]
        exact ih (i + 1) n _ (by omega) (by omega)
      · have e : y_sf b x i = y_ap b x i := if_neg c
        rw [e]; simp (disch := omega) only [y_lit, y_n1, nI_add, pk_mul, j_lt, j_b1_s, j_b2_s, j_b3_s, j_b0_s, y_bo, y_bo1, y_bo0, y_i0, y_i1, Classical.not_not, nI_clamp, y_ix, y_lt, y_le, y_eq, y_nP, y_nPs, y_ltP, y_ltQ, y_ltPP, y_eqP, y_eqQ, y_eqPP, if_pos, if_neg, ite_true, ite_false, not_true_eq_false, not_false_eq_true, and_true, true_and, and_false, false_and, or_true, true_or, or_false, false_or, yc_apart hN hW h9]
        exact ih (i + 1) n _ (by omega) (by omega)
  unfold f_X2_stepsToAll
  rw [y_lit, key (y_ho b) 0 j_F 0 (by omega) (y_F (by omega))]
  rfl
theorem ym_toAll (hM : y_M τ b) (hW : y_W b) (h9 : 0 < b 9) {x : Nat} (hx : x < y_ho b) : f_X12_stepsToAll (nI x) τ = some (nI (y_sa b x)) := by
  have h4 := hW.ho
  have key : ∀ m i n v, i + m = y_ho b → m < n → p_X12_stepsToAll_4 (nI x) τ n (nI v) (nI i) = some (nI (y_su (y_sf b x) m i v)) := by
    intro m
    induction m with
    | zero =>
      intro i n v h hn
      obtain ⟨n, rfl⟩ := y_pos hn
      unfold p_X12_stepsToAll_4 y_su; simp (disch := omega) only [y_lit, y_n1, nI_add, pk_mul, j_lt, j_b1_s, j_b2_s, j_b3_s, j_b0_s, y_bo, y_bo1, y_bo0, y_i0, y_i1, Classical.not_not, nI_clamp, y_ix, y_lt, y_le, y_eq, y_nP, y_nPs, y_ltP, y_ltQ, y_ltPP, y_eqP, y_eqQ, y_eqPP, if_pos, if_neg, ite_true, ite_false, not_true_eq_false, not_false_eq_true, and_true, true_and, and_false, false_and, or_true, true_or, or_false, false_or, ym_holes hM]
    | succ m ih =>
      intro i n v h hn
      obtain ⟨n, rfl⟩ := y_pos hn
      have hs := y_sh_le b i
      unfold p_X12_stepsToAll_4 y_su; simp (disch := omega) only [y_lit, y_n1, nI_add, pk_mul, j_lt, j_b1_s, j_b2_s, j_b3_s, j_b0_s, y_bo, y_bo1, y_bo0, y_i0, y_i1, Classical.not_not, nI_clamp, y_ix, y_lt, y_le, y_eq, y_nP, y_nPs, y_ltP, y_ltQ, y_ltPP, y_eqP, y_eqQ, y_eqPP, if_pos, if_neg, ite_true, ite_false, not_true_eq_false, not_false_eq_true, and_true, true_and, and_false, false_and, or_true, true_or, or_false, false_or, ym_holes hM, ym_isShut hM hW]
      by_cases c : y_sh b i = 1
      · have e : y_sf b x i = 0 := if_pos c
        rw [e]; simp (disch := omega) only [y_lit, y_n1, nI_add, pk_mul, j_lt, j_b1_s, j_b2_s, j_b3_s, j_b0_s, y_bo, y_bo1, y_bo0, y_i0, y_i1, Classical.not_not, nI_clamp, y_ix, y_lt, y_le, y_eq, y_nP, y_nPs, y_ltP, y_ltQ, y_ltPP, y_eqP, y_eqQ, y_eqPP, if_pos, if_neg, ite_true, ite_false, not_true_eq_false, not_false_eq_true, and_true, true_and, and_false, false_and, or_true, true_or, or_false, false_or]
        exact ih (i + 1) n _ (by omega) (by omega)
      · have e : y_sf b x i = y_ap b x i := if_neg c
        rw [e]; simp (disch := omega) only [y_lit, y_n1, nI_add, pk_mul, j_lt, j_b1_s, j_b2_s, j_b3_s, j_b0_s, y_bo, y_bo1, y_bo0, y_i0, y_i1, Classical.not_not, nI_clamp, y_ix, y_lt, y_le, y_eq, y_nP, y_nPs, y_ltP, y_ltQ, y_ltPP, y_eqP, y_eqQ, y_eqPP, if_pos, if_neg, ite_true, ite_false, not_true_eq_false, not_false_eq_true, and_true, true_and, and_false, false_and, or_true, true_or, or_false, false_or, ym_stepsOf hM hW h9]
        exact ih (i + 1) n _ (by omega) (by omega)
  unfold f_X12_stepsToAll
  rw [y_lit, key (y_ho b) 0 j_F 0 (by omega) (y_F (by omega))]
  rfl
theorem ym_gcd : ∀ c n x, c < n → c < 10000 → x < 10000 → (0 < x ∨ 0 < c) → ∃ d, 0 < d ∧ d < 10000 ∧ p_X12_divisor_4 n (nI x) (nI c) = some (nI d) := by
  intro c
  induction c using Nat.strongRecOn with
  | _ c ih =>
    intro n x hn hc hx h0
    obtain ⟨n, rfl⟩ := y_pos hn
    unfold p_X12_divisor_4
    by_cases z : c = 0
    · exact ⟨x, by omega, hx, by simp (disch := omega) only [y_lit, y_n1, nI_add, pk_mul, j_lt, j_b1_s, j_b2_s, j_b3_s, j_b0_s, y_bo, y_bo1, y_bo0, y_i0, y_i1, Classical.not_not, nI_clamp, y_ix, y_lt, y_le, y_eq, y_nP, y_nPs, y_ltP, y_ltQ, y_ltPP, y_eqP, y_eqQ, y_eqPP, if_pos, if_neg, ite_true, ite_false, not_true_eq_false, not_false_eq_true, and_true, true_and, and_false, false_and, or_true, true_or, or_false, false_or]⟩
    · have hm : x % c < c := Nat.mod_lt _ (by omega)
      obtain ⟨d, d1, d2, d3⟩ := ih (x % c) hm n c (by omega) (by omega) hc (Or.inl (by omega))
      refine ⟨d, d1, d2, ?_⟩
      have hr : nI x - nI (x / c * c) = nI (x % c) := by
        rw [← pk_mul, ← pk_div (by omega) (by omega) (by omega), pk_rem (by omega) (by omega) (by omega)]
      simp (disch := omega) only [y_lit, y_n1, nI_add, pk_mul, j_lt, j_b1_s, j_b2_s, j_b3_s, j_b0_s, y_bo, y_bo1, y_bo0, y_i0, y_i1, Classical.not_not, nI_clamp, y_ix, y_lt, y_le, y_eq, y_nP, y_nPs, y_ltP, y_ltQ, y_ltPP, y_eqP, y_eqQ, y_eqPP, if_pos, if_neg, ite_true, ite_false, not_true_eq_false, not_false_eq_true, and_true, true_and, and_false, false_and, or_true, true_or, or_false, false_or, pk_div, hr]
      exact d3
end C
section Z
variable {σ τ : j_G}
/-- the two answers here are another matter -/
theorem z_mean (hR : j_Rel σ τ) (a1 a2 : Int32) : ∃ v w, f_X11_mean a1 a2 σ = some v ∧ f_X12_mean a1 a2 τ = some w := by
  obtain ⟨b, hW, hN, hM, hK⟩ := id hR
  have h4 := hW.ho
  have hop := y_op_le hW
  by_cases h : y_rg a1 (y_ho b)
  · by_cases h2 : y_rg a2 2
    · obtain ⟨x, hx, rfl⟩ := y_of _ _ h.1 h.2
      have h9 : 0 < b 9 := hW.on0 (by omega)
      have sle := y_sa_le hW (show x < 12 by omega)
      by_cases z : y_op b = 0
      · refine ⟨-1, -1, ?_, ?_⟩
        · unfold f_X11_mean; simp (disch := omega) only [y_lit, y_n1, nI_add, pk_mul, j_lt, j_b1_s, j_b2_s, j_b3_s, j_b0_s, y_bo, y_bo1, y_bo0, y_i0, y_i1, Classical.not_not, nI_clamp, y_ix, y_lt, y_le, y_eq, y_nP, y_nPs, y_ltP, y_ltQ, y_ltPP, y_eqP, y_eqQ, y_eqPP, if_pos, if_neg, ite_true, ite_false, not_true_eq_false, not_false_eq_true, and_true, true_and, and_false, false_and, or_true, true_or, or_false, false_or, yc_isHole hN hW, y_rn, y_c5, h2, yc_open hN hW, z]
        · unfold f_X12_mean; simp (disch := omega) only [y_lit, y_n1, nI_add, pk_mul, j_lt, j_b1_s, j_b2_s, j_b3_s, j_b0_s, y_bo, y_bo1, y_bo0, y_i0, y_i1, Classical.not_not, nI_clamp, y_ix, y_lt, y_le, y_eq, y_nP, y_nPs, y_ltP, y_ltQ, y_ltPP, y_eqP, y_eqQ, y_eqPP, if_pos, if_neg, ite_true, ite_false, not_true_eq_false, not_false_eq_true, and_true, true_and, and_false, false_and, or_true, true_or, or_false, false_or, ym_isHole hM hW, y_rn, y_lit64, y_in, y_c3, h2, ym_open hM hW, z]
      · obtain ⟨d, d1, d2, d3⟩ := ym_gcd (y_op b) j_F (y_sa b x) (y_F (by omega)) (by omega) (by omega) (Or.inr (by omega))
        have dv : f_X12_divisor (nI (y_sa b x)) (nI (y_op b)) = some (nI d) := by unfold f_X12_divisor; rw [d3]; rfl
        by_cases c : a2 = nI 0
        · refine ⟨nI (y_sa b x), nI (y_sa b x / d), ?_, ?_⟩
          · unfold f_X11_mean; simp (disch := omega) only [y_lit, y_n1, nI_add, pk_mul, j_lt, j_b1_s, j_b2_s, j_b3_s, j_b0_s, y_bo, y_bo1, y_bo0, y_i0, y_i1, Classical.not_not, nI_clamp, y_ix, y_lt, y_le, y_eq, y_nP, y_nPs, y_ltP, y_ltQ, y_ltPP, y_eqP, y_eqQ, y_eqPP, if_pos, if_neg, ite_true, ite_false, not_true_eq_false, not_false_eq_true, and_true, true_and, and_false, false_and, or_true, true_or, or_false, false_or, yc_isHole hN hW, y_rn, y_c5, h2, yc_open hN hW, c, yc_toAll hN hW h9]
          · unfold f_X12_mean; simp (disch := omega) only [y_lit, y_n1, nI_add, pk_mul, j_lt, j_b1_s, j_b2_s, j_b3_s, j_b0_s, y_bo, y_bo1, y_bo0, y_i0, y_i1, Classical.not_not, nI_clamp, y_ix, y_lt, y_le, y_eq, y_nP, y_nPs, y_ltP, y_ltQ, y_ltPP, y_eqP, y_eqQ, y_eqPP, if_pos, if_neg, ite_true, ite_false, not_true_eq_false, not_false_eq_true, and_true, true_and, and_false, false_and, or_true, true_or, or_false, false_or, ym_isHole hM hW, y_rn, y_lit64, y_in, y_c3, h2, ym_open hM hW, ym_toAll hM hW h9, c, dv, pk_div]
        · refine ⟨nI (y_op b), nI (y_op b / d), ?_, ?_⟩
          · unfold f_X11_mean; simp (disch := omega) only [y_lit, y_n1, nI_add, pk_mul, j_lt, j_b1_s, j_b2_s, j_b3_s, j_b0_s, y_bo, y_bo1, y_bo0, y_i0, y_i1, Classical.not_not, nI_clamp, y_ix, y_lt, y_le, y_eq, y_nP, y_nPs, y_ltP, y_ltQ, y_ltPP, y_eqP, y_eqQ, y_eqPP, if_pos, if_neg, ite_true, ite_false, not_true_eq_false, not_false_eq_true, and_true, true_and, and_false, false_and, or_true, true_or, or_false, false_or, yc_isHole hN hW, y_rn, y_c5, h2, yc_open hN hW, c]
          · unfold f_X12_mean; simp (disch := omega) only [y_lit, y_n1, nI_add, pk_mul, j_lt, j_b1_s, j_b2_s, j_b3_s, j_b0_s, y_bo, y_bo1, y_bo0, y_i0, y_i1, Classical.not_not, nI_clamp, y_ix, y_lt, y_le, y_eq, y_nP, y_nPs, y_ltP, y_ltQ, y_ltPP, y_eqP, y_eqQ, y_eqPP, if_pos, if_neg, ite_true, ite_false, not_true_eq_false, not_false_eq_true, and_true, true_and, and_false, false_and, or_true, true_or, or_false, false_or, ym_isHole hM hW, y_rn, y_lit64, y_in, y_c3, h2, ym_open hM hW, ym_toAll hM hW h9, c, dv, pk_div]
    · refine ⟨-2, -2, ?_, ?_⟩
      · unfold f_X11_mean; simp (disch := omega) only [y_lit, y_n1, nI_add, pk_mul, j_lt, j_b1_s, j_b2_s, j_b3_s, j_b0_s, y_bo, y_bo1, y_bo0, y_i0, y_i1, Classical.not_not, nI_clamp, y_ix, y_lt, y_le, y_eq, y_nP, y_nPs, y_ltP, y_ltQ, y_ltPP, y_eqP, y_eqQ, y_eqPP, if_pos, if_neg, ite_true, ite_false, not_true_eq_false, not_false_eq_true, and_true, true_and, and_false, false_and, or_true, true_or, or_false, false_or, yc_isHole hN hW, h, y_c5, h2]
      · unfold f_X12_mean; simp (disch := omega) only [y_lit, y_n1, nI_add, pk_mul, j_lt, j_b1_s, j_b2_s, j_b3_s, j_b0_s, y_bo, y_bo1, y_bo0, y_i0, y_i1, Classical.not_not, nI_clamp, y_ix, y_lt, y_le, y_eq, y_nP, y_nPs, y_ltP, y_ltQ, y_ltPP, y_eqP, y_eqQ, y_eqPP, if_pos, if_neg, ite_true, ite_false, not_true_eq_false, not_false_eq_true, and_true, true_and, and_false, false_and, or_true, true_or, or_false, false_or, ym_isHole hM hW, h, y_lit64, y_in, y_c3, h2]
  · refine ⟨-2, -2, ?_, ?_⟩
    · unfold f_X11_mean; simp (disch := omega) only [y_lit, y_n1, nI_add, pk_mul, j_lt, j_b1_s, j_b2_s, j_b3_s, j_b0_s, y_bo, y_bo1, y_bo0, y_i0, y_i1, Classical.not_not, nI_clamp, y_ix, y_lt, y_le, y_eq, y_nP, y_nPs, y_ltP, y_ltQ, y_ltPP, y_eqP, y_eqQ, y_eqPP, if_pos, if_neg, ite_true, ite_false, not_true_eq_false, not_false_eq_true, and_true, true_and, and_false, false_and, or_true, true_or, or_false, false_or, yc_isHole hN hW, h]
    · unfold f_X12_mean; simp (disch := omega) only [y_lit, y_n1, nI_add, pk_mul, j_lt, j_b1_s, j_b2_s, j_b3_s, j_b0_s, y_bo, y_bo1, y_bo0, y_i0, y_i1, Classical.not_not, nI_clamp, y_ix, y_lt, y_le, y_eq, y_nP, y_nPs, y_ltP, y_ltQ, y_ltPP, y_eqP, y_eqQ, y_eqPP, if_pos, if_neg, ite_true, ite_false, not_true_eq_false, not_false_eq_true, and_true, true_and, and_false, false_and, or_true, true_or, or_false, false_or, ym_isHole hM hW, h]
theorem z_middle (hR : j_Rel σ τ) (a1 : Int32) : ∃ v, f_X11_middle a1 σ = some v ∧ f_X12_middle a1 τ = some v := by
  obtain ⟨b, hW, hN, hM, hK⟩ := id hR
  have h4 := hW.ho
  have hop := y_op_le hW
  by_cases h9 : 0 < b 9
  · by_cases h2 : y_rg a1 2
    · have ho := hW.on1 h9
      by_cases z : y_op b = 0
      · refine ⟨-1, ?_, ?_⟩
        · unfold f_X11_middle; simp (disch := omega) only [y_lit, y_n1, nI_add, pk_mul, j_lt, j_b1_s, j_b2_s, j_b3_s, j_b0_s, y_bo, y_bo1, y_bo0, y_i0, y_i1, Classical.not_not, nI_clamp, y_ix, y_lt, y_le, y_eq, y_nP, y_nPs, y_ltP, y_ltQ, y_ltPP, y_eqP, y_eqQ, y_eqPP, if_pos, if_neg, ite_true, ite_false, not_true_eq_false, not_false_eq_true, and_true, true_and, and_false, false_and, or_true, true_or, or_false, false_or, yc_isTold hN hW, y_c5, h2, yc_open hN hW, z]
        · unfold f_X12_middle; simp (disch := omega) only [y_lit, y_n1, nI_add, pk_mul, j_lt, j_b1_s, j_b2_s, j_b3_s, j_b0_s, y_bo, y_bo1, y_bo0, y_i0, y_i1, Classical.not_not, nI_clamp, y_ix, y_lt, y_le, y_eq, y_nP, y_nPs, y_ltP, y_ltQ, y_ltPP, y_eqP, y_eqQ, y_eqPP, if_pos, if_neg, ite_true, ite_false, not_true_eq_false, not_false_eq_true, and_true, true_and, and_false, false_and, or_true, true_or, or_false, false_or, ym_isBoard hM hW, y_lit64, y_in, y_c3, h2, ym_open hM hW, z]
      · have both : ∀ m i n x, i + m = y_ho b → m < n → x < y_ho b → ∃ v, p_X11_middle_48 a1 σ n (nI x) (nI (y_sa b x)) (nI i) = some v ∧ p_X12_middle_33 a1 τ n (nI x) (nI i) = some v := by
          intro m
          induction m with
          | zero =>
            intro i n x h hn hx
            obtain ⟨n, rfl⟩ := y_pos hn
            refine ⟨nI x, ?_, ?_⟩
            · unfold p_X11_middle_48; simp (disch := omega) only [y_lit, y_n1, nI_add, pk_mul, j_lt, j_b1_s, j_b2_s, j_b3_s, j_b0_s, y_bo, y_bo1, y_bo0, y_i0, y_i1, Classical.not_not, nI_clamp, y_ix, y_lt, y_le, y_eq, y_nP, y_nPs, y_ltP, y_ltQ, y_ltPP, y_eqP, y_eqQ, y_eqPP, if_pos, if_neg, ite_true, ite_false, not_true_eq_false, not_false_eq_true, and_true, true_and, and_false, false_and, or_true, true_or, or_false, false_or, yc_holes hN]
            · unfold p_X12_middle_33; simp (disch := omega) only [y_lit, y_n1, nI_add, pk_mul, j_lt, j_b1_s, j_b2_s, j_b3_s, j_b0_s, y_bo, y_bo1, y_bo0, y_i0, y_i1, Classical.not_not, nI_clamp, y_ix, y_lt, y_le, y_eq, y_nP, y_nPs, y_ltP, y_ltQ, y_ltPP, y_eqP, y_eqQ, y_eqPP, if_pos, if_neg, ite_true, ite_false, not_true_eq_false, not_false_eq_true, and_true, true_and, and_false, false_and, or_true, true_or, or_false, false_or, ym_holes hM]
          | succ m ih =>
            intro i n x h hn hx
            obtain ⟨n, rfl⟩ := y_pos hn
            have s1 := y_sa_le hW (show i < 12 by omega)
            have s2 := y_sa_le hW (show x < 12 by omega)
            obtain ⟨v, v1, v2⟩ := ih (i + 1) n x (by omega) (by omega) hx
            obtain ⟨w, w1, w2⟩ := ih (i + 1) n i (by omega) (by omega) (by omega)
            unfold p_X11_middle_48 p_X12_middle_33
            simp (disch := omega) only [y_lit, y_n1, nI_add, pk_mul, j_lt, j_b1_s, j_b2_s, j_b3_s, j_b0_s, y_bo, y_bo1, y_bo0, y_i0, y_i1, Classical.not_not, nI_clamp, y_ix, y_lt, y_le, y_eq, y_nP, y_nPs, y_ltP, y_ltQ, y_ltPP, y_eqP, y_eqQ, y_eqPP, if_pos, if_neg, ite_true, ite_false, not_true_eq_false, not_false_eq_true, and_true, true_and, and_false, false_and, or_true, true_or, or_false, false_or, yc_holes hN, ym_holes hM, yc_toAll hN hW h9, ym_toAll hM hW h9]
            by_cases c : a1 = nI 0
            · rw [if_pos c, if_pos c]
              by_cases q : y_sa b i < y_sa b x
              · simp (disch := omega) only [y_lit, y_n1, nI_add, pk_mul, j_lt, j_b1_s, j_b2_s, j_b3_s, j_b0_s, y_bo, y_bo1, y_bo0, y_i0, y_i1, Classical.not_not, nI_clamp, y_ix, y_lt, y_le, y_eq, y_nP, y_nPs, y_ltP, y_ltQ, y_ltPP, y_eqP, y_eqQ, y_eqPP, if_pos, if_neg, ite_true, ite_false, not_true_eq_false, not_false_eq_true, and_true, true_and, and_false, false_and, or_true, true_or, or_false, false_or]; exact ⟨w, w1, w2⟩
              · simp (disch := omega) only [y_lit, y_n1, nI_add, pk_mul, j_lt, j_b1_s, j_b2_s, j_b3_s, j_b0_s, y_bo, y_bo1, y_bo0, y_i0, y_i1, Classical.not_not, nI_clamp, y_ix, y_lt, y_le, y_eq, y_nP, y_nPs, y_ltP, y_ltQ, y_ltPP, y_eqP, y_eqQ, y_eqPP, if_pos, if_neg, ite_true, ite_false, not_true_eq_false, not_false_eq_true, and_true, true_and, and_false, false_and, or_true, true_or, or_false, false_or]; exact ⟨v, v1, v2⟩
            · rw [if_neg c, if_neg c]
              by_cases q : y_sa b x < y_sa b i
              · simp (disch := omega) only [y_lit, y_n1, nI_add, pk_mul, j_lt, j_b1_s, j_b2_s, j_b3_s, j_b0_s, y_bo, y_bo1, y_bo0, y_i0, y_i1, Classical.not_not, nI_clamp, y_ix, y_lt, y_le, y_eq, y_nP, y_nPs, y_ltP, y_ltQ, y_ltPP, y_eqP, y_eqQ, y_eqPP, if_pos, if_neg, ite_true, ite_false, not_true_eq_false, not_false_eq_true, and_true, true_and, and_false, false_and, or_true, true_or, or_false, false_or]; exact ⟨w, w1, w2⟩
              · simp (disch := omega) only [y_lit, y_n1, nI_add, pk_mul, j_lt, j_b1_s, j_b2_s, j_b3_s, j_b0_s, y_bo, y_bo1, y_bo0, y_i0, y_i1, Classical.not_not, nI_clamp, y_ix, y_lt, y_le, y_eq, y_nP, y_nPs, y_ltP, y_ltQ, y_ltPP, y_eqP, y_eqQ, y_eqPP, if_pos, if_neg, ite_true, ite_false, not_true_eq_false, not_false_eq_true, and_true, true_and, and_false, false_and, or_true, true_or, or_false, false_or]; exact ⟨v, v1, v2⟩
        obtain ⟨v, v1, v2⟩ := both (y_ho b - 1) 1 j_F 0 (by omega) (y_F (by omega)) ho
        refine ⟨v, ?_, ?_⟩
        · unfold f_X11_middle; simp (disch := omega) only [y_lit, y_n1, nI_add, pk_mul, j_lt, j_b1_s, j_b2_s, j_b3_s, j_b0_s, y_bo, y_bo1, y_bo0, y_i0, y_i1, Classical.not_not, nI_clamp, y_ix, y_lt, y_le, y_eq, y_nP, y_nPs, y_ltP, y_ltQ, y_ltPP, y_eqP, y_eqQ, y_eqPP, if_pos, if_neg, ite_true, ite_false, not_true_eq_false, not_false_eq_true, and_true, true_and, and_false, false_and, or_true, true_or, or_false, false_or, yc_isTold hN hW, y_c5, h2, yc_open hN hW, z, yc_toAll hN hW h9, v1]
        · unfold f_X12_middle; simp (disch := omega) only [y_lit, y_n1, nI_add, pk_mul, j_lt, j_b1_s, j_b2_s, j_b3_s, j_b0_s, y_bo, y_bo1, y_bo0, y_i0, y_i1, Classical.not_not, nI_clamp, y_ix, y_lt, y_le, y_eq, y_nP, y_nPs, y_ltP, y_ltQ, y_ltPP, y_eqP, y_eqQ, y_eqPP, if_pos, if_neg, ite_true, ite_false, not_true_eq_false, not_false_eq_true, and_true, true_and, and_false, false_and, or_true, true_or, or_false, false_or, ym_isBoard hM hW, y_lit64, y_in, y_c3, h2, ym_open hM hW, z, v2]
    · refine ⟨-2, ?_, ?_⟩
      · unfold f_X11_middle; simp (disch := omega) only [y_lit, y_n1, nI_add, pk_mul, j_lt, j_b1_s, j_b2_s, j_b3_s, j_b0_s, y_bo, y_bo1, y_bo0, y_i0, y_i1, Classical.not_not, nI_clamp, y_ix, y_lt, y_le, y_eq, y_nP, y_nPs, y_ltP, y_ltQ, y_ltPP, y_eqP, y_eqQ, y_eqPP, if_pos, if_neg, ite_true, ite_false, not_true_eq_false, not_false_eq_true, and_true, true_and, and_false, false_and, or_true, true_or, or_false, false_or, yc_isTold hN hW, y_c5, h2]
      · unfold f_X12_middle; simp (disch := omega) only [y_lit, y_n1, nI_add, pk_mul, j_lt, j_b1_s, j_b2_s, j_b3_s, j_b0_s, y_bo, y_bo1, y_bo0, y_i0, y_i1, Classical.not_not, nI_clamp, y_ix, y_lt, y_le, y_eq, y_nP, y_nPs, y_ltP, y_ltQ, y_ltPP, y_eqP, y_eqQ, y_eqPP, if_pos, if_neg, ite_true, ite_false, not_true_eq_false, not_false_eq_true, and_true, true_and, and_false, false_and, or_true, true_or, or_false, false_or, ym_isBoard hM hW, y_lit64, y_in, y_c3, h2]
  · refine ⟨-2, ?_, ?_⟩
    · unfold f_X11_middle; simp (disch := omega) only [y_lit, y_n1, nI_add, pk_mul, j_lt, j_b1_s, j_b2_s, j_b3_s, j_b0_s, y_bo, y_bo1, y_bo0, y_i0, y_i1, Classical.not_not, nI_clamp, y_ix, y_lt, y_le, y_eq, y_nP, y_nPs, y_ltP, y_ltQ, y_ltPP, y_eqP, y_eqQ, y_eqPP, if_pos, if_neg, ite_true, ite_false, not_true_eq_false, not_false_eq_true, and_true, true_and, and_false, false_and, or_true, true_or, or_false, false_or, yc_isTold hN hW]
    · unfold f_X12_middle; simp (disch := omega) only [y_lit, y_n1, nI_add, pk_mul, j_lt, j_b1_s, j_b2_s, j_b3_s, j_b0_s, y_bo, y_bo1, y_bo0, y_i0, y_i1, Classical.not_not, nI_clamp, y_ix, y_lt, y_le, y_eq, y_nP, y_nPs, y_ltP, y_ltQ, y_ltPP, y_eqP, y_eqQ, y_eqPP, if_pos, if_neg, ite_true, ite_false, not_true_eq_false, not_false_eq_true, and_true, true_and, and_false, false_and, or_true, true_or, or_false, false_or, ym_isBoard hM hW]
end Z
