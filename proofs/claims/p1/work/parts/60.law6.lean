/-! ===== the law on a script of at most one call ===== -/
set_option maxRecDepth 100000 in
set_option maxHeartbeats 4000000 in
theorem x_cdef (xs : Nat → Int32) : x_R x_mt (some (6, xs)) 13 M_law (2370, [(3, .int 0), (2, .ref 75), (1, .ref 0), (0, .ref x_scr)], [], x_h0, 98, 10728) x_P := by
  refine x_R.steps 7 (c' := (24, [(3, .int 6), (2, .ref 75), (1, .ref 0), (0, .ref x_scr)], [.int 0, .int 6], x_h0, 98, 10728)) rfl ?_
  refine x_R.steps 1 (c' := (2376, [(3, .int 6), (2, .ref 75), (1, .ref 0), (0, .ref x_scr)], [], x_h0, 98, 10728)) rfl ?_
  refine x_R.steps 1 (c' := (2377, [(3, .int 6), (2, .ref 75), (1, .ref 0), (0, .ref x_scr)], [.int 1], x_h0, 98, 10728)) rfl ?_
  exact x_R.ret (v := some (.int 1)) rfl x_fin
theorem x_d0 (xs : Nat → Int32) : x_R x_mt (some (6, xs)) 13 M_law (328, [(3, .int 0), (2, .ref 75), (1, .ref 0), (0, .ref x_scr)], [], x_h0, 98, 10728) x_P := by
  exact x_c0_0 xs
theorem x_d1 (xs : Nat → Int32) : x_R x_mt (some (6, xs)) 13 M_law (391, [(3, .int 0), (2, .ref 75), (1, .ref 0), (0, .ref x_scr)], [], x_h0, 98, 10728) x_P := by
  exact x_c1_0 xs
theorem x_d2 (xs : Nat → Int32) : x_R x_mt (some (6, xs)) 13 M_law (414, [(3, .int 0), (2, .ref 75), (1, .ref 0), (0, .ref x_scr)], [], x_h0, 98, 10728) x_P := by
  exact x_c2_0 xs
theorem x_d3 (xs : Nat → Int32) : x_R x_mt (some (6, xs)) 13 M_law (427, [(3, .int 0), (2, .ref 75), (1, .ref 0), (0, .ref x_scr)], [], x_h0, 98, 10728) x_P := by
  by_cases e0 : xs 1 = 0
  · have := x_c3_0 xs
    rw [x_ov_eq e0] at this
    exact this
  by_cases e1 : xs 1 = 1
  · have := x_c3_1 xs
    rw [x_ov_eq e1] at this
    exact this
  have n0 : ¬ (xs 1).toInt = 0 := mt (x_i_eq (c := 0) (C := 0) (by decide)).mpr e0
  have n1 : ¬ (xs 1).toInt = 1 := mt (x_i_eq (c := 1) (C := 1) (by decide)).mpr e1
  exact x_c3_2 xs n0 n1
theorem x_d4 (xs : Nat → Int32) : x_R x_mt (some (6, xs)) 13 M_law (450, [(3, .int 0), (2, .ref 75), (1, .ref 0), (0, .ref x_scr)], [], x_h0, 98, 10728) x_P := by
  exact x_c4_0 xs
theorem x_d5 (xs : Nat → Int32) : x_R x_mt (some (6, xs)) 13 M_law (483, [(3, .int 0), (2, .ref 75), (1, .ref 0), (0, .ref x_scr)], [], x_h0, 98, 10728) x_P := by
  exact x_c5_0 xs
theorem x_d6 (xs : Nat → Int32) : x_R x_mt (some (6, xs)) 13 M_law (516, [(3, .int 0), (2, .ref 75), (1, .ref 0), (0, .ref x_scr)], [], x_h0, 98, 10728) x_P := by
  exact x_c6_0 xs
theorem x_d7 (xs : Nat → Int32) : x_R x_mt (some (6, xs)) 13 M_law (539, [(3, .int 0), (2, .ref 75), (1, .ref 0), (0, .ref x_scr)], [], x_h0, 98, 10728) x_P := by
  exact x_c7_0 xs
theorem x_d8 (xs : Nat → Int32) : x_R x_mt (some (6, xs)) 13 M_law (552, [(3, .int 0), (2, .ref 75), (1, .ref 0), (0, .ref x_scr)], [], x_h0, 98, 10728) x_P := by
  exact x_c8_0 xs
theorem x_d9 (xs : Nat → Int32) : x_R x_mt (some (6, xs)) 13 M_law (585, [(3, .int 0), (2, .ref 75), (1, .ref 0), (0, .ref x_scr)], [], x_h0, 98, 10728) x_P := by
  exact x_c9_0 xs
theorem x_d10 (xs : Nat → Int32) : x_R x_mt (some (6, xs)) 13 M_law (608, [(3, .int 0), (2, .ref 75), (1, .ref 0), (0, .ref x_scr)], [], x_h0, 98, 10728) x_P := by
  exact x_c10_0 xs
theorem x_d11 (xs : Nat → Int32) : x_R x_mt (some (6, xs)) 13 M_law (621, [(3, .int 0), (2, .ref 75), (1, .ref 0), (0, .ref x_scr)], [], x_h0, 98, 10728) x_P := by
  exact x_c11_0 xs
theorem x_d12 (xs : Nat → Int32) : x_R x_mt (some (6, xs)) 13 M_law (654, [(3, .int 0), (2, .ref 75), (1, .ref 0), (0, .ref x_scr)], [], x_h0, 98, 10728) x_P := by
  exact x_c12_0 xs
theorem x_d13 (xs : Nat → Int32) : x_R x_mt (some (6, xs)) 13 M_law (687, [(3, .int 0), (2, .ref 75), (1, .ref 0), (0, .ref x_scr)], [], x_h0, 98, 10728) x_P := by
  exact x_c13_0 xs
theorem x_d14 (xs : Nat → Int32) : x_R x_mt (some (6, xs)) 13 M_law (720, [(3, .int 0), (2, .ref 75), (1, .ref 0), (0, .ref x_scr)], [], x_h0, 98, 10728) x_P := by
  exact x_c14_0 xs
theorem x_d15 (xs : Nat → Int32) : x_R x_mt (some (6, xs)) 13 M_law (743, [(3, .int 0), (2, .ref 75), (1, .ref 0), (0, .ref x_scr)], [], x_h0, 98, 10728) x_P := by
  exact x_c15_0 xs
theorem x_d16 (xs : Nat → Int32) : x_R x_mt (some (6, xs)) 13 M_law (776, [(3, .int 0), (2, .ref 75), (1, .ref 0), (0, .ref x_scr)], [], x_h0, 98, 10728) x_P := by
  exact x_c16_0 xs
theorem x_d17 (xs : Nat → Int32) : x_R x_mt (some (6, xs)) 13 M_law (809, [(3, .int 0), (2, .ref 75), (1, .ref 0), (0, .ref x_scr)], [], x_h0, 98, 10728) x_P := by
  exact x_c17_0 xs
theorem x_d18 (xs : Nat → Int32) : x_R x_mt (some (6, xs)) 13 M_law (842, [(3, .int 0), (2, .ref 75), (1, .ref 0), (0, .ref x_scr)], [], x_h0, 98, 10728) x_P := by
  exact x_c18_0 xs
theorem x_d19 (xs : Nat → Int32) : x_R x_mt (some (6, xs)) 13 M_law (865, [(3, .int 0), (2, .ref 75), (1, .ref 0), (0, .ref x_scr)], [], x_h0, 98, 10728) x_P := by
  exact x_c19_0 xs
theorem x_d20 (xs : Nat → Int32) : x_R x_mt (some (6, xs)) 13 M_law (888, [(3, .int 0), (2, .ref 75), (1, .ref 0), (0, .ref x_scr)], [], x_h0, 98, 10728) x_P := by
  exact x_c20_0 xs
theorem x_d21 (xs : Nat → Int32) : x_R x_mt (some (6, xs)) 13 M_law (911, [(3, .int 0), (2, .ref 75), (1, .ref 0), (0, .ref x_scr)], [], x_h0, 98, 10728) x_P := by
  exact x_c21_0 xs
theorem x_d22 (xs : Nat → Int32) : x_R x_mt (some (6, xs)) 13 M_law (944, [(3, .int 0), (2, .ref 75), (1, .ref 0), (0, .ref x_scr)], [], x_h0, 98, 10728) x_P := by
  exact x_c22_0 xs
theorem x_d23 (xs : Nat → Int32) : x_R x_mt (some (6, xs)) 13 M_law (977, [(3, .int 0), (2, .ref 75), (1, .ref 0), (0, .ref x_scr)], [], x_h0, 98, 10728) x_P := by
  exact x_c23_0 xs
theorem x_d24 (xs : Nat → Int32) : x_R x_mt (some (6, xs)) 13 M_law (1000, [(3, .int 0), (2, .ref 75), (1, .ref 0), (0, .ref x_scr)], [], x_h0, 98, 10728) x_P := by
  exact x_c24_0 xs
theorem x_d25 (xs : Nat → Int32) : x_R x_mt (some (6, xs)) 13 M_law (1033, [(3, .int 0), (2, .ref 75), (1, .ref 0), (0, .ref x_scr)], [], x_h0, 98, 10728) x_P := by
  exact x_c25_0 xs
theorem x_d26 (xs : Nat → Int32) : x_R x_mt (some (6, xs)) 13 M_law (1066, [(3, .int 0), (2, .ref 75), (1, .ref 0), (0, .ref x_scr)], [], x_h0, 98, 10728) x_P := by
  exact x_c26_0 xs
theorem x_d27 (xs : Nat → Int32) : x_R x_mt (some (6, xs)) 13 M_law (1089, [(3, .int 0), (2, .ref 75), (1, .ref 0), (0, .ref x_scr)], [], x_h0, 98, 10728) x_P := by
  exact x_c27_0 xs
theorem x_d28 (xs : Nat → Int32) : x_R x_mt (some (6, xs)) 13 M_law (1122, [(3, .int 0), (2, .ref 75), (1, .ref 0), (0, .ref x_scr)], [], x_h0, 98, 10728) x_P := by
  exact x_c28_0 xs
theorem x_d29 (xs : Nat → Int32) : x_R x_mt (some (6, xs)) 13 M_law (1145, [(3, .int 0), (2, .ref 75), (1, .ref 0), (0, .ref x_scr)], [], x_h0, 98, 10728) x_P := by
  exact x_c29_0 xs
theorem x_d30 (xs : Nat → Int32) : x_R x_mt (some (6, xs)) 13 M_law (1168, [(3, .int 0), (2, .ref 75), (1, .ref 0), (0, .ref x_scr)], [], x_h0, 98, 10728) x_P := by
  exact x_c30_0 xs
theorem x_d31 (xs : Nat → Int32) : x_R x_mt (some (6, xs)) 13 M_law (1202, [(3, .int 0), (2, .ref 75), (1, .ref 0), (0, .ref x_scr)], [], x_h0, 98, 10728) x_P := by
  exact x_c31_0 xs
theorem x_d32 (xs : Nat → Int32) : x_R x_mt (some (6, xs)) 13 M_law (1246, [(3, .int 0), (2, .ref 75), (1, .ref 0), (0, .ref x_scr)], [], x_h0, 98, 10728) x_P := by
  exact x_c32_0 xs
theorem x_d33 (xs : Nat → Int32) : x_R x_mt (some (6, xs)) 13 M_law (1269, [(3, .int 0), (2, .ref 75), (1, .ref 0), (0, .ref x_scr)], [], x_h0, 98, 10728) x_P := by
  exact x_c33_0 xs
theorem x_d34 (xs : Nat → Int32) : x_R x_mt (some (6, xs)) 13 M_law (1292, [(3, .int 0), (2, .ref 75), (1, .ref 0), (0, .ref x_scr)], [], x_h0, 98, 10728) x_P := by
  exact x_c34_0 xs
theorem x_d35 (xs : Nat → Int32) : x_R x_mt (some (6, xs)) 13 M_law (1315, [(3, .int 0), (2, .ref 75), (1, .ref 0), (0, .ref x_scr)], [], x_h0, 98, 10728) x_P := by
  exact x_c35_0 xs
theorem x_d36 (xs : Nat → Int32) : x_R x_mt (some (6, xs)) 13 M_law (1338, [(3, .int 0), (2, .ref 75), (1, .ref 0), (0, .ref x_scr)], [], x_h0, 98, 10728) x_P := by
  exact x_c36_0 xs
theorem x_d37 (xs : Nat → Int32) : x_R x_mt (some (6, xs)) 13 M_law (1361, [(3, .int 0), (2, .ref 75), (1, .ref 0), (0, .ref x_scr)], [], x_h0, 98, 10728) x_P := by
  exact x_c37_0 xs
theorem x_d38 (xs : Nat → Int32) : x_R x_mt (some (6, xs)) 13 M_law (1384, [(3, .int 0), (2, .ref 75), (1, .ref 0), (0, .ref x_scr)], [], x_h0, 98, 10728) x_P := by
  exact x_c38_0 xs
theorem x_d39 (xs : Nat → Int32) : x_R x_mt (some (6, xs)) 13 M_law (1417, [(3, .int 0), (2, .ref 75), (1, .ref 0), (0, .ref x_scr)], [], x_h0, 98, 10728) x_P := by
  exact x_c39_0 xs
theorem x_d40 (xs : Nat → Int32) : x_R x_mt (some (6, xs)) 13 M_law (1440, [(3, .int 0), (2, .ref 75), (1, .ref 0), (0, .ref x_scr)], [], x_h0, 98, 10728) x_P := by
  exact x_c40_0 xs
theorem x_d41 (xs : Nat → Int32) : x_R x_mt (some (6, xs)) 13 M_law (1463, [(3, .int 0), (2, .ref 75), (1, .ref 0), (0, .ref x_scr)], [], x_h0, 98, 10728) x_P := by
  exact x_c41_0 xs
theorem x_d42 (xs : Nat → Int32) : x_R x_mt (some (6, xs)) 13 M_law (1476, [(3, .int 0), (2, .ref 75), (1, .ref 0), (0, .ref x_scr)], [], x_h0, 98, 10728) x_P := by
  exact x_c42_0 xs
theorem x_d43 (xs : Nat → Int32) : x_R x_mt (some (6, xs)) 13 M_law (1499, [(3, .int 0), (2, .ref 75), (1, .ref 0), (0, .ref x_scr)], [], x_h0, 98, 10728) x_P := by
  exact x_c43_0 xs
theorem x_d44 (xs : Nat → Int32) : x_R x_mt (some (6, xs)) 13 M_law (1532, [(3, .int 0), (2, .ref 75), (1, .ref 0), (0, .ref x_scr)], [], x_h0, 98, 10728) x_P := by
  exact x_c44_0 xs
theorem x_d45 (xs : Nat → Int32) : x_R x_mt (some (6, xs)) 13 M_law (1555, [(3, .int 0), (2, .ref 75), (1, .ref 0), (0, .ref x_scr)], [], x_h0, 98, 10728) x_P := by
  exact x_c45_0 xs
theorem x_d46 (xs : Nat → Int32) : x_R x_mt (some (6, xs)) 13 M_law (1598, [(3, .int 0), (2, .ref 75), (1, .ref 0), (0, .ref x_scr)], [], x_h0, 98, 10728) x_P := by
  exact x_c46_0 xs
theorem x_d47 (xs : Nat → Int32) : x_R x_mt (some (6, xs)) 13 M_law (1621, [(3, .int 0), (2, .ref 75), (1, .ref 0), (0, .ref x_scr)], [], x_h0, 98, 10728) x_P := by
  exact x_c47_0 xs
theorem x_d48 (xs : Nat → Int32) : x_R x_mt (some (6, xs)) 13 M_law (1644, [(3, .int 0), (2, .ref 75), (1, .ref 0), (0, .ref x_scr)], [], x_h0, 98, 10728) x_P := by
  exact x_c48_0 xs
theorem x_d49 (xs : Nat → Int32) : x_R x_mt (some (6, xs)) 13 M_law (1667, [(3, .int 0), (2, .ref 75), (1, .ref 0), (0, .ref x_scr)], [], x_h0, 98, 10728) x_P := by
  exact x_c49_0 xs
theorem x_d50 (xs : Nat → Int32) : x_R x_mt (some (6, xs)) 13 M_law (1690, [(3, .int 0), (2, .ref 75), (1, .ref 0), (0, .ref x_scr)], [], x_h0, 98, 10728) x_P := by
  exact x_c50_0 xs
theorem x_d51 (xs : Nat → Int32) : x_R x_mt (some (6, xs)) 13 M_law (1723, [(3, .int 0), (2, .ref 75), (1, .ref 0), (0, .ref x_scr)], [], x_h0, 98, 10728) x_P := by
  exact x_c51_0 xs
theorem x_d52 (xs : Nat → Int32) : x_R x_mt (some (6, xs)) 13 M_law (1746, [(3, .int 0), (2, .ref 75), (1, .ref 0), (0, .ref x_scr)], [], x_h0, 98, 10728) x_P := by
  exact x_c52_0 xs
theorem x_d53 (xs : Nat → Int32) : x_R x_mt (some (6, xs)) 13 M_law (1759, [(3, .int 0), (2, .ref 75), (1, .ref 0), (0, .ref x_scr)], [], x_h0, 98, 10728) x_P := by
  exact x_c53_0 xs
theorem x_d54 (xs : Nat → Int32) : x_R x_mt (some (6, xs)) 13 M_law (1772, [(3, .int 0), (2, .ref 75), (1, .ref 0), (0, .ref x_scr)], [], x_h0, 98, 10728) x_P := by
  exact x_c54_0 xs
theorem x_d55 (xs : Nat → Int32) : x_R x_mt (some (6, xs)) 13 M_law (1795, [(3, .int 0), (2, .ref 75), (1, .ref 0), (0, .ref x_scr)], [], x_h0, 98, 10728) x_P := by
  exact x_c55_0 xs
theorem x_d56 (xs : Nat → Int32) : x_R x_mt (some (6, xs)) 13 M_law (1828, [(3, .int 0), (2, .ref 75), (1, .ref 0), (0, .ref x_scr)], [], x_h0, 98, 10728) x_P := by
  exact x_c56_0 xs
theorem x_d57 (xs : Nat → Int32) : x_R x_mt (some (6, xs)) 13 M_law (1861, [(3, .int 0), (2, .ref 75), (1, .ref 0), (0, .ref x_scr)], [], x_h0, 98, 10728) x_P := by
  exact x_c57_0 xs
theorem x_d58 (xs : Nat → Int32) : x_R x_mt (some (6, xs)) 13 M_law (1884, [(3, .int 0), (2, .ref 75), (1, .ref 0), (0, .ref x_scr)], [], x_h0, 98, 10728) x_P := by
  exact x_c58_0 xs
theorem x_d59 (xs : Nat → Int32) : x_R x_mt (some (6, xs)) 13 M_law (1907, [(3, .int 0), (2, .ref 75), (1, .ref 0), (0, .ref x_scr)], [], x_h0, 98, 10728) x_P := by
  exact x_c59_0 xs
theorem x_d60 (xs : Nat → Int32) : x_R x_mt (some (6, xs)) 13 M_law (1940, [(3, .int 0), (2, .ref 75), (1, .ref 0), (0, .ref x_scr)], [], x_h0, 98, 10728) x_P := by
  exact x_c60_0 xs
theorem x_d61 (xs : Nat → Int32) : x_R x_mt (some (6, xs)) 13 M_law (1983, [(3, .int 0), (2, .ref 75), (1, .ref 0), (0, .ref x_scr)], [], x_h0, 98, 10728) x_P := by
  exact x_c61_0 xs
theorem x_d62 (xs : Nat → Int32) : x_R x_mt (some (6, xs)) 13 M_law (2026, [(3, .int 0), (2, .ref 75), (1, .ref 0), (0, .ref x_scr)], [], x_h0, 98, 10728) x_P := by
  exact x_c62_0 xs
theorem x_d63 (xs : Nat → Int32) : x_R x_mt (some (6, xs)) 13 M_law (2069, [(3, .int 0), (2, .ref 75), (1, .ref 0), (0, .ref x_scr)], [], x_h0, 98, 10728) x_P := by
  exact x_c63_0 xs
theorem x_d64 (xs : Nat → Int32) : x_R x_mt (some (6, xs)) 13 M_law (2122, [(3, .int 0), (2, .ref 75), (1, .ref 0), (0, .ref x_scr)], [], x_h0, 98, 10728) x_P := by
  by_cases e0 : xs 1 = 0
  · have := x_c64_0 xs
    rw [x_ov_eq e0] at this
    exact this
  by_cases e1 : xs 1 = 1
  · have := x_c64_1 xs
    rw [x_ov_eq e1] at this
    exact this
  by_cases e2 : xs 1 = 2
  · have := x_c64_2 xs
    rw [x_ov_eq e2] at this
    exact this
  by_cases e3 : xs 1 = 3
  · have := x_c64_3 xs
    rw [x_ov_eq e3] at this
    exact this
  by_cases e4 : xs 1 = 4
  · have := x_c64_4 xs
    rw [x_ov_eq e4] at this
    exact this
  by_cases e5 : xs 1 = 5
  · have := x_c64_5 xs
    rw [x_ov_eq e5] at this
    exact this
  by_cases e6 : xs 1 = 6
  · have := x_c64_6 xs
    rw [x_ov_eq e6] at this
    exact this
  by_cases e7 : xs 1 = 7
  · have := x_c64_7 xs
    rw [x_ov_eq e7] at this
    exact this
  by_cases e8 : xs 1 = 8
  · have := x_c64_8 xs
    rw [x_ov_eq e8] at this
    exact this
  by_cases e9 : xs 1 = 9
  · have := x_c64_9 xs
    rw [x_ov_eq e9] at this
    exact this
  by_cases e10 : xs 1 = 10
  · have := x_c64_10 xs
    rw [x_ov_eq e10] at this
    exact this
  have n0 : ¬ (xs 1).toInt = 0 := mt (x_i_eq (c := 0) (C := 0) (by decide)).mpr e0
  have n1 : ¬ (xs 1).toInt = 1 := mt (x_i_eq (c := 1) (C := 1) (by decide)).mpr e1
  have n2 : ¬ (xs 1).toInt = 2 := mt (x_i_eq (c := 2) (C := 2) (by decide)).mpr e2
  have n3 : ¬ (xs 1).toInt = 3 := mt (x_i_eq (c := 3) (C := 3) (by decide)).mpr e3
  have n4 : ¬ (xs 1).toInt = 4 := mt (x_i_eq (c := 4) (C := 4) (by decide)).mpr e4
  have n5 : ¬ (xs 1).toInt = 5 := mt (x_i_eq (c := 5) (C := 5) (by decide)).mpr e5
  have n6 : ¬ (xs 1).toInt = 6 := mt (x_i_eq (c := 6) (C := 6) (by decide)).mpr e6
  have n7 : ¬ (xs 1).toInt = 7 := mt (x_i_eq (c := 7) (C := 7) (by decide)).mpr e7
  have n8 : ¬ (xs 1).toInt = 8 := mt (x_i_eq (c := 8) (C := 8) (by decide)).mpr e8
  have n9 : ¬ (xs 1).toInt = 9 := mt (x_i_eq (c := 9) (C := 9) (by decide)).mpr e9
  have n10 : ¬ (xs 1).toInt = 10 := mt (x_i_eq (c := 10) (C := 10) (by decide)).mpr e10
  by_cases q : (xs 1).toInt < 0
  · exact x_c64_11 xs q
  · exact x_c64_12 xs (by omega)
theorem x_d65 (xs : Nat → Int32) : x_R x_mt (some (6, xs)) 13 M_law (2145, [(3, .int 0), (2, .ref 75), (1, .ref 0), (0, .ref x_scr)], [], x_h0, 98, 10728) x_P := by
  by_cases e0 : xs 1 = 0
  · have := x_c65_0 xs
    rw [x_ov_eq e0] at this
    exact this
  by_cases e1 : xs 1 = 1
  · have := x_c65_1 xs
    rw [x_ov_eq e1] at this
    exact this
  by_cases e2 : xs 1 = 2
  · have := x_c65_2 xs
    rw [x_ov_eq e2] at this
    exact this
  have n0 : ¬ (xs 1).toInt = 0 := mt (x_i_eq (c := 0) (C := 0) (by decide)).mpr e0
  have n1 : ¬ (xs 1).toInt = 1 := mt (x_i_eq (c := 1) (C := 1) (by decide)).mpr e1
  have n2 : ¬ (xs 1).toInt = 2 := mt (x_i_eq (c := 2) (C := 2) (by decide)).mpr e2
  by_cases q : (xs 1).toInt < 0
  · exact x_c65_3 xs q
  · exact x_c65_4 xs (by omega)
theorem x_d66 (xs : Nat → Int32) : x_R x_mt (some (6, xs)) 13 M_law (2168, [(3, .int 0), (2, .ref 75), (1, .ref 0), (0, .ref x_scr)], [], x_h0, 98, 10728) x_P := by
  by_cases e0 : xs 1 = 0
  · have := x_c66_0 xs
    rw [x_ov_eq e0] at this
    exact this
  by_cases e1 : xs 1 = 1
  · have := x_c66_1 xs
    rw [x_ov_eq e1] at this
    exact this
  by_cases e2 : xs 1 = 2
  · have := x_c66_2 xs
    rw [x_ov_eq e2] at this
    exact this
  have n0 : ¬ (xs 1).toInt = 0 := mt (x_i_eq (c := 0) (C := 0) (by decide)).mpr e0
  have n1 : ¬ (xs 1).toInt = 1 := mt (x_i_eq (c := 1) (C := 1) (by decide)).mpr e1
  have n2 : ¬ (xs 1).toInt = 2 := mt (x_i_eq (c := 2) (C := 2) (by decide)).mpr e2
  by_cases q : (xs 1).toInt < 0
  · exact x_c66_3 xs q
  · exact x_c66_4 xs (by omega)
theorem x_d68 (xs : Nat → Int32) : x_R x_mt (some (6, xs)) 13 M_law (2234, [(3, .int 0), (2, .ref 75), (1, .ref 0), (0, .ref x_scr)], [], x_h0, 98, 10728) x_P := by
  by_cases e0 : xs 1 = 0
  · have := x_c68_0 xs
    rw [x_ov_eq e0] at this
    exact this
  by_cases e1 : xs 1 = 1
  · have := x_c68_1 xs
    rw [x_ov_eq e1] at this
    exact this
  by_cases e2 : xs 1 = 2
  · have := x_c68_2 xs
    rw [x_ov_eq e2] at this
    exact this
  by_cases e3 : xs 1 = 3
  · have := x_c68_3 xs
    rw [x_ov_eq e3] at this
    exact this
  have n0 : ¬ (xs 1).toInt = 0 := mt (x_i_eq (c := 0) (C := 0) (by decide)).mpr e0
  have n1 : ¬ (xs 1).toInt = 1 := mt (x_i_eq (c := 1) (C := 1) (by decide)).mpr e1
  have n2 : ¬ (xs 1).toInt = 2 := mt (x_i_eq (c := 2) (C := 2) (by decide)).mpr e2
  have n3 : ¬ (xs 1).toInt = 3 := mt (x_i_eq (c := 3) (C := 3) (by decide)).mpr e3
  by_cases q : (xs 1).toInt < 0
  · exact x_c68_4 xs q
  · exact x_c68_5 xs (by omega)
theorem x_d69 (xs : Nat → Int32) : x_R x_mt (some (6, xs)) 13 M_law (2307, [(3, .int 0), (2, .ref 75), (1, .ref 0), (0, .ref x_scr)], [], x_h0, 98, 10728) x_P := by
  by_cases e0 : xs 1 = 0
  · by_cases d0 : xs 3 = 0
    · have := x_c69_0 xs
      rw [x_ov_eq e0, x_ov_eq d0] at this
      exact this
    by_cases d1 : xs 3 = 1
    · have := x_c69_1 xs
      rw [x_ov_eq e0, x_ov_eq d1] at this
      exact this
    by_cases d2 : xs 3 = 2
    · have := x_c69_2 xs
      rw [x_ov_eq e0, x_ov_eq d2] at this
      exact this
    by_cases d3 : xs 3 = 3
    · have := x_c69_3 xs
      rw [x_ov_eq e0, x_ov_eq d3] at this
      exact this
    have n0 : ¬ (xs 3).toInt = 0 := mt (x_i_eq (c := 0) (C := 0) (by decide)).mpr d0
    have n1 : ¬ (xs 3).toInt = 1 := mt (x_i_eq (c := 1) (C := 1) (by decide)).mpr d1
    have n2 : ¬ (xs 3).toInt = 2 := mt (x_i_eq (c := 2) (C := 2) (by decide)).mpr d2
    have n3 : ¬ (xs 3).toInt = 3 := mt (x_i_eq (c := 3) (C := 3) (by decide)).mpr d3
    by_cases q : (xs 3).toInt < 0
    · have := x_c69_4 xs q
      rw [x_ov_eq e0] at this
      exact this
    · have := x_c69_5 xs (by omega)
      rw [x_ov_eq e0] at this
      exact this
  by_cases e1 : xs 1 = 1
  · by_cases d0 : xs 3 = 0
    · have := x_c69_6 xs
      rw [x_ov_eq e1, x_ov_eq d0] at this
      exact this
    by_cases d1 : xs 3 = 1
    · have := x_c69_7 xs
      rw [x_ov_eq e1, x_ov_eq d1] at this
      exact this
    by_cases d2 : xs 3 = 2
    · have := x_c69_8 xs
      rw [x_ov_eq e1, x_ov_eq d2] at this
      exact this
    by_cases d3 : xs 3 = 3
    · have := x_c69_9 xs
      rw [x_ov_eq e1, x_ov_eq d3] at this
      exact this
    have n0 : ¬ (xs 3).toInt = 0 := mt (x_i_eq (c := 0) (C := 0) (by decide)).mpr d0
    have n1 : ¬ (xs 3).toInt = 1 := mt (x_i_eq (c := 1) (C := 1) (by decide)).mpr d1
    have n2 : ¬ (xs 3).toInt = 2 := mt (x_i_eq (c := 2) (C := 2) (by decide)).mpr d2
    have n3 : ¬ (xs 3).toInt = 3 := mt (x_i_eq (c := 3) (C := 3) (by decide)).mpr d3
    by_cases q : (xs 3).toInt < 0
    · have := x_c69_10 xs q
      rw [x_ov_eq e1] at this
      exact this
    · have := x_c69_11 xs (by omega)
      rw [x_ov_eq e1] at this
      exact this
  by_cases e2 : xs 1 = 2
  · by_cases d0 : xs 3 = 0
    · have := x_c69_12 xs
      rw [x_ov_eq e2, x_ov_eq d0] at this
      exact this
    by_cases d1 : xs 3 = 1
    · have := x_c69_13 xs
      rw [x_ov_eq e2, x_ov_eq d1] at this
      exact this
    by_cases d2 : xs 3 = 2
    · have := x_c69_14 xs
      rw [x_ov_eq e2, x_ov_eq d2] at this
      exact this
    by_cases d3 : xs 3 = 3
    · have := x_c69_15 xs
      rw [x_ov_eq e2, x_ov_eq d3] at this
      exact this
    have n0 : ¬ (xs 3).toInt = 0 := mt (x_i_eq (c := 0) (C := 0) (by decide)).mpr d0
    have n1 : ¬ (xs 3).toInt = 1 := mt (x_i_eq (c := 1) (C := 1) (by decide)).mpr d1
    have n2 : ¬ (xs 3).toInt = 2 := mt (x_i_eq (c := 2) (C := 2) (by decide)).mpr d2
    have n3 : ¬ (xs 3).toInt = 3 := mt (x_i_eq (c := 3) (C := 3) (by decide)).mpr d3
    by_cases q : (xs 3).toInt < 0
    · have := x_c69_16 xs q
      rw [x_ov_eq e2] at this
      exact this
    · have := x_c69_17 xs (by omega)
      rw [x_ov_eq e2] at this
      exact this
  by_cases e3 : xs 1 = 3
  · by_cases d0 : xs 3 = 0
    · have := x_c69_18 xs
      rw [x_ov_eq e3, x_ov_eq d0] at this
      exact this
    by_cases d1 : xs 3 = 1
    · have := x_c69_19 xs
      rw [x_ov_eq e3, x_ov_eq d1] at this
      exact this
    by_cases d2 : xs 3 = 2
    · have := x_c69_20 xs
      rw [x_ov_eq e3, x_ov_eq d2] at this
      exact this
    by_cases d3 : xs 3 = 3
    · have := x_c69_21 xs
      rw [x_ov_eq e3, x_ov_eq d3] at this
      exact this
    have n0 : ¬ (xs 3).toInt = 0 := mt (x_i_eq (c := 0) (C := 0) (by decide)).mpr d0
    have n1 : ¬ (xs 3).toInt = 1 := mt (x_i_eq (c := 1) (C := 1) (by decide)).mpr d1
    have n2 : ¬ (xs 3).toInt = 2 := mt (x_i_eq (c := 2) (C := 2) (by decide)).mpr d2
    have n3 : ¬ (xs 3).toInt = 3 := mt (x_i_eq (c := 3) (C := 3) (by decide)).mpr d3
    by_cases q : (xs 3).toInt < 0
    · have := x_c69_22 xs q
      rw [x_ov_eq e3] at this
      exact this
    · have := x_c69_23 xs (by omega)
      rw [x_ov_eq e3] at this
      exact this
  have n0 : ¬ (xs 1).toInt = 0 := mt (x_i_eq (c := 0) (C := 0) (by decide)).mpr e0
  have n1 : ¬ (xs 1).toInt = 1 := mt (x_i_eq (c := 1) (C := 1) (by decide)).mpr e1
  have n2 : ¬ (xs 1).toInt = 2 := mt (x_i_eq (c := 2) (C := 2) (by decide)).mpr e2
  have n3 : ¬ (xs 1).toInt = 3 := mt (x_i_eq (c := 3) (C := 3) (by decide)).mpr e3
  by_cases q : (xs 1).toInt < 0
  · exact x_c69_24 xs q
  · exact x_c69_25 xs (by omega)
set_option maxRecDepth 100000 in
set_option maxHeartbeats 4000000 in
theorem x_six (xs : Nat → Int32) : x_R x_mt (some (6, xs)) 13 M_law (18, [(3, .int 0), (2, .ref 75), (1, .ref 0), (0, .ref x_scr)], [], x_h0, 98, 10728) x_P := by
  refine x_R.steps 11 (c' := (33, [(3, .int 0), (2, .ref 75), (1, .ref 0), (0, .ref x_scr)], [.int ((xs 0) &&& 127)], x_h0, 98, 10728)) rfl ?_
  obtain ⟨j, hj, e⟩ := pk_andE (xs 0) (m := 127) 7 (by decide)
  rw [e]
  match j, hj with
  | 0, _ => exact x_R.steps 1 (c' := (328, [(3, .int 0), (2, .ref 75), (1, .ref 0), (0, .ref x_scr)], [], x_h0, 98, 10728)) rfl (x_d0 xs)
  | 1, _ => exact x_R.steps 1 (c' := (391, [(3, .int 0), (2, .ref 75), (1, .ref 0), (0, .ref x_scr)], [], x_h0, 98, 10728)) rfl (x_d1 xs)
  | 2, _ => exact x_R.steps 1 (c' := (414, [(3, .int 0), (2, .ref 75), (1, .ref 0), (0, .ref x_scr)], [], x_h0, 98, 10728)) rfl (x_d2 xs)
  | 3, _ => exact x_R.steps 1 (c' := (427, [(3, .int 0), (2, .ref 75), (1, .ref 0), (0, .ref x_scr)], [], x_h0, 98, 10728)) rfl (x_d3 xs)
  | 4, _ => exact x_R.steps 1 (c' := (450, [(3, .int 0), (2, .ref 75), (1, .ref 0), (0, .ref x_scr)], [], x_h0, 98, 10728)) rfl (x_d4 xs)
  | 5, _ => exact x_R.steps 1 (c' := (483, [(3, .int 0), (2, .ref 75), (1, .ref 0), (0, .ref x_scr)], [], x_h0, 98, 10728)) rfl (x_d5 xs)
  | 6, _ => exact x_R.steps 1 (c' := (516, [(3, .int 0), (2, .ref 75), (1, .ref 0), (0, .ref x_scr)], [], x_h0, 98, 10728)) rfl (x_d6 xs)
  | 7, _ => exact x_R.steps 1 (c' := (539, [(3, .int 0), (2, .ref 75), (1, .ref 0), (0, .ref x_scr)], [], x_h0, 98, 10728)) rfl (x_d7 xs)
  | 8, _ => exact x_R.steps 1 (c' := (552, [(3, .int 0), (2, .ref 75), (1, .ref 0), (0, .ref x_scr)], [], x_h0, 98, 10728)) rfl (x_d8 xs)
  | 9, _ => exact x_R.steps 1 (c' := (585, [(3, .int 0), (2, .ref 75), (1, .ref 0), (0, .ref x_scr)], [], x_h0, 98, 10728)) rfl (x_d9 xs)
  | 10, _ => exact x_R.steps 1 (c' := (608, [(3, .int 0), (2, .ref 75), (1, .ref 0), (0, .ref x_scr)], [], x_h0, 98, 10728)) rfl (x_d10 xs)
  | 11, _ => exact x_R.steps 1 (c' := (621, [(3, .int 0), (2, .ref 75), (1, .ref 0), (0, .ref x_scr)], [], x_h0, 98, 10728)) rfl (x_d11 xs)
  | 12, _ => exact x_R.steps 1 (c' := (654, [(3, .int 0), (2, .ref 75), (1, .ref 0), (0, .ref x_scr)], [], x_h0, 98, 10728)) rfl (x_d12 xs)
  | 13, _ => exact x_R.steps 1 (c' := (687, [(3, .int 0), (2, .ref 75), (1, .ref 0), (0, .ref x_scr)], [], x_h0, 98, 10728)) rfl (x_d13 xs)
  | 14, _ => exact x_R.steps 1 (c' := (720, [(3, .int 0), (2, .ref 75), (1, .ref 0), (0, .ref x_scr)], [], x_h0, 98, 10728)) rfl (x_d14 xs)
  | 15, _ => exact x_R.steps 1 (c' := (743, [(3, .int 0), (2, .ref 75), (1, .ref 0), (0, .ref x_scr)], [], x_h0, 98, 10728)) rfl (x_d15 xs)
  | 16, _ => exact x_R.steps 1 (c' := (776, [(3, .int 0), (2, .ref 75), (1, .ref 0), (0, .ref x_scr)], [], x_h0, 98, 10728)) rfl (x_d16 xs)
  | 17, _ => exact x_R.steps 1 (c' := (809, [(3, .int 0), (2, .ref 75), (1, .ref 0), (0, .ref x_scr)], [], x_h0, 98, 10728)) rfl (x_d17 xs)
  | 18, _ => exact x_R.steps 1 (c' := (842, [(3, .int 0), (2, .ref 75), (1, .ref 0), (0, .ref x_scr)], [], x_h0, 98, 10728)) rfl (x_d18 xs)
  | 19, _ => exact x_R.steps 1 (c' := (865, [(3, .int 0), (2, .ref 75), (1, .ref 0), (0, .ref x_scr)], [], x_h0, 98, 10728)) rfl (x_d19 xs)
  | 20, _ => exact x_R.steps 1 (c' := (888, [(3, .int 0), (2, .ref 75), (1, .ref 0), (0, .ref x_scr)], [], x_h0, 98, 10728)) rfl (x_d20 xs)
  | 21, _ => exact x_R.steps 1 (c' := (911, [(3, .int 0), (2, .ref 75), (1, .ref 0), (0, .ref x_scr)], [], x_h0, 98, 10728)) rfl (x_d21 xs)
  | 22, _ => exact x_R.steps 1 (c' := (944, [(3, .int 0), (2, .ref 75), (1, .ref 0), (0, .ref x_scr)], [], x_h0, 98, 10728)) rfl (x_d22 xs)
  | 23, _ => exact x_R.steps 1 (c' := (977, [(3, .int 0), (2, .ref 75), (1, .ref 0), (0, .ref x_scr)], [], x_h0, 98, 10728)) rfl (x_d23 xs)
  | 24, _ => exact x_R.steps 1 (c' := (1000, [(3, .int 0), (2, .ref 75), (1, .ref 0), (0, .ref x_scr)], [], x_h0, 98, 10728)) rfl (x_d24 xs)
  | 25, _ => exact x_R.steps 1 (c' := (1033, [(3, .int 0), (2, .ref 75), (1, .ref 0), (0, .ref x_scr)], [], x_h0, 98, 10728)) rfl (x_d25 xs)
  | 26, _ => exact x_R.steps 1 (c' := (1066, [(3, .int 0), (2, .ref 75), (1, .ref 0), (0, .ref x_scr)], [], x_h0, 98, 10728)) rfl (x_d26 xs)
  | 27, _ => exact x_R.steps 1 (c' := (1089, [(3, .int 0), (2, .ref 75), (1, .ref 0), (0, .ref x_scr)], [], x_h0, 98, 10728)) rfl (x_d27 xs)
  | 28, _ => exact x_R.steps 1 (c' := (1122, [(3, .int 0), (2, .ref 75), (1, .ref 0), (0, .ref x_scr)], [], x_h0, 98, 10728)) rfl (x_d28 xs)
  | 29, _ => exact x_R.steps 1 (c' := (1145, [(3, .int 0), (2, .ref 75), (1, .ref 0), (0, .ref x_scr)], [], x_h0, 98, 10728)) rfl (x_d29 xs)
  | 30, _ => exact x_R.steps 1 (c' := (1168, [(3, .int 0), (2, .ref 75), (1, .ref 0), (0, .ref x_scr)], [], x_h0, 98, 10728)) rfl (x_d30 xs)
  | 31, _ => exact x_R.steps 1 (c' := (1202, [(3, .int 0), (2, .ref 75), (1, .ref 0), (0, .ref x_scr)], [], x_h0, 98, 10728)) rfl (x_d31 xs)
  | 32, _ => exact x_R.steps 1 (c' := (1246, [(3, .int 0), (2, .ref 75), (1, .ref 0), (0, .ref x_scr)], [], x_h0, 98, 10728)) rfl (x_d32 xs)
  | 33, _ => exact x_R.steps 1 (c' := (1269, [(3, .int 0), (2, .ref 75), (1, .ref 0), (0, .ref x_scr)], [], x_h0, 98, 10728)) rfl (x_d33 xs)
  | 34, _ => exact x_R.steps 1 (c' := (1292, [(3, .int 0), (2, .ref 75), (1, .ref 0), (0, .ref x_scr)], [], x_h0, 98, 10728)) rfl (x_d34 xs)
  | 35, _ => exact x_R.steps 1 (c' := (1315, [(3, .int 0), (2, .ref 75), (1, .ref 0), (0, .ref x_scr)], [], x_h0, 98, 10728)) rfl (x_d35 xs)
  | 36, _ => exact x_R.steps 1 (c' := (1338, [(3, .int 0), (2, .ref 75), (1, .ref 0), (0, .ref x_scr)], [], x_h0, 98, 10728)) rfl (x_d36 xs)
  | 37, _ => exact x_R.steps 1 (c' := (1361, [(3, .int 0), (2, .ref 75), (1, .ref 0), (0, .ref x_scr)], [], x_h0, 98, 10728)) rfl (x_d37 xs)
  | 38, _ => exact x_R.steps 1 (c' := (1384, [(3, .int 0), (2, .ref 75), (1, .ref 0), (0, .ref x_scr)], [], x_h0, 98, 10728)) rfl (x_d38 xs)
  | 39, _ => exact x_R.steps 1 (c' := (1417, [(3, .int 0), (2, .ref 75), (1, .ref 0), (0, .ref x_scr)], [], x_h0, 98, 10728)) rfl (x_d39 xs)
  | 40, _ => exact x_R.steps 1 (c' := (1440, [(3, .int 0), (2, .ref 75), (1, .ref 0), (0, .ref x_scr)], [], x_h0, 98, 10728)) rfl (x_d40 xs)
  | 41, _ => exact x_R.steps 1 (c' := (1463, [(3, .int 0), (2, .ref 75), (1, .ref 0), (0, .ref x_scr)], [], x_h0, 98, 10728)) rfl (x_d41 xs)
  | 42, _ => exact x_R.steps 1 (c' := (1476, [(3, .int 0), (2, .ref 75), (1, .ref 0), (0, .ref x_scr)], [], x_h0, 98, 10728)) rfl (x_d42 xs)
  | 43, _ => exact x_R.steps 1 (c' := (1499, [(3, .int 0), (2, .ref 75), (1, .ref 0), (0, .ref x_scr)], [], x_h0, 98, 10728)) rfl (x_d43 xs)
  | 44, _ => exact x_R.steps 1 (c' := (1532, [(3, .int 0), (2, .ref 75), (1, .ref 0), (0, .ref x_scr)], [], x_h0, 98, 10728)) rfl (x_d44 xs)
  | 45, _ => exact x_R.steps 1 (c' := (1555, [(3, .int 0), (2, .ref 75), (1, .ref 0), (0, .ref x_scr)], [], x_h0, 98, 10728)) rfl (x_d45 xs)
  | 46, _ => exact x_R.steps 1 (c' := (1598, [(3, .int 0), (2, .ref 75), (1, .ref 0), (0, .ref x_scr)], [], x_h0, 98, 10728)) rfl (x_d46 xs)
  | 47, _ => exact x_R.steps 1 (c' := (1621, [(3, .int 0), (2, .ref 75), (1, .ref 0), (0, .ref x_scr)], [], x_h0, 98, 10728)) rfl (x_d47 xs)
  | 48, _ => exact x_R.steps 1 (c' := (1644, [(3, .int 0), (2, .ref 75), (1, .ref 0), (0, .ref x_scr)], [], x_h0, 98, 10728)) rfl (x_d48 xs)
  | 49, _ => exact x_R.steps 1 (c' := (1667, [(3, .int 0), (2, .ref 75), (1, .ref 0), (0, .ref x_scr)], [], x_h0, 98, 10728)) rfl (x_d49 xs)
  | 50, _ => exact x_R.steps 1 (c' := (1690, [(3, .int 0), (2, .ref 75), (1, .ref 0), (0, .ref x_scr)], [], x_h0, 98, 10728)) rfl (x_d50 xs)
  | 51, _ => exact x_R.steps 1 (c' := (1723, [(3, .int 0), (2, .ref 75), (1, .ref 0), (0, .ref x_scr)], [], x_h0, 98, 10728)) rfl (x_d51 xs)
  | 52, _ => exact x_R.steps 1 (c' := (1746, [(3, .int 0), (2, .ref 75), (1, .ref 0), (0, .ref x_scr)], [], x_h0, 98, 10728)) rfl (x_d52 xs)
  | 53, _ => exact x_R.steps 1 (c' := (1759, [(3, .int 0), (2, .ref 75), (1, .ref 0), (0, .ref x_scr)], [], x_h0, 98, 10728)) rfl (x_d53 xs)
  | 54, _ => exact x_R.steps 1 (c' := (1772, [(3, .int 0), (2, .ref 75), (1, .ref 0), (0, .ref x_scr)], [], x_h0, 98, 10728)) rfl (x_d54 xs)
  | 55, _ => exact x_R.steps 1 (c' := (1795, [(3, .int 0), (2, .ref 75), (1, .ref 0), (0, .ref x_scr)], [], x_h0, 98, 10728)) rfl (x_d55 xs)
  | 56, _ => exact x_R.steps 1 (c' := (1828, [(3, .int 0), (2, .ref 75), (1, .ref 0), (0, .ref x_scr)], [], x_h0, 98, 10728)) rfl (x_d56 xs)
  | 57, _ => exact x_R.steps 1 (c' := (1861, [(3, .int 0), (2, .ref 75), (1, .ref 0), (0, .ref x_scr)], [], x_h0, 98, 10728)) rfl (x_d57 xs)
  | 58, _ => exact x_R.steps 1 (c' := (1884, [(3, .int 0), (2, .ref 75), (1, .ref 0), (0, .ref x_scr)], [], x_h0, 98, 10728)) rfl (x_d58 xs)
  | 59, _ => exact x_R.steps 1 (c' := (1907, [(3, .int 0), (2, .ref 75), (1, .ref 0), (0, .ref x_scr)], [], x_h0, 98, 10728)) rfl (x_d59 xs)
  | 60, _ => exact x_R.steps 1 (c' := (1940, [(3, .int 0), (2, .ref 75), (1, .ref 0), (0, .ref x_scr)], [], x_h0, 98, 10728)) rfl (x_d60 xs)
  | 61, _ => exact x_R.steps 1 (c' := (1983, [(3, .int 0), (2, .ref 75), (1, .ref 0), (0, .ref x_scr)], [], x_h0, 98, 10728)) rfl (x_d61 xs)
  | 62, _ => exact x_R.steps 1 (c' := (2026, [(3, .int 0), (2, .ref 75), (1, .ref 0), (0, .ref x_scr)], [], x_h0, 98, 10728)) rfl (x_d62 xs)
  | 63, _ => exact x_R.steps 1 (c' := (2069, [(3, .int 0), (2, .ref 75), (1, .ref 0), (0, .ref x_scr)], [], x_h0, 98, 10728)) rfl (x_d63 xs)
  | 64, _ => exact x_R.steps 1 (c' := (2122, [(3, .int 0), (2, .ref 75), (1, .ref 0), (0, .ref x_scr)], [], x_h0, 98, 10728)) rfl (x_d64 xs)
  | 65, _ => exact x_R.steps 1 (c' := (2145, [(3, .int 0), (2, .ref 75), (1, .ref 0), (0, .ref x_scr)], [], x_h0, 98, 10728)) rfl (x_d65 xs)
  | 66, _ => exact x_R.steps 1 (c' := (2168, [(3, .int 0), (2, .ref 75), (1, .ref 0), (0, .ref x_scr)], [], x_h0, 98, 10728)) rfl (x_d66 xs)
  | 67, _ => exact x_R.steps 1 (c' := (2191, [(3, .int 0), (2, .ref 75), (1, .ref 0), (0, .ref x_scr)], [], x_h0, 98, 10728)) rfl (x_d67 xs)
  | 68, _ => exact x_R.steps 1 (c' := (2234, [(3, .int 0), (2, .ref 75), (1, .ref 0), (0, .ref x_scr)], [], x_h0, 98, 10728)) rfl (x_d68 xs)
  | 69, _ => exact x_R.steps 1 (c' := (2307, [(3, .int 0), (2, .ref 75), (1, .ref 0), (0, .ref x_scr)], [], x_h0, 98, 10728)) rfl (x_d69 xs)
  | 70, _ => exact x_R.steps 1 (c' := (2370, [(3, .int 0), (2, .ref 75), (1, .ref 0), (0, .ref x_scr)], [], x_h0, 98, 10728)) rfl (x_cdef xs)
  | 71, _ => exact x_R.steps 1 (c' := (2370, [(3, .int 0), (2, .ref 75), (1, .ref 0), (0, .ref x_scr)], [], x_h0, 98, 10728)) rfl (x_cdef xs)
  | 72, _ => exact x_R.steps 1 (c' := (2370, [(3, .int 0), (2, .ref 75), (1, .ref 0), (0, .ref x_scr)], [], x_h0, 98, 10728)) rfl (x_cdef xs)
  | 73, _ => exact x_R.steps 1 (c' := (2370, [(3, .int 0), (2, .ref 75), (1, .ref 0), (0, .ref x_scr)], [], x_h0, 98, 10728)) rfl (x_cdef xs)
  | 74, _ => exact x_R.steps 1 (c' := (2370, [(3, .int 0), (2, .ref 75), (1, .ref 0), (0, .ref x_scr)], [], x_h0, 98, 10728)) rfl (x_cdef xs)
  | 75, _ => exact x_R.steps 1 (c' := (2370, [(3, .int 0), (2, .ref 75), (1, .ref 0), (0, .ref x_scr)], [], x_h0, 98, 10728)) rfl (x_cdef xs)
  | 76, _ => exact x_R.steps 1 (c' := (2370, [(3, .int 0), (2, .ref 75), (1, .ref 0), (0, .ref x_scr)], [], x_h0, 98, 10728)) rfl (x_cdef xs)
  | 77, _ => exact x_R.steps 1 (c' := (2370, [(3, .int 0), (2, .ref 75), (1, .ref 0), (0, .ref x_scr)], [], x_h0, 98, 10728)) rfl (x_cdef xs)
  | 78, _ => exact x_R.steps 1 (c' := (2370, [(3, .int 0), (2, .ref 75), (1, .ref 0), (0, .ref x_scr)], [], x_h0, 98, 10728)) rfl (x_cdef xs)
  | 79, _ => exact x_R.steps 1 (c' := (2370, [(3, .int 0), (2, .ref 75), (1, .ref 0), (0, .ref x_scr)], [], x_h0, 98, 10728)) rfl (x_cdef xs)
  | 80, _ => exact x_R.steps 1 (c' := (2370, [(3, .int 0), (2, .ref 75), (1, .ref 0), (0, .ref x_scr)], [], x_h0, 98, 10728)) rfl (x_cdef xs)
  | 81, _ => exact x_R.steps 1 (c' := (2370, [(3, .int 0), (2, .ref 75), (1, .ref 0), (0, .ref x_scr)], [], x_h0, 98, 10728)) rfl (x_cdef xs)
  | 82, _ => exact x_R.steps 1 (c' := (2370, [(3, .int 0), (2, .ref 75), (1, .ref 0), (0, .ref x_scr)], [], x_h0, 98, 10728)) rfl (x_cdef xs)
  | 83, _ => exact x_R.steps 1 (c' := (2370, [(3, .int 0), (2, .ref 75), (1, .ref 0), (0, .ref x_scr)], [], x_h0, 98, 10728)) rfl (x_cdef xs)
  | 84, _ => exact x_R.steps 1 (c' := (2370, [(3, .int 0), (2, .ref 75), (1, .ref 0), (0, .ref x_scr)], [], x_h0, 98, 10728)) rfl (x_cdef xs)
  | 85, _ => exact x_R.steps 1 (c' := (2370, [(3, .int 0), (2, .ref 75), (1, .ref 0), (0, .ref x_scr)], [], x_h0, 98, 10728)) rfl (x_cdef xs)
  | 86, _ => exact x_R.steps 1 (c' := (2370, [(3, .int 0), (2, .ref 75), (1, .ref 0), (0, .ref x_scr)], [], x_h0, 98, 10728)) rfl (x_cdef xs)
  | 87, _ => exact x_R.steps 1 (c' := (2370, [(3, .int 0), (2, .ref 75), (1, .ref 0), (0, .ref x_scr)], [], x_h0, 98, 10728)) rfl (x_cdef xs)
  | 88, _ => exact x_R.steps 1 (c' := (2370, [(3, .int 0), (2, .ref 75), (1, .ref 0), (0, .ref x_scr)], [], x_h0, 98, 10728)) rfl (x_cdef xs)
  | 89, _ => exact x_R.steps 1 (c' := (2370, [(3, .int 0), (2, .ref 75), (1, .ref 0), (0, .ref x_scr)], [], x_h0, 98, 10728)) rfl (x_cdef xs)
  | 90, _ => exact x_R.steps 1 (c' := (2370, [(3, .int 0), (2, .ref 75), (1, .ref 0), (0, .ref x_scr)], [], x_h0, 98, 10728)) rfl (x_cdef xs)
  | 91, _ => exact x_R.steps 1 (c' := (2370, [(3, .int 0), (2, .ref 75), (1, .ref 0), (0, .ref x_scr)], [], x_h0, 98, 10728)) rfl (x_cdef xs)
  | 92, _ => exact x_R.steps 1 (c' := (2370, [(3, .int 0), (2, .ref 75), (1, .ref 0), (0, .ref x_scr)], [], x_h0, 98, 10728)) rfl (x_cdef xs)
  | 93, _ => exact x_R.steps 1 (c' := (2370, [(3, .int 0), (2, .ref 75), (1, .ref 0), (0, .ref x_scr)], [], x_h0, 98, 10728)) rfl (x_cdef xs)
  | 94, _ => exact x_R.steps 1 (c' := (2370, [(3, .int 0), (2, .ref 75), (1, .ref 0), (0, .ref x_scr)], [], x_h0, 98, 10728)) rfl (x_cdef xs)
  | 95, _ => exact x_R.steps 1 (c' := (2370, [(3, .int 0), (2, .ref 75), (1, .ref 0), (0, .ref x_scr)], [], x_h0, 98, 10728)) rfl (x_cdef xs)
  | 96, _ => exact x_R.steps 1 (c' := (2370, [(3, .int 0), (2, .ref 75), (1, .ref 0), (0, .ref x_scr)], [], x_h0, 98, 10728)) rfl (x_cdef xs)
  | 97, _ => exact x_R.steps 1 (c' := (2370, [(3, .int 0), (2, .ref 75), (1, .ref 0), (0, .ref x_scr)], [], x_h0, 98, 10728)) rfl (x_cdef xs)
  | 98, _ => exact x_R.steps 1 (c' := (2370, [(3, .int 0), (2, .ref 75), (1, .ref 0), (0, .ref x_scr)], [], x_h0, 98, 10728)) rfl (x_cdef xs)
  | 99, _ => exact x_R.steps 1 (c' := (2370, [(3, .int 0), (2, .ref 75), (1, .ref 0), (0, .ref x_scr)], [], x_h0, 98, 10728)) rfl (x_cdef xs)
  | 100, _ => exact x_R.steps 1 (c' := (2370, [(3, .int 0), (2, .ref 75), (1, .ref 0), (0, .ref x_scr)], [], x_h0, 98, 10728)) rfl (x_cdef xs)
  | 101, _ => exact x_R.steps 1 (c' := (2370, [(3, .int 0), (2, .ref 75), (1, .ref 0), (0, .ref x_scr)], [], x_h0, 98, 10728)) rfl (x_cdef xs)
  | 102, _ => exact x_R.steps 1 (c' := (2370, [(3, .int 0), (2, .ref 75), (1, .ref 0), (0, .ref x_scr)], [], x_h0, 98, 10728)) rfl (x_cdef xs)
  | 103, _ => exact x_R.steps 1 (c' := (2370, [(3, .int 0), (2, .ref 75), (1, .ref 0), (0, .ref x_scr)], [], x_h0, 98, 10728)) rfl (x_cdef xs)
  | 104, _ => exact x_R.steps 1 (c' := (2370, [(3, .int 0), (2, .ref 75), (1, .ref 0), (0, .ref x_scr)], [], x_h0, 98, 10728)) rfl (x_cdef xs)
  | 105, _ => exact x_R.steps 1 (c' := (2370, [(3, .int 0), (2, .ref 75), (1, .ref 0), (0, .ref x_scr)], [], x_h0, 98, 10728)) rfl (x_cdef xs)
  | 106, _ => exact x_R.steps 1 (c' := (2370, [(3, .int 0), (2, .ref 75), (1, .ref 0), (0, .ref x_scr)], [], x_h0, 98, 10728)) rfl (x_cdef xs)
  | 107, _ => exact x_R.steps 1 (c' := (2370, [(3, .int 0), (2, .ref 75), (1, .ref 0), (0, .ref x_scr)], [], x_h0, 98, 10728)) rfl (x_cdef xs)
  | 108, _ => exact x_R.steps 1 (c' := (2370, [(3, .int 0), (2, .ref 75), (1, .ref 0), (0, .ref x_scr)], [], x_h0, 98, 10728)) rfl (x_cdef xs)
  | 109, _ => exact x_R.steps 1 (c' := (2370, [(3, .int 0), (2, .ref 75), (1, .ref 0), (0, .ref x_scr)], [], x_h0, 98, 10728)) rfl (x_cdef xs)
  | 110, _ => exact x_R.steps 1 (c' := (2370, [(3, .int 0), (2, .ref 75), (1, .ref 0), (0, .ref x_scr)], [], x_h0, 98, 10728)) rfl (x_cdef xs)
  | 111, _ => exact x_R.steps 1 (c' := (2370, [(3, .int 0), (2, .ref 75), (1, .ref 0), (0, .ref x_scr)], [], x_h0, 98, 10728)) rfl (x_cdef xs)
  | 112, _ => exact x_R.steps 1 (c' := (2370, [(3, .int 0), (2, .ref 75), (1, .ref 0), (0, .ref x_scr)], [], x_h0, 98, 10728)) rfl (x_cdef xs)
  | 113, _ => exact x_R.steps 1 (c' := (2370, [(3, .int 0), (2, .ref 75), (1, .ref 0), (0, .ref x_scr)], [], x_h0, 98, 10728)) rfl (x_cdef xs)
  | 114, _ => exact x_R.steps 1 (c' := (2370, [(3, .int 0), (2, .ref 75), (1, .ref 0), (0, .ref x_scr)], [], x_h0, 98, 10728)) rfl (x_cdef xs)
  | 115, _ => exact x_R.steps 1 (c' := (2370, [(3, .int 0), (2, .ref 75), (1, .ref 0), (0, .ref x_scr)], [], x_h0, 98, 10728)) rfl (x_cdef xs)
  | 116, _ => exact x_R.steps 1 (c' := (2370, [(3, .int 0), (2, .ref 75), (1, .ref 0), (0, .ref x_scr)], [], x_h0, 98, 10728)) rfl (x_cdef xs)
  | 117, _ => exact x_R.steps 1 (c' := (2370, [(3, .int 0), (2, .ref 75), (1, .ref 0), (0, .ref x_scr)], [], x_h0, 98, 10728)) rfl (x_cdef xs)
  | 118, _ => exact x_R.steps 1 (c' := (2370, [(3, .int 0), (2, .ref 75), (1, .ref 0), (0, .ref x_scr)], [], x_h0, 98, 10728)) rfl (x_cdef xs)
  | 119, _ => exact x_R.steps 1 (c' := (2370, [(3, .int 0), (2, .ref 75), (1, .ref 0), (0, .ref x_scr)], [], x_h0, 98, 10728)) rfl (x_cdef xs)
  | 120, _ => exact x_R.steps 1 (c' := (2370, [(3, .int 0), (2, .ref 75), (1, .ref 0), (0, .ref x_scr)], [], x_h0, 98, 10728)) rfl (x_cdef xs)
  | 121, _ => exact x_R.steps 1 (c' := (2370, [(3, .int 0), (2, .ref 75), (1, .ref 0), (0, .ref x_scr)], [], x_h0, 98, 10728)) rfl (x_cdef xs)
  | 122, _ => exact x_R.steps 1 (c' := (2370, [(3, .int 0), (2, .ref 75), (1, .ref 0), (0, .ref x_scr)], [], x_h0, 98, 10728)) rfl (x_cdef xs)
  | 123, _ => exact x_R.steps 1 (c' := (2370, [(3, .int 0), (2, .ref 75), (1, .ref 0), (0, .ref x_scr)], [], x_h0, 98, 10728)) rfl (x_cdef xs)
  | 124, _ => exact x_R.steps 1 (c' := (2370, [(3, .int 0), (2, .ref 75), (1, .ref 0), (0, .ref x_scr)], [], x_h0, 98, 10728)) rfl (x_cdef xs)
  | 125, _ => exact x_R.steps 1 (c' := (2370, [(3, .int 0), (2, .ref 75), (1, .ref 0), (0, .ref x_scr)], [], x_h0, 98, 10728)) rfl (x_cdef xs)
  | 126, _ => exact x_R.steps 1 (c' := (2370, [(3, .int 0), (2, .ref 75), (1, .ref 0), (0, .ref x_scr)], [], x_h0, 98, 10728)) rfl (x_cdef xs)
  | 127, _ => exact x_R.steps 1 (c' := (2370, [(3, .int 0), (2, .ref 75), (1, .ref 0), (0, .ref x_scr)], [], x_h0, 98, 10728)) rfl (x_cdef xs)
  | j + 128, h => exact absurd h (by omega)
set_option maxRecDepth 100000 in
set_option maxHeartbeats 4000000 in
theorem x_len0 (xs : Nat → Int32) : x_R x_mt (some (0, xs)) 13 M_law (18, [(3, .int 0), (2, .ref 75), (1, .ref 0), (0, .ref x_scr)], [], x_h0, 98, 10728) x_P := by
  refine x_R.steps 5 (c' := (24, [(3, .int 0), (2, .ref 75), (1, .ref 0), (0, .ref x_scr)], [.int (-6), .int 0], x_h0, 98, 10728)) rfl ?_
  refine x_R.steps 1 (c' := (2376, [(3, .int 0), (2, .ref 75), (1, .ref 0), (0, .ref x_scr)], [], x_h0, 98, 10728)) rfl ?_
  refine x_R.steps 1 (c' := (2377, [(3, .int 0), (2, .ref 75), (1, .ref 0), (0, .ref x_scr)], [.int 1], x_h0, 98, 10728)) rfl ?_
  exact x_R.ret (v := some (.int 1)) rfl x_fin
set_option maxRecDepth 100000 in
set_option maxHeartbeats 4000000 in
theorem x_len1 (xs : Nat → Int32) : x_R x_mt (some (1, xs)) 13 M_law (18, [(3, .int 0), (2, .ref 75), (1, .ref 0), (0, .ref x_scr)], [], x_h0, 98, 10728) x_P := by
  refine x_R.steps 5 (c' := (24, [(3, .int 0), (2, .ref 75), (1, .ref 0), (0, .ref x_scr)], [.int (-5), .int 0], x_h0, 98, 10728)) rfl ?_
  refine x_R.steps 1 (c' := (2376, [(3, .int 0), (2, .ref 75), (1, .ref 0), (0, .ref x_scr)], [], x_h0, 98, 10728)) rfl ?_
  refine x_R.steps 1 (c' := (2377, [(3, .int 0), (2, .ref 75), (1, .ref 0), (0, .ref x_scr)], [.int 1], x_h0, 98, 10728)) rfl ?_
  exact x_R.ret (v := some (.int 1)) rfl x_fin
set_option maxRecDepth 100000 in
set_option maxHeartbeats 4000000 in
theorem x_len2 (xs : Nat → Int32) : x_R x_mt (some (2, xs)) 13 M_law (18, [(3, .int 0), (2, .ref 75), (1, .ref 0), (0, .ref x_scr)], [], x_h0, 98, 10728) x_P := by
  refine x_R.steps 5 (c' := (24, [(3, .int 0), (2, .ref 75), (1, .ref 0), (0, .ref x_scr)], [.int (-4), .int 0], x_h0, 98, 10728)) rfl ?_
  refine x_R.steps 1 (c' := (2376, [(3, .int 0), (2, .ref 75), (1, .ref 0), (0, .ref x_scr)], [], x_h0, 98, 10728)) rfl ?_
  refine x_R.steps 1 (c' := (2377, [(3, .int 0), (2, .ref 75), (1, .ref 0), (0, .ref x_scr)], [.int 1], x_h0, 98, 10728)) rfl ?_
  exact x_R.ret (v := some (.int 1)) rfl x_fin
set_option maxRecDepth 100000 in
set_option maxHeartbeats 4000000 in
theorem x_len3 (xs : Nat → Int32) : x_R x_mt (some (3, xs)) 13 M_law (18, [(3, .int 0), (2, .ref 75), (1, .ref 0), (0, .ref x_scr)], [], x_h0, 98, 10728) x_P := by
  refine x_R.steps 5 (c' := (24, [(3, .int 0), (2, .ref 75), (1, .ref 0), (0, .ref x_scr)], [.int (-3), .int 0], x_h0, 98, 10728)) rfl ?_
  refine x_R.steps 1 (c' := (2376, [(3, .int 0), (2, .ref 75), (1, .ref 0), (0, .ref x_scr)], [], x_h0, 98, 10728)) rfl ?_
  refine x_R.steps 1 (c' := (2377, [(3, .int 0), (2, .ref 75), (1, .ref 0), (0, .ref x_scr)], [.int 1], x_h0, 98, 10728)) rfl ?_
  exact x_R.ret (v := some (.int 1)) rfl x_fin
set_option maxRecDepth 100000 in
set_option maxHeartbeats 4000000 in
theorem x_len4 (xs : Nat → Int32) : x_R x_mt (some (4, xs)) 13 M_law (18, [(3, .int 0), (2, .ref 75), (1, .ref 0), (0, .ref x_scr)], [], x_h0, 98, 10728) x_P := by
  refine x_R.steps 5 (c' := (24, [(3, .int 0), (2, .ref 75), (1, .ref 0), (0, .ref x_scr)], [.int (-2), .int 0], x_h0, 98, 10728)) rfl ?_
  refine x_R.steps 1 (c' := (2376, [(3, .int 0), (2, .ref 75), (1, .ref 0), (0, .ref x_scr)], [], x_h0, 98, 10728)) rfl ?_
  refine x_R.steps 1 (c' := (2377, [(3, .int 0), (2, .ref 75), (1, .ref 0), (0, .ref x_scr)], [.int 1], x_h0, 98, 10728)) rfl ?_
  exact x_R.ret (v := some (.int 1)) rfl x_fin
set_option maxRecDepth 100000 in
set_option maxHeartbeats 4000000 in
theorem x_len5 (xs : Nat → Int32) : x_R x_mt (some (5, xs)) 13 M_law (18, [(3, .int 0), (2, .ref 75), (1, .ref 0), (0, .ref x_scr)], [], x_h0, 98, 10728) x_P := by
  refine x_R.steps 5 (c' := (24, [(3, .int 0), (2, .ref 75), (1, .ref 0), (0, .ref x_scr)], [.int (-1), .int 0], x_h0, 98, 10728)) rfl ?_
  refine x_R.steps 1 (c' := (2376, [(3, .int 0), (2, .ref 75), (1, .ref 0), (0, .ref x_scr)], [], x_h0, 98, 10728)) rfl ?_
  refine x_R.steps 1 (c' := (2377, [(3, .int 0), (2, .ref 75), (1, .ref 0), (0, .ref x_scr)], [.int 1], x_h0, 98, 10728)) rfl ?_
  exact x_R.ret (v := some (.int 1)) rfl x_fin
theorem x_law_6 : ∀ (L : Nat) (xs : Nat → Int32), L ≤ 6 → ∃ (n : Nat) (h' : xH) (k' z' : Nat), x_run x_mt (some (L, xs)) n 13 M_law (0, [(0, .ref x_scr)], [], [], 0, 0) = some (some (.int 1), h', k', z') ∧ k' ≤ room_1.cells ∧ z' ≤ room_1.slots := by
  intro L xs hL
  have key : x_R x_mt (some (L, xs)) 13 M_law (0, [(0, .ref x_scr)], [], [], 0, 0) x_P := by
    refine x_pre ?_
    match L, hL with
    | 0, _ => exact x_len0 xs
    | 1, _ => exact x_len1 xs
    | 2, _ => exact x_len2 xs
    | 3, _ => exact x_len3 xs
    | 4, _ => exact x_len4 xs
    | 5, _ => exact x_len5 xs
    | 6, _ => exact x_six xs
    | l + 7, h => exact absurd h (by omega)
  obtain ⟨n, ⟨v, h', k', z'⟩, h1, h2, h3, h4⟩ := key
  dsimp only at h2 h3 h4
  subst h2
  exact ⟨n, h', k', z', h1, h3, h4⟩
