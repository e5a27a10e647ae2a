theorem dc_cX12_fits_1 : ∀ r ∈ k_cX12_fits_1, decode cX12_fits r.1 = .ok (r.2.1, r.2.2.1) := x_wall_ok _ 53 [172] (x_win_of (by decide +kernel)) (by decide +kernel)
theorem wc_cX12_fits_1 : ∀ r ∈ k_cX12_fits_1, x_okW x_mt M_cX12_fits r := (x_al x_e_ireturn x_an)
theorem dc_cX12_fits_0 : ∀ r ∈ k_cX12_fits_0, decode cX12_fits r.1 = .ok (r.2.1, r.2.2.1) := x_wall_ok _ 0 [42, 27, 182, 1, 197, 61, 28, 156, 0, 5, 28, 172, 3, 62, 3, 54, 4, 21, 4, 42, 180, 0, 9, 8, 46, 162, 0, 27, 29, 42, 27, 21, 4, 182, 1, 205, 153, 0, 7, 4, 167, 0, 4, 3, 96, 62, 132, 4, 1, 167, 255, 224, 29] (x_win_of (by decide +kernel)) (by decide +kernel)
theorem wc_cX12_fits_0 : ∀ r ∈ k_cX12_fits_0, x_okW x_mt M_cX12_fits r := (x_al x_e_aload_n (x_al x_e_iload_n (x_al ⟨rfl, (Or.inr (Or.inr ⟨x_ab rfl, xk_RX12_453⟩))⟩ (x_al ⟨rfl, (Nat.le_of_ble_eq_true rfl)⟩ (x_al x_e_iload_n (x_al x_e_ifCond (x_al x_e_iload_n (x_al x_e_ireturn (x_al x_e_iconst (x_al ⟨rfl, (Nat.le_of_ble_eq_true rfl)⟩ (x_al x_e_iconst (x_al ⟨rfl, (Nat.le_of_ble_eq_true rfl)⟩ (x_al x_e_iload (x_al x_e_aload_n (x_al ⟨rfl, xf_RX12_9⟩ (x_al x_e_iconst (x_al x_e_iaload (x_al x_e_if_icmp (x_al x_e_iload_n (x_al x_e_aload_n (x_al x_e_iload_n (x_al x_e_iload (x_al ⟨rfl, (Or.inr (Or.inr ⟨x_ab rfl, xk_RX12_461⟩))⟩ (x_al x_e_ifCond (x_al x_e_iconst (x_al x_e_goto (x_al x_e_iconst (x_al x_e_iadd (x_al ⟨rfl, (Nat.le_of_ble_eq_true rfl)⟩ (x_al ⟨rfl, (Nat.le_of_ble_eq_true rfl)⟩ (x_al x_e_goto (x_al x_e_iload_n x_an))))))))))))))))))))))))))))))))
set_option maxRecDepth 20000 in
theorem rk_cX12_fits : ∀ q ∈ x_rws M_cX12_fits, ∀ r ∈ q.2, x_okR x_mt M_cX12_fits r := x_okRs (x_al (x_dec rfl dc_cX12_fits_0) (x_al (x_dec rfl dc_cX12_fits_1) x_an)) (x_al wc_cX12_fits_0 (x_al wc_cX12_fits_1 x_an))
theorem ok_cX12_fits : x_okM x_mt M_cX12_fits := x_okMk (plainFor_of_name xN_RX12) rfl xV_RX12 (Nat.le_of_ble_eq_true rfl) (x_bw_in (x_t8 (i := 216) rfl) rfl) (x_bw_in (x_t1 (i := 13) rfl) rfl) (fun h => by cases h) (fun _ => ⟨(x_bw_in (x_t8 (i := 214) rfl) rfl), TX12, 47, rfl⟩) (fun _ _ => (x_bw_in (x_t8 (i := 215) rfl) rfl)) rk_cX12_fits
theorem dc_cX12_place_1 : ∀ r ∈ k_cX12_place_1, decode cX12_place r.1 = .ok (r.2.1, r.2.2.1) := x_wall_ok _ 61 [167, 255, 213, 2, 172] (x_win_of (by decide +kernel)) (by decide +kernel)
theorem wc_cX12_place_1 : ∀ r ∈ k_cX12_place_1, x_okW x_mt M_cX12_place r := (x_al x_e_goto (x_al x_e_iconst (x_al x_e_ireturn x_an)))
theorem dc_cX12_place_0 : ∀ r ∈ k_cX12_place_0, decode cX12_place r.1 = .ok (r.2.1, r.2.2.1) := x_wall_ok _ 0 [42, 27, 182, 1, 197, 62, 29, 156, 0, 5, 29, 172, 28, 54, 4, 3, 54, 5, 21, 5, 42, 180, 0, 9, 8, 46, 162, 0, 38, 21, 4, 155, 0, 33, 42, 27, 21, 5, 182, 1, 205, 154, 0, 6, 167, 0, 14, 21, 4, 154, 0, 6, 21, 5, 172, 132, 4, 255, 132, 5, 1] (x_win_of (by decide +kernel)) (by decide +kernel)
theorem wc_cX12_place_0 : ∀ r ∈ k_cX12_place_0, x_okW x_mt M_cX12_place r := (x_al x_e_aload_n (x_al x_e_iload_n (x_al ⟨rfl, (Or.inr (Or.inr ⟨x_ab rfl, xk_RX12_453⟩))⟩ (x_al ⟨rfl, (Nat.le_of_ble_eq_true rfl)⟩ (x_al x_e_iload_n (x_al x_e_ifCond (x_al x_e_iload_n (x_al x_e_ireturn (x_al x_e_iload_n (x_al ⟨rfl, (Nat.le_of_ble_eq_true rfl)⟩ (x_al x_e_iconst (x_al ⟨rfl, (Nat.le_of_ble_eq_true rfl)⟩ (x_al x_e_iload (x_al x_e_aload_n (x_al ⟨rfl, xf_RX12_9⟩ (x_al x_e_iconst (x_al x_e_iaload (x_al x_e_if_icmp (x_al x_e_iload (x_al x_e_ifCond (x_al x_e_aload_n (x_al x_e_iload_n (x_al x_e_iload (x_al ⟨rfl, (Or.inr (Or.inr ⟨x_ab rfl, xk_RX12_461⟩))⟩ (x_al x_e_ifCond (x_al x_e_goto (x_al x_e_iload (x_al x_e_ifCond (x_al x_e_iload (x_al x_e_ireturn (x_al ⟨rfl, (Nat.le_of_ble_eq_true rfl)⟩ (x_al ⟨rfl, (Nat.le_of_ble_eq_true rfl)⟩ x_an))))))))))))))))))))))))))))))))
set_option maxRecDepth 20000 in
theorem rk_cX12_place : ∀ q ∈ x_rws M_cX12_place, ∀ r ∈ q.2, x_okR x_mt M_cX12_place r := x_okRs (x_al (x_dec rfl dc_cX12_place_0) (x_al (x_dec rfl dc_cX12_place_1) x_an)) (x_al wc_cX12_place_0 (x_al wc_cX12_place_1 x_an))
theorem ok_cX12_place : x_okM x_mt M_cX12_place := x_okMk (plainFor_of_name xN_RX12) rfl xV_RX12 (Nat.le_of_ble_eq_true rfl) (x_bw_in (x_t8 (i := 224) rfl) rfl) (x_bw_in (x_t1 (i := 13) rfl) rfl) (fun h => by cases h) (fun _ => ⟨(x_bw_in (x_t8 (i := 222) rfl) rfl), TX12, 47, rfl⟩) (fun _ _ => (x_bw_in (x_t8 (i := 223) rfl) rfl)) rk_cX12_place
theorem dc_cX12_next_1 : ∀ r ∈ k_cX12_next_1, decode cX12_next r.1 = .ok (r.2.1, r.2.2.1) := x_wall_ok _ 54 [54, 5, 29, 2, 159, 0, 11, 21, 5, 29, 159, 0, 5, 2, 172, 21, 5, 62, 132, 4, 1, 167, 255, 198, 29, 172] (x_win_of (by decide +kernel)) (by decide +kernel)
theorem wc_cX12_next_1 : ∀ r ∈ k_cX12_next_1, x_okW x_mt M_cX12_next r := (x_al ⟨rfl, (Nat.le_of_ble_eq_true rfl)⟩ (x_al x_e_iload_n (x_al x_e_iconst (x_al x_e_if_icmp (x_al x_e_iload (x_al x_e_iload_n (x_al x_e_if_icmp (x_al x_e_iconst (x_al x_e_ireturn (x_al x_e_iload (x_al ⟨rfl, (Nat.le_of_ble_eq_true rfl)⟩ (x_al ⟨rfl, (Nat.le_of_ble_eq_true rfl)⟩ (x_al x_e_goto (x_al x_e_iload_n (x_al x_e_ireturn x_an)))))))))))))))
theorem dc_cX12_next_0 : ∀ r ∈ k_cX12_next_0, decode cX12_next r.1 = .ok (r.2.1, r.2.2.1) := x_wall_ok _ 0 [42, 27, 182, 1, 197, 61, 28, 156, 0, 5, 28, 172, 2, 62, 3, 54, 4, 21, 4, 42, 180, 0, 9, 8, 46, 162, 0, 53, 42, 27, 21, 4, 182, 1, 205, 154, 0, 6, 167, 0, 34, 42, 21, 4, 42, 180, 0, 71, 27, 46, 96, 182, 1, 184] (x_win_of (by decide +kernel)) (by decide +kernel)
theorem wc_cX12_next_0 : ∀ r ∈ k_cX12_next_0, x_okW x_mt M_cX12_next r := (x_al x_e_aload_n (x_al x_e_iload_n (x_al ⟨rfl, (Or.inr (Or.inr ⟨x_ab rfl, xk_RX12_453⟩))⟩ (x_al ⟨rfl, (Nat.le_of_ble_eq_true rfl)⟩ (x_al x_e_iload_n (x_al x_e_ifCond (x_al x_e_iload_n (x_al x_e_ireturn (x_al x_e_iconst (x_al ⟨rfl, (Nat.le_of_ble_eq_true rfl)⟩ (x_al x_e_iconst (x_al ⟨rfl, (Nat.le_of_ble_eq_true rfl)⟩ (x_al x_e_iload (x_al x_e_aload_n (x_al ⟨rfl, xf_RX12_9⟩ (x_al x_e_iconst (x_al x_e_iaload (x_al x_e_if_icmp (x_al x_e_aload_n (x_al x_e_iload_n (x_al x_e_iload (x_al ⟨rfl, (Or.inr (Or.inr ⟨x_ab rfl, xk_RX12_461⟩))⟩ (x_al x_e_ifCond (x_al x_e_goto (x_al x_e_aload_n (x_al x_e_iload (x_al x_e_aload_n (x_al ⟨rfl, xf_RX12_71⟩ (x_al x_e_iload_n (x_al x_e_iaload (x_al x_e_iadd (x_al ⟨rfl, (Or.inr (Or.inr ⟨x_ab rfl, xk_RX12_440⟩))⟩ x_an))))))))))))))))))))))))))))))))
set_option maxRecDepth 20000 in
theorem rk_cX12_next : ∀ q ∈ x_rws M_cX12_next, ∀ r ∈ q.2, x_okR x_mt M_cX12_next r := x_okRs (x_al (x_dec rfl dc_cX12_next_0) (x_al (x_dec rfl dc_cX12_next_1) x_an)) (x_al wc_cX12_next_0 (x_al wc_cX12_next_1 x_an))
theorem ok_cX12_next : x_okM x_mt M_cX12_next := x_okMk (plainFor_of_name xN_RX12) rfl xV_RX12 (Nat.le_of_ble_eq_true rfl) (x_bw_in (x_t8 (i := 228) rfl) rfl) (x_bw_in (x_t1 (i := 13) rfl) rfl) (fun h => by cases h) (fun _ => ⟨(x_bw_in (x_t8 (i := 226) rfl) rfl), TX12, 47, rfl⟩) (fun _ _ => (x_bw_in (x_t8 (i := 227) rfl) rfl)) rk_cX12_next
theorem dc_cX12_goesAlike_0 : ∀ r ∈ k_cX12_goesAlike_0, decode cX12_goesAlike r.1 = .ok (r.2.1, r.2.2.1) := x_wall_ok _ 0 [3, 54, 4, 21, 4, 29, 162, 0, 30, 42, 27, 21, 4, 96, 182, 1, 184, 42, 28, 21, 4, 96, 182, 1, 184, 159, 0, 5, 3, 172, 132, 4, 1, 167, 255, 226, 4, 172] (x_win_of (by decide +kernel)) (by decide +kernel)
theorem wc_cX12_goesAlike_0 : ∀ r ∈ k_cX12_goesAlike_0, x_okW x_mt M_cX12_goesAlike r := (x_al x_e_iconst (x_al ⟨rfl, (Nat.le_of_ble_eq_true rfl)⟩ (x_al x_e_iload (x_al x_e_iload_n (x_al x_e_if_icmp (x_al x_e_aload_n (x_al x_e_iload_n (x_al x_e_iload (x_al x_e_iadd (x_al ⟨rfl, (Or.inr (Or.inr ⟨x_ab rfl, xk_RX12_440⟩))⟩ (x_al x_e_aload_n (x_al x_e_iload_n (x_al x_e_iload (x_al x_e_iadd (x_al ⟨rfl, (Or.inr (Or.inr ⟨x_ab rfl, xk_RX12_440⟩))⟩ (x_al x_e_if_icmp (x_al x_e_iconst (x_al x_e_ireturn (x_al ⟨rfl, (Nat.le_of_ble_eq_true rfl)⟩ (x_al x_e_goto (x_al x_e_iconst (x_al x_e_ireturn x_an))))))))))))))))))))))
set_option maxRecDepth 20000 in
theorem rk_cX12_goesAlike : ∀ q ∈ x_rws M_cX12_goesAlike, ∀ r ∈ q.2, x_okR x_mt M_cX12_goesAlike r := x_okRs (x_al (x_dec rfl dc_cX12_goesAlike_0) x_an) (x_al wc_cX12_goesAlike_0 x_an)
theorem ok_cX12_goesAlike : x_okM x_mt M_cX12_goesAlike := x_okMk (plainFor_of_name xN_RX12) rfl xV_RX12 (Nat.le_of_ble_eq_true rfl) (x_bw_in (x_t9 (i := 0) rfl) rfl) (x_bw_in (x_t1 (i := 13) rfl) rfl) (fun h => by cases h) (fun _ => ⟨(x_bw_in (x_t8 (i := 239) rfl) rfl), TX12, 47, rfl⟩) (fun _ _ => (x_bw_in (x_t0 (i := 105) rfl) rfl)) rk_cX12_goesAlike
theorem dc_cX12_neededFrom_1 : ∀ r ∈ k_cX12_neededFrom_1, decode cX12_neededFrom r.1 = .ok (r.2.1, r.2.2.1) := x_wall_ok _ 53 [29, 4, 160, 0, 5, 28, 172, 132, 2, 1, 167, 255, 195, 2, 172] (x_win_of (by decide +kernel)) (by decide +kernel)
theorem wc_cX12_neededFrom_1 : ∀ r ∈ k_cX12_neededFrom_1, x_okW x_mt M_cX12_neededFrom r := (x_al x_e_iload_n (x_al x_e_iconst (x_al x_e_if_icmp (x_al x_e_iload_n (x_al x_e_ireturn (x_al ⟨rfl, (Nat.le_of_ble_eq_true rfl)⟩ (x_al x_e_goto (x_al x_e_iconst (x_al x_e_ireturn x_an)))))))))
theorem dc_cX12_neededFrom_0 : ∀ r ∈ k_cX12_neededFrom_0, decode cX12_neededFrom r.1 = .ok (r.2.1, r.2.2.1) := x_wall_ok _ 0 [3, 61, 28, 42, 180, 0, 9, 8, 46, 163, 0, 57, 3, 62, 3, 54, 4, 21, 4, 42, 180, 0, 9, 8, 46, 162, 0, 28, 29, 42, 27, 21, 4, 28, 182, 1, 208, 153, 0, 7, 4, 167, 0, 4, 3, 96, 62, 132, 4, 1, 167, 255, 223] (x_win_of (by decide +kernel)) (by decide +kernel)
theorem wc_cX12_neededFrom_0 : ∀ r ∈ k_cX12_neededFrom_0, x_okW x_mt M_cX12_neededFrom r := (x_al x_e_iconst (x_al ⟨rfl, (Nat.le_of_ble_eq_true rfl)⟩ (x_al x_e_iload_n (x_al x_e_aload_n (x_al ⟨rfl, xf_RX12_9⟩ (x_al x_e_iconst (x_al x_e_iaload (x_al x_e_if_icmp (x_al x_e_iconst (x_al ⟨rfl, (Nat.le_of_ble_eq_true rfl)⟩ (x_al x_e_iconst (x_al ⟨rfl, (Nat.le_of_ble_eq_true rfl)⟩ (x_al x_e_iload (x_al x_e_aload_n (x_al ⟨rfl, xf_RX12_9⟩ (x_al x_e_iconst (x_al x_e_iaload (x_al x_e_if_icmp (x_al x_e_iload_n (x_al x_e_aload_n (x_al x_e_iload_n (x_al x_e_iload (x_al x_e_iload_n (x_al ⟨rfl, (Or.inr (Or.inr ⟨x_ab rfl, xk_RX12_464⟩))⟩ (x_al x_e_ifCond (x_al x_e_iconst (x_al x_e_goto (x_al x_e_iconst (x_al x_e_iadd (x_al ⟨rfl, (Nat.le_of_ble_eq_true rfl)⟩ (x_al ⟨rfl, (Nat.le_of_ble_eq_true rfl)⟩ (x_al x_e_goto x_an))))))))))))))))))))))))))))))))
set_option maxRecDepth 20000 in
theorem rk_cX12_neededFrom : ∀ q ∈ x_rws M_cX12_neededFrom, ∀ r ∈ q.2, x_okR x_mt M_cX12_neededFrom r := x_okRs (x_al (x_dec rfl dc_cX12_neededFrom_0) (x_al (x_dec rfl dc_cX12_neededFrom_1) x_an)) (x_al wc_cX12_neededFrom_0 (x_al wc_cX12_neededFrom_1 x_an))
theorem ok_cX12_neededFrom : x_okM x_mt M_cX12_neededFrom := x_okMk (plainFor_of_name xN_RX12) rfl xV_RX12 (Nat.le_of_ble_eq_true rfl) (x_bw_in (x_t8 (i := 236) rfl) rfl) (x_bw_in (x_t1 (i := 13) rfl) rfl) (fun h => by cases h) (fun _ => ⟨(x_bw_in (x_t8 (i := 235) rfl) rfl), TX12, 47, rfl⟩) (fun _ _ => (x_bw_in (x_t0 (i := 104) rfl) rfl)) rk_cX12_neededFrom
theorem dc_cX12_needed_0 : ∀ r ∈ k_cX12_needed_0, decode cX12_needed r.1 = .ok (r.2.1, r.2.2.1) := x_wall_ok _ 0 [42, 27, 182, 1, 11, 153, 0, 11, 42, 27, 182, 1, 212, 167, 0, 5, 16, 254, 172] (x_win_of (by decide +kernel)) (by decide +kernel)
theorem wc_cX12_needed_0 : ∀ r ∈ k_cX12_needed_0, x_okW x_mt M_cX12_needed r := (x_al x_e_aload_n (x_al x_e_iload_n (x_al ⟨rfl, (Or.inr (Or.inr ⟨x_ab rfl, xk_RX12_267⟩))⟩ (x_al x_e_ifCond (x_al x_e_aload_n (x_al x_e_iload_n (x_al ⟨rfl, (Or.inr (Or.inr ⟨x_ab rfl, xk_RX12_468⟩))⟩ (x_al x_e_goto (x_al x_e_bipush (x_al x_e_ireturn x_an))))))))))
set_option maxRecDepth 20000 in
theorem rk_cX12_needed : ∀ q ∈ x_rws M_cX12_needed, ∀ r ∈ q.2, x_okR x_mt M_cX12_needed r := x_okRs (x_al (x_dec rfl dc_cX12_needed_0) x_an) (x_al wc_cX12_needed_0 x_an)
theorem ok_cX12_needed : x_okM x_mt M_cX12_needed := x_okMk (plainFor_of_name xN_RX12) rfl xV_RX12 (Nat.le_of_ble_eq_true rfl) (x_bw_in (x_t8 (i := 232) rfl) rfl) (x_bw_in (x_t1 (i := 13) rfl) rfl) (fun h => by cases h) (fun _ => ⟨(x_bw_in (x_t8 (i := 230) rfl) rfl), TX12, 47, rfl⟩) (fun _ _ => (x_bw_in (x_t8 (i := 231) rfl) rfl)) rk_cX12_needed
theorem dc_cX12_known_0 : ∀ r ∈ k_cX12_known_0, decode cX12_known r.1 = .ok (r.2.1, r.2.2.1) := x_wall_ok _ 0 [42, 182, 1, 26, 154, 0, 6, 16, 254, 172, 2, 60, 3, 61, 28, 42, 180, 0, 9, 8, 46, 162, 0, 28, 42, 28, 182, 1, 212, 62, 29, 2, 160, 0, 5, 2, 172, 27, 29, 184, 1, 81, 60, 132, 2, 1, 167, 255, 224, 27, 172] (x_win_of (by decide +kernel)) (by decide +kernel)
theorem wc_cX12_known_0 : ∀ r ∈ k_cX12_known_0, x_okW x_mt M_cX12_known r := (x_al x_e_aload_n (x_al ⟨rfl, (Or.inr (Or.inr ⟨x_ab rfl, xk_RX12_282⟩))⟩ (x_al x_e_ifCond (x_al x_e_bipush (x_al x_e_ireturn (x_al x_e_iconst (x_al ⟨rfl, (Nat.le_of_ble_eq_true rfl)⟩ (x_al x_e_iconst (x_al ⟨rfl, (Nat.le_of_ble_eq_true rfl)⟩ (x_al x_e_iload_n (x_al x_e_aload_n (x_al ⟨rfl, xf_RX12_9⟩ (x_al x_e_iconst (x_al x_e_iaload (x_al x_e_if_icmp (x_al x_e_aload_n (x_al x_e_iload_n (x_al ⟨rfl, (Or.inr (Or.inr ⟨x_ab rfl, xk_RX12_468⟩))⟩ (x_al ⟨rfl, (Nat.le_of_ble_eq_true rfl)⟩ (x_al x_e_iload_n (x_al x_e_iconst (x_al x_e_if_icmp (x_al x_e_iconst (x_al x_e_ireturn (x_al x_e_iload_n (x_al x_e_iload_n (x_al ⟨rfl, (Or.inl ⟨rfl, xo_RX12_337, x_mmax⟩)⟩ (x_al ⟨rfl, (Nat.le_of_ble_eq_true rfl)⟩ (x_al ⟨rfl, (Nat.le_of_ble_eq_true rfl)⟩ (x_al x_e_goto (x_al x_e_iload_n (x_al x_e_ireturn x_an))))))))))))))))))))))))))))))))
set_option maxRecDepth 20000 in
theorem rk_cX12_known : ∀ q ∈ x_rws M_cX12_known, ∀ r ∈ q.2, x_okR x_mt M_cX12_known r := x_okRs (x_al (x_dec rfl dc_cX12_known_0) x_an) (x_al wc_cX12_known_0 x_an)
theorem ok_cX12_known : x_okM x_mt M_cX12_known := x_okMk (plainFor_of_name xN_RX12) rfl xV_RX12 (Nat.le_of_ble_eq_true rfl) (x_bw_in (x_t9 (i := 4) rfl) rfl) (x_bw_in (x_t1 (i := 13) rfl) rfl) (fun h => by cases h) (fun _ => ⟨(x_bw_in (x_t9 (i := 2) rfl) rfl), TX12, 47, rfl⟩) (fun _ _ => (x_bw_in (x_t9 (i := 3) rfl) rfl)) rk_cX12_known
theorem dc_cX12_rashOf_0 : ∀ r ∈ k_cX12_rashOf_0, decode cX12_rashOf r.1 = .ok (r.2.1, r.2.2.1) := x_wall_ok _ 0 [42, 27, 182, 1, 72, 42, 4, 181, 1, 68, 42, 182, 1, 106, 16, 10, 42, 180, 1, 90, 42, 180, 1, 93, 100, 104, 16, 20, 42, 180, 1, 93, 104, 100, 172] (x_win_of (by decide +kernel)) (by decide +kernel)
theorem wc_cX12_rashOf_0 : ∀ r ∈ k_cX12_rashOf_0, x_okW x_mt M_cX12_rashOf r := (x_al x_e_aload_n (x_al x_e_iload_n (x_al ⟨rfl, (Or.inr (Or.inr ⟨x_ab rfl, xk_RX12_328⟩))⟩ (x_al x_e_aload_n (x_al x_e_iconst (x_al ⟨rfl, (xp_RX12_324 _)⟩ (x_al x_e_aload_n (x_al ⟨rfl, (Or.inr (Or.inr ⟨x_ab rfl, xk_RX12_362⟩))⟩ (x_al x_e_bipush (x_al x_e_aload_n (x_al ⟨rfl, xf_RX12_346⟩ (x_al x_e_aload_n (x_al ⟨rfl, xf_RX12_349⟩ (x_al x_e_isub (x_al x_e_imul (x_al x_e_bipush (x_al x_e_aload_n (x_al ⟨rfl, xf_RX12_349⟩ (x_al x_e_imul (x_al x_e_isub (x_al x_e_ireturn x_an)))))))))))))))))))))
set_option maxRecDepth 20000 in
theorem rk_cX12_rashOf : ∀ q ∈ x_rws M_cX12_rashOf, ∀ r ∈ q.2, x_okR x_mt M_cX12_rashOf r := x_okRs (x_al (x_dec rfl dc_cX12_rashOf_0) x_an) (x_al wc_cX12_rashOf_0 x_an)
theorem ok_cX12_rashOf : x_okM x_mt M_cX12_rashOf := x_okMk (plainFor_of_name xN_RX12) rfl xV_RX12 (Nat.le_of_ble_eq_true rfl) (x_bw_in (x_t9 (i := 12) rfl) rfl) (x_bw_in (x_t1 (i := 13) rfl) rfl) (fun h => by cases h) (fun _ => ⟨(x_bw_in (x_t9 (i := 11) rfl) rfl), TX12, 47, rfl⟩) (fun _ _ => (x_bw_in (x_t0 (i := 106) rfl) rfl)) rk_cX12_rashOf
theorem dc_cX12_rash_0 : ∀ r ∈ k_cX12_rash_0, decode cX12_rash r.1 = .ok (r.2.1, r.2.2.1) := x_wall_ok _ 0 [42, 27, 182, 1, 14, 154, 0, 7, 17, 248, 48, 172, 42, 182, 1, 29, 42, 27, 182, 1, 215, 172] (x_win_of (by decide +kernel)) (by decide +kernel)
theorem wc_cX12_rash_0 : ∀ r ∈ k_cX12_rash_0, x_okW x_mt M_cX12_rash r := (x_al x_e_aload_n (x_al x_e_iload_n (x_al ⟨rfl, (Or.inr (Or.inr ⟨x_ab rfl, xk_RX12_270⟩))⟩ (x_al x_e_ifCond (x_al x_e_sipush (x_al x_e_ireturn (x_al x_e_aload_n (x_al ⟨rfl, (Or.inr (Or.inr ⟨x_ab rfl, xk_RX12_285⟩))⟩ (x_al x_e_aload_n (x_al x_e_iload_n (x_al ⟨rfl, (Or.inr (Or.inr ⟨x_ab rfl, xk_RX12_471⟩))⟩ (x_al x_e_ireturn x_an))))))))))))
set_option maxRecDepth 20000 in
theorem rk_cX12_rash : ∀ q ∈ x_rws M_cX12_rash, ∀ r ∈ q.2, x_okR x_mt M_cX12_rash r := x_okRs (x_al (x_dec rfl dc_cX12_rash_0) x_an) (x_al wc_cX12_rash_0 x_an)
theorem ok_cX12_rash : x_okM x_mt M_cX12_rash := x_okMk (plainFor_of_name xN_RX12) rfl xV_RX12 (Nat.le_of_ble_eq_true rfl) (x_bw_in (x_t9 (i := 8) rfl) rfl) (x_bw_in (x_t1 (i := 13) rfl) rfl) (fun h => by cases h) (fun _ => ⟨(x_bw_in (x_t9 (i := 6) rfl) rfl), TX12, 47, rfl⟩) (fun _ _ => (x_bw_in (x_t9 (i := 7) rfl) rfl)) rk_cX12_rash
theorem dc_cX12_lookOf_0 : ∀ r ∈ k_cX12_lookOf_0, decode cX12_lookOf r.1 = .ok (r.2.1, r.2.2.1) := x_wall_ok _ 0 [42, 27, 182, 1, 72, 42, 89, 180, 1, 56, 28, 96, 181, 1, 56, 42, 3, 181, 1, 59, 42, 182, 1, 106, 16, 10, 42, 180, 1, 90, 104, 172] (x_win_of (by decide +kernel)) (by decide +kernel)
theorem wc_cX12_lookOf_0 : ∀ r ∈ k_cX12_lookOf_0, x_okW x_mt M_cX12_lookOf r := (x_al x_e_aload_n (x_al x_e_iload_n (x_al ⟨rfl, (Or.inr (Or.inr ⟨x_ab rfl, xk_RX12_328⟩))⟩ (x_al x_e_aload_n (x_al x_e_dup (x_al ⟨rfl, xf_RX12_312⟩ (x_al x_e_iload_n (x_al x_e_iadd (x_al ⟨rfl, (xp_RX12_312 _)⟩ (x_al x_e_aload_n (x_al x_e_iconst (x_al ⟨rfl, (xp_RX12_315 _)⟩ (x_al x_e_aload_n (x_al ⟨rfl, (Or.inr (Or.inr ⟨x_ab rfl, xk_RX12_362⟩))⟩ (x_al x_e_bipush (x_al x_e_aload_n (x_al ⟨rfl, xf_RX12_346⟩ (x_al x_e_imul (x_al x_e_ireturn x_an)))))))))))))))))))
set_option maxRecDepth 20000 in
theorem rk_cX12_lookOf : ∀ q ∈ x_rws M_cX12_lookOf, ∀ r ∈ q.2, x_okR x_mt M_cX12_lookOf r := x_okRs (x_al (x_dec rfl dc_cX12_lookOf_0) x_an) (x_al wc_cX12_lookOf_0 x_an)
theorem ok_cX12_lookOf : x_okM x_mt M_cX12_lookOf := x_okMk (plainFor_of_name xN_RX12) rfl xV_RX12 (Nat.le_of_ble_eq_true rfl) (x_bw_in (x_t9 (i := 21) rfl) rfl) (x_bw_in (x_t1 (i := 13) rfl) rfl) (fun h => by cases h) (fun _ => ⟨(x_bw_in (x_t9 (i := 20) rfl) rfl), TX12, 47, rfl⟩) (fun _ _ => (x_bw_in (x_t0 (i := 107) rfl) rfl)) rk_cX12_lookOf
theorem dc_cX12_look_0 : ∀ r ∈ k_cX12_look_0, decode cX12_look r.1 = .ok (r.2.1, r.2.2.1) := x_wall_ok _ 0 [42, 27, 182, 1, 14, 153, 0, 15, 28, 133, 9, 20, 1, 218, 184, 0, 88, 154, 0, 7, 17, 248, 48, 172, 42, 182, 1, 29, 42, 27, 28, 182, 1, 220, 172] (x_win_of (by decide +kernel)) (by decide +kernel)
theorem wc_cX12_look_0 : ∀ r ∈ k_cX12_look_0, x_okW x_mt M_cX12_look r := (x_al x_e_aload_n (x_al x_e_iload_n (x_al ⟨rfl, (Or.inr (Or.inr ⟨x_ab rfl, xk_RX12_270⟩))⟩ (x_al x_e_ifCond (x_al x_e_iload_n (x_al x_e_i2l (x_al x_e_lconst (x_al ⟨rfl, xc_RX12_474⟩ (x_al ⟨rfl, (Or.inr (Or.inr (Or.inr (Or.inr ⟨x_ab rfl, xk_RX12_88⟩))))⟩ (x_al x_e_ifCond (x_al x_e_sipush (x_al x_e_ireturn (x_al x_e_aload_n (x_al ⟨rfl, (Or.inr (Or.inr ⟨x_ab rfl, xk_RX12_285⟩))⟩ (x_al x_e_aload_n (x_al x_e_iload_n (x_al x_e_iload_n (x_al ⟨rfl, (Or.inr (Or.inr ⟨x_ab rfl, xk_RX12_476⟩))⟩ (x_al x_e_ireturn x_an)))))))))))))))))))
set_option maxRecDepth 20000 in
theorem rk_cX12_look : ∀ q ∈ x_rws M_cX12_look, ∀ r ∈ q.2, x_okR x_mt M_cX12_look r := x_okRs (x_al (x_dec rfl dc_cX12_look_0) x_an) (x_al wc_cX12_look_0 x_an)
theorem ok_cX12_look : x_okM x_mt M_cX12_look := x_okMk (plainFor_of_name xN_RX12) rfl xV_RX12 (Nat.le_of_ble_eq_true rfl) (x_bw_in (x_t9 (i := 16) rfl) rfl) (x_bw_in (x_t1 (i := 13) rfl) rfl) (fun h => by cases h) (fun _ => ⟨(x_bw_in (x_t9 (i := 14) rfl) rfl), TX12, 47, rfl⟩) (fun _ _ => (x_bw_in (x_t9 (i := 15) rfl) rfl)) rk_cX12_look
theorem dc_cX12_line_0 : ∀ r ∈ k_cX12_line_0, decode cX12_line r.1 = .ok (r.2.1, r.2.2.1) := x_wall_ok _ 0 [42, 27, 182, 1, 14, 154, 0, 6, 16, 254, 172, 42, 182, 1, 29, 42, 27, 182, 1, 215, 61, 16, 20, 62, 29, 155, 0, 21, 42, 27, 29, 182, 1, 220, 28, 161, 0, 5, 29, 172, 132, 3, 255, 167, 255, 237, 2, 172] (x_win_of (by decide +kernel)) (by decide +kernel)
theorem wc_cX12_line_0 : ∀ r ∈ k_cX12_line_0, x_okW x_mt M_cX12_line r := (x_al x_e_aload_n (x_al x_e_iload_n (x_al ⟨rfl, (Or.inr (Or.inr ⟨x_ab rfl, xk_RX12_270⟩))⟩ (x_al x_e_ifCond (x_al x_e_bipush (x_al x_e_ireturn (x_al x_e_aload_n (x_al ⟨rfl, (Or.inr (Or.inr ⟨x_ab rfl, xk_RX12_285⟩))⟩ (x_al x_e_aload_n (x_al x_e_iload_n (x_al ⟨rfl, (Or.inr (Or.inr ⟨x_ab rfl, xk_RX12_471⟩))⟩ (x_al ⟨rfl, (Nat.le_of_ble_eq_true rfl)⟩ (x_al x_e_bipush (x_al ⟨rfl, (Nat.le_of_ble_eq_true rfl)⟩ (x_al x_e_iload_n (x_al x_e_ifCond (x_al x_e_aload_n (x_al x_e_iload_n (x_al x_e_iload_n (x_al ⟨rfl, (Or.inr (Or.inr ⟨x_ab rfl, xk_RX12_476⟩))⟩ (x_al x_e_iload_n (x_al x_e_if_icmp (x_al x_e_iload_n (x_al x_e_ireturn (x_al ⟨rfl, (Nat.le_of_ble_eq_true rfl)⟩ (x_al x_e_goto (x_al x_e_iconst (x_al x_e_ireturn x_an))))))))))))))))))))))))))))
set_option maxRecDepth 20000 in
theorem rk_cX12_line : ∀ q ∈ x_rws M_cX12_line, ∀ r ∈ q.2, x_okR x_mt M_cX12_line r := x_okRs (x_al (x_dec rfl dc_cX12_line_0) x_an) (x_al wc_cX12_line_0 x_an)
theorem ok_cX12_line : x_okM x_mt M_cX12_line := x_okMk (plainFor_of_name xN_RX12) rfl xV_RX12 (Nat.le_of_ble_eq_true rfl) (x_bw_in (x_t9 (i := 25) rfl) rfl) (x_bw_in (x_t1 (i := 13) rfl) rfl) (fun h => by cases h) (fun _ => ⟨(x_bw_in (x_t9 (i := 23) rfl) rfl), TX12, 47, rfl⟩) (fun _ _ => (x_bw_in (x_t9 (i := 24) rfl) rfl)) rk_cX12_line
theorem dc_cX12_hitsOn_0 : ∀ r ∈ k_cX12_hitsOn_0, decode cX12_hitsOn r.1 = .ok (r.2.1, r.2.2.1) := x_wall_ok _ 0 [42, 27, 182, 1, 72, 42, 28, 181, 1, 65, 42, 182, 1, 106, 42, 180, 1, 90, 172] (x_win_of (by decide +kernel)) (by decide +kernel)
theorem wc_cX12_hitsOn_0 : ∀ r ∈ k_cX12_hitsOn_0, x_okW x_mt M_cX12_hitsOn r := (x_al x_e_aload_n (x_al x_e_iload_n (x_al ⟨rfl, (Or.inr (Or.inr ⟨x_ab rfl, xk_RX12_328⟩))⟩ (x_al x_e_aload_n (x_al x_e_iload_n (x_al ⟨rfl, (xp_RX12_321 _)⟩ (x_al x_e_aload_n (x_al ⟨rfl, (Or.inr (Or.inr ⟨x_ab rfl, xk_RX12_362⟩))⟩ (x_al x_e_aload_n (x_al ⟨rfl, xf_RX12_346⟩ (x_al x_e_ireturn x_an)))))))))))
set_option maxRecDepth 20000 in
theorem rk_cX12_hitsOn : ∀ q ∈ x_rws M_cX12_hitsOn, ∀ r ∈ q.2, x_okR x_mt M_cX12_hitsOn r := x_okRs (x_al (x_dec rfl dc_cX12_hitsOn_0) x_an) (x_al wc_cX12_hitsOn_0 x_an)
theorem ok_cX12_hitsOn : x_okM x_mt M_cX12_hitsOn := x_okMk (plainFor_of_name xN_RX12) rfl xV_RX12 (Nat.le_of_ble_eq_true rfl) (x_bw_in (x_t9 (i := 33) rfl) rfl) (x_bw_in (x_t1 (i := 13) rfl) rfl) (fun h => by cases h) (fun _ => ⟨(x_bw_in (x_t9 (i := 32) rfl) rfl), TX12, 47, rfl⟩) (fun _ _ => (x_bw_in (x_t0 (i := 108) rfl) rfl)) rk_cX12_hitsOn
theorem dc_cX12_two_2 : ∀ r ∈ k_cX12_two_2, decode cX12_two r.1 = .ok (r.2.1, r.2.2.1) := x_wall_ok _ 116 [167, 0, 5, 21, 5, 172] (x_win_of (by decide +kernel)) (by decide +kernel)
theorem wc_cX12_two_2 : ∀ r ∈ k_cX12_two_2, x_okW x_mt M_cX12_two r := (x_al x_e_goto (x_al x_e_iload (x_al x_e_ireturn x_an)))
theorem dc_cX12_two_1 : ∀ r ∈ k_cX12_two_1, decode cX12_two r.1 = .ok (r.2.1, r.2.2.1) := x_wall_ok _ 54 [3, 54, 7, 21, 7, 21, 4, 163, 0, 49, 42, 27, 21, 7, 182, 1, 223, 42, 28, 21, 4, 21, 7, 2, 130, 126, 182, 1, 223, 96, 54, 8, 21, 8, 21, 6, 163, 0, 6, 167, 0, 11, 21, 8, 54, 6, 21, 7, 54, 5, 132, 7, 1, 167, 255, 206, 29, 154, 0, 8, 21, 6] (x_win_of (by decide +kernel)) (by decide +kernel)
theorem wc_cX12_two_1 : ∀ r ∈ k_cX12_two_1, x_okW x_mt M_cX12_two r := (x_al x_e_iconst (x_al ⟨rfl, (Nat.le_of_ble_eq_true rfl)⟩ (x_al x_e_iload (x_al x_e_iload (x_al x_e_if_icmp (x_al x_e_aload_n (x_al x_e_iload_n (x_al x_e_iload (x_al ⟨rfl, (Or.inr (Or.inr ⟨x_ab rfl, xk_RX12_479⟩))⟩ (x_al x_e_aload_n (x_al x_e_iload_n (x_al x_e_iload (x_al x_e_iload (x_al x_e_iconst (x_al x_e_ixor (x_al x_e_iand (x_al ⟨rfl, (Or.inr (Or.inr ⟨x_ab rfl, xk_RX12_479⟩))⟩ (x_al x_e_iadd (x_al ⟨rfl, (Nat.le_of_ble_eq_true rfl)⟩ (x_al x_e_iload (x_al x_e_iload (x_al x_e_if_icmp (x_al x_e_goto (x_al x_e_iload (x_al ⟨rfl, (Nat.le_of_ble_eq_true rfl)⟩ (x_al x_e_iload (x_al ⟨rfl, (Nat.le_of_ble_eq_true rfl)⟩ (x_al ⟨rfl, (Nat.le_of_ble_eq_true rfl)⟩ (x_al x_e_goto (x_al x_e_iload_n (x_al x_e_ifCond (x_al x_e_iload x_an))))))))))))))))))))))))))))))))
theorem dc_cX12_two_0 : ∀ r ∈ k_cX12_two_0, decode cX12_two r.1 = .ok (r.2.1, r.2.2.1) := x_wall_ok _ 0 [42, 27, 182, 1, 14, 153, 0, 26, 42, 28, 182, 1, 14, 153, 0, 18, 27, 28, 159, 0, 13, 29, 133, 9, 10, 184, 0, 88, 154, 0, 6, 16, 254, 172, 42, 182, 1, 29, 4, 42, 182, 0, 92, 120, 4, 100, 54, 4, 3, 54, 5, 2, 54, 6] (x_win_of (by decide +kernel)) (by decide +kernel)
theorem wc_cX12_two_0 : ∀ r ∈ k_cX12_two_0, x_okW x_mt M_cX12_two r := (x_al x_e_aload_n (x_al x_e_iload_n (x_al ⟨rfl, (Or.inr (Or.inr ⟨x_ab rfl, xk_RX12_270⟩))⟩ (x_al x_e_ifCond (x_al x_e_aload_n (x_al x_e_iload_n (x_al ⟨rfl, (Or.inr (Or.inr ⟨x_ab rfl, xk_RX12_270⟩))⟩ (x_al x_e_ifCond (x_al x_e_iload_n (x_al x_e_iload_n (x_al x_e_if_icmp (x_al x_e_iload_n (x_al x_e_i2l (x_al x_e_lconst (x_al x_e_lconst (x_al ⟨rfl, (Or.inr (Or.inr (Or.inr (Or.inr ⟨x_ab rfl, xk_RX12_88⟩))))⟩ (x_al x_e_ifCond (x_al x_e_bipush (x_al x_e_ireturn (x_al x_e_aload_n (x_al ⟨rfl, (Or.inr (Or.inr ⟨x_ab rfl, xk_RX12_285⟩))⟩ (x_al x_e_iconst (x_al x_e_aload_n (x_al ⟨rfl, (Or.inr (Or.inr ⟨x_ab rfl, xk_RX12_92⟩))⟩ (x_al x_e_ishl (x_al x_e_iconst (x_al x_e_isub (x_al ⟨rfl, (Nat.le_of_ble_eq_true rfl)⟩ (x_al x_e_iconst (x_al ⟨rfl, (Nat.le_of_ble_eq_true rfl)⟩ (x_al x_e_iconst (x_al ⟨rfl, (Nat.le_of_ble_eq_true rfl)⟩ x_an))))))))))))))))))))))))))))))))
set_option maxRecDepth 20000 in
theorem rk_cX12_two : ∀ q ∈ x_rws M_cX12_two, ∀ r ∈ q.2, x_okR x_mt M_cX12_two r := x_okRs (x_al (x_dec rfl dc_cX12_two_0) (x_al (x_dec rfl dc_cX12_two_1) (x_al (x_dec rfl dc_cX12_two_2) x_an))) (x_al wc_cX12_two_0 (x_al wc_cX12_two_1 (x_al wc_cX12_two_2 x_an)))
theorem ok_cX12_two : x_okM x_mt M_cX12_two := x_okMk (plainFor_of_name xN_RX12) rfl xV_RX12 (Nat.le_of_ble_eq_true rfl) (x_bw_in (x_t9 (i := 29) rfl) rfl) (x_bw_in (x_t1 (i := 13) rfl) rfl) (fun h => by cases h) (fun _ => ⟨(x_bw_in (x_t9 (i := 27) rfl) rfl), TX12, 47, rfl⟩) (fun _ _ => (x_bw_in (x_t9 (i := 28) rfl) rfl)) rk_cX12_two
theorem dc_cX12_ticketsOf_0 : ∀ r ∈ k_cX12_ticketsOf_0, decode cX12_ticketsOf r.1 = .ok (r.2.1, r.2.2.1) := x_wall_ok _ 0 [42, 27, 182, 1, 109, 16, 10, 42, 180, 1, 90, 104, 42, 180, 0, 9, 16, 11, 46, 108, 172] (x_win_of (by decide +kernel)) (by decide +kernel)
theorem wc_cX12_ticketsOf_0 : ∀ r ∈ k_cX12_ticketsOf_0, x_okW x_mt M_cX12_ticketsOf r := (x_al x_e_aload_n (x_al x_e_iload_n (x_al ⟨rfl, (Or.inr (Or.inr ⟨x_ab rfl, xk_RX12_365⟩))⟩ (x_al x_e_bipush (x_al x_e_aload_n (x_al ⟨rfl, xf_RX12_346⟩ (x_al x_e_imul (x_al x_e_aload_n (x_al ⟨rfl, xf_RX12_9⟩ (x_al x_e_bipush (x_al x_e_iaload (x_al x_e_idiv (x_al x_e_ireturn x_an)))))))))))))
set_option maxRecDepth 20000 in
theorem rk_cX12_ticketsOf : ∀ q ∈ x_rws M_cX12_ticketsOf, ∀ r ∈ q.2, x_okR x_mt M_cX12_ticketsOf r := x_okRs (x_al (x_dec rfl dc_cX12_ticketsOf_0) x_an) (x_al wc_cX12_ticketsOf_0 x_an)
theorem ok_cX12_ticketsOf : x_okM x_mt M_cX12_ticketsOf := x_okMk (plainFor_of_name xN_RX12) rfl xV_RX12 (Nat.le_of_ble_eq_true rfl) (x_bw_in (x_t9 (i := 41) rfl) rfl) (x_bw_in (x_t1 (i := 13) rfl) rfl) (fun h => by cases h) (fun _ => ⟨(x_bw_in (x_t9 (i := 40) rfl) rfl), TX12, 47, rfl⟩) (fun _ _ => (x_bw_in (x_t0 (i := 109) rfl) rfl)) rk_cX12_ticketsOf
theorem dc_cX12_tickets_0 : ∀ r ∈ k_cX12_tickets_0, decode cX12_tickets r.1 = .ok (r.2.1, r.2.2.1) := x_wall_ok _ 0 [42, 27, 182, 1, 14, 153, 0, 11, 42, 27, 182, 1, 226, 167, 0, 5, 16, 254, 172] (x_win_of (by decide +kernel)) (by decide +kernel)
theorem wc_cX12_tickets_0 : ∀ r ∈ k_cX12_tickets_0, x_okW x_mt M_cX12_tickets r := (x_al x_e_aload_n (x_al x_e_iload_n (x_al ⟨rfl, (Or.inr (Or.inr ⟨x_ab rfl, xk_RX12_270⟩))⟩ (x_al x_e_ifCond (x_al x_e_aload_n (x_al x_e_iload_n (x_al ⟨rfl, (Or.inr (Or.inr ⟨x_ab rfl, xk_RX12_482⟩))⟩ (x_al x_e_goto (x_al x_e_bipush (x_al x_e_ireturn x_an))))))))))
set_option maxRecDepth 20000 in
theorem rk_cX12_tickets : ∀ q ∈ x_rws M_cX12_tickets, ∀ r ∈ q.2, x_okR x_mt M_cX12_tickets r := x_okRs (x_al (x_dec rfl dc_cX12_tickets_0) x_an) (x_al wc_cX12_tickets_0 x_an)
theorem ok_cX12_tickets : x_okM x_mt M_cX12_tickets := x_okMk (plainFor_of_name xN_RX12) rfl xV_RX12 (Nat.le_of_ble_eq_true rfl) (x_bw_in (x_t9 (i := 37) rfl) rfl) (x_bw_in (x_t1 (i := 13) rfl) rfl) (fun h => by cases h) (fun _ => ⟨(x_bw_in (x_t9 (i := 35) rfl) rfl), TX12, 47, rfl⟩) (fun _ _ => (x_bw_in (x_t9 (i := 36) rfl) rfl)) rk_cX12_tickets
theorem dc_cX12_prize_0 : ∀ r ∈ k_cX12_prize_0, decode cX12_prize r.1 = .ok (r.2.1, r.2.2.1) := x_wall_ok _ 0 [42, 27, 182, 1, 14, 154, 0, 6, 16, 254, 172, 42, 27, 182, 1, 226, 61, 28, 154, 0, 7, 2, 167, 0, 16, 42, 180, 0, 9, 16, 10, 46, 28, 96, 4, 100, 28, 108, 172] (x_win_of (by decide +kernel)) (by decide +kernel)
theorem wc_cX12_prize_0 : ∀ r ∈ k_cX12_prize_0, x_okW x_mt M_cX12_prize r := (x_al x_e_aload_n (x_al x_e_iload_n (x_al ⟨rfl, (Or.inr (Or.inr ⟨x_ab rfl, xk_RX12_270⟩))⟩ (x_al x_e_ifCond (x_al x_e_bipush (x_al x_e_ireturn (x_al x_e_aload_n (x_al x_e_iload_n (x_al ⟨rfl, (Or.inr (Or.inr ⟨x_ab rfl, xk_RX12_482⟩))⟩ (x_al ⟨rfl, (Nat.le_of_ble_eq_true rfl)⟩ (x_al x_e_iload_n (x_al x_e_ifCond (x_al x_e_iconst (x_al x_e_goto (x_al x_e_aload_n (x_al ⟨rfl, xf_RX12_9⟩ (x_al x_e_bipush (x_al x_e_iaload (x_al x_e_iload_n (x_al x_e_iadd (x_al x_e_iconst (x_al x_e_isub (x_al x_e_iload_n (x_al x_e_idiv (x_al x_e_ireturn x_an)))))))))))))))))))))))))
set_option maxRecDepth 20000 in
theorem rk_cX12_prize : ∀ q ∈ x_rws M_cX12_prize, ∀ r ∈ q.2, x_okR x_mt M_cX12_prize r := x_okRs (x_al (x_dec rfl dc_cX12_prize_0) x_an) (x_al wc_cX12_prize_0 x_an)
theorem ok_cX12_prize : x_okM x_mt M_cX12_prize := x_okMk (plainFor_of_name xN_RX12) rfl xV_RX12 (Nat.le_of_ble_eq_true rfl) (x_bw_in (x_t9 (i := 45) rfl) rfl) (x_bw_in (x_t1 (i := 13) rfl) rfl) (fun h => by cases h) (fun _ => ⟨(x_bw_in (x_t9 (i := 43) rfl) rfl), TX12, 47, rfl⟩) (fun _ _ => (x_bw_in (x_t9 (i := 44) rfl) rfl)) rk_cX12_prize
theorem dc_cX12_asksBlows_1 : ∀ r ∈ k_cX12_asksBlows_1, decode cX12_asksBlows r.1 = .ok (r.2.1, r.2.2.1) := x_wall_ok _ 53 [162, 0, 40, 42, 42, 27, 28, 182, 1, 190, 182, 1, 44, 153, 0, 18, 42, 42, 27, 28, 4, 96, 182, 1, 190, 182, 1, 22, 154, 0, 6, 16, 254, 172, 132, 2, 2, 167, 255, 212, 3, 172] (x_win_of (by decide +kernel)) (by decide +kernel)
theorem wc_cX12_asksBlows_1 : ∀ r ∈ k_cX12_asksBlows_1, x_okW x_mt M_cX12_asksBlows r := (x_al x_e_if_icmp (x_al x_e_aload_n (x_al x_e_aload_n (x_al x_e_iload_n (x_al x_e_iload_n (x_al ⟨rfl, (Or.inr (Or.inr ⟨x_ab rfl, xk_RX12_446⟩))⟩ (x_al ⟨rfl, (Or.inr (Or.inr ⟨x_ab rfl, xk_RX12_300⟩))⟩ (x_al x_e_ifCond (x_al x_e_aload_n (x_al x_e_aload_n (x_al x_e_iload_n (x_al x_e_iload_n (x_al x_e_iconst (x_al x_e_iadd (x_al ⟨rfl, (Or.inr (Or.inr ⟨x_ab rfl, xk_RX12_446⟩))⟩ (x_al ⟨rfl, (Or.inr (Or.inr ⟨x_ab rfl, xk_RX12_278⟩))⟩ (x_al x_e_ifCond (x_al x_e_bipush (x_al x_e_ireturn (x_al ⟨rfl, (Nat.le_of_ble_eq_true rfl)⟩ (x_al x_e_goto (x_al x_e_iconst (x_al x_e_ireturn x_an)))))))))))))))))))))))
theorem dc_cX12_asksBlows_0 : ∀ r ∈ k_cX12_asksBlows_0, decode cX12_asksBlows r.1 = .ok (r.2.1, r.2.2.1) := x_wall_ok _ 0 [27, 184, 1, 187, 153, 0, 10, 42, 182, 1, 26, 154, 0, 6, 16, 254, 172, 42, 180, 0, 71, 27, 46, 2, 160, 0, 6, 16, 250, 172, 42, 180, 0, 71, 27, 46, 5, 112, 153, 0, 6, 16, 254, 172, 3, 61, 28, 42, 180, 0, 71, 27, 46] (x_win_of (by decide +kernel)) (by decide +kernel)
theorem wc_cX12_asksBlows_0 : ∀ r ∈ k_cX12_asksBlows_0, x_okW x_mt M_cX12_asksBlows r := (x_al x_e_iload_n (x_al ⟨rfl, (Or.inr (Or.inr (Or.inr (Or.inr ⟨x_ab rfl, xk_RX12_443⟩))))⟩ (x_al x_e_ifCond (x_al x_e_aload_n (x_al ⟨rfl, (Or.inr (Or.inr ⟨x_ab rfl, xk_RX12_282⟩))⟩ (x_al x_e_ifCond (x_al x_e_bipush (x_al x_e_ireturn (x_al x_e_aload_n (x_al ⟨rfl, xf_RX12_71⟩ (x_al x_e_iload_n (x_al x_e_iaload (x_al x_e_iconst (x_al x_e_if_icmp (x_al x_e_bipush (x_al x_e_ireturn (x_al x_e_aload_n (x_al ⟨rfl, xf_RX12_71⟩ (x_al x_e_iload_n (x_al x_e_iaload (x_al x_e_iconst (x_al x_e_irem (x_al x_e_ifCond (x_al x_e_bipush (x_al x_e_ireturn (x_al x_e_iconst (x_al ⟨rfl, (Nat.le_of_ble_eq_true rfl)⟩ (x_al x_e_iload_n (x_al x_e_aload_n (x_al ⟨rfl, xf_RX12_71⟩ (x_al x_e_iload_n (x_al x_e_iaload x_an))))))))))))))))))))))))))))))))
set_option maxRecDepth 20000 in
theorem rk_cX12_asksBlows : ∀ q ∈ x_rws M_cX12_asksBlows, ∀ r ∈ q.2, x_okR x_mt M_cX12_asksBlows r := x_okRs (x_al (x_dec rfl dc_cX12_asksBlows_0) (x_al (x_dec rfl dc_cX12_asksBlows_1) x_an)) (x_al wc_cX12_asksBlows_0 (x_al wc_cX12_asksBlows_1 x_an))
theorem ok_cX12_asksBlows : x_okM x_mt M_cX12_asksBlows := x_okMk (plainFor_of_name xN_RX12) rfl xV_RX12 (Nat.le_of_ble_eq_true rfl) (x_bw_in (x_t9 (i := 53) rfl) rfl) (x_bw_in (x_t1 (i := 13) rfl) rfl) (fun h => by cases h) (fun _ => ⟨(x_bw_in (x_t9 (i := 52) rfl) rfl), TX12, 47, rfl⟩) (fun _ _ => (x_bw_in (x_t0 (i := 110) rfl) rfl)) rk_cX12_asksBlows
theorem dc_cX12_strike_2 : ∀ r ∈ k_cX12_strike_2, decode cX12_strike r.1 = .ok (r.2.1, r.2.2.1) := x_wall_ok _ 115 [100, 96, 181, 1, 229, 42, 89, 180, 1, 232, 42, 21, 4, 5, 182, 1, 35, 96, 181, 1, 232, 42, 89, 180, 1, 235, 28, 42, 180, 0, 37, 21, 4, 46, 100, 29, 162, 0, 7, 4, 167, 0, 4, 3, 96, 181, 1, 235, 177, 132, 4, 1, 167, 255, 92, 177] (x_win_of (by decide +kernel)) (by decide +kernel)
theorem wc_cX12_strike_2 : ∀ r ∈ k_cX12_strike_2, x_okW x_mt M_cX12_strike r := (x_al x_e_isub (x_al x_e_iadd (x_al ⟨rfl, (xp_RX12_485 _)⟩ (x_al x_e_aload_n (x_al x_e_dup (x_al ⟨rfl, xf_RX12_488⟩ (x_al x_e_aload_n (x_al x_e_iload (x_al x_e_iconst (x_al ⟨rfl, (Or.inr (Or.inr ⟨x_ab rfl, xk_RX12_291⟩))⟩ (x_al x_e_iadd (x_al ⟨rfl, (xp_RX12_488 _)⟩ (x_al x_e_aload_n (x_al x_e_dup (x_al ⟨rfl, xf_RX12_491⟩ (x_al x_e_iload_n (x_al x_e_aload_n (x_al ⟨rfl, xf_RX12_37⟩ (x_al x_e_iload (x_al x_e_iaload (x_al x_e_isub (x_al x_e_iload_n (x_al x_e_if_icmp (x_al x_e_iconst (x_al x_e_goto (x_al x_e_iconst (x_al x_e_iadd (x_al ⟨rfl, (xp_RX12_491 _)⟩ (x_al x_e_return_ (x_al ⟨rfl, (Nat.le_of_ble_eq_true rfl)⟩ (x_al x_e_goto (x_al x_e_return_ x_an))))))))))))))))))))))))))))))))
theorem dc_cX12_strike_1 : ∀ r ∈ k_cX12_strike_1, decode cX12_strike r.1 = .ok (r.2.1, r.2.2.1) := x_wall_ok _ 59 [133, 42, 180, 0, 40, 21, 4, 46, 133, 184, 0, 88, 153, 0, 93, 42, 180, 0, 68, 21, 4, 46, 21, 5, 126, 153, 0, 6, 167, 0, 77, 42, 180, 0, 68, 21, 4, 92, 46, 21, 5, 128, 79, 42, 89, 180, 1, 229, 4, 42, 21, 4, 5, 182, 1, 35] (x_win_of (by decide +kernel)) (by decide +kernel)
theorem wc_cX12_strike_1 : ∀ r ∈ k_cX12_strike_1, x_okW x_mt M_cX12_strike r := (x_al x_e_i2l (x_al x_e_aload_n (x_al ⟨rfl, xf_RX12_40⟩ (x_al x_e_iload (x_al x_e_iaload (x_al x_e_i2l (x_al ⟨rfl, (Or.inr (Or.inr (Or.inr (Or.inr ⟨x_ab rfl, xk_RX12_88⟩))))⟩ (x_al x_e_ifCond (x_al x_e_aload_n (x_al ⟨rfl, xf_RX12_68⟩ (x_al x_e_iload (x_al x_e_iaload (x_al x_e_iload (x_al x_e_iand (x_al x_e_ifCond (x_al x_e_goto (x_al x_e_aload_n (x_al ⟨rfl, xf_RX12_68⟩ (x_al x_e_iload (x_al x_e_dup2 (x_al x_e_iaload (x_al x_e_iload (x_al x_e_ior (x_al x_e_iastore (x_al x_e_aload_n (x_al x_e_dup (x_al ⟨rfl, xf_RX12_485⟩ (x_al x_e_iconst (x_al x_e_aload_n (x_al x_e_iload (x_al x_e_iconst (x_al ⟨rfl, (Or.inr (Or.inr ⟨x_ab rfl, xk_RX12_291⟩))⟩ x_an))))))))))))))))))))))))))))))))
theorem dc_cX12_strike_0 : ∀ r ∈ k_cX12_strike_0, decode cX12_strike r.1 = .ok (r.2.1, r.2.2.1) := x_wall_ok _ 0 [3, 54, 4, 21, 4, 42, 180, 0, 248, 162, 0, 161, 42, 21, 4, 3, 182, 1, 35, 27, 160, 0, 7, 4, 167, 0, 19, 42, 21, 4, 4, 182, 1, 35, 27, 160, 0, 7, 5, 167, 0, 4, 3, 54, 5, 21, 5, 153, 0, 117, 28, 133, 42, 180, 0, 37, 21, 4, 46] (x_win_of (by decide +kernel)) (by decide +kernel)
theorem wc_cX12_strike_0 : ∀ r ∈ k_cX12_strike_0, x_okW x_mt M_cX12_strike r := (x_al x_e_iconst (x_al ⟨rfl, (Nat.le_of_ble_eq_true rfl)⟩ (x_al x_e_iload (x_al x_e_aload_n (x_al ⟨rfl, xf_RX12_248⟩ (x_al x_e_if_icmp (x_al x_e_aload_n (x_al x_e_iload (x_al x_e_iconst (x_al ⟨rfl, (Or.inr (Or.inr ⟨x_ab rfl, xk_RX12_291⟩))⟩ (x_al x_e_iload_n (x_al x_e_if_icmp (x_al x_e_iconst (x_al x_e_goto (x_al x_e_aload_n (x_al x_e_iload (x_al x_e_iconst (x_al ⟨rfl, (Or.inr (Or.inr ⟨x_ab rfl, xk_RX12_291⟩))⟩ (x_al x_e_iload_n (x_al x_e_if_icmp (x_al x_e_iconst (x_al x_e_goto (x_al x_e_iconst (x_al ⟨rfl, (Nat.le_of_ble_eq_true rfl)⟩ (x_al x_e_iload (x_al x_e_ifCond (x_al x_e_iload_n (x_al x_e_i2l (x_al x_e_aload_n (x_al ⟨rfl, xf_RX12_37⟩ (x_al x_e_iload (x_al x_e_iaload x_an))))))))))))))))))))))))))))))))
set_option maxRecDepth 20000 in
theorem rk_cX12_strike : ∀ q ∈ x_rws M_cX12_strike, ∀ r ∈ q.2, x_okR x_mt M_cX12_strike r := x_okRs (x_al (x_dec rfl dc_cX12_strike_0) (x_al (x_dec rfl dc_cX12_strike_1) (x_al (x_dec rfl dc_cX12_strike_2) x_an))) (x_al wc_cX12_strike_0 (x_al wc_cX12_strike_1 (x_al wc_cX12_strike_2 x_an)))
theorem ok_cX12_strike : x_okM x_mt M_cX12_strike := x_okMk (plainFor_of_name xN_RX12) rfl xV_RX12 (Nat.le_of_ble_eq_true rfl) (x_bw_in (x_t9 (i := 61) rfl) rfl) (x_bw_in (x_t1 (i := 13) rfl) rfl) (fun h => by cases h) (fun _ => ⟨(x_bw_in (x_t9 (i := 60) rfl) rfl), TX12, 47, rfl⟩) (fun _ _ => (x_bw_in (x_t0 (i := 112) rfl) rfl)) rk_cX12_strike
theorem dc_cX12_layBlows_1 : ∀ r ∈ k_cX12_layBlows_1, decode cX12_layBlows r.1 = .ok (r.2.1, r.2.2.1) := x_wall_ok _ 54 [42, 42, 27, 29, 182, 1, 190, 136, 42, 27, 29, 4, 96, 182, 1, 190, 136, 28, 182, 1, 238, 132, 3, 2, 167, 255, 222, 177] (x_win_of (by decide +kernel)) (by decide +kernel)
theorem wc_cX12_layBlows_1 : ∀ r ∈ k_cX12_layBlows_1, x_okW x_mt M_cX12_layBlows r := (x_al x_e_aload_n (x_al x_e_aload_n (x_al x_e_iload_n (x_al x_e_iload_n (x_al ⟨rfl, (Or.inr (Or.inr ⟨x_ab rfl, xk_RX12_446⟩))⟩ (x_al x_e_l2i (x_al x_e_aload_n (x_al x_e_iload_n (x_al x_e_iload_n (x_al x_e_iconst (x_al x_e_iadd (x_al ⟨rfl, (Or.inr (Or.inr ⟨x_ab rfl, xk_RX12_446⟩))⟩ (x_al x_e_l2i (x_al x_e_iload_n (x_al ⟨rfl, (Or.inr (Or.inr ⟨x_ab rfl, xk_RX12_494⟩))⟩ (x_al ⟨rfl, (Nat.le_of_ble_eq_true rfl)⟩ (x_al x_e_goto (x_al x_e_return_ x_an))))))))))))))))))
theorem dc_cX12_layBlows_0 : ∀ r ∈ k_cX12_layBlows_0, decode cX12_layBlows r.1 = .ok (r.2.1, r.2.2.1) := x_wall_ok _ 0 [42, 182, 1, 29, 42, 3, 181, 1, 229, 42, 3, 181, 1, 232, 42, 3, 181, 1, 235, 3, 62, 29, 42, 180, 0, 248, 162, 0, 16, 42, 180, 0, 68, 29, 3, 79, 132, 3, 1, 167, 255, 238, 3, 62, 29, 42, 180, 0, 71, 27, 46, 162, 0, 30] (x_win_of (by decide +kernel)) (by decide +kernel)
theorem wc_cX12_layBlows_0 : ∀ r ∈ k_cX12_layBlows_0, x_okW x_mt M_cX12_layBlows r := (x_al x_e_aload_n (x_al ⟨rfl, (Or.inr (Or.inr ⟨x_ab rfl, xk_RX12_285⟩))⟩ (x_al x_e_aload_n (x_al x_e_iconst (x_al ⟨rfl, (xp_RX12_485 _)⟩ (x_al x_e_aload_n (x_al x_e_iconst (x_al ⟨rfl, (xp_RX12_488 _)⟩ (x_al x_e_aload_n (x_al x_e_iconst (x_al ⟨rfl, (xp_RX12_491 _)⟩ (x_al x_e_iconst (x_al ⟨rfl, (Nat.le_of_ble_eq_true rfl)⟩ (x_al x_e_iload_n (x_al x_e_aload_n (x_al ⟨rfl, xf_RX12_248⟩ (x_al x_e_if_icmp (x_al x_e_aload_n (x_al ⟨rfl, xf_RX12_68⟩ (x_al x_e_iload_n (x_al x_e_iconst (x_al x_e_iastore (x_al ⟨rfl, (Nat.le_of_ble_eq_true rfl)⟩ (x_al x_e_goto (x_al x_e_iconst (x_al ⟨rfl, (Nat.le_of_ble_eq_true rfl)⟩ (x_al x_e_iload_n (x_al x_e_aload_n (x_al ⟨rfl, xf_RX12_71⟩ (x_al x_e_iload_n (x_al x_e_iaload (x_al x_e_if_icmp x_an))))))))))))))))))))))))))))))))
set_option maxRecDepth 20000 in
theorem rk_cX12_layBlows : ∀ q ∈ x_rws M_cX12_layBlows, ∀ r ∈ q.2, x_okR x_mt M_cX12_layBlows r := x_okRs (x_al (x_dec rfl dc_cX12_layBlows_0) (x_al (x_dec rfl dc_cX12_layBlows_1) x_an)) (x_al wc_cX12_layBlows_0 (x_al wc_cX12_layBlows_1 x_an))
theorem ok_cX12_layBlows : x_okM x_mt M_cX12_layBlows := x_okMk (plainFor_of_name xN_RX12) rfl xV_RX12 (Nat.le_of_ble_eq_true rfl) (x_bw_in (x_t9 (i := 57) rfl) rfl) (x_bw_in (x_t1 (i := 13) rfl) rfl) (fun h => by cases h) (fun _ => ⟨(x_bw_in (x_t9 (i := 56) rfl) rfl), TX12, 47, rfl⟩) (fun _ _ => (x_bw_in (x_t0 (i := 111) rfl) rfl)) rk_cX12_layBlows
theorem dc_cX12_counted_0 : ∀ r ∈ k_cX12_counted_0, decode cX12_counted r.1 = .ok (r.2.1, r.2.2.1) := x_wall_ok _ 0 [42, 27, 182, 1, 241, 61, 28, 156, 0, 5, 28, 172, 42, 27, 3, 182, 1, 244, 42, 180, 1, 229, 172] (x_win_of (by decide +kernel)) (by decide +kernel)
theorem wc_cX12_counted_0 : ∀ r ∈ k_cX12_counted_0, x_okW x_mt M_cX12_counted r := (x_al x_e_aload_n (x_al x_e_iload_n (x_al ⟨rfl, (Or.inr (Or.inr ⟨x_ab rfl, xk_RX12_497⟩))⟩ (x_al ⟨rfl, (Nat.le_of_ble_eq_true rfl)⟩ (x_al x_e_iload_n (x_al x_e_ifCond (x_al x_e_iload_n (x_al x_e_ireturn (x_al x_e_aload_n (x_al x_e_iload_n (x_al x_e_iconst (x_al ⟨rfl, (Or.inr (Or.inr ⟨x_ab rfl, xk_RX12_500⟩))⟩ (x_al x_e_aload_n (x_al ⟨rfl, xf_RX12_485⟩ (x_al x_e_ireturn x_an)))))))))))))))
set_option maxRecDepth 20000 in
theorem rk_cX12_counted : ∀ q ∈ x_rws M_cX12_counted, ∀ r ∈ q.2, x_okR x_mt M_cX12_counted r := x_okRs (x_al (x_dec rfl dc_cX12_counted_0) x_an) (x_al wc_cX12_counted_0 x_an)
theorem ok_cX12_counted : x_okM x_mt M_cX12_counted := x_okMk (plainFor_of_name xN_RX12) rfl xV_RX12 (Nat.le_of_ble_eq_true rfl) (x_bw_in (x_t9 (i := 49) rfl) rfl) (x_bw_in (x_t1 (i := 13) rfl) rfl) (fun h => by cases h) (fun _ => ⟨(x_bw_in (x_t9 (i := 47) rfl) rfl), TX12, 47, rfl⟩) (fun _ _ => (x_bw_in (x_t9 (i := 48) rfl) rfl)) rk_cX12_counted
theorem dc_cX12_scored_0 : ∀ r ∈ k_cX12_scored_0, decode cX12_scored r.1 = .ok (r.2.1, r.2.2.1) := x_wall_ok _ 0 [42, 27, 182, 1, 241, 61, 28, 156, 0, 9, 17, 3, 232, 28, 104, 172, 42, 27, 3, 182, 1, 244, 16, 10, 42, 180, 1, 229, 104, 16, 20, 42, 180, 1, 232, 104, 100, 172] (x_win_of (by decide +kernel)) (by decide +kernel)
theorem wc_cX12_scored_0 : ∀ r ∈ k_cX12_scored_0, x_okW x_mt M_cX12_scored r := (x_al x_e_aload_n (x_al x_e_iload_n (x_al ⟨rfl, (Or.inr (Or.inr ⟨x_ab rfl, xk_RX12_497⟩))⟩ (x_al ⟨rfl, (Nat.le_of_ble_eq_true rfl)⟩ (x_al x_e_iload_n (x_al x_e_ifCond (x_al x_e_sipush (x_al x_e_iload_n (x_al x_e_imul (x_al x_e_ireturn (x_al x_e_aload_n (x_al x_e_iload_n (x_al x_e_iconst (x_al ⟨rfl, (Or.inr (Or.inr ⟨x_ab rfl, xk_RX12_500⟩))⟩ (x_al x_e_bipush (x_al x_e_aload_n (x_al ⟨rfl, xf_RX12_485⟩ (x_al x_e_imul (x_al x_e_bipush (x_al x_e_aload_n (x_al ⟨rfl, xf_RX12_488⟩ (x_al x_e_imul (x_al x_e_isub (x_al x_e_ireturn x_an))))))))))))))))))))))))
set_option maxRecDepth 20000 in
theorem rk_cX12_scored : ∀ q ∈ x_rws M_cX12_scored, ∀ r ∈ q.2, x_okR x_mt M_cX12_scored r := x_okRs (x_al (x_dec rfl dc_cX12_scored_0) x_an) (x_al wc_cX12_scored_0 x_an)
theorem ok_cX12_scored : x_okM x_mt M_cX12_scored := x_okMk (plainFor_of_name xN_RX12) rfl xV_RX12 (Nat.le_of_ble_eq_true rfl) (x_bw_in (x_t9 (i := 65) rfl) rfl) (x_bw_in (x_t1 (i := 13) rfl) rfl) (fun h => by cases h) (fun _ => ⟨(x_bw_in (x_t9 (i := 63) rfl) rfl), TX12, 47, rfl⟩) (fun _ _ => (x_bw_in (x_t9 (i := 64) rfl) rfl)) rk_cX12_scored
theorem dc_cX12_early_0 : ∀ r ∈ k_cX12_early_0, decode cX12_early r.1 = .ok (r.2.1, r.2.2.1) := x_wall_ok _ 0 [28, 133, 9, 20, 1, 218, 184, 0, 88, 154, 0, 6, 16, 254, 172, 42, 27, 182, 1, 241, 62, 29, 156, 0, 5, 29, 172, 42, 27, 28, 182, 1, 244, 42, 180, 1, 235, 172] (x_win_of (by decide +kernel)) (by decide +kernel)
theorem wc_cX12_early_0 : ∀ r ∈ k_cX12_early_0, x_okW x_mt M_cX12_early r := (x_al x_e_iload_n (x_al x_e_i2l (x_al x_e_lconst (x_al ⟨rfl, xc_RX12_474⟩ (x_al ⟨rfl, (Or.inr (Or.inr (Or.inr (Or.inr ⟨x_ab rfl, xk_RX12_88⟩))))⟩ (x_al x_e_ifCond (x_al x_e_bipush (x_al x_e_ireturn (x_al x_e_aload_n (x_al x_e_iload_n (x_al ⟨rfl, (Or.inr (Or.inr ⟨x_ab rfl, xk_RX12_497⟩))⟩ (x_al ⟨rfl, (Nat.le_of_ble_eq_true rfl)⟩ (x_al x_e_iload_n (x_al x_e_ifCond (x_al x_e_iload_n (x_al x_e_ireturn (x_al x_e_aload_n (x_al x_e_iload_n (x_al x_e_iload_n (x_al ⟨rfl, (Or.inr (Or.inr ⟨x_ab rfl, xk_RX12_500⟩))⟩ (x_al x_e_aload_n (x_al ⟨rfl, xf_RX12_491⟩ (x_al x_e_ireturn x_an)))))))))))))))))))))))
set_option maxRecDepth 20000 in
theorem rk_cX12_early : ∀ q ∈ x_rws M_cX12_early, ∀ r ∈ q.2, x_okR x_mt M_cX12_early r := x_okRs (x_al (x_dec rfl dc_cX12_early_0) x_an) (x_al wc_cX12_early_0 x_an)
theorem ok_cX12_early : x_okM x_mt M_cX12_early := x_okMk (plainFor_of_name xN_RX12) rfl xV_RX12 (Nat.le_of_ble_eq_true rfl) (x_bw_in (x_t9 (i := 69) rfl) rfl) (x_bw_in (x_t1 (i := 13) rfl) rfl) (fun h => by cases h) (fun _ => ⟨(x_bw_in (x_t9 (i := 67) rfl) rfl), TX12, 47, rfl⟩) (fun _ _ => (x_bw_in (x_t9 (i := 68) rfl) rfl)) rk_cX12_early
theorem dc_cX12_oftenOf_0 : ∀ r ∈ k_cX12_oftenOf_0, decode cX12_oftenOf r.1 = .ok (r.2.1, r.2.2.1) := x_wall_ok _ 0 [3, 61, 3, 62, 29, 42, 180, 0, 9, 8, 46, 162, 0, 37, 28, 42, 29, 3, 182, 1, 4, 27, 159, 0, 13, 42, 29, 4, 182, 1, 4, 27, 160, 0, 7, 4, 167, 0, 4, 3, 96, 61, 132, 3, 1, 167, 255, 215, 28, 172] (x_win_of (by decide +kernel)) (by decide +kernel)
theorem wc_cX12_oftenOf_0 : ∀ r ∈ k_cX12_oftenOf_0, x_okW x_mt M_cX12_oftenOf r := (x_al x_e_iconst (x_al ⟨rfl, (Nat.le_of_ble_eq_true rfl)⟩ (x_al x_e_iconst (x_al ⟨rfl, (Nat.le_of_ble_eq_true rfl)⟩ (x_al x_e_iload_n (x_al x_e_aload_n (x_al ⟨rfl, xf_RX12_9⟩ (x_al x_e_iconst (x_al x_e_iaload (x_al x_e_if_icmp (x_al x_e_iload_n (x_al x_e_aload_n (x_al x_e_iload_n (x_al x_e_iconst (x_al ⟨rfl, (Or.inr (Or.inr ⟨x_ab rfl, xk_RX12_260⟩))⟩ (x_al x_e_iload_n (x_al x_e_if_icmp (x_al x_e_aload_n (x_al x_e_iload_n (x_al x_e_iconst (x_al ⟨rfl, (Or.inr (Or.inr ⟨x_ab rfl, xk_RX12_260⟩))⟩ (x_al x_e_iload_n (x_al x_e_if_icmp (x_al x_e_iconst (x_al x_e_goto (x_al x_e_iconst (x_al x_e_iadd (x_al ⟨rfl, (Nat.le_of_ble_eq_true rfl)⟩ (x_al ⟨rfl, (Nat.le_of_ble_eq_true rfl)⟩ (x_al x_e_goto (x_al x_e_iload_n (x_al x_e_ireturn x_an))))))))))))))))))))))))))))))))
set_option maxRecDepth 20000 in
theorem rk_cX12_oftenOf : ∀ q ∈ x_rws M_cX12_oftenOf, ∀ r ∈ q.2, x_okR x_mt M_cX12_oftenOf r := x_okRs (x_al (x_dec rfl dc_cX12_oftenOf_0) x_an) (x_al wc_cX12_oftenOf_0 x_an)
theorem ok_cX12_oftenOf : x_okM x_mt M_cX12_oftenOf := x_okMk (plainFor_of_name xN_RX12) rfl xV_RX12 (Nat.le_of_ble_eq_true rfl) (x_bw_in (x_t9 (i := 77) rfl) rfl) (x_bw_in (x_t1 (i := 13) rfl) rfl) (fun h => by cases h) (fun _ => ⟨(x_bw_in (x_t9 (i := 76) rfl) rfl), TX12, 47, rfl⟩) (fun _ _ => (x_bw_in (x_t0 (i := 113) rfl) rfl)) rk_cX12_oftenOf
theorem dc_cX12_often_0 : ∀ r ∈ k_cX12_often_0, decode cX12_often r.1 = .ok (r.2.1, r.2.2.1) := x_wall_ok _ 0 [42, 27, 133, 182, 1, 44, 153, 0, 11, 42, 27, 182, 1, 247, 167, 0, 5, 16, 254, 172] (x_win_of (by decide +kernel)) (by decide +kernel)
theorem wc_cX12_often_0 : ∀ r ∈ k_cX12_often_0, x_okW x_mt M_cX12_often r := (x_al x_e_aload_n (x_al x_e_iload_n (x_al x_e_i2l (x_al ⟨rfl, (Or.inr (Or.inr ⟨x_ab rfl, xk_RX12_300⟩))⟩ (x_al x_e_ifCond (x_al x_e_aload_n (x_al x_e_iload_n (x_al ⟨rfl, (Or.inr (Or.inr ⟨x_ab rfl, xk_RX12_503⟩))⟩ (x_al x_e_goto (x_al x_e_bipush (x_al x_e_ireturn x_an)))))))))))
set_option maxRecDepth 20000 in
theorem rk_cX12_often : ∀ q ∈ x_rws M_cX12_often, ∀ r ∈ q.2, x_okR x_mt M_cX12_often r := x_okRs (x_al (x_dec rfl dc_cX12_often_0) x_an) (x_al wc_cX12_often_0 x_an)
theorem ok_cX12_often : x_okM x_mt M_cX12_often := x_okMk (plainFor_of_name xN_RX12) rfl xV_RX12 (Nat.le_of_ble_eq_true rfl) (x_bw_in (x_t9 (i := 73) rfl) rfl) (x_bw_in (x_t1 (i := 13) rfl) rfl) (fun h => by cases h) (fun _ => ⟨(x_bw_in (x_t9 (i := 71) rfl) rfl), TX12, 47, rfl⟩) (fun _ _ => (x_bw_in (x_t9 (i := 72) rfl) rfl)) rk_cX12_often
theorem dc_cX12_balance_1 : ∀ r ∈ k_cX12_balance_1, decode cX12_balance r.1 = .ok (r.2.1, r.2.2.1) := x_wall_ok _ 57 [132, 3, 1, 167, 255, 214, 28, 2, 160, 0, 7, 2, 167, 0, 6, 28, 27, 100, 172] (x_win_of (by decide +kernel)) (by decide +kernel)
theorem wc_cX12_balance_1 : ∀ r ∈ k_cX12_balance_1, x_okW x_mt M_cX12_balance r := (x_al ⟨rfl, (Nat.le_of_ble_eq_true rfl)⟩ (x_al x_e_goto (x_al x_e_iload_n (x_al x_e_iconst (x_al x_e_if_icmp (x_al x_e_iconst (x_al x_e_goto (x_al x_e_iload_n (x_al x_e_iload_n (x_al x_e_isub (x_al x_e_ireturn x_an)))))))))))
theorem dc_cX12_balance_0 : ∀ r ∈ k_cX12_balance_0, decode cX12_balance r.1 = .ok (r.2.1, r.2.2.1) := x_wall_ok _ 0 [42, 182, 1, 26, 154, 0, 6, 16, 254, 172, 19, 1, 115, 60, 2, 61, 3, 62, 29, 42, 182, 0, 92, 162, 0, 40, 42, 29, 182, 1, 139, 153, 0, 6, 167, 0, 23, 27, 42, 29, 182, 1, 247, 184, 0, 127, 60, 28, 42, 29, 182, 1, 247, 184, 1, 81, 61] (x_win_of (by decide +kernel)) (by decide +kernel)
theorem wc_cX12_balance_0 : ∀ r ∈ k_cX12_balance_0, x_okW x_mt M_cX12_balance r := (x_al x_e_aload_n (x_al ⟨rfl, (Or.inr (Or.inr ⟨x_ab rfl, xk_RX12_282⟩))⟩ (x_al x_e_ifCond (x_al x_e_bipush (x_al x_e_ireturn (x_al ⟨rfl, xc_RX12_371⟩ (x_al ⟨rfl, (Nat.le_of_ble_eq_true rfl)⟩ (x_al x_e_iconst (x_al ⟨rfl, (Nat.le_of_ble_eq_true rfl)⟩ (x_al x_e_iconst (x_al ⟨rfl, (Nat.le_of_ble_eq_true rfl)⟩ (x_al x_e_iload_n (x_al x_e_aload_n (x_al ⟨rfl, (Or.inr (Or.inr ⟨x_ab rfl, xk_RX12_92⟩))⟩ (x_al x_e_if_icmp (x_al x_e_aload_n (x_al x_e_iload_n (x_al ⟨rfl, (Or.inr (Or.inr ⟨x_ab rfl, xk_RX12_395⟩))⟩ (x_al x_e_ifCond (x_al x_e_goto (x_al x_e_iload_n (x_al x_e_aload_n (x_al x_e_iload_n (x_al ⟨rfl, (Or.inr (Or.inr ⟨x_ab rfl, xk_RX12_503⟩))⟩ (x_al ⟨rfl, (Or.inr (Or.inl ⟨rfl, xo_RX12_127, x_mmin⟩))⟩ (x_al ⟨rfl, (Nat.le_of_ble_eq_true rfl)⟩ (x_al x_e_iload_n (x_al x_e_aload_n (x_al x_e_iload_n (x_al ⟨rfl, (Or.inr (Or.inr ⟨x_ab rfl, xk_RX12_503⟩))⟩ (x_al ⟨rfl, (Or.inl ⟨rfl, xo_RX12_337, x_mmax⟩)⟩ (x_al ⟨rfl, (Nat.le_of_ble_eq_true rfl)⟩ x_an))))))))))))))))))))))))))))))))
set_option maxRecDepth 20000 in
theorem rk_cX12_balance : ∀ q ∈ x_rws M_cX12_balance, ∀ r ∈ q.2, x_okR x_mt M_cX12_balance r := x_okRs (x_al (x_dec rfl dc_cX12_balance_0) (x_al (x_dec rfl dc_cX12_balance_1) x_an)) (x_al wc_cX12_balance_0 (x_al wc_cX12_balance_1 x_an))
theorem ok_cX12_balance : x_okM x_mt M_cX12_balance := x_okMk (plainFor_of_name xN_RX12) rfl xV_RX12 (Nat.le_of_ble_eq_true rfl) (x_bw_in (x_t9 (i := 81) rfl) rfl) (x_bw_in (x_t1 (i := 13) rfl) rfl) (fun h => by cases h) (fun _ => ⟨(x_bw_in (x_t9 (i := 79) rfl) rfl), TX12, 47, rfl⟩) (fun _ _ => (x_bw_in (x_t9 (i := 80) rfl) rfl)) rk_cX12_balance
theorem dc_cX12_pathOf_0 : ∀ r ∈ k_cX12_pathOf_0, decode cX12_pathOf r.1 = .ok (r.2.1, r.2.2.1) := x_wall_ok _ 0 [3, 60, 3, 61, 28, 42, 180, 0, 9, 8, 46, 162, 0, 28, 27, 42, 42, 28, 182, 1, 184, 42, 28, 4, 96, 182, 1, 184, 182, 1, 47, 96, 60, 132, 2, 1, 167, 255, 224, 27, 172] (x_win_of (by decide +kernel)) (by decide +kernel)
theorem wc_cX12_pathOf_0 : ∀ r ∈ k_cX12_pathOf_0, x_okW x_mt M_cX12_pathOf r := (x_al x_e_iconst (x_al ⟨rfl, (Nat.le_of_ble_eq_true rfl)⟩ (x_al x_e_iconst (x_al ⟨rfl, (Nat.le_of_ble_eq_true rfl)⟩ (x_al x_e_iload_n (x_al x_e_aload_n (x_al ⟨rfl, xf_RX12_9⟩ (x_al x_e_iconst (x_al x_e_iaload (x_al x_e_if_icmp (x_al x_e_iload_n (x_al x_e_aload_n (x_al x_e_aload_n (x_al x_e_iload_n (x_al ⟨rfl, (Or.inr (Or.inr ⟨x_ab rfl, xk_RX12_440⟩))⟩ (x_al x_e_aload_n (x_al x_e_iload_n (x_al x_e_iconst (x_al x_e_iadd (x_al ⟨rfl, (Or.inr (Or.inr ⟨x_ab rfl, xk_RX12_440⟩))⟩ (x_al ⟨rfl, (Or.inr (Or.inr ⟨x_ab rfl, xk_RX12_303⟩))⟩ (x_al x_e_iadd (x_al ⟨rfl, (Nat.le_of_ble_eq_true rfl)⟩ (x_al ⟨rfl, (Nat.le_of_ble_eq_true rfl)⟩ (x_al x_e_goto (x_al x_e_iload_n (x_al x_e_ireturn x_an)))))))))))))))))))))))))))
set_option maxRecDepth 20000 in
theorem rk_cX12_pathOf : ∀ q ∈ x_rws M_cX12_pathOf, ∀ r ∈ q.2, x_okR x_mt M_cX12_pathOf r := x_okRs (x_al (x_dec rfl dc_cX12_pathOf_0) x_an) (x_al wc_cX12_pathOf_0 x_an)
theorem ok_cX12_pathOf : x_okM x_mt M_cX12_pathOf := x_okMk (plainFor_of_name xN_RX12) rfl xV_RX12 (Nat.le_of_ble_eq_true rfl) (x_bw_in (x_t9 (i := 89) rfl) rfl) (x_bw_in (x_t1 (i := 13) rfl) rfl) (fun h => by cases h) (fun _ => ⟨(x_bw_in (x_t9 (i := 88) rfl) rfl), TX12, 47, rfl⟩) (fun _ _ => (x_bw_in (x_t0 (i := 114) rfl) rfl)) rk_cX12_pathOf
theorem dc_cX12_path_0 : ∀ r ∈ k_cX12_path_0, decode cX12_path r.1 = .ok (r.2.1, r.2.2.1) := x_wall_ok _ 0 [42, 182, 1, 26, 153, 0, 10, 42, 182, 1, 250, 167, 0, 5, 16, 254, 172] (x_win_of (by decide +kernel)) (by decide +kernel)
theorem wc_cX12_path_0 : ∀ r ∈ k_cX12_path_0, x_okW x_mt M_cX12_path r := (x_al x_e_aload_n (x_al ⟨rfl, (Or.inr (Or.inr ⟨x_ab rfl, xk_RX12_282⟩))⟩ (x_al x_e_ifCond (x_al x_e_aload_n (x_al ⟨rfl, (Or.inr (Or.inr ⟨x_ab rfl, xk_RX12_506⟩))⟩ (x_al x_e_goto (x_al x_e_bipush (x_al x_e_ireturn x_an))))))))
set_option maxRecDepth 20000 in
theorem rk_cX12_path : ∀ q ∈ x_rws M_cX12_path, ∀ r ∈ q.2, x_okR x_mt M_cX12_path r := x_okRs (x_al (x_dec rfl dc_cX12_path_0) x_an) (x_al wc_cX12_path_0 x_an)
theorem ok_cX12_path : x_okM x_mt M_cX12_path := x_okMk (plainFor_of_name xN_RX12) rfl xV_RX12 (Nat.le_of_ble_eq_true rfl) (x_bw_in (x_t9 (i := 85) rfl) rfl) (x_bw_in (x_t1 (i := 13) rfl) rfl) (fun h => by cases h) (fun _ => ⟨(x_bw_in (x_t9 (i := 83) rfl) rfl), TX12, 47, rfl⟩) (fun _ _ => (x_bw_in (x_t9 (i := 84) rfl) rfl)) rk_cX12_path
theorem dc_cX12_trade_1 : ∀ r ∈ k_cX12_trade_1, decode cX12_trade r.1 = .ok (r.2.1, r.2.2.1) := x_wall_ok _ 45 [96, 21, 4, 79, 132, 3, 1, 167, 255, 206, 177] (x_win_of (by decide +kernel)) (by decide +kernel)
theorem wc_cX12_trade_1 : ∀ r ∈ k_cX12_trade_1, x_okW x_mt M_cX12_trade r := (x_al x_e_iadd (x_al x_e_iload (x_al x_e_iastore (x_al ⟨rfl, (Nat.le_of_ble_eq_true rfl)⟩ (x_al x_e_goto (x_al x_e_return_ x_an))))))
theorem dc_cX12_trade_0 : ∀ r ∈ k_cX12_trade_0, decode cX12_trade r.1 = .ok (r.2.1, r.2.2.1) := x_wall_ok _ 0 [3, 62, 29, 6, 162, 0, 51, 42, 27, 29, 182, 1, 4, 54, 4, 42, 180, 0, 9, 16, 24, 6, 27, 104, 96, 29, 96, 42, 28, 29, 182, 1, 4, 79, 42, 180, 0, 9, 16, 24, 6, 28, 104, 96, 29] (x_win_of (by decide +kernel)) (by decide +kernel)
theorem wc_cX12_trade_0 : ∀ r ∈ k_cX12_trade_0, x_okW x_mt M_cX12_trade r := (x_al x_e_iconst (x_al ⟨rfl, (Nat.le_of_ble_eq_true rfl)⟩ (x_al x_e_iload_n (x_al x_e_iconst (x_al x_e_if_icmp (x_al x_e_aload_n (x_al x_e_iload_n (x_al x_e_iload_n (x_al ⟨rfl, (Or.inr (Or.inr ⟨x_ab rfl, xk_RX12_260⟩))⟩ (x_al ⟨rfl, (Nat.le_of_ble_eq_true rfl)⟩ (x_al x_e_aload_n (x_al ⟨rfl, xf_RX12_9⟩ (x_al x_e_bipush (x_al x_e_iconst (x_al x_e_iload_n (x_al x_e_imul (x_al x_e_iadd (x_al x_e_iload_n (x_al x_e_iadd (x_al x_e_aload_n (x_al x_e_iload_n (x_al x_e_iload_n (x_al ⟨rfl, (Or.inr (Or.inr ⟨x_ab rfl, xk_RX12_260⟩))⟩ (x_al x_e_iastore (x_al x_e_aload_n (x_al ⟨rfl, xf_RX12_9⟩ (x_al x_e_bipush (x_al x_e_iconst (x_al x_e_iload_n (x_al x_e_imul (x_al x_e_iadd (x_al x_e_iload_n x_an))))))))))))))))))))))))))))))))
set_option maxRecDepth 20000 in
theorem rk_cX12_trade : ∀ q ∈ x_rws M_cX12_trade, ∀ r ∈ q.2, x_okR x_mt M_cX12_trade r := x_okRs (x_al (x_dec rfl dc_cX12_trade_0) (x_al (x_dec rfl dc_cX12_trade_1) x_an)) (x_al wc_cX12_trade_0 (x_al wc_cX12_trade_1 x_an))
theorem ok_cX12_trade : x_okM x_mt M_cX12_trade := x_okMk (plainFor_of_name xN_RX12) rfl xV_RX12 (Nat.le_of_ble_eq_true rfl) (x_bw_in (x_t9 (i := 97) rfl) rfl) (x_bw_in (x_t1 (i := 13) rfl) rfl) (fun h => by cases h) (fun _ => ⟨(x_bw_in (x_t9 (i := 96) rfl) rfl), TX12, 47, rfl⟩) (fun _ _ => (x_bw_in (x_t0 (i := 115) rfl) rfl)) rk_cX12_trade
theorem dc_cX12_better_2 : ∀ r ∈ k_cX12_better_2, decode cX12_better r.1 = .ok (r.2.1, r.2.2.1) := x_wall_ok _ 117 [167, 255, 186, 132, 4, 1, 167, 255, 163, 28, 172] (x_win_of (by decide +kernel)) (by decide +kernel)
theorem wc_cX12_better_2 : ∀ r ∈ k_cX12_better_2, x_okW x_mt M_cX12_better r := (x_al x_e_goto (x_al ⟨rfl, (Nat.le_of_ble_eq_true rfl)⟩ (x_al x_e_goto (x_al x_e_iload_n (x_al x_e_ireturn x_an)))))
theorem dc_cX12_better_1 : ∀ r ∈ k_cX12_better_1, decode cX12_better r.1 = .ok (r.2.1, r.2.2.1) := x_wall_ok _ 54 [46, 162, 0, 65, 42, 21, 4, 21, 5, 182, 1, 253, 42, 182, 1, 250, 54, 6, 42, 21, 4, 21, 5, 182, 1, 253, 27, 154, 0, 12, 21, 6, 29, 163, 0, 15, 167, 0, 24, 21, 6, 29, 161, 0, 6, 167, 0, 15, 21, 6, 62, 16, 100, 21, 4, 104, 21, 5, 96, 61, 132, 5, 1] (x_win_of (by decide +kernel)) (by decide +kernel)
theorem wc_cX12_better_1 : ∀ r ∈ k_cX12_better_1, x_okW x_mt M_cX12_better r := (x_al x_e_iaload (x_al x_e_if_icmp (x_al x_e_aload_n (x_al x_e_iload (x_al x_e_iload (x_al ⟨rfl, (Or.inr (Or.inr ⟨x_ab rfl, xk_RX12_509⟩))⟩ (x_al x_e_aload_n (x_al ⟨rfl, (Or.inr (Or.inr ⟨x_ab rfl, xk_RX12_506⟩))⟩ (x_al ⟨rfl, (Nat.le_of_ble_eq_true rfl)⟩ (x_al x_e_aload_n (x_al x_e_iload (x_al x_e_iload (x_al ⟨rfl, (Or.inr (Or.inr ⟨x_ab rfl, xk_RX12_509⟩))⟩ (x_al x_e_iload_n (x_al x_e_ifCond (x_al x_e_iload (x_al x_e_iload_n (x_al x_e_if_icmp (x_al x_e_goto (x_al x_e_iload (x_al x_e_iload_n (x_al x_e_if_icmp (x_al x_e_goto (x_al x_e_iload (x_al ⟨rfl, (Nat.le_of_ble_eq_true rfl)⟩ (x_al x_e_bipush (x_al x_e_iload (x_al x_e_imul (x_al x_e_iload (x_al x_e_iadd (x_al ⟨rfl, (Nat.le_of_ble_eq_true rfl)⟩ (x_al ⟨rfl, (Nat.le_of_ble_eq_true rfl)⟩ x_an))))))))))))))))))))))))))))))))
theorem dc_cX12_better_0 : ∀ r ∈ k_cX12_better_0, decode cX12_better r.1 = .ok (r.2.1, r.2.2.1) := x_wall_ok _ 0 [42, 182, 1, 26, 153, 0, 13, 27, 133, 9, 10, 184, 0, 88, 154, 0, 6, 16, 254, 172, 2, 61, 42, 182, 1, 250, 62, 3, 54, 4, 21, 4, 42, 180, 0, 9, 8, 46, 162, 0, 88, 21, 4, 4, 96, 54, 5, 21, 5, 42, 180, 0, 9, 8] (x_win_of (by decide +kernel)) (by decide +kernel)
theorem wc_cX12_better_0 : ∀ r ∈ k_cX12_better_0, x_okW x_mt M_cX12_better r := (x_al x_e_aload_n (x_al ⟨rfl, (Or.inr (Or.inr ⟨x_ab rfl, xk_RX12_282⟩))⟩ (x_al x_e_ifCond (x_al x_e_iload_n (x_al x_e_i2l (x_al x_e_lconst (x_al x_e_lconst (x_al ⟨rfl, (Or.inr (Or.inr (Or.inr (Or.inr ⟨x_ab rfl, xk_RX12_88⟩))))⟩ (x_al x_e_ifCond (x_al x_e_bipush (x_al x_e_ireturn (x_al x_e_iconst (x_al ⟨rfl, (Nat.le_of_ble_eq_true rfl)⟩ (x_al x_e_aload_n (x_al ⟨rfl, (Or.inr (Or.inr ⟨x_ab rfl, xk_RX12_506⟩))⟩ (x_al ⟨rfl, (Nat.le_of_ble_eq_true rfl)⟩ (x_al x_e_iconst (x_al ⟨rfl, (Nat.le_of_ble_eq_true rfl)⟩ (x_al x_e_iload (x_al x_e_aload_n (x_al ⟨rfl, xf_RX12_9⟩ (x_al x_e_iconst (x_al x_e_iaload (x_al x_e_if_icmp (x_al x_e_iload (x_al x_e_iconst (x_al x_e_iadd (x_al ⟨rfl, (Nat.le_of_ble_eq_true rfl)⟩ (x_al x_e_iload (x_al x_e_aload_n (x_al ⟨rfl, xf_RX12_9⟩ (x_al x_e_iconst x_an))))))))))))))))))))))))))))))))
set_option maxRecDepth 20000 in
theorem rk_cX12_better : ∀ q ∈ x_rws M_cX12_better, ∀ r ∈ q.2, x_okR x_mt M_cX12_better r := x_okRs (x_al (x_dec rfl dc_cX12_better_0) (x_al (x_dec rfl dc_cX12_better_1) (x_al (x_dec rfl dc_cX12_better_2) x_an))) (x_al wc_cX12_better_0 (x_al wc_cX12_better_1 (x_al wc_cX12_better_2 x_an)))
theorem ok_cX12_better : x_okM x_mt M_cX12_better := x_okMk (plainFor_of_name xN_RX12) rfl xV_RX12 (Nat.le_of_ble_eq_true rfl) (x_bw_in (x_t9 (i := 93) rfl) rfl) (x_bw_in (x_t1 (i := 13) rfl) rfl) (fun h => by cases h) (fun _ => ⟨(x_bw_in (x_t9 (i := 91) rfl) rfl), TX12, 47, rfl⟩) (fun _ _ => (x_bw_in (x_t9 (i := 92) rfl) rfl)) rk_cX12_better
theorem dc_cX12_swap_0 : ∀ r ∈ k_cX12_swap_0, decode cX12_swap r.1 = .ok (r.2.1, r.2.2.1) := x_wall_ok _ 0 [42, 27, 182, 1, 11, 153, 0, 11, 42, 28, 182, 1, 11, 154, 0, 6, 16, 254, 172, 42, 27, 28, 182, 1, 253, 3, 172] (x_win_of (by decide +kernel)) (by decide +kernel)
theorem wc_cX12_swap_0 : ∀ r ∈ k_cX12_swap_0, x_okW x_mt M_cX12_swap r := (x_al x_e_aload_n (x_al x_e_iload_n (x_al ⟨rfl, (Or.inr (Or.inr ⟨x_ab rfl, xk_RX12_267⟩))⟩ (x_al x_e_ifCond (x_al x_e_aload_n (x_al x_e_iload_n (x_al ⟨rfl, (Or.inr (Or.inr ⟨x_ab rfl, xk_RX12_267⟩))⟩ (x_al x_e_ifCond (x_al x_e_bipush (x_al x_e_ireturn (x_al x_e_aload_n (x_al x_e_iload_n (x_al x_e_iload_n (x_al ⟨rfl, (Or.inr (Or.inr ⟨x_ab rfl, xk_RX12_509⟩))⟩ (x_al x_e_iconst (x_al x_e_ireturn x_an))))))))))))))))
set_option maxRecDepth 20000 in
theorem rk_cX12_swap : ∀ q ∈ x_rws M_cX12_swap, ∀ r ∈ q.2, x_okR x_mt M_cX12_swap r := x_okRs (x_al (x_dec rfl dc_cX12_swap_0) x_an) (x_al wc_cX12_swap_0 x_an)
theorem ok_cX12_swap : x_okM x_mt M_cX12_swap := x_okMk (plainFor_of_name xN_RX12) rfl xV_RX12 (Nat.le_of_ble_eq_true rfl) (x_bw_in (x_t9 (i := 101) rfl) rfl) (x_bw_in (x_t1 (i := 13) rfl) rfl) (fun h => by cases h) (fun _ => ⟨(x_bw_in (x_t9 (i := 99) rfl) rfl), TX12, 47, rfl⟩) (fun _ _ => (x_bw_in (x_t9 (i := 100) rfl) rfl)) rk_cX12_swap
theorem dc_cX12_paint_1 : ∀ r ∈ k_cX12_paint_1, decode cX12_paint r.1 = .ok (r.2.1, r.2.2.1) := x_wall_ok _ 50 [28, 79, 29, 172] (x_win_of (by decide +kernel)) (by decide +kernel)
theorem wc_cX12_paint_1 : ∀ r ∈ k_cX12_paint_1, x_okW x_mt M_cX12_paint r := (x_al x_e_iload_n (x_al x_e_iastore (x_al x_e_iload_n (x_al x_e_ireturn x_an))))
theorem dc_cX12_paint_0 : ∀ r ∈ k_cX12_paint_0, decode cX12_paint r.1 = .ok (r.2.1, r.2.2.1) := x_wall_ok _ 0 [42, 27, 182, 1, 11, 153, 0, 23, 28, 133, 9, 10, 184, 0, 88, 153, 0, 13, 42, 27, 4, 182, 1, 4, 2, 159, 0, 6, 16, 254, 172, 42, 27, 5, 182, 1, 4, 62, 42, 180, 0, 9, 16, 24, 6, 27, 104, 96, 5, 96] (x_win_of (by decide +kernel)) (by decide +kernel)
theorem wc_cX12_paint_0 : ∀ r ∈ k_cX12_paint_0, x_okW x_mt M_cX12_paint r := (x_al x_e_aload_n (x_al x_e_iload_n (x_al ⟨rfl, (Or.inr (Or.inr ⟨x_ab rfl, xk_RX12_267⟩))⟩ (x_al x_e_ifCond (x_al x_e_iload_n (x_al x_e_i2l (x_al x_e_lconst (x_al x_e_lconst (x_al ⟨rfl, (Or.inr (Or.inr (Or.inr (Or.inr ⟨x_ab rfl, xk_RX12_88⟩))))⟩ (x_al x_e_ifCond (x_al x_e_aload_n (x_al x_e_iload_n (x_al x_e_iconst (x_al ⟨rfl, (Or.inr (Or.inr ⟨x_ab rfl, xk_RX12_260⟩))⟩ (x_al x_e_iconst (x_al x_e_if_icmp (x_al x_e_bipush (x_al x_e_ireturn (x_al x_e_aload_n (x_al x_e_iload_n (x_al x_e_iconst (x_al ⟨rfl, (Or.inr (Or.inr ⟨x_ab rfl, xk_RX12_260⟩))⟩ (x_al ⟨rfl, (Nat.le_of_ble_eq_true rfl)⟩ (x_al x_e_aload_n (x_al ⟨rfl, xf_RX12_9⟩ (x_al x_e_bipush (x_al x_e_iconst (x_al x_e_iload_n (x_al x_e_imul (x_al x_e_iadd (x_al x_e_iconst (x_al x_e_iadd x_an))))))))))))))))))))))))))))))))
set_option maxRecDepth 20000 in
theorem rk_cX12_paint : ∀ q ∈ x_rws M_cX12_paint, ∀ r ∈ q.2, x_okR x_mt M_cX12_paint r := x_okRs (x_al (x_dec rfl dc_cX12_paint_0) (x_al (x_dec rfl dc_cX12_paint_1) x_an)) (x_al wc_cX12_paint_0 (x_al wc_cX12_paint_1 x_an))
theorem ok_cX12_paint : x_okM x_mt M_cX12_paint := x_okMk (plainFor_of_name xN_RX12) rfl xV_RX12 (Nat.le_of_ble_eq_true rfl) (x_bw_in (x_t9 (i := 105) rfl) rfl) (x_bw_in (x_t1 (i := 13) rfl) rfl) (fun h => by cases h) (fun _ => ⟨(x_bw_in (x_t9 (i := 103) rfl) rfl), TX12, 47, rfl⟩) (fun _ _ => (x_bw_in (x_t9 (i := 104) rfl) rfl)) rk_cX12_paint
theorem dc_cX12_turn_0 : ∀ r ∈ k_cX12_turn_0, decode cX12_turn r.1 = .ok (r.2.1, r.2.2.1) := x_wall_ok _ 0 [42, 27, 182, 1, 11, 154, 0, 6, 16, 254, 172, 42, 180, 0, 9, 16, 8, 46, 61, 42, 180, 0, 9, 16, 8, 27, 79, 28, 172] (x_win_of (by decide +kernel)) (by decide +kernel)
theorem wc_cX12_turn_0 : ∀ r ∈ k_cX12_turn_0, x_okW x_mt M_cX12_turn r := (x_al x_e_aload_n (x_al x_e_iload_n (x_al ⟨rfl, (Or.inr (Or.inr ⟨x_ab rfl, xk_RX12_267⟩))⟩ (x_al x_e_ifCond (x_al x_e_bipush (x_al x_e_ireturn (x_al x_e_aload_n (x_al ⟨rfl, xf_RX12_9⟩ (x_al x_e_bipush (x_al x_e_iaload (x_al ⟨rfl, (Nat.le_of_ble_eq_true rfl)⟩ (x_al x_e_aload_n (x_al ⟨rfl, xf_RX12_9⟩ (x_al x_e_bipush (x_al x_e_iload_n (x_al x_e_iastore (x_al x_e_iload_n (x_al x_e_ireturn x_an))))))))))))))))))
set_option maxRecDepth 20000 in
theorem rk_cX12_turn : ∀ q ∈ x_rws M_cX12_turn, ∀ r ∈ q.2, x_okR x_mt M_cX12_turn r := x_okRs (x_al (x_dec rfl dc_cX12_turn_0) x_an) (x_al wc_cX12_turn_0 x_an)
theorem ok_cX12_turn : x_okM x_mt M_cX12_turn := x_okMk (plainFor_of_name xN_RX12) rfl xV_RX12 (Nat.le_of_ble_eq_true rfl) (x_bw_in (x_t9 (i := 109) rfl) rfl) (x_bw_in (x_t1 (i := 13) rfl) rfl) (fun h => by cases h) (fun _ => ⟨(x_bw_in (x_t9 (i := 107) rfl) rfl), TX12, 47, rfl⟩) (fun _ _ => (x_bw_in (x_t9 (i := 108) rfl) rfl)) rk_cX12_turn
theorem dc_cX12_lucky_1 : ∀ r ∈ k_cX12_lucky_1, decode cX12_lucky r.1 = .ok (r.2.1, r.2.2.1) := x_wall_ok _ 53 [180, 1, 90, 21, 4, 163, 0, 6, 167, 0, 12, 21, 5, 62, 42, 180, 1, 90, 54, 4, 132, 5, 1, 167, 255, 207, 42, 180, 0, 9, 16, 8, 28, 79, 29, 172] (x_win_of (by decide +kernel)) (by decide +kernel)
theorem wc_cX12_lucky_1 : ∀ r ∈ k_cX12_lucky_1, x_okW x_mt M_cX12_lucky r := (x_al ⟨rfl, xf_RX12_346⟩ (x_al x_e_iload (x_al x_e_if_icmp (x_al x_e_goto (x_al x_e_iload (x_al ⟨rfl, (Nat.le_of_ble_eq_true rfl)⟩ (x_al x_e_aload_n (x_al ⟨rfl, xf_RX12_346⟩ (x_al ⟨rfl, (Nat.le_of_ble_eq_true rfl)⟩ (x_al ⟨rfl, (Nat.le_of_ble_eq_true rfl)⟩ (x_al x_e_goto (x_al x_e_aload_n (x_al ⟨rfl, xf_RX12_9⟩ (x_al x_e_bipush (x_al x_e_iload_n (x_al x_e_iastore (x_al x_e_iload_n (x_al x_e_ireturn x_an))))))))))))))))))
theorem dc_cX12_lucky_0 : ∀ r ∈ k_cX12_lucky_0, decode cX12_lucky r.1 = .ok (r.2.1, r.2.2.1) := x_wall_ok _ 0 [42, 27, 182, 1, 14, 154, 0, 6, 16, 254, 172, 42, 180, 0, 9, 16, 8, 46, 61, 2, 62, 2, 54, 4, 3, 54, 5, 21, 5, 42, 180, 0, 9, 8, 46, 162, 0, 44, 42, 180, 0, 9, 16, 8, 21, 5, 79, 42, 27, 182, 1, 109, 42] (x_win_of (by decide +kernel)) (by decide +kernel)
theorem wc_cX12_lucky_0 : ∀ r ∈ k_cX12_lucky_0, x_okW x_mt M_cX12_lucky r := (x_al x_e_aload_n (x_al x_e_iload_n (x_al ⟨rfl, (Or.inr (Or.inr ⟨x_ab rfl, xk_RX12_270⟩))⟩ (x_al x_e_ifCond (x_al x_e_bipush (x_al x_e_ireturn (x_al x_e_aload_n (x_al ⟨rfl, xf_RX12_9⟩ (x_al x_e_bipush (x_al x_e_iaload (x_al ⟨rfl, (Nat.le_of_ble_eq_true rfl)⟩ (x_al x_e_iconst (x_al ⟨rfl, (Nat.le_of_ble_eq_true rfl)⟩ (x_al x_e_iconst (x_al ⟨rfl, (Nat.le_of_ble_eq_true rfl)⟩ (x_al x_e_iconst (x_al ⟨rfl, (Nat.le_of_ble_eq_true rfl)⟩ (x_al x_e_iload (x_al x_e_aload_n (x_al ⟨rfl, xf_RX12_9⟩ (x_al x_e_iconst (x_al x_e_iaload (x_al x_e_if_icmp (x_al x_e_aload_n (x_al ⟨rfl, xf_RX12_9⟩ (x_al x_e_bipush (x_al x_e_iload (x_al x_e_iastore (x_al x_e_aload_n (x_al x_e_iload_n (x_al ⟨rfl, (Or.inr (Or.inr ⟨x_ab rfl, xk_RX12_365⟩))⟩ (x_al x_e_aload_n x_an))))))))))))))))))))))))))))))))
set_option maxRecDepth 20000 in
theorem rk_cX12_lucky : ∀ q ∈ x_rws M_cX12_lucky, ∀ r ∈ q.2, x_okR x_mt M_cX12_lucky r := x_okRs (x_al (x_dec rfl dc_cX12_lucky_0) (x_al (x_dec rfl dc_cX12_lucky_1) x_an)) (x_al wc_cX12_lucky_0 (x_al wc_cX12_lucky_1 x_an))
theorem ok_cX12_lucky : x_okM x_mt M_cX12_lucky := x_okMk (plainFor_of_name xN_RX12) rfl xV_RX12 (Nat.le_of_ble_eq_true rfl) (x_bw_in (x_t9 (i := 113) rfl) rfl) (x_bw_in (x_t1 (i := 13) rfl) rfl) (fun h => by cases h) (fun _ => ⟨(x_bw_in (x_t9 (i := 111) rfl) rfl), TX12, 47, rfl⟩) (fun _ _ => (x_bw_in (x_t9 (i := 112) rfl) rfl)) rk_cX12_lucky
theorem dc_cX12_shut_1 : ∀ r ∈ k_cX12_shut_1, decode cX12_shut r.1 = .ok (r.2.1, r.2.2.1) := x_wall_ok _ 57 [4, 27, 120, 2, 130, 126, 28, 27, 120, 128, 79, 29, 172] (x_win_of (by decide +kernel)) (by decide +kernel)
theorem wc_cX12_shut_1 : ∀ r ∈ k_cX12_shut_1, x_okW x_mt M_cX12_shut r := (x_al x_e_iconst (x_al x_e_iload_n (x_al x_e_ishl (x_al x_e_iconst (x_al x_e_ixor (x_al x_e_iand (x_al x_e_iload_n (x_al x_e_iload_n (x_al x_e_ishl (x_al x_e_ior (x_al x_e_iastore (x_al x_e_iload_n (x_al x_e_ireturn x_an)))))))))))))
theorem dc_cX12_shut_0 : ∀ r ∈ k_cX12_shut_0, decode cX12_shut r.1 = .ok (r.2.1, r.2.2.1) := x_wall_ok _ 0 [42, 27, 133, 182, 1, 44, 153, 0, 21, 28, 133, 9, 10, 184, 0, 88, 153, 0, 11, 42, 27, 182, 1, 247, 158, 0, 6, 16, 254, 172, 42, 27, 182, 1, 139, 153, 0, 7, 4, 167, 0, 4, 3, 62, 42, 180, 0, 9, 16, 7, 42, 180, 0, 9, 16, 7, 46] (x_win_of (by decide +kernel)) (by decide +kernel)
theorem wc_cX12_shut_0 : ∀ r ∈ k_cX12_shut_0, x_okW x_mt M_cX12_shut r := (x_al x_e_aload_n (x_al x_e_iload_n (x_al x_e_i2l (x_al ⟨rfl, (Or.inr (Or.inr ⟨x_ab rfl, xk_RX12_300⟩))⟩ (x_al x_e_ifCond (x_al x_e_iload_n (x_al x_e_i2l (x_al x_e_lconst (x_al x_e_lconst (x_al ⟨rfl, (Or.inr (Or.inr (Or.inr (Or.inr ⟨x_ab rfl, xk_RX12_88⟩))))⟩ (x_al x_e_ifCond (x_al x_e_aload_n (x_al x_e_iload_n (x_al ⟨rfl, (Or.inr (Or.inr ⟨x_ab rfl, xk_RX12_503⟩))⟩ (x_al x_e_ifCond (x_al x_e_bipush (x_al x_e_ireturn (x_al x_e_aload_n (x_al x_e_iload_n (x_al ⟨rfl, (Or.inr (Or.inr ⟨x_ab rfl, xk_RX12_395⟩))⟩ (x_al x_e_ifCond (x_al x_e_iconst (x_al x_e_goto (x_al x_e_iconst (x_al ⟨rfl, (Nat.le_of_ble_eq_true rfl)⟩ (x_al x_e_aload_n (x_al ⟨rfl, xf_RX12_9⟩ (x_al x_e_bipush (x_al x_e_aload_n (x_al ⟨rfl, xf_RX12_9⟩ (x_al x_e_bipush (x_al x_e_iaload x_an))))))))))))))))))))))))))))))))
set_option maxRecDepth 20000 in
theorem rk_cX12_shut : ∀ q ∈ x_rws M_cX12_shut, ∀ r ∈ q.2, x_okR x_mt M_cX12_shut r := x_okRs (x_al (x_dec rfl dc_cX12_shut_0) (x_al (x_dec rfl dc_cX12_shut_1) x_an)) (x_al wc_cX12_shut_0 (x_al wc_cX12_shut_1 x_an))
theorem ok_cX12_shut : x_okM x_mt M_cX12_shut := x_okMk (plainFor_of_name xN_RX12) rfl xV_RX12 (Nat.le_of_ble_eq_true rfl) (x_bw_in (x_t9 (i := 117) rfl) rfl) (x_bw_in (x_t1 (i := 13) rfl) rfl) (fun h => by cases h) (fun _ => ⟨(x_bw_in (x_t9 (i := 115) rfl) rfl), TX12, 47, rfl⟩) (fun _ _ => (x_bw_in (x_t9 (i := 116) rfl) rfl)) rk_cX12_shut
theorem dc_cX12_train_2 : ∀ r ∈ k_cX12_train_2, decode cX12_train r.1 = .ok (r.2.1, r.2.2.1) := x_wall_ok _ 119 [16, 96, 8, 27, 104, 96, 28, 96, 29, 79, 21, 5, 172] (x_win_of (by decide +kernel)) (by decide +kernel)
theorem wc_cX12_train_2 : ∀ r ∈ k_cX12_train_2, x_okW x_mt M_cX12_train r := (x_al x_e_bipush (x_al x_e_iconst (x_al x_e_iload_n (x_al x_e_imul (x_al x_e_iadd (x_al x_e_iload_n (x_al x_e_iadd (x_al x_e_iload_n (x_al x_e_iastore (x_al x_e_iload (x_al x_e_ireturn x_an)))))))))))
theorem dc_cX12_train_1 : ∀ r ∈ k_cX12_train_1, decode cX12_train r.1 = .ok (r.2.1, r.2.2.1) := x_wall_ok _ 61 [28, 6, 160, 0, 15, 29, 133, 9, 20, 1, 131, 184, 0, 88, 167, 0, 22, 28, 7, 160, 0, 16, 42, 29, 133, 182, 1, 44, 153, 0, 7, 4, 167, 0, 4, 3, 54, 4, 21, 4, 154, 0, 6, 16, 254, 172, 42, 27, 28, 182, 1, 19, 54, 5, 42, 180, 0, 9] (x_win_of (by decide +kernel)) (by decide +kernel)
theorem wc_cX12_train_1 : ∀ r ∈ k_cX12_train_1, x_okW x_mt M_cX12_train r := (x_al x_e_iload_n (x_al x_e_iconst (x_al x_e_if_icmp (x_al x_e_iload_n (x_al x_e_i2l (x_al x_e_lconst (x_al ⟨rfl, xc_RX12_387⟩ (x_al ⟨rfl, (Or.inr (Or.inr (Or.inr (Or.inr ⟨x_ab rfl, xk_RX12_88⟩))))⟩ (x_al x_e_goto (x_al x_e_iload_n (x_al x_e_iconst (x_al x_e_if_icmp (x_al x_e_aload_n (x_al x_e_iload_n (x_al x_e_i2l (x_al ⟨rfl, (Or.inr (Or.inr ⟨x_ab rfl, xk_RX12_300⟩))⟩ (x_al x_e_ifCond (x_al x_e_iconst (x_al x_e_goto (x_al x_e_iconst (x_al ⟨rfl, (Nat.le_of_ble_eq_true rfl)⟩ (x_al x_e_iload (x_al x_e_ifCond (x_al x_e_bipush (x_al x_e_ireturn (x_al x_e_aload_n (x_al x_e_iload_n (x_al x_e_iload_n (x_al ⟨rfl, (Or.inr (Or.inr ⟨x_ab rfl, xk_RX12_275⟩))⟩ (x_al ⟨rfl, (Nat.le_of_ble_eq_true rfl)⟩ (x_al x_e_aload_n (x_al ⟨rfl, xf_RX12_9⟩ x_an))))))))))))))))))))))))))))))))
theorem dc_cX12_train_0 : ∀ r ∈ k_cX12_train_0, decode cX12_train r.1 = .ok (r.2.1, r.2.2.1) := x_wall_ok _ 0 [42, 27, 182, 1, 14, 154, 0, 6, 16, 254, 172, 28, 154, 0, 15, 29, 133, 10, 20, 1, 131, 184, 0, 88, 167, 0, 73, 28, 4, 160, 0, 15, 29, 133, 9, 20, 1, 218, 184, 0, 88, 167, 0, 56, 28, 5, 160, 0, 15, 29, 133, 9, 20, 2, 0, 184, 0, 88, 167, 0, 39] (x_win_of (by decide +kernel)) (by decide +kernel)
theorem wc_cX12_train_0 : ∀ r ∈ k_cX12_train_0, x_okW x_mt M_cX12_train r := (x_al x_e_aload_n (x_al x_e_iload_n (x_al ⟨rfl, (Or.inr (Or.inr ⟨x_ab rfl, xk_RX12_270⟩))⟩ (x_al x_e_ifCond (x_al x_e_bipush (x_al x_e_ireturn (x_al x_e_iload_n (x_al x_e_ifCond (x_al x_e_iload_n (x_al x_e_i2l (x_al x_e_lconst (x_al ⟨rfl, xc_RX12_387⟩ (x_al ⟨rfl, (Or.inr (Or.inr (Or.inr (Or.inr ⟨x_ab rfl, xk_RX12_88⟩))))⟩ (x_al x_e_goto (x_al x_e_iload_n (x_al x_e_iconst (x_al x_e_if_icmp (x_al x_e_iload_n (x_al x_e_i2l (x_al x_e_lconst (x_al ⟨rfl, xc_RX12_474⟩ (x_al ⟨rfl, (Or.inr (Or.inr (Or.inr (Or.inr ⟨x_ab rfl, xk_RX12_88⟩))))⟩ (x_al x_e_goto (x_al x_e_iload_n (x_al x_e_iconst (x_al x_e_if_icmp (x_al x_e_iload_n (x_al x_e_i2l (x_al x_e_lconst (x_al ⟨rfl, xc_RX12_512⟩ (x_al ⟨rfl, (Or.inr (Or.inr (Or.inr (Or.inr ⟨x_ab rfl, xk_RX12_88⟩))))⟩ (x_al x_e_goto x_an))))))))))))))))))))))))))))))))
set_option maxRecDepth 20000 in
theorem rk_cX12_train : ∀ q ∈ x_rws M_cX12_train, ∀ r ∈ q.2, x_okR x_mt M_cX12_train r := x_okRs (x_al (x_dec rfl dc_cX12_train_0) (x_al (x_dec rfl dc_cX12_train_1) (x_al (x_dec rfl dc_cX12_train_2) x_an))) (x_al wc_cX12_train_0 (x_al wc_cX12_train_1 (x_al wc_cX12_train_2 x_an)))
theorem ok_cX12_train : x_okM x_mt M_cX12_train := x_okMk (plainFor_of_name xN_RX12) rfl xV_RX12 (Nat.le_of_ble_eq_true rfl) (x_bw_in (x_t9 (i := 121) rfl) rfl) (x_bw_in (x_t1 (i := 13) rfl) rfl) (fun h => by cases h) (fun _ => ⟨(x_bw_in (x_t9 (i := 119) rfl) rfl), TX12, 47, rfl⟩) (fun _ _ => (x_bw_in (x_t9 (i := 120) rfl) rfl)) rk_cX12_train
theorem dc_cX12_draw_0 : ∀ r ∈ k_cX12_draw_0, decode cX12_draw r.1 = .ok (r.2.1, r.2.2.1) := x_wall_ok _ 0 [42, 20, 2, 2, 42, 180, 2, 4, 105, 20, 2, 8, 97, 20, 2, 10, 113, 181, 2, 4, 42, 180, 2, 4, 20, 2, 12, 109, 27, 133, 113, 136, 172] (x_win_of (by decide +kernel)) (by decide +kernel)
theorem wc_cX12_draw_0 : ∀ r ∈ k_cX12_draw_0, x_okW x_mt M_cX12_draw r := (x_al x_e_aload_n (x_al ⟨rfl, xc_RX12_514⟩ (x_al x_e_aload_n (x_al ⟨rfl, xf_RX12_516⟩ (x_al x_e_lmul (x_al ⟨rfl, xc_RX12_520⟩ (x_al x_e_ladd (x_al ⟨rfl, xc_RX12_522⟩ (x_al x_e_lrem (x_al ⟨rfl, (xp_RX12_516 _)⟩ (x_al x_e_aload_n (x_al ⟨rfl, xf_RX12_516⟩ (x_al ⟨rfl, xc_RX12_524⟩ (x_al x_e_ldiv (x_al x_e_iload_n (x_al x_e_i2l (x_al x_e_lrem (x_al x_e_l2i (x_al x_e_ireturn x_an)))))))))))))))))))
set_option maxRecDepth 20000 in
theorem rk_cX12_draw : ∀ q ∈ x_rws M_cX12_draw, ∀ r ∈ q.2, x_okR x_mt M_cX12_draw r := x_okRs (x_al (x_dec rfl dc_cX12_draw_0) x_an) (x_al wc_cX12_draw_0 x_an)
theorem ok_cX12_draw : x_okM x_mt M_cX12_draw := x_okMk (plainFor_of_name xN_RX12) rfl xV_RX12 (Nat.le_of_ble_eq_true rfl) (x_bw_in (x_t9 (i := 142) rfl) rfl) (x_bw_in (x_t1 (i := 13) rfl) rfl) (fun h => by cases h) (fun _ => ⟨(x_bw_in (x_t9 (i := 141) rfl) rfl), TX12, 47, rfl⟩) (fun _ _ => (x_bw_in (x_t0 (i := 118) rfl) rfl)) rk_cX12_draw
theorem dc_cX12_holeByLot_2 : ∀ r ∈ k_cX12_holeByLot_2, decode cX12_holeByLot r.1 = .ok (r.2.1, r.2.2.1) := x_wall_ok _ 115 [162, 0, 35, 42, 27, 21, 6, 28, 29, 182, 1, 162, 154, 0, 6, 167, 0, 14, 21, 5, 154, 0, 6, 21, 6, 172, 132, 5, 255, 132, 6, 1, 167, 255, 218, 2, 172] (x_win_of (by decide +kernel)) (by decide +kernel)
theorem wc_cX12_holeByLot_2 : ∀ r ∈ k_cX12_holeByLot_2, x_okW x_mt M_cX12_holeByLot r := (x_al x_e_if_icmp (x_al x_e_aload_n (x_al x_e_iload_n (x_al x_e_iload (x_al x_e_iload_n (x_al x_e_iload_n (x_al ⟨rfl, (Or.inr (Or.inr ⟨x_ab rfl, xk_RX12_418⟩))⟩ (x_al x_e_ifCond (x_al x_e_goto (x_al x_e_iload (x_al x_e_ifCond (x_al x_e_iload (x_al x_e_ireturn (x_al ⟨rfl, (Nat.le_of_ble_eq_true rfl)⟩ (x_al ⟨rfl, (Nat.le_of_ble_eq_true rfl)⟩ (x_al x_e_goto (x_al x_e_iconst (x_al x_e_ireturn x_an))))))))))))))))))
theorem dc_cX12_holeByLot_1 : ∀ r ∈ k_cX12_holeByLot_1, decode cX12_holeByLot r.1 = .ok (r.2.1, r.2.2.1) := x_wall_ok _ 54 [21, 5, 42, 182, 0, 92, 162, 0, 31, 21, 4, 42, 27, 21, 5, 28, 29, 182, 1, 162, 153, 0, 7, 4, 167, 0, 4, 3, 96, 54, 4, 132, 5, 1, 167, 255, 222, 21, 4, 154, 0, 5, 2, 172, 42, 21, 4, 182, 2, 14, 54, 5, 3, 54, 6, 21, 6, 42, 182, 0, 92] (x_win_of (by decide +kernel)) (by decide +kernel)
theorem wc_cX12_holeByLot_1 : ∀ r ∈ k_cX12_holeByLot_1, x_okW x_mt M_cX12_holeByLot r := (x_al x_e_iload (x_al x_e_aload_n (x_al ⟨rfl, (Or.inr (Or.inr ⟨x_ab rfl, xk_RX12_92⟩))⟩ (x_al x_e_if_icmp (x_al x_e_iload (x_al x_e_aload_n (x_al x_e_iload_n (x_al x_e_iload (x_al x_e_iload_n (x_al x_e_iload_n (x_al ⟨rfl, (Or.inr (Or.inr ⟨x_ab rfl, xk_RX12_418⟩))⟩ (x_al x_e_ifCond (x_al x_e_iconst (x_al x_e_goto (x_al x_e_iconst (x_al x_e_iadd (x_al ⟨rfl, (Nat.le_of_ble_eq_true rfl)⟩ (x_al ⟨rfl, (Nat.le_of_ble_eq_true rfl)⟩ (x_al x_e_goto (x_al x_e_iload (x_al x_e_ifCond (x_al x_e_iconst (x_al x_e_ireturn (x_al x_e_aload_n (x_al x_e_iload (x_al ⟨rfl, (Or.inr (Or.inr ⟨x_ab rfl, xk_RX12_526⟩))⟩ (x_al ⟨rfl, (Nat.le_of_ble_eq_true rfl)⟩ (x_al x_e_iconst (x_al ⟨rfl, (Nat.le_of_ble_eq_true rfl)⟩ (x_al x_e_iload (x_al x_e_aload_n (x_al ⟨rfl, (Or.inr (Or.inr ⟨x_ab rfl, xk_RX12_92⟩))⟩ x_an))))))))))))))))))))))))))))))))
theorem dc_cX12_holeByLot_0 : ∀ r ∈ k_cX12_holeByLot_0, decode cX12_holeByLot r.1 = .ok (r.2.1, r.2.2.1) := x_wall_ok _ 0 [42, 180, 0, 248, 4, 162, 0, 7, 2, 167, 0, 14, 42, 42, 180, 0, 248, 4, 100, 3, 182, 1, 35, 61, 42, 180, 0, 248, 5, 162, 0, 7, 2, 167, 0, 14, 42, 42, 180, 0, 248, 5, 100, 3, 182, 1, 35, 62, 3, 54, 4, 3, 54, 5] (x_win_of (by decide +kernel)) (by decide +kernel)
theorem wc_cX12_holeByLot_0 : ∀ r ∈ k_cX12_holeByLot_0, x_okW x_mt M_cX12_holeByLot r := (x_al x_e_aload_n (x_al ⟨rfl, xf_RX12_248⟩ (x_al x_e_iconst (x_al x_e_if_icmp (x_al x_e_iconst (x_al x_e_goto (x_al x_e_aload_n (x_al x_e_aload_n (x_al ⟨rfl, xf_RX12_248⟩ (x_al x_e_iconst (x_al x_e_isub (x_al x_e_iconst (x_al ⟨rfl, (Or.inr (Or.inr ⟨x_ab rfl, xk_RX12_291⟩))⟩ (x_al ⟨rfl, (Nat.le_of_ble_eq_true rfl)⟩ (x_al x_e_aload_n (x_al ⟨rfl, xf_RX12_248⟩ (x_al x_e_iconst (x_al x_e_if_icmp (x_al x_e_iconst (x_al x_e_goto (x_al x_e_aload_n (x_al x_e_aload_n (x_al ⟨rfl, xf_RX12_248⟩ (x_al x_e_iconst (x_al x_e_isub (x_al x_e_iconst (x_al ⟨rfl, (Or.inr (Or.inr ⟨x_ab rfl, xk_RX12_291⟩))⟩ (x_al ⟨rfl, (Nat.le_of_ble_eq_true rfl)⟩ (x_al x_e_iconst (x_al ⟨rfl, (Nat.le_of_ble_eq_true rfl)⟩ (x_al x_e_iconst (x_al ⟨rfl, (Nat.le_of_ble_eq_true rfl)⟩ x_an))))))))))))))))))))))))))))))))
set_option maxRecDepth 20000 in
theorem rk_cX12_holeByLot : ∀ q ∈ x_rws M_cX12_holeByLot, ∀ r ∈ q.2, x_okR x_mt M_cX12_holeByLot r := x_okRs (x_al (x_dec rfl dc_cX12_holeByLot_0) (x_al (x_dec rfl dc_cX12_holeByLot_1) (x_al (x_dec rfl dc_cX12_holeByLot_2) x_an))) (x_al wc_cX12_holeByLot_0 (x_al wc_cX12_holeByLot_1 (x_al wc_cX12_holeByLot_2 x_an)))
theorem ok_cX12_holeByLot : x_okM x_mt M_cX12_holeByLot := x_okMk (plainFor_of_name xN_RX12) rfl xV_RX12 (Nat.le_of_ble_eq_true rfl) (x_bw_in (x_t9 (i := 138) rfl) rfl) (x_bw_in (x_t1 (i := 13) rfl) rfl) (fun h => by cases h) (fun _ => ⟨(x_bw_in (x_t9 (i := 137) rfl) rfl), TX12, 47, rfl⟩) (fun _ _ => (x_bw_in (x_t0 (i := 117) rfl) rfl)) rk_cX12_holeByLot
theorem dc_cX12_layNight_0 : ∀ r ∈ k_cX12_layNight_0, decode cX12_layNight r.1 = .ok (r.2.1, r.2.2.1) := x_wall_ok _ 0 [42, 31, 181, 2, 4, 42, 3, 181, 0, 248, 42, 182, 1, 1, 153, 0, 28, 42, 29, 182, 2, 17, 54, 4, 21, 4, 2, 160, 0, 4, 177, 42, 21, 4, 2, 3, 182, 1, 7, 167, 255, 227, 177] (x_win_of (by decide +kernel)) (by decide +kernel)
theorem wc_cX12_layNight_0 : ∀ r ∈ k_cX12_layNight_0, x_okW x_mt M_cX12_layNight r := (x_al x_e_aload_n (x_al x_e_lload_n (x_al ⟨rfl, (xp_RX12_516 _)⟩ (x_al x_e_aload_n (x_al x_e_iconst (x_al ⟨rfl, (xp_RX12_248 _)⟩ (x_al x_e_aload_n (x_al ⟨rfl, (Or.inr (Or.inr ⟨x_ab rfl, xk_RX12_257⟩))⟩ (x_al x_e_ifCond (x_al x_e_aload_n (x_al x_e_iload_n (x_al ⟨rfl, (Or.inr (Or.inr ⟨x_ab rfl, xk_RX12_529⟩))⟩ (x_al ⟨rfl, (Nat.le_of_ble_eq_true rfl)⟩ (x_al x_e_iload (x_al x_e_iconst (x_al x_e_if_icmp (x_al x_e_return_ (x_al x_e_aload_n (x_al x_e_iload (x_al x_e_iconst (x_al x_e_iconst (x_al ⟨rfl, (Or.inr (Or.inr ⟨x_ab rfl, xk_RX12_263⟩))⟩ (x_al x_e_goto (x_al x_e_return_ x_an))))))))))))))))))))))))
set_option maxRecDepth 20000 in
theorem rk_cX12_layNight : ∀ q ∈ x_rws M_cX12_layNight, ∀ r ∈ q.2, x_okR x_mt M_cX12_layNight r := x_okRs (x_al (x_dec rfl dc_cX12_layNight_0) x_an) (x_al wc_cX12_layNight_0 x_an)
theorem ok_cX12_layNight : x_okM x_mt M_cX12_layNight := x_okMk (plainFor_of_name xN_RX12) rfl xV_RX12 (Nat.le_of_ble_eq_true rfl) (x_bw_in (x_t9 (i := 134) rfl) rfl) (x_bw_in (x_t1 (i := 13) rfl) rfl) (fun h => by cases h) (fun _ => ⟨(x_bw_in (x_t9 (i := 133) rfl) rfl), TX12, 47, rfl⟩) (fun _ _ => (x_bw_in (x_t0 (i := 116) rfl) rfl)) rk_cX12_layNight
theorem dc_cX12_isSeed_0 : ∀ r ∈ k_cX12_isSeed_0, decode cX12_isSeed r.1 = .ok (r.2.1, r.2.2.1) := x_wall_ok _ 0 [26, 133, 9, 20, 2, 20, 184, 0, 88, 172] (x_win_of (by decide +kernel)) (by decide +kernel)
theorem wc_cX12_isSeed_0 : ∀ r ∈ k_cX12_isSeed_0, x_okW x_mt M_cX12_isSeed r := (x_al x_e_iload_n (x_al x_e_i2l (x_al x_e_lconst (x_al ⟨rfl, xc_RX12_532⟩ (x_al ⟨rfl, (Or.inr (Or.inr (Or.inr (Or.inr ⟨x_ab rfl, xk_RX12_88⟩))))⟩ (x_al x_e_ireturn x_an))))))
set_option maxRecDepth 20000 in
theorem rk_cX12_isSeed : ∀ q ∈ x_rws M_cX12_isSeed, ∀ r ∈ q.2, x_okR x_mt M_cX12_isSeed r := x_okRs (x_al (x_dec rfl dc_cX12_isSeed_0) x_an) (x_al wc_cX12_isSeed_0 x_an)
theorem ok_cX12_isSeed : x_okM x_mt M_cX12_isSeed := x_okMk (plainFor_of_name xN_RX12) rfl xV_RX12 (Nat.le_of_ble_eq_true rfl) (x_bw_in (x_t9 (i := 129) rfl) rfl) (x_bw_in (x_t1 (i := 13) rfl) rfl) (fun _ => (x_bw_in (x_t9 (i := 128) rfl) rfl)) (fun h => by cases h) (fun h => by cases h) rk_cX12_isSeed
theorem dc_cX12_drawn_0 : ∀ r ∈ k_cX12_drawn_0, decode cX12_drawn r.1 = .ok (r.2.1, r.2.2.1) := x_wall_ok _ 0 [42, 182, 1, 26, 153, 0, 17, 27, 184, 2, 22, 153, 0, 10, 28, 184, 1, 166, 154, 0, 6, 16, 254, 172, 42, 27, 133, 28, 182, 2, 25, 42, 29, 182, 1, 32, 153, 0, 12, 42, 29, 3, 182, 1, 35, 167, 0, 4, 2, 172] (x_win_of (by decide +kernel)) (by decide +kernel)
theorem wc_cX12_drawn_0 : ∀ r ∈ k_cX12_drawn_0, x_okW x_mt M_cX12_drawn r := (x_al x_e_aload_n (x_al ⟨rfl, (Or.inr (Or.inr ⟨x_ab rfl, xk_RX12_282⟩))⟩ (x_al x_e_ifCond (x_al x_e_iload_n (x_al ⟨rfl, (Or.inr (Or.inr (Or.inr (Or.inr ⟨x_ab rfl, xk_RX12_534⟩))))⟩ (x_al x_e_ifCond (x_al x_e_iload_n (x_al ⟨rfl, (Or.inr (Or.inr (Or.inr (Or.inr ⟨x_ab rfl, xk_RX12_422⟩))))⟩ (x_al x_e_ifCond (x_al x_e_bipush (x_al x_e_ireturn (x_al x_e_aload_n (x_al x_e_iload_n (x_al x_e_i2l (x_al x_e_iload_n (x_al ⟨rfl, (Or.inr (Or.inr ⟨x_ab rfl, xk_RX12_537⟩))⟩ (x_al x_e_aload_n (x_al x_e_iload_n (x_al ⟨rfl, (Or.inr (Or.inr ⟨x_ab rfl, xk_RX12_288⟩))⟩ (x_al x_e_ifCond (x_al x_e_aload_n (x_al x_e_iload_n (x_al x_e_iconst (x_al ⟨rfl, (Or.inr (Or.inr ⟨x_ab rfl, xk_RX12_291⟩))⟩ (x_al x_e_goto (x_al x_e_iconst (x_al x_e_ireturn x_an)))))))))))))))))))))))))))
set_option maxRecDepth 20000 in
theorem rk_cX12_drawn : ∀ q ∈ x_rws M_cX12_drawn, ∀ r ∈ q.2, x_okR x_mt M_cX12_drawn r := x_okRs (x_al (x_dec rfl dc_cX12_drawn_0) x_an) (x_al wc_cX12_drawn_0 x_an)
theorem ok_cX12_drawn : x_okM x_mt M_cX12_drawn := x_okMk (plainFor_of_name xN_RX12) rfl xV_RX12 (Nat.le_of_ble_eq_true rfl) (x_bw_in (x_t9 (i := 126) rfl) rfl) (x_bw_in (x_t1 (i := 13) rfl) rfl) (fun h => by cases h) (fun _ => ⟨(x_bw_in (x_t9 (i := 124) rfl) rfl), TX12, 47, rfl⟩) (fun _ _ => (x_bw_in (x_t9 (i := 125) rfl) rfl)) rk_cX12_drawn
theorem dc_cX12_nightOf_0 : ∀ r ∈ k_cX12_nightOf_0, decode cX12_nightOf r.1 = .ok (r.2.1, r.2.2.1) := x_wall_ok _ 0 [42, 31, 29, 182, 2, 25, 42, 21, 4, 182, 1, 72, 42, 182, 1, 106, 42, 180, 1, 90, 172] (x_win_of (by decide +kernel)) (by decide +kernel)
theorem wc_cX12_nightOf_0 : ∀ r ∈ k_cX12_nightOf_0, x_okW x_mt M_cX12_nightOf r := (x_al x_e_aload_n (x_al x_e_lload_n (x_al x_e_iload_n (x_al ⟨rfl, (Or.inr (Or.inr ⟨x_ab rfl, xk_RX12_537⟩))⟩ (x_al x_e_aload_n (x_al x_e_iload (x_al ⟨rfl, (Or.inr (Or.inr ⟨x_ab rfl, xk_RX12_328⟩))⟩ (x_al x_e_aload_n (x_al ⟨rfl, (Or.inr (Or.inr ⟨x_ab rfl, xk_RX12_362⟩))⟩ (x_al x_e_aload_n (x_al ⟨rfl, xf_RX12_346⟩ (x_al x_e_ireturn x_an))))))))))))
set_option maxRecDepth 20000 in
theorem rk_cX12_nightOf : ∀ q ∈ x_rws M_cX12_nightOf, ∀ r ∈ q.2, x_okR x_mt M_cX12_nightOf r := x_okRs (x_al (x_dec rfl dc_cX12_nightOf_0) x_an) (x_al wc_cX12_nightOf_0 x_an)
theorem ok_cX12_nightOf : x_okM x_mt M_cX12_nightOf := x_okMk (plainFor_of_name xN_RX12) rfl xV_RX12 (Nat.le_of_ble_eq_true rfl) (x_bw_in (x_t9 (i := 154) rfl) rfl) (x_bw_in (x_t1 (i := 13) rfl) rfl) (fun h => by cases h) (fun _ => ⟨(x_bw_in (x_t9 (i := 153) rfl) rfl), TX12, 47, rfl⟩) (fun _ _ => (x_bw_in (x_t0 (i := 119) rfl) rfl)) rk_cX12_nightOf
theorem dc_cX12_night_0 : ∀ r ∈ k_cX12_night_0, decode cX12_night r.1 = .ok (r.2.1, r.2.2.1) := x_wall_ok _ 0 [27, 184, 2, 22, 153, 0, 29, 28, 184, 1, 166, 153, 0, 22, 42, 29, 182, 1, 14, 153, 0, 14, 42, 27, 133, 28, 29, 182, 2, 29, 167, 0, 5, 16, 254, 172] (x_win_of (by decide +kernel)) (by decide +kernel)
theorem wc_cX12_night_0 : ∀ r ∈ k_cX12_night_0, x_okW x_mt M_cX12_night r := (x_al x_e_iload_n (x_al ⟨rfl, (Or.inr (Or.inr (Or.inr (Or.inr ⟨x_ab rfl, xk_RX12_534⟩))))⟩ (x_al x_e_ifCond (x_al x_e_iload_n (x_al ⟨rfl, (Or.inr (Or.inr (Or.inr (Or.inr ⟨x_ab rfl, xk_RX12_422⟩))))⟩ (x_al x_e_ifCond (x_al x_e_aload_n (x_al x_e_iload_n (x_al ⟨rfl, (Or.inr (Or.inr ⟨x_ab rfl, xk_RX12_270⟩))⟩ (x_al x_e_ifCond (x_al x_e_aload_n (x_al x_e_iload_n (x_al x_e_i2l (x_al x_e_iload_n (x_al x_e_iload_n (x_al ⟨rfl, (Or.inr (Or.inr ⟨x_ab rfl, xk_RX12_541⟩))⟩ (x_al x_e_goto (x_al x_e_bipush (x_al x_e_ireturn x_an)))))))))))))))))))
set_option maxRecDepth 20000 in
theorem rk_cX12_night : ∀ q ∈ x_rws M_cX12_night, ∀ r ∈ q.2, x_okR x_mt M_cX12_night r := x_okRs (x_al (x_dec rfl dc_cX12_night_0) x_an) (x_al wc_cX12_night_0 x_an)
theorem ok_cX12_night : x_okM x_mt M_cX12_night := x_okMk (plainFor_of_name xN_RX12) rfl xV_RX12 (Nat.le_of_ble_eq_true rfl) (x_bw_in (x_t9 (i := 150) rfl) rfl) (x_bw_in (x_t1 (i := 13) rfl) rfl) (fun h => by cases h) (fun _ => ⟨(x_bw_in (x_t9 (i := 148) rfl) rfl), TX12, 47, rfl⟩) (fun _ _ => (x_bw_in (x_t9 (i := 149) rfl) rfl)) rk_cX12_night
theorem dc_cX12_years_1 : ∀ r ∈ k_cX12_years_1, decode cX12_years r.1 = .ok (r.2.1, r.2.2.1) := x_wall_ok _ 59 [29, 21, 4, 182, 2, 29, 96, 54, 5, 132, 6, 1, 167, 255, 229, 21, 5, 172] (x_win_of (by decide +kernel)) (by decide +kernel)
theorem wc_cX12_years_1 : ∀ r ∈ k_cX12_years_1, x_okW x_mt M_cX12_years r := (x_al x_e_iload_n (x_al x_e_iload (x_al ⟨rfl, (Or.inr (Or.inr ⟨x_ab rfl, xk_RX12_541⟩))⟩ (x_al x_e_iadd (x_al ⟨rfl, (Nat.le_of_ble_eq_true rfl)⟩ (x_al ⟨rfl, (Nat.le_of_ble_eq_true rfl)⟩ (x_al x_e_goto (x_al x_e_iload (x_al x_e_ireturn x_an)))))))))
theorem dc_cX12_years_0 : ∀ r ∈ k_cX12_years_0, decode cX12_years r.1 = .ok (r.2.1, r.2.2.1) := x_wall_ok _ 0 [27, 184, 2, 22, 153, 0, 31, 28, 133, 10, 20, 1, 218, 184, 0, 88, 153, 0, 19, 29, 184, 1, 166, 153, 0, 12, 42, 21, 4, 182, 1, 14, 154, 0, 6, 16, 254, 172, 3, 54, 5, 3, 54, 6, 21, 6, 28, 162, 0, 27, 21, 5, 42, 27, 133, 21, 6, 133, 97] (x_win_of (by decide +kernel)) (by decide +kernel)
theorem wc_cX12_years_0 : ∀ r ∈ k_cX12_years_0, x_okW x_mt M_cX12_years r := (x_al x_e_iload_n (x_al ⟨rfl, (Or.inr (Or.inr (Or.inr (Or.inr ⟨x_ab rfl, xk_RX12_534⟩))))⟩ (x_al x_e_ifCond (x_al x_e_iload_n (x_al x_e_i2l (x_al x_e_lconst (x_al ⟨rfl, xc_RX12_474⟩ (x_al ⟨rfl, (Or.inr (Or.inr (Or.inr (Or.inr ⟨x_ab rfl, xk_RX12_88⟩))))⟩ (x_al x_e_ifCond (x_al x_e_iload_n (x_al ⟨rfl, (Or.inr (Or.inr (Or.inr (Or.inr ⟨x_ab rfl, xk_RX12_422⟩))))⟩ (x_al x_e_ifCond (x_al x_e_aload_n (x_al x_e_iload (x_al ⟨rfl, (Or.inr (Or.inr ⟨x_ab rfl, xk_RX12_270⟩))⟩ (x_al x_e_ifCond (x_al x_e_bipush (x_al x_e_ireturn (x_al x_e_iconst (x_al ⟨rfl, (Nat.le_of_ble_eq_true rfl)⟩ (x_al x_e_iconst (x_al ⟨rfl, (Nat.le_of_ble_eq_true rfl)⟩ (x_al x_e_iload (x_al x_e_iload_n (x_al x_e_if_icmp (x_al x_e_iload (x_al x_e_aload_n (x_al x_e_iload_n (x_al x_e_i2l (x_al x_e_iload (x_al x_e_i2l (x_al x_e_ladd x_an))))))))))))))))))))))))))))))))
set_option maxRecDepth 20000 in
theorem rk_cX12_years : ∀ q ∈ x_rws M_cX12_years, ∀ r ∈ q.2, x_okR x_mt M_cX12_years r := x_okRs (x_al (x_dec rfl dc_cX12_years_0) (x_al (x_dec rfl dc_cX12_years_1) x_an)) (x_al wc_cX12_years_0 (x_al wc_cX12_years_1 x_an))
theorem ok_cX12_years : x_okM x_mt M_cX12_years := x_okMk (plainFor_of_name xN_RX12) rfl xV_RX12 (Nat.le_of_ble_eq_true rfl) (x_bw_in (x_t9 (i := 158) rfl) rfl) (x_bw_in (x_t1 (i := 13) rfl) rfl) (fun h => by cases h) (fun _ => ⟨(x_bw_in (x_t9 (i := 156) rfl) rfl), TX12, 47, rfl⟩) (fun _ _ => (x_bw_in (x_t9 (i := 157) rfl) rfl)) rk_cX12_years
theorem dc_cX12_count_2 : ∀ r ∈ k_cX12_count_2, decode cX12_count r.1 = .ok (r.2.1, r.2.2.1) := x_wall_ok _ 150 [3, 167, 0, 4, 4, 96, 61, 132, 3, 1, 167, 255, 230, 28, 172, 2, 172] (x_win_of (by decide +kernel)) (by decide +kernel)
theorem wc_cX12_count_2 : ∀ r ∈ k_cX12_count_2, x_okW x_mt M_cX12_count r := (x_al x_e_iconst (x_al x_e_goto (x_al x_e_iconst (x_al x_e_iadd (x_al ⟨rfl, (Nat.le_of_ble_eq_true rfl)⟩ (x_al ⟨rfl, (Nat.le_of_ble_eq_true rfl)⟩ (x_al x_e_goto (x_al x_e_iload_n (x_al x_e_ireturn (x_al x_e_iconst (x_al x_e_ireturn x_an)))))))))))
theorem dc_cX12_count_1 : ∀ r ∈ k_cX12_count_1, decode cX12_count r.1 = .ok (r.2.1, r.2.2.1) := x_wall_ok _ 101 [46, 172, 42, 180, 0, 9, 16, 7, 46, 172, 42, 180, 0, 9, 16, 8, 46, 172, 42, 180, 0, 9, 16, 9, 46, 172, 42, 180, 0, 96, 172, 3, 62, 29, 7, 162, 0, 27, 28, 42, 180, 0, 71, 29, 46, 2, 160, 0, 7] (x_win_of (by decide +kernel)) (by decide +kernel)
theorem wc_cX12_count_1 : ∀ r ∈ k_cX12_count_1, x_okW x_mt M_cX12_count r := (x_al x_e_iaload (x_al x_e_ireturn (x_al x_e_aload_n (x_al ⟨rfl, xf_RX12_9⟩ (x_al x_e_bipush (x_al x_e_iaload (x_al x_e_ireturn (x_al x_e_aload_n (x_al ⟨rfl, xf_RX12_9⟩ (x_al x_e_bipush (x_al x_e_iaload (x_al x_e_ireturn (x_al x_e_aload_n (x_al ⟨rfl, xf_RX12_9⟩ (x_al x_e_bipush (x_al x_e_iaload (x_al x_e_ireturn (x_al x_e_aload_n (x_al ⟨rfl, xf_RX12_96⟩ (x_al x_e_ireturn (x_al x_e_iconst (x_al ⟨rfl, (Nat.le_of_ble_eq_true rfl)⟩ (x_al x_e_iload_n (x_al x_e_iconst (x_al x_e_if_icmp (x_al x_e_iload_n (x_al x_e_aload_n (x_al ⟨rfl, xf_RX12_71⟩ (x_al x_e_iload_n (x_al x_e_iaload (x_al x_e_iconst (x_al x_e_if_icmp x_an))))))))))))))))))))))))))))))))
theorem dc_cX12_count_0 : ∀ r ∈ k_cX12_count_0, decode cX12_count r.1 = .ok (r.2.1, r.2.2.1) := x_wall_ok _ 0 [3, 61, 27, 170, 0, 0, 0, 162, 0, 0, 0, 0, 0, 0, 0, 10, 0, 0, 0, 57, 0, 0, 0, 64, 0, 0, 0, 71, 0, 0, 0, 78, 0, 0, 0, 85, 0, 0, 0, 92, 0, 0, 0, 100, 0, 0, 0, 108, 0, 0, 0, 116, 0, 0, 0, 124, 0, 0, 0, 129, 42, 180, 0, 9, 3, 46, 172, 42, 180, 0, 9, 4, 46, 172, 42, 180, 0, 9, 5, 46, 172, 42, 180, 0, 9, 6, 46, 172, 42, 180, 0, 9, 8, 46, 172, 42, 180, 0, 9, 16, 6] (x_win_of (by decide +kernel)) (by decide +kernel)
theorem wc_cX12_count_0 : ∀ r ∈ k_cX12_count_0, x_okW x_mt M_cX12_count r := (x_al x_e_iconst (x_al ⟨rfl, (Nat.le_of_ble_eq_true rfl)⟩ (x_al x_e_iload_n (x_al ⟨trivial, trivial⟩ (x_al x_e_aload_n (x_al ⟨rfl, xf_RX12_9⟩ (x_al x_e_iconst (x_al x_e_iaload (x_al x_e_ireturn (x_al x_e_aload_n (x_al ⟨rfl, xf_RX12_9⟩ (x_al x_e_iconst (x_al x_e_iaload (x_al x_e_ireturn (x_al x_e_aload_n (x_al ⟨rfl, xf_RX12_9⟩ (x_al x_e_iconst (x_al x_e_iaload (x_al x_e_ireturn (x_al x_e_aload_n (x_al ⟨rfl, xf_RX12_9⟩ (x_al x_e_iconst (x_al x_e_iaload (x_al x_e_ireturn (x_al x_e_aload_n (x_al ⟨rfl, xf_RX12_9⟩ (x_al x_e_iconst (x_al x_e_iaload (x_al x_e_ireturn (x_al x_e_aload_n (x_al ⟨rfl, xf_RX12_9⟩ (x_al x_e_bipush x_an))))))))))))))))))))))))))))))))
set_option maxRecDepth 20000 in
theorem rk_cX12_count : ∀ q ∈ x_rws M_cX12_count, ∀ r ∈ q.2, x_okR x_mt M_cX12_count r := x_okRs (x_al (x_dec rfl dc_cX12_count_0) (x_al (x_dec rfl dc_cX12_count_1) (x_al (x_dec rfl dc_cX12_count_2) x_an))) (x_al wc_cX12_count_0 (x_al wc_cX12_count_1 (x_al wc_cX12_count_2 x_an)))
theorem ok_cX12_count : x_okM x_mt M_cX12_count := x_okMk (plainFor_of_name xN_RX12) rfl xV_RX12 (Nat.le_of_ble_eq_true rfl) (x_bw_in (x_t9 (i := 162) rfl) rfl) (x_bw_in (x_t1 (i := 13) rfl) rfl) (fun h => by cases h) (fun _ => ⟨(x_bw_in (x_t9 (i := 160) rfl) rfl), TX12, 47, rfl⟩) (fun _ _ => (x_bw_in (x_t9 (i := 161) rfl) rfl)) rk_cX12_count
theorem dc_cX12_isSlot_0 : ∀ r ∈ k_cX12_isSlot_0, decode cX12_isSlot r.1 = .ok (r.2.1, r.2.2.1) := x_wall_ok _ 0 [26, 133, 9, 20, 1, 160, 184, 0, 88, 172] (x_win_of (by decide +kernel)) (by decide +kernel)
theorem wc_cX12_isSlot_0 : ∀ r ∈ k_cX12_isSlot_0, x_okW x_mt M_cX12_isSlot r := (x_al x_e_iload_n (x_al x_e_i2l (x_al x_e_lconst (x_al ⟨rfl, xc_RX12_416⟩ (x_al ⟨rfl, (Or.inr (Or.inr (Or.inr (Or.inr ⟨x_ab rfl, xk_RX12_88⟩))))⟩ (x_al x_e_ireturn x_an))))))
set_option maxRecDepth 20000 in
theorem rk_cX12_isSlot : ∀ q ∈ x_rws M_cX12_isSlot, ∀ r ∈ q.2, x_okR x_mt M_cX12_isSlot r := x_okRs (x_al (x_dec rfl dc_cX12_isSlot_0) x_an) (x_al wc_cX12_isSlot_0 x_an)
theorem ok_cX12_isSlot : x_okM x_mt M_cX12_isSlot := x_okMk (plainFor_of_name xN_RX12) rfl xV_RX12 (Nat.le_of_ble_eq_true rfl) (x_bw_in (x_t8 (i := 191) rfl) rfl) (x_bw_in (x_t1 (i := 13) rfl) rfl) (fun _ => (x_bw_in (x_t8 (i := 190) rfl) rfl)) (fun h => by cases h) (fun h => by cases h) rk_cX12_isSlot
theorem dc_cX12_cut_0 : ∀ r ∈ k_cX12_cut_0, decode cX12_cut r.1 = .ok (r.2.1, r.2.2.1) := x_wall_ok _ 0 [16, 64, 16, 8, 28, 120, 100, 62, 30, 29, 121, 29, 123, 173] (x_win_of (by decide +kernel)) (by decide +kernel)
theorem wc_cX12_cut_0 : ∀ r ∈ k_cX12_cut_0, x_okW x_mt M_cX12_cut r := (x_al x_e_bipush (x_al x_e_bipush (x_al x_e_iload_n (x_al x_e_ishl (x_al x_e_isub (x_al ⟨rfl, (Nat.le_of_ble_eq_true rfl)⟩ (x_al x_e_lload_n (x_al x_e_iload_n (x_al x_e_lshl (x_al x_e_iload_n (x_al x_e_lshr (x_al x_e_lreturn x_an))))))))))))
set_option maxRecDepth 20000 in
theorem rk_cX12_cut : ∀ q ∈ x_rws M_cX12_cut, ∀ r ∈ q.2, x_okR x_mt M_cX12_cut r := x_okRs (x_al (x_dec rfl dc_cX12_cut_0) x_an) (x_al wc_cX12_cut_0 x_an)
theorem ok_cX12_cut : x_okM x_mt M_cX12_cut := x_okMk (plainFor_of_name xN_RX12) rfl xV_RX12 (Nat.le_of_ble_eq_true rfl) (x_bw_in (x_t9 (i := 173) rfl) rfl) (x_bw_in (x_t1 (i := 13) rfl) rfl) (fun _ => (x_bw_in (x_t9 (i := 172) rfl) rfl)) (fun h => by cases h) (fun h => by cases h) rk_cX12_cut
theorem dc_cX12_row_1 : ∀ r ∈ k_cX12_row_1, decode cX12_row r.1 = .ok (r.2.1, r.2.2.1) := x_wall_ok _ 56 [162, 0, 22, 42, 180, 0, 77, 16, 60, 27, 104, 21, 4, 96, 9, 80, 132, 4, 1, 167, 255, 233, 3, 172] (x_win_of (by decide +kernel)) (by decide +kernel)
theorem wc_cX12_row_1 : ∀ r ∈ k_cX12_row_1, x_okW x_mt M_cX12_row r := (x_al x_e_if_icmp (x_al x_e_aload_n (x_al ⟨rfl, xf_RX12_77⟩ (x_al x_e_bipush (x_al x_e_iload_n (x_al x_e_imul (x_al x_e_iload (x_al x_e_iadd (x_al x_e_lconst (x_al x_e_lastore (x_al ⟨rfl, (Nat.le_of_ble_eq_true rfl)⟩ (x_al x_e_goto (x_al x_e_iconst (x_al x_e_ireturn x_an))))))))))))))
theorem dc_cX12_row_0 : ∀ r ∈ k_cX12_row_0, decode cX12_row r.1 = .ok (r.2.1, r.2.2.1) := x_wall_ok _ 0 [27, 184, 1, 187, 153, 0, 21, 28, 133, 9, 20, 1, 160, 184, 0, 88, 153, 0, 9, 29, 16, 60, 164, 0, 6, 16, 254, 172, 29, 156, 0, 6, 16, 253, 172, 42, 180, 0, 71, 27, 29, 79, 42, 180, 0, 74, 27, 28, 79, 3, 54, 4, 21, 4, 16, 60] (x_win_of (by decide +kernel)) (by decide +kernel)
theorem wc_cX12_row_0 : ∀ r ∈ k_cX12_row_0, x_okW x_mt M_cX12_row r := (x_al x_e_iload_n (x_al ⟨rfl, (Or.inr (Or.inr (Or.inr (Or.inr ⟨x_ab rfl, xk_RX12_443⟩))))⟩ (x_al x_e_ifCond (x_al x_e_iload_n (x_al x_e_i2l (x_al x_e_lconst (x_al ⟨rfl, xc_RX12_416⟩ (x_al ⟨rfl, (Or.inr (Or.inr (Or.inr (Or.inr ⟨x_ab rfl, xk_RX12_88⟩))))⟩ (x_al x_e_ifCond (x_al x_e_iload_n (x_al x_e_bipush (x_al x_e_if_icmp (x_al x_e_bipush (x_al x_e_ireturn (x_al x_e_iload_n (x_al x_e_ifCond (x_al x_e_bipush (x_al x_e_ireturn (x_al x_e_aload_n (x_al ⟨rfl, xf_RX12_71⟩ (x_al x_e_iload_n (x_al x_e_iload_n (x_al x_e_iastore (x_al x_e_aload_n (x_al ⟨rfl, xf_RX12_74⟩ (x_al x_e_iload_n (x_al x_e_iload_n (x_al x_e_iastore (x_al x_e_iconst (x_al ⟨rfl, (Nat.le_of_ble_eq_true rfl)⟩ (x_al x_e_iload (x_al x_e_bipush x_an))))))))))))))))))))))))))))))))
set_option maxRecDepth 20000 in
theorem rk_cX12_row : ∀ q ∈ x_rws M_cX12_row, ∀ r ∈ q.2, x_okR x_mt M_cX12_row r := x_okRs (x_al (x_dec rfl dc_cX12_row_0) (x_al (x_dec rfl dc_cX12_row_1) x_an)) (x_al wc_cX12_row_0 (x_al wc_cX12_row_1 x_an))
theorem ok_cX12_row : x_okM x_mt M_cX12_row := x_okMk (plainFor_of_name xN_RX12) rfl xV_RX12 (Nat.le_of_ble_eq_true rfl) (x_bw_in (x_t9 (i := 166) rfl) rfl) (x_bw_in (x_t1 (i := 13) rfl) rfl) (fun h => by cases h) (fun _ => ⟨(x_bw_in (x_t9 (i := 164) rfl) rfl), TX12, 47, rfl⟩) (fun _ _ => (x_bw_in (x_t9 (i := 165) rfl) rfl)) rk_cX12_row
theorem dc_cX12_write_1 : ∀ r ∈ k_cX12_write_1, decode cX12_write r.1 = .ok (r.2.1, r.2.2.1) := x_wall_ok _ 52 [28, 96, 33, 42, 180, 0, 74, 27, 46, 184, 2, 33, 80, 3, 172] (x_win_of (by decide +kernel)) (by decide +kernel)
theorem wc_cX12_write_1 : ∀ r ∈ k_cX12_write_1, x_okW x_mt M_cX12_write r := (x_al x_e_iload_n (x_al x_e_iadd (x_al x_e_lload_n (x_al x_e_aload_n (x_al ⟨rfl, xf_RX12_74⟩ (x_al x_e_iload_n (x_al x_e_iaload (x_al ⟨rfl, (Or.inr (Or.inr (Or.inr (Or.inr ⟨x_ab rfl, xk_RX12_545⟩))))⟩ (x_al x_e_lastore (x_al x_e_iconst (x_al x_e_ireturn x_an)))))))))))
theorem dc_cX12_write_0 : ∀ r ∈ k_cX12_write_0, decode cX12_write r.1 = .ok (r.2.1, r.2.2.1) := x_wall_ok _ 0 [27, 184, 1, 187, 154, 0, 6, 16, 254, 172, 42, 180, 0, 71, 27, 46, 2, 160, 0, 6, 16, 250, 172, 28, 133, 9, 42, 180, 0, 71, 27, 46, 4, 100, 133, 184, 0, 88, 154, 0, 6, 16, 249, 172, 42, 180, 0, 77, 16, 60, 27, 104] (x_win_of (by decide +kernel)) (by decide +kernel)
theorem wc_cX12_write_0 : ∀ r ∈ k_cX12_write_0, x_okW x_mt M_cX12_write r := (x_al x_e_iload_n (x_al ⟨rfl, (Or.inr (Or.inr (Or.inr (Or.inr ⟨x_ab rfl, xk_RX12_443⟩))))⟩ (x_al x_e_ifCond (x_al x_e_bipush (x_al x_e_ireturn (x_al x_e_aload_n (x_al ⟨rfl, xf_RX12_71⟩ (x_al x_e_iload_n (x_al x_e_iaload (x_al x_e_iconst (x_al x_e_if_icmp (x_al x_e_bipush (x_al x_e_ireturn (x_al x_e_iload_n (x_al x_e_i2l (x_al x_e_lconst (x_al x_e_aload_n (x_al ⟨rfl, xf_RX12_71⟩ (x_al x_e_iload_n (x_al x_e_iaload (x_al x_e_iconst (x_al x_e_isub (x_al x_e_i2l (x_al ⟨rfl, (Or.inr (Or.inr (Or.inr (Or.inr ⟨x_ab rfl, xk_RX12_88⟩))))⟩ (x_al x_e_ifCond (x_al x_e_bipush (x_al x_e_ireturn (x_al x_e_aload_n (x_al ⟨rfl, xf_RX12_77⟩ (x_al x_e_bipush (x_al x_e_iload_n (x_al x_e_imul x_an))))))))))))))))))))))))))))))))
set_option maxRecDepth 20000 in
theorem rk_cX12_write : ∀ q ∈ x_rws M_cX12_write, ∀ r ∈ q.2, x_okR x_mt M_cX12_write r := x_okRs (x_al (x_dec rfl dc_cX12_write_0) (x_al (x_dec rfl dc_cX12_write_1) x_an)) (x_al wc_cX12_write_0 (x_al wc_cX12_write_1 x_an))
theorem ok_cX12_write : x_okM x_mt M_cX12_write := x_okMk (plainFor_of_name xN_RX12) rfl xV_RX12 (Nat.le_of_ble_eq_true rfl) (x_bw_in (x_t9 (i := 170) rfl) rfl) (x_bw_in (x_t1 (i := 13) rfl) rfl) (fun h => by cases h) (fun _ => ⟨(x_bw_in (x_t9 (i := 168) rfl) rfl), TX12, 47, rfl⟩) (fun _ _ => (x_bw_in (x_t9 (i := 169) rfl) rfl)) rk_cX12_write
theorem dc_cX12_paste_3 : ∀ r ∈ k_cX12_paste_3, decode cX12_paste r.1 = .ok (r.2.1, r.2.2.1) := x_wall_ok _ 165 [21, 4, 96, 21, 6, 96, 42, 180, 0, 80, 21, 6, 47, 80, 132, 6, 1, 167, 255, 224, 3, 172] (x_win_of (by decide +kernel)) (by decide +kernel)
theorem wc_cX12_paste_3 : ∀ r ∈ k_cX12_paste_3, x_okW x_mt M_cX12_paste r := (x_al x_e_iload (x_al x_e_iadd (x_al x_e_iload (x_al x_e_iadd (x_al x_e_aload_n (x_al ⟨rfl, xf_RX12_80⟩ (x_al x_e_iload (x_al x_e_laload (x_al x_e_lastore (x_al ⟨rfl, (Nat.le_of_ble_eq_true rfl)⟩ (x_al x_e_goto (x_al x_e_iconst (x_al x_e_ireturn x_an)))))))))))))
theorem dc_cX12_paste_2 : ∀ r ∈ k_cX12_paste_2, decode cX12_paste r.1 = .ok (r.2.1, r.2.2.1) := x_wall_ok _ 109 [172, 3, 54, 6, 21, 6, 21, 5, 162, 0, 30, 42, 180, 0, 80, 21, 6, 42, 180, 0, 77, 16, 60, 27, 104, 28, 96, 21, 6, 96, 47, 80, 132, 6, 1, 167, 255, 225, 3, 54, 6, 21, 6, 21, 5, 162, 0, 31, 42, 180, 0, 77, 16, 60, 29, 104] (x_win_of (by decide +kernel)) (by decide +kernel)
theorem wc_cX12_paste_2 : ∀ r ∈ k_cX12_paste_2, x_okW x_mt M_cX12_paste r := (x_al x_e_ireturn (x_al x_e_iconst (x_al ⟨rfl, (Nat.le_of_ble_eq_true rfl)⟩ (x_al x_e_iload (x_al x_e_iload (x_al x_e_if_icmp (x_al x_e_aload_n (x_al ⟨rfl, xf_RX12_80⟩ (x_al x_e_iload (x_al x_e_aload_n (x_al ⟨rfl, xf_RX12_77⟩ (x_al x_e_bipush (x_al x_e_iload_n (x_al x_e_imul (x_al x_e_iload_n (x_al x_e_iadd (x_al x_e_iload (x_al x_e_iadd (x_al x_e_laload (x_al x_e_lastore (x_al ⟨rfl, (Nat.le_of_ble_eq_true rfl)⟩ (x_al x_e_goto (x_al x_e_iconst (x_al ⟨rfl, (Nat.le_of_ble_eq_true rfl)⟩ (x_al x_e_iload (x_al x_e_iload (x_al x_e_if_icmp (x_al x_e_aload_n (x_al ⟨rfl, xf_RX12_77⟩ (x_al x_e_bipush (x_al x_e_iload_n (x_al x_e_imul x_an))))))))))))))))))))))))))))))))
theorem dc_cX12_paste_1 : ∀ r ∈ k_cX12_paste_1, decode cX12_paste r.1 = .ok (r.2.1, r.2.2.1) := x_wall_ok _ 57 [172, 28, 155, 0, 48, 21, 4, 155, 0, 43, 21, 5, 155, 0, 38, 28, 133, 21, 5, 133, 97, 42, 180, 0, 71, 27, 46, 133, 148, 157, 0, 21, 21, 4, 133, 21, 5, 133, 97, 42, 180, 0, 71, 29, 46, 133, 148, 158, 0, 6, 16, 249] (x_win_of (by decide +kernel)) (by decide +kernel)
theorem wc_cX12_paste_1 : ∀ r ∈ k_cX12_paste_1, x_okW x_mt M_cX12_paste r := (x_al x_e_ireturn (x_al x_e_iload_n (x_al x_e_ifCond (x_al x_e_iload (x_al x_e_ifCond (x_al x_e_iload (x_al x_e_ifCond (x_al x_e_iload_n (x_al x_e_i2l (x_al x_e_iload (x_al x_e_i2l (x_al x_e_ladd (x_al x_e_aload_n (x_al ⟨rfl, xf_RX12_71⟩ (x_al x_e_iload_n (x_al x_e_iaload (x_al x_e_i2l (x_al x_e_lcmp (x_al x_e_ifCond (x_al x_e_iload (x_al x_e_i2l (x_al x_e_iload (x_al x_e_i2l (x_al x_e_ladd (x_al x_e_aload_n (x_al ⟨rfl, xf_RX12_71⟩ (x_al x_e_iload_n (x_al x_e_iaload (x_al x_e_i2l (x_al x_e_lcmp (x_al x_e_ifCond (x_al x_e_bipush x_an))))))))))))))))))))))))))))))))
theorem dc_cX12_paste_0 : ∀ r ∈ k_cX12_paste_0, decode cX12_paste r.1 = .ok (r.2.1, r.2.2.1) := x_wall_ok _ 0 [27, 184, 1, 187, 153, 0, 10, 29, 184, 1, 187, 154, 0, 6, 16, 254, 172, 42, 180, 0, 71, 27, 46, 2, 159, 0, 13, 42, 180, 0, 71, 29, 46, 2, 160, 0, 6, 16, 250, 172, 42, 180, 0, 74, 27, 46, 42, 180, 0, 74, 29, 46, 159, 0, 6, 16, 248] (x_win_of (by decide +kernel)) (by decide +kernel)
theorem wc_cX12_paste_0 : ∀ r ∈ k_cX12_paste_0, x_okW x_mt M_cX12_paste r := (x_al x_e_iload_n (x_al ⟨rfl, (Or.inr (Or.inr (Or.inr (Or.inr ⟨x_ab rfl, xk_RX12_443⟩))))⟩ (x_al x_e_ifCond (x_al x_e_iload_n (x_al ⟨rfl, (Or.inr (Or.inr (Or.inr (Or.inr ⟨x_ab rfl, xk_RX12_443⟩))))⟩ (x_al x_e_ifCond (x_al x_e_bipush (x_al x_e_ireturn (x_al x_e_aload_n (x_al ⟨rfl, xf_RX12_71⟩ (x_al x_e_iload_n (x_al x_e_iaload (x_al x_e_iconst (x_al x_e_if_icmp (x_al x_e_aload_n (x_al ⟨rfl, xf_RX12_71⟩ (x_al x_e_iload_n (x_al x_e_iaload (x_al x_e_iconst (x_al x_e_if_icmp (x_al x_e_bipush (x_al x_e_ireturn (x_al x_e_aload_n (x_al ⟨rfl, xf_RX12_74⟩ (x_al x_e_iload_n (x_al x_e_iaload (x_al x_e_aload_n (x_al ⟨rfl, xf_RX12_74⟩ (x_al x_e_iload_n (x_al x_e_iaload (x_al x_e_if_icmp (x_al x_e_bipush x_an))))))))))))))))))))))))))))))))
set_option maxRecDepth 20000 in
theorem rk_cX12_paste : ∀ q ∈ x_rws M_cX12_paste, ∀ r ∈ q.2, x_okR x_mt M_cX12_paste r := x_okRs (x_al (x_dec rfl dc_cX12_paste_0) (x_al (x_dec rfl dc_cX12_paste_1) (x_al (x_dec rfl dc_cX12_paste_2) (x_al (x_dec rfl dc_cX12_paste_3) x_an)))) (x_al wc_cX12_paste_0 (x_al wc_cX12_paste_1 (x_al wc_cX12_paste_2 (x_al wc_cX12_paste_3 x_an))))
theorem ok_cX12_paste : x_okM x_mt M_cX12_paste := x_okMk (plainFor_of_name xN_RX12) rfl xV_RX12 (Nat.le_of_ble_eq_true rfl) (x_bw_in (x_t9 (i := 177) rfl) rfl) (x_bw_in (x_t1 (i := 13) rfl) rfl) (fun h => by cases h) (fun _ => ⟨(x_bw_in (x_t9 (i := 175) rfl) rfl), TX12, 47, rfl⟩) (fun _ _ => (x_bw_in (x_t9 (i := 176) rfl) rfl)) rk_cX12_paste
theorem dc_cJ6_bitCount_0f7a4_1 : ∀ r ∈ k_cJ6_bitCount_0f7a4_1, decode cJ6_bitCount_0f7a4 r.1 = .ok (r.2.1, r.2.2.1) := x_wall_ok _ 41 [26, 26, 16, 16, 124, 96, 59, 26, 16, 63, 126, 172] (x_win_of (by decide +kernel)) (by decide +kernel)
theorem wc_cJ6_bitCount_0f7a4_1 : ∀ r ∈ k_cJ6_bitCount_0f7a4_1, x_okW x_mt M_cJ6_bitCount_0f7a4 r := (x_al x_e_iload_n (x_al x_e_iload_n (x_al x_e_bipush (x_al x_e_iushr (x_al x_e_iadd (x_al ⟨rfl, (Nat.le_of_ble_eq_true rfl)⟩ (x_al x_e_iload_n (x_al x_e_bipush (x_al x_e_iand (x_al x_e_ireturn x_an))))))))))
theorem dc_cJ6_bitCount_0f7a4_0 : ∀ r ∈ k_cJ6_bitCount_0f7a4_0, decode cJ6_bitCount_0f7a4 r.1 = .ok (r.2.1, r.2.2.1) := x_wall_ok _ 0 [26, 26, 4, 124, 19, 1, 9, 126, 100, 59, 26, 19, 1, 10, 126, 26, 5, 124, 19, 1, 10, 126, 96, 59, 26, 26, 7, 124, 96, 19, 1, 11, 126, 59, 26, 26, 16, 8, 124, 96, 59] (x_win_of (by decide +kernel)) (by decide +kernel)
theorem wc_cJ6_bitCount_0f7a4_0 : ∀ r ∈ k_cJ6_bitCount_0f7a4_0, x_okW x_mt M_cJ6_bitCount_0f7a4 r := (x_al x_e_iload_n (x_al x_e_iload_n (x_al x_e_iconst (x_al x_e_iushr (x_al ⟨rfl, xc_RJ6_265⟩ (x_al x_e_iand (x_al x_e_isub (x_al ⟨rfl, (Nat.le_of_ble_eq_true rfl)⟩ (x_al x_e_iload_n (x_al ⟨rfl, xc_RJ6_266⟩ (x_al x_e_iand (x_al x_e_iload_n (x_al x_e_iconst (x_al x_e_iushr (x_al ⟨rfl, xc_RJ6_266⟩ (x_al x_e_iand (x_al x_e_iadd (x_al ⟨rfl, (Nat.le_of_ble_eq_true rfl)⟩ (x_al x_e_iload_n (x_al x_e_iload_n (x_al x_e_iconst (x_al x_e_iushr (x_al x_e_iadd (x_al ⟨rfl, xc_RJ6_267⟩ (x_al x_e_iand (x_al ⟨rfl, (Nat.le_of_ble_eq_true rfl)⟩ (x_al x_e_iload_n (x_al x_e_iload_n (x_al x_e_bipush (x_al x_e_iushr (x_al x_e_iadd (x_al ⟨rfl, (Nat.le_of_ble_eq_true rfl)⟩ x_an))))))))))))))))))))))))))))))))
set_option maxRecDepth 20000 in
theorem rk_cJ6_bitCount_0f7a4 : ∀ q ∈ x_rws M_cJ6_bitCount_0f7a4, ∀ r ∈ q.2, x_okR x_mt M_cJ6_bitCount_0f7a4 r := x_okRs (x_al (x_dec rfl dc_cJ6_bitCount_0f7a4_0) (x_al (x_dec rfl dc_cJ6_bitCount_0f7a4_1) x_an)) (x_al wc_cJ6_bitCount_0f7a4_0 (x_al wc_cJ6_bitCount_0f7a4_1 x_an))
theorem ok_cJ6_bitCount_0f7a4 : x_okM x_mt M_cJ6_bitCount_0f7a4 := x_okMk (by decide +kernel) rfl (by decide +kernel) (Nat.le_of_ble_eq_true rfl) (x_bw_in (x_t4 (i := 112) rfl) rfl) (x_bw_in (x_t1 (i := 20) rfl) rfl) (fun _ => (x_bw_in (x_t4 (i := 111) rfl) rfl)) (fun h => by cases h) (fun h => by cases h) rk_cJ6_bitCount_0f7a4
theorem x_af {α : Type 1} {p q : α → Bool} {l : List α} (h : l.all p = true) : (l.filter q).all p = true :=
  List.all_eq_true.mpr fun x hx => List.all_eq_true.mp h x (List.mem_filter.mp hx).1
theorem x_nfo {l : List NativeRow} {n c d : String} (h : (l.all fun r => r.cls != c || r.name != n) = true) : (NativeRow.find? l c n d).isNone = true := by
  unfold NativeRow.find?
  rw [Option.isNone_iff_eq_none, List.find?_eq_none]
  intro x hx
  have := List.all_eq_true.mp h x hx
  simp only [Bool.or_eq_true, bne_iff_ne] at this
  rcases this with q | q <;> simp [q]
theorem x_nff {x : MethodName} (h : (NativeRow.find? Jvm.natives x.cls x.name x.desc).isNone = true) : plainFor x = true := by
  unfold plainFor
  rw [h, Bool.or_true]
theorem x_nm_floorMod : (Jvm.Native.jdk_internal_misc_Unsafe.modes.rows.all fun r => r.cls != "java/lang/Math" || r.name != "floorMod") = true := by
  unfold Jvm.Native.jdk_internal_misc_Unsafe.modes.rows
  refine x_af ?_
  decide +kernel
theorem x_nf_floorMod : (Jvm.natives.all fun r => r.cls != "java/lang/Math" || r.name != "floorMod") = true := by
  unfold Jvm.natives
  simp only [List.all_append, x_nm_floorMod]
  decide +kernel
theorem dc_cJ9_floorMod_7cf53_0 : ∀ r ∈ k_cJ9_floorMod_7cf53_0, decode cJ9_floorMod_7cf53 r.1 = .ok (r.2.1, r.2.2.1) := x_wall_ok _ 0 [26, 27, 112, 61, 26, 27, 130, 156, 0, 11, 28, 153, 0, 7, 28, 27, 96, 172, 28, 172] (x_win_of (by decide +kernel)) (by decide +kernel)
theorem wc_cJ9_floorMod_7cf53_0 : ∀ r ∈ k_cJ9_floorMod_7cf53_0, x_okW x_mt M_cJ9_floorMod_7cf53 r := (x_al x_e_iload_n (x_al x_e_iload_n (x_al x_e_irem (x_al ⟨rfl, (Nat.le_of_ble_eq_true rfl)⟩ (x_al x_e_iload_n (x_al x_e_iload_n (x_al x_e_ixor (x_al x_e_ifCond (x_al x_e_iload_n (x_al x_e_ifCond (x_al x_e_iload_n (x_al x_e_iload_n (x_al x_e_iadd (x_al x_e_ireturn (x_al x_e_iload_n (x_al x_e_ireturn x_an))))))))))))))))
set_option maxRecDepth 20000 in
theorem rk_cJ9_floorMod_7cf53 : ∀ q ∈ x_rws M_cJ9_floorMod_7cf53, ∀ r ∈ q.2, x_okR x_mt M_cJ9_floorMod_7cf53 r := x_okRs (x_al (x_dec rfl dc_cJ9_floorMod_7cf53_0) x_an) (x_al wc_cJ9_floorMod_7cf53_0 x_an)
theorem ok_cJ9_floorMod_7cf53 : x_okM x_mt M_cJ9_floorMod_7cf53 := x_okMk (x_nff (x_nfo x_nf_floorMod)) rfl (by decide +kernel) (Nat.le_of_ble_eq_true rfl) (x_bw_in (x_t5 (i := 48) rfl) rfl) (x_bw_in (x_t1 (i := 14) rfl) rfl) (fun _ => (x_bw_in (x_t5 (i := 47) rfl) rfl)) (fun h => by cases h) (fun h => by cases h) rk_cJ9_floorMod_7cf53
theorem dc_law_51 : ∀ r ∈ k_law_51, decode cL_law r.1 = .ok (r.2.1, r.2.2.1) := x_wall_ok _ 2360 [46, 182, 1, 47, 87, 167, 0, 3, 132, 3, 6, 167, 246, 207, 4, 172] (x_win_of (by decide +kernel)) (by decide +kernel)
theorem wc_law_51 : ∀ r ∈ k_law_51, x_okW x_mt M_law r := (x_al x_e_iaload (x_al ⟨rfl, (Or.inr (Or.inr ⟨x_ab rfl, xk_RL_303⟩))⟩ (x_al x_e_pop (x_al x_e_goto (x_al ⟨rfl, (Nat.le_of_ble_eq_true rfl)⟩ (x_al x_e_goto (x_al x_e_iconst (x_al x_e_ireturn x_an))))))))
theorem dc_law_50 : ∀ r ∈ k_law_50, decode cL_law r.1 = .ok (r.2.1, r.2.2.1) := x_wall_ok _ 2326 [42, 29, 8, 96, 46, 182, 1, 44, 87, 44, 42, 29, 4, 96, 46, 42, 29, 5, 96, 46, 42, 29, 6, 96, 46, 42, 29, 7, 96, 46, 42, 29, 8, 96] (x_win_of (by decide +kernel)) (by decide +kernel)
theorem wc_law_50 : ∀ r ∈ k_law_50, x_okW x_mt M_law r := (x_al x_e_aload_n (x_al x_e_iload_n (x_al x_e_iconst (x_al x_e_iadd (x_al x_e_iaload (x_al ⟨rfl, (Or.inr (Or.inr ⟨x_ab rfl, xk_RL_300⟩))⟩ (x_al x_e_pop (x_al x_e_aload_n (x_al x_e_aload_n (x_al x_e_iload_n (x_al x_e_iconst (x_al x_e_iadd (x_al x_e_iaload (x_al x_e_aload_n (x_al x_e_iload_n (x_al x_e_iconst (x_al x_e_iadd (x_al x_e_iaload (x_al x_e_aload_n (x_al x_e_iload_n (x_al x_e_iconst (x_al x_e_iadd (x_al x_e_iaload (x_al x_e_aload_n (x_al x_e_iload_n (x_al x_e_iconst (x_al x_e_iadd (x_al x_e_iaload (x_al x_e_aload_n (x_al x_e_iload_n (x_al x_e_iconst (x_al x_e_iadd x_an))))))))))))))))))))))))))))))))
theorem dc_law_49 : ∀ r ∈ k_law_49, decode cL_law r.1 = .ok (r.2.1, r.2.2.1) := x_wall_ok _ 2288 [29, 7, 96, 46, 133, 20, 1, 37, 127, 129, 182, 1, 43, 87, 167, 0, 66, 43, 42, 29, 4, 96, 46, 42, 29, 5, 96, 46, 42, 29, 6, 96, 46, 42, 29, 7, 96, 46] (x_win_of (by decide +kernel)) (by decide +kernel)
theorem wc_law_49 : ∀ r ∈ k_law_49, x_okW x_mt M_law r := (x_al x_e_iload_n (x_al x_e_iconst (x_al x_e_iadd (x_al x_e_iaload (x_al x_e_i2l (x_al ⟨rfl, xc_RL_293⟩ (x_al x_e_land (x_al x_e_lor (x_al ⟨rfl, (Or.inr (Or.inr ⟨x_ab rfl, xk_RL_299⟩))⟩ (x_al x_e_pop (x_al x_e_goto (x_al x_e_aload_n (x_al x_e_aload_n (x_al x_e_iload_n (x_al x_e_iconst (x_al x_e_iadd (x_al x_e_iaload (x_al x_e_aload_n (x_al x_e_iload_n (x_al x_e_iconst (x_al x_e_iadd (x_al x_e_iaload (x_al x_e_aload_n (x_al x_e_iload_n (x_al x_e_iconst (x_al x_e_iadd (x_al x_e_iaload (x_al x_e_aload_n (x_al x_e_iload_n (x_al x_e_iconst (x_al x_e_iadd (x_al x_e_iaload x_an))))))))))))))))))))))))))))))))
theorem dc_law_48 : ∀ r ∈ k_law_48, decode cL_law r.1 = .ok (r.2.1, r.2.2.1) := x_wall_ok _ 2251 [121, 42, 29, 7, 96, 46, 133, 20, 1, 37, 127, 129, 182, 1, 39, 87, 44, 42, 29, 4, 96, 46, 42, 29, 5, 96, 46, 42, 29, 6, 96, 46, 133, 16, 32, 121, 42] (x_win_of (by decide +kernel)) (by decide +kernel)
theorem wc_law_48 : ∀ r ∈ k_law_48, x_okW x_mt M_law r := (x_al x_e_lshl (x_al x_e_aload_n (x_al x_e_iload_n (x_al x_e_iconst (x_al x_e_iadd (x_al x_e_iaload (x_al x_e_i2l (x_al ⟨rfl, xc_RL_293⟩ (x_al x_e_land (x_al x_e_lor (x_al ⟨rfl, (Or.inr (Or.inr ⟨x_ab rfl, xk_RL_295⟩))⟩ (x_al x_e_pop (x_al x_e_aload_n (x_al x_e_aload_n (x_al x_e_iload_n (x_al x_e_iconst (x_al x_e_iadd (x_al x_e_iaload (x_al x_e_aload_n (x_al x_e_iload_n (x_al x_e_iconst (x_al x_e_iadd (x_al x_e_iaload (x_al x_e_aload_n (x_al x_e_iload_n (x_al x_e_iconst (x_al x_e_iadd (x_al x_e_iaload (x_al x_e_i2l (x_al x_e_bipush (x_al x_e_lshl (x_al x_e_aload_n x_an))))))))))))))))))))))))))))))))
theorem dc_law_47 : ∀ r ∈ k_law_47, decode cL_law r.1 = .ok (r.2.1, r.2.2.1) := x_wall_ok _ 2214 [46, 42, 29, 5, 96, 46, 42, 29, 6, 96, 46, 182, 1, 36, 87, 167, 0, 139, 43, 42, 29, 4, 96, 46, 42, 29, 5, 96, 46, 42, 29, 6, 96, 46, 133, 16, 32] (x_win_of (by decide +kernel)) (by decide +kernel)
theorem wc_law_47 : ∀ r ∈ k_law_47, x_okW x_mt M_law r := (x_al x_e_iaload (x_al x_e_aload_n (x_al x_e_iload_n (x_al x_e_iconst (x_al x_e_iadd (x_al x_e_iaload (x_al x_e_aload_n (x_al x_e_iload_n (x_al x_e_iconst (x_al x_e_iadd (x_al x_e_iaload (x_al ⟨rfl, (Or.inr (Or.inr ⟨x_ab rfl, xk_RL_292⟩))⟩ (x_al x_e_pop (x_al x_e_goto (x_al x_e_aload_n (x_al x_e_aload_n (x_al x_e_iload_n (x_al x_e_iconst (x_al x_e_iadd (x_al x_e_iaload (x_al x_e_aload_n (x_al x_e_iload_n (x_al x_e_iconst (x_al x_e_iadd (x_al x_e_iaload (x_al x_e_aload_n (x_al x_e_iload_n (x_al x_e_iconst (x_al x_e_iadd (x_al x_e_iaload (x_al x_e_i2l (x_al x_e_bipush x_an))))))))))))))))))))))))))))))))
theorem dc_law_46 : ∀ r ∈ k_law_46, decode cL_law r.1 = .ok (r.2.1, r.2.2.1) := x_wall_ok _ 2176 [44, 42, 29, 4, 96, 46, 182, 1, 32, 87, 167, 0, 182, 43, 42, 29, 4, 96, 46, 42, 29, 5, 96, 46, 42, 29, 6, 96, 46, 182, 1, 33, 87, 44, 42, 29, 4, 96] (x_win_of (by decide +kernel)) (by decide +kernel)
theorem wc_law_46 : ∀ r ∈ k_law_46, x_okW x_mt M_law r := (x_al x_e_aload_n (x_al x_e_aload_n (x_al x_e_iload_n (x_al x_e_iconst (x_al x_e_iadd (x_al x_e_iaload (x_al ⟨rfl, (Or.inr (Or.inr ⟨x_ab rfl, xk_RL_288⟩))⟩ (x_al x_e_pop (x_al x_e_goto (x_al x_e_aload_n (x_al x_e_aload_n (x_al x_e_iload_n (x_al x_e_iconst (x_al x_e_iadd (x_al x_e_iaload (x_al x_e_aload_n (x_al x_e_iload_n (x_al x_e_iconst (x_al x_e_iadd (x_al x_e_iaload (x_al x_e_aload_n (x_al x_e_iload_n (x_al x_e_iconst (x_al x_e_iadd (x_al x_e_iaload (x_al ⟨rfl, (Or.inr (Or.inr ⟨x_ab rfl, xk_RL_289⟩))⟩ (x_al x_e_pop (x_al x_e_aload_n (x_al x_e_aload_n (x_al x_e_iload_n (x_al x_e_iconst (x_al x_e_iadd x_an))))))))))))))))))))))))))))))))
theorem dc_law_45 : ∀ r ∈ k_law_45, decode cL_law r.1 = .ok (r.2.1, r.2.2.1) := x_wall_ok _ 2132 [29, 4, 96, 46, 182, 1, 24, 87, 167, 0, 228, 43, 42, 29, 4, 96, 46, 182, 1, 25, 87, 44, 42, 29, 4, 96, 46, 182, 1, 28, 87, 167, 0, 205, 43, 42, 29, 4, 96, 46, 182, 1, 29, 87] (x_win_of (by decide +kernel)) (by decide +kernel)
theorem wc_law_45 : ∀ r ∈ k_law_45, x_okW x_mt M_law r := (x_al x_e_iload_n (x_al x_e_iconst (x_al x_e_iadd (x_al x_e_iaload (x_al ⟨rfl, (Or.inr (Or.inr ⟨x_ab rfl, xk_RL_280⟩))⟩ (x_al x_e_pop (x_al x_e_goto (x_al x_e_aload_n (x_al x_e_aload_n (x_al x_e_iload_n (x_al x_e_iconst (x_al x_e_iadd (x_al x_e_iaload (x_al ⟨rfl, (Or.inr (Or.inr ⟨x_ab rfl, xk_RL_281⟩))⟩ (x_al x_e_pop (x_al x_e_aload_n (x_al x_e_aload_n (x_al x_e_iload_n (x_al x_e_iconst (x_al x_e_iadd (x_al x_e_iaload (x_al ⟨rfl, (Or.inr (Or.inr ⟨x_ab rfl, xk_RL_284⟩))⟩ (x_al x_e_pop (x_al x_e_goto (x_al x_e_aload_n (x_al x_e_aload_n (x_al x_e_iload_n (x_al x_e_iconst (x_al x_e_iadd (x_al x_e_iaload (x_al ⟨rfl, (Or.inr (Or.inr ⟨x_ab rfl, xk_RL_285⟩))⟩ (x_al x_e_pop x_an))))))))))))))))))))))))))))))))
theorem dc_law_44 : ∀ r ∈ k_law_44, decode cL_law r.1 = .ok (r.2.1, r.2.2.1) := x_wall_ok _ 2094 [29, 4, 96, 46, 42, 29, 5, 96, 46, 42, 29, 6, 96, 46, 42, 29, 7, 96, 46, 182, 1, 20, 87, 167, 0, 251, 43, 42, 29, 4, 96, 46, 182, 1, 21, 87, 44, 42] (x_win_of (by decide +kernel)) (by decide +kernel)
theorem wc_law_44 : ∀ r ∈ k_law_44, x_okW x_mt M_law r := (x_al x_e_iload_n (x_al x_e_iconst (x_al x_e_iadd (x_al x_e_iaload (x_al x_e_aload_n (x_al x_e_iload_n (x_al x_e_iconst (x_al x_e_iadd (x_al x_e_iaload (x_al x_e_aload_n (x_al x_e_iload_n (x_al x_e_iconst (x_al x_e_iadd (x_al x_e_iaload (x_al x_e_aload_n (x_al x_e_iload_n (x_al x_e_iconst (x_al x_e_iadd (x_al x_e_iaload (x_al ⟨rfl, (Or.inr (Or.inr ⟨x_ab rfl, xk_RL_276⟩))⟩ (x_al x_e_pop (x_al x_e_goto (x_al x_e_aload_n (x_al x_e_aload_n (x_al x_e_iload_n (x_al x_e_iconst (x_al x_e_iadd (x_al x_e_iaload (x_al ⟨rfl, (Or.inr (Or.inr ⟨x_ab rfl, xk_RL_277⟩))⟩ (x_al x_e_pop (x_al x_e_aload_n (x_al x_e_aload_n x_an))))))))))))))))))))))))))))))))
theorem dc_law_43 : ∀ r ∈ k_law_43, decode cL_law r.1 = .ok (r.2.1, r.2.2.1) := x_wall_ok _ 2056 [29, 6, 96, 46, 182, 1, 15, 87, 167, 1, 48, 43, 42, 29, 4, 96, 46, 42, 29, 5, 96, 46, 42, 29, 6, 96, 46, 42, 29, 7, 96, 46, 182, 1, 16, 87, 44, 42] (x_win_of (by decide +kernel)) (by decide +kernel)
theorem wc_law_43 : ∀ r ∈ k_law_43, x_okW x_mt M_law r := (x_al x_e_iload_n (x_al x_e_iconst (x_al x_e_iadd (x_al x_e_iaload (x_al ⟨rfl, (Or.inr (Or.inr ⟨x_ab rfl, xk_RL_271⟩))⟩ (x_al x_e_pop (x_al x_e_goto (x_al x_e_aload_n (x_al x_e_aload_n (x_al x_e_iload_n (x_al x_e_iconst (x_al x_e_iadd (x_al x_e_iaload (x_al x_e_aload_n (x_al x_e_iload_n (x_al x_e_iconst (x_al x_e_iadd (x_al x_e_iaload (x_al x_e_aload_n (x_al x_e_iload_n (x_al x_e_iconst (x_al x_e_iadd (x_al x_e_iaload (x_al x_e_aload_n (x_al x_e_iload_n (x_al x_e_iconst (x_al x_e_iadd (x_al x_e_iaload (x_al ⟨rfl, (Or.inr (Or.inr ⟨x_ab rfl, xk_RL_272⟩))⟩ (x_al x_e_pop (x_al x_e_aload_n (x_al x_e_aload_n x_an))))))))))))))))))))))))))))))))
theorem dc_law_42 : ∀ r ∈ k_law_42, decode cL_law r.1 = .ok (r.2.1, r.2.2.1) := x_wall_ok _ 2020 [87, 167, 1, 91, 43, 42, 29, 4, 96, 46, 42, 29, 5, 96, 46, 42, 29, 6, 96, 46, 182, 1, 12, 87, 44, 42, 29, 4, 96, 46, 42, 29, 5, 96, 46, 42] (x_win_of (by decide +kernel)) (by decide +kernel)
theorem wc_law_42 : ∀ r ∈ k_law_42, x_okW x_mt M_law r := (x_al x_e_pop (x_al x_e_goto (x_al x_e_aload_n (x_al x_e_aload_n (x_al x_e_iload_n (x_al x_e_iconst (x_al x_e_iadd (x_al x_e_iaload (x_al x_e_aload_n (x_al x_e_iload_n (x_al x_e_iconst (x_al x_e_iadd (x_al x_e_iaload (x_al x_e_aload_n (x_al x_e_iload_n (x_al x_e_iconst (x_al x_e_iadd (x_al x_e_iaload (x_al ⟨rfl, (Or.inr (Or.inr ⟨x_ab rfl, xk_RL_268⟩))⟩ (x_al x_e_pop (x_al x_e_aload_n (x_al x_e_aload_n (x_al x_e_iload_n (x_al x_e_iconst (x_al x_e_iadd (x_al x_e_iaload (x_al x_e_aload_n (x_al x_e_iload_n (x_al x_e_iconst (x_al x_e_iadd (x_al x_e_iaload (x_al x_e_aload_n x_an))))))))))))))))))))))))))))))))
theorem dc_law_41 : ∀ r ∈ k_law_41, decode cL_law r.1 = .ok (r.2.1, r.2.2.1) := x_wall_ok _ 1984 [4, 96, 46, 42, 29, 5, 96, 46, 42, 29, 6, 96, 46, 182, 1, 8, 87, 44, 42, 29, 4, 96, 46, 42, 29, 5, 96, 46, 42, 29, 6, 96, 46, 182, 1, 11] (x_win_of (by decide +kernel)) (by decide +kernel)
theorem wc_law_41 : ∀ r ∈ k_law_41, x_okW x_mt M_law r := (x_al x_e_iconst (x_al x_e_iadd (x_al x_e_iaload (x_al x_e_aload_n (x_al x_e_iload_n (x_al x_e_iconst (x_al x_e_iadd (x_al x_e_iaload (x_al x_e_aload_n (x_al x_e_iload_n (x_al x_e_iconst (x_al x_e_iadd (x_al x_e_iaload (x_al ⟨rfl, (Or.inr (Or.inr ⟨x_ab rfl, xk_RL_264⟩))⟩ (x_al x_e_pop (x_al x_e_aload_n (x_al x_e_aload_n (x_al x_e_iload_n (x_al x_e_iconst (x_al x_e_iadd (x_al x_e_iaload (x_al x_e_aload_n (x_al x_e_iload_n (x_al x_e_iconst (x_al x_e_iadd (x_al x_e_iaload (x_al x_e_aload_n (x_al x_e_iload_n (x_al x_e_iconst (x_al x_e_iadd (x_al x_e_iaload (x_al ⟨rfl, (Or.inr (Or.inr ⟨x_ab rfl, xk_RL_267⟩))⟩ x_an))))))))))))))))))))))))))))))))
theorem dc_law_40 : ∀ r ∈ k_law_40, decode cL_law r.1 = .ok (r.2.1, r.2.2.1) := x_wall_ok _ 1946 [5, 96, 46, 42, 29, 6, 96, 46, 182, 1, 4, 87, 44, 42, 29, 4, 96, 46, 42, 29, 5, 96, 46, 42, 29, 6, 96, 46, 182, 1, 7, 87, 167, 1, 134, 43, 42, 29] (x_win_of (by decide +kernel)) (by decide +kernel)
theorem wc_law_40 : ∀ r ∈ k_law_40, x_okW x_mt M_law r := (x_al x_e_iconst (x_al x_e_iadd (x_al x_e_iaload (x_al x_e_aload_n (x_al x_e_iload_n (x_al x_e_iconst (x_al x_e_iadd (x_al x_e_iaload (x_al ⟨rfl, (Or.inr (Or.inr ⟨x_ab rfl, xk_RL_260⟩))⟩ (x_al x_e_pop (x_al x_e_aload_n (x_al x_e_aload_n (x_al x_e_iload_n (x_al x_e_iconst (x_al x_e_iadd (x_al x_e_iaload (x_al x_e_aload_n (x_al x_e_iload_n (x_al x_e_iconst (x_al x_e_iadd (x_al x_e_iaload (x_al x_e_aload_n (x_al x_e_iload_n (x_al x_e_iconst (x_al x_e_iadd (x_al x_e_iaload (x_al ⟨rfl, (Or.inr (Or.inr ⟨x_ab rfl, xk_RL_263⟩))⟩ (x_al x_e_pop (x_al x_e_goto (x_al x_e_aload_n (x_al x_e_aload_n (x_al x_e_iload_n x_an))))))))))))))))))))))))))))))))
theorem dc_law_39 : ∀ r ∈ k_law_39, decode cL_law r.1 = .ok (r.2.1, r.2.2.1) := x_wall_ok _ 1908 [4, 96, 46, 42, 29, 5, 96, 46, 182, 1, 0, 87, 44, 42, 29, 4, 96, 46, 42, 29, 5, 96, 46, 182, 1, 3, 87, 167, 1, 177, 43, 42, 29, 4, 96, 46, 42, 29] (x_win_of (by decide +kernel)) (by decide +kernel)
theorem wc_law_39 : ∀ r ∈ k_law_39, x_okW x_mt M_law r := (x_al x_e_iconst (x_al x_e_iadd (x_al x_e_iaload (x_al x_e_aload_n (x_al x_e_iload_n (x_al x_e_iconst (x_al x_e_iadd (x_al x_e_iaload (x_al ⟨rfl, (Or.inr (Or.inr ⟨x_ab rfl, xk_RL_256⟩))⟩ (x_al x_e_pop (x_al x_e_aload_n (x_al x_e_aload_n (x_al x_e_iload_n (x_al x_e_iconst (x_al x_e_iadd (x_al x_e_iaload (x_al x_e_aload_n (x_al x_e_iload_n (x_al x_e_iconst (x_al x_e_iadd (x_al x_e_iaload (x_al ⟨rfl, (Or.inr (Or.inr ⟨x_ab rfl, xk_RL_259⟩))⟩ (x_al x_e_pop (x_al x_e_goto (x_al x_e_aload_n (x_al x_e_aload_n (x_al x_e_iload_n (x_al x_e_iconst (x_al x_e_iadd (x_al x_e_iaload (x_al x_e_aload_n (x_al x_e_iload_n x_an))))))))))))))))))))))))))))))))
theorem dc_law_38 : ∀ r ∈ k_law_38, decode cL_law r.1 = .ok (r.2.1, r.2.2.1) := x_wall_ok _ 1864 [46, 182, 0, 248, 87, 44, 42, 29, 4, 96, 46, 182, 0, 251, 87, 167, 1, 233, 43, 42, 29, 4, 96, 46, 182, 0, 252, 44, 42, 29, 4, 96, 46, 182, 0, 255, 159, 1, 212, 3, 172, 43, 42, 29] (x_win_of (by decide +kernel)) (by decide +kernel)
theorem wc_law_38 : ∀ r ∈ k_law_38, x_okW x_mt M_law r := (x_al x_e_iaload (x_al ⟨rfl, (Or.inr (Or.inr ⟨x_ab rfl, xk_RL_248⟩))⟩ (x_al x_e_pop (x_al x_e_aload_n (x_al x_e_aload_n (x_al x_e_iload_n (x_al x_e_iconst (x_al x_e_iadd (x_al x_e_iaload (x_al ⟨rfl, (Or.inr (Or.inr ⟨x_ab rfl, xk_RL_251⟩))⟩ (x_al x_e_pop (x_al x_e_goto (x_al x_e_aload_n (x_al x_e_aload_n (x_al x_e_iload_n (x_al x_e_iconst (x_al x_e_iadd (x_al x_e_iaload (x_al ⟨rfl, (Or.inr (Or.inr ⟨x_ab rfl, xk_RL_252⟩))⟩ (x_al x_e_aload_n (x_al x_e_aload_n (x_al x_e_iload_n (x_al x_e_iconst (x_al x_e_iadd (x_al x_e_iaload (x_al ⟨rfl, (Or.inr (Or.inr ⟨x_ab rfl, xk_RL_255⟩))⟩ (x_al x_e_if_icmp (x_al x_e_iconst (x_al x_e_ireturn (x_al x_e_aload_n (x_al x_e_aload_n (x_al x_e_iload_n x_an))))))))))))))))))))))))))))))))
theorem dc_law_37 : ∀ r ∈ k_law_37, decode cL_law r.1 = .ok (r.2.1, r.2.2.1) := x_wall_ok _ 1826 [43, 42, 29, 4, 96, 46, 42, 29, 5, 96, 46, 182, 0, 244, 87, 44, 42, 29, 4, 96, 46, 42, 29, 5, 96, 46, 182, 0, 247, 87, 167, 2, 0, 43, 42, 29, 4, 96] (x_win_of (by decide +kernel)) (by decide +kernel)
theorem wc_law_37 : ∀ r ∈ k_law_37, x_okW x_mt M_law r := (x_al x_e_aload_n (x_al x_e_aload_n (x_al x_e_iload_n (x_al x_e_iconst (x_al x_e_iadd (x_al x_e_iaload (x_al x_e_aload_n (x_al x_e_iload_n (x_al x_e_iconst (x_al x_e_iadd (x_al x_e_iaload (x_al ⟨rfl, (Or.inr (Or.inr ⟨x_ab rfl, xk_RL_244⟩))⟩ (x_al x_e_pop (x_al x_e_aload_n (x_al x_e_aload_n (x_al x_e_iload_n (x_al x_e_iconst (x_al x_e_iadd (x_al x_e_iaload (x_al x_e_aload_n (x_al x_e_iload_n (x_al x_e_iconst (x_al x_e_iadd (x_al x_e_iaload (x_al ⟨rfl, (Or.inr (Or.inr ⟨x_ab rfl, xk_RL_247⟩))⟩ (x_al x_e_pop (x_al x_e_goto (x_al x_e_aload_n (x_al x_e_aload_n (x_al x_e_iload_n (x_al x_e_iconst (x_al x_e_iadd x_an))))))))))))))))))))))))))))))))
theorem dc_law_36 : ∀ r ∈ k_law_36, decode cL_law r.1 = .ok (r.2.1, r.2.2.1) := x_wall_ok _ 1784 [96, 46, 182, 0, 239, 87, 167, 2, 66, 43, 42, 29, 4, 96, 46, 42, 29, 5, 96, 46, 182, 0, 240, 87, 44, 42, 29, 4, 96, 46, 42, 29, 5, 96, 46, 182, 0, 243, 87, 167, 2, 33] (x_win_of (by decide +kernel)) (by decide +kernel)
theorem wc_law_36 : ∀ r ∈ k_law_36, x_okW x_mt M_law r := (x_al x_e_iadd (x_al x_e_iaload (x_al ⟨rfl, (Or.inr (Or.inr ⟨x_ab rfl, xk_RL_239⟩))⟩ (x_al x_e_pop (x_al x_e_goto (x_al x_e_aload_n (x_al x_e_aload_n (x_al x_e_iload_n (x_al x_e_iconst (x_al x_e_iadd (x_al x_e_iaload (x_al x_e_aload_n (x_al x_e_iload_n (x_al x_e_iconst (x_al x_e_iadd (x_al x_e_iaload (x_al ⟨rfl, (Or.inr (Or.inr ⟨x_ab rfl, xk_RL_240⟩))⟩ (x_al x_e_pop (x_al x_e_aload_n (x_al x_e_aload_n (x_al x_e_iload_n (x_al x_e_iconst (x_al x_e_iadd (x_al x_e_iaload (x_al x_e_aload_n (x_al x_e_iload_n (x_al x_e_iconst (x_al x_e_iadd (x_al x_e_iaload (x_al ⟨rfl, (Or.inr (Or.inr ⟨x_ab rfl, xk_RL_243⟩))⟩ (x_al x_e_pop (x_al x_e_goto x_an))))))))))))))))))))))))))))))))
theorem dc_law_35 : ∀ r ∈ k_law_35, decode cL_law r.1 = .ok (r.2.1, r.2.2.1) := x_wall_ok _ 1734 [4, 96, 46, 182, 0, 227, 87, 167, 2, 115, 43, 182, 0, 228, 87, 44, 182, 0, 231, 87, 167, 2, 102, 43, 182, 0, 232, 87, 44, 182, 0, 235, 87, 167, 2, 89, 43, 42, 29, 4, 96, 46, 182, 0, 236, 87, 44, 42, 29, 4] (x_win_of (by decide +kernel)) (by decide +kernel)
theorem wc_law_35 : ∀ r ∈ k_law_35, x_okW x_mt M_law r := (x_al x_e_iconst (x_al x_e_iadd (x_al x_e_iaload (x_al ⟨rfl, (Or.inr (Or.inr ⟨x_ab rfl, xk_RL_227⟩))⟩ (x_al x_e_pop (x_al x_e_goto (x_al x_e_aload_n (x_al ⟨rfl, (Or.inr (Or.inr ⟨x_ab rfl, xk_RL_228⟩))⟩ (x_al x_e_pop (x_al x_e_aload_n (x_al ⟨rfl, (Or.inr (Or.inr ⟨x_ab rfl, xk_RL_231⟩))⟩ (x_al x_e_pop (x_al x_e_goto (x_al x_e_aload_n (x_al ⟨rfl, (Or.inr (Or.inr ⟨x_ab rfl, xk_RL_232⟩))⟩ (x_al x_e_pop (x_al x_e_aload_n (x_al ⟨rfl, (Or.inr (Or.inr ⟨x_ab rfl, xk_RL_235⟩))⟩ (x_al x_e_pop (x_al x_e_goto (x_al x_e_aload_n (x_al x_e_aload_n (x_al x_e_iload_n (x_al x_e_iconst (x_al x_e_iadd (x_al x_e_iaload (x_al ⟨rfl, (Or.inr (Or.inr ⟨x_ab rfl, xk_RL_236⟩))⟩ (x_al x_e_pop (x_al x_e_aload_n (x_al x_e_aload_n (x_al x_e_iload_n (x_al x_e_iconst x_an))))))))))))))))))))))))))))))))
theorem dc_law_34 : ∀ r ∈ k_law_34, decode cL_law r.1 = .ok (r.2.1, r.2.2.1) := x_wall_ok _ 1694 [42, 29, 5, 96, 46, 182, 0, 220, 87, 44, 42, 29, 4, 96, 46, 42, 29, 5, 96, 46, 182, 0, 223, 87, 167, 2, 138, 43, 42, 29, 4, 96, 46, 182, 0, 224, 87, 44, 42, 29] (x_win_of (by decide +kernel)) (by decide +kernel)
theorem wc_law_34 : ∀ r ∈ k_law_34, x_okW x_mt M_law r := (x_al x_e_aload_n (x_al x_e_iload_n (x_al x_e_iconst (x_al x_e_iadd (x_al x_e_iaload (x_al ⟨rfl, (Or.inr (Or.inr ⟨x_ab rfl, xk_RL_220⟩))⟩ (x_al x_e_pop (x_al x_e_aload_n (x_al x_e_aload_n (x_al x_e_iload_n (x_al x_e_iconst (x_al x_e_iadd (x_al x_e_iaload (x_al x_e_aload_n (x_al x_e_iload_n (x_al x_e_iconst (x_al x_e_iadd (x_al x_e_iaload (x_al ⟨rfl, (Or.inr (Or.inr ⟨x_ab rfl, xk_RL_223⟩))⟩ (x_al x_e_pop (x_al x_e_goto (x_al x_e_aload_n (x_al x_e_aload_n (x_al x_e_iload_n (x_al x_e_iconst (x_al x_e_iadd (x_al x_e_iaload (x_al ⟨rfl, (Or.inr (Or.inr ⟨x_ab rfl, xk_RL_224⟩))⟩ (x_al x_e_pop (x_al x_e_aload_n (x_al x_e_aload_n (x_al x_e_iload_n x_an))))))))))))))))))))))))))))))))
theorem dc_law_33 : ∀ r ∈ k_law_33, decode cL_law r.1 = .ok (r.2.1, r.2.2.1) := x_wall_ok _ 1652 [44, 42, 29, 4, 96, 46, 182, 0, 215, 87, 167, 2, 194, 43, 42, 29, 4, 96, 46, 182, 0, 216, 87, 44, 42, 29, 4, 96, 46, 182, 0, 219, 87, 167, 2, 171, 43, 42, 29, 4, 96, 46] (x_win_of (by decide +kernel)) (by decide +kernel)
theorem wc_law_33 : ∀ r ∈ k_law_33, x_okW x_mt M_law r := (x_al x_e_aload_n (x_al x_e_aload_n (x_al x_e_iload_n (x_al x_e_iconst (x_al x_e_iadd (x_al x_e_iaload (x_al ⟨rfl, (Or.inr (Or.inr ⟨x_ab rfl, xk_RL_215⟩))⟩ (x_al x_e_pop (x_al x_e_goto (x_al x_e_aload_n (x_al x_e_aload_n (x_al x_e_iload_n (x_al x_e_iconst (x_al x_e_iadd (x_al x_e_iaload (x_al ⟨rfl, (Or.inr (Or.inr ⟨x_ab rfl, xk_RL_216⟩))⟩ (x_al x_e_pop (x_al x_e_aload_n (x_al x_e_aload_n (x_al x_e_iload_n (x_al x_e_iconst (x_al x_e_iadd (x_al x_e_iaload (x_al ⟨rfl, (Or.inr (Or.inr ⟨x_ab rfl, xk_RL_219⟩))⟩ (x_al x_e_pop (x_al x_e_goto (x_al x_e_aload_n (x_al x_e_aload_n (x_al x_e_iload_n (x_al x_e_iconst (x_al x_e_iadd (x_al x_e_iaload x_an))))))))))))))))))))))))))))))))
theorem dc_law_32 : ∀ r ∈ k_law_32, decode cL_law r.1 = .ok (r.2.1, r.2.2.1) := x_wall_ok _ 1608 [29, 4, 96, 46, 182, 0, 207, 87, 167, 2, 240, 43, 42, 29, 4, 96, 46, 182, 0, 208, 87, 44, 42, 29, 4, 96, 46, 182, 0, 211, 87, 167, 2, 217, 43, 42, 29, 4, 96, 46, 182, 0, 212, 87] (x_win_of (by decide +kernel)) (by decide +kernel)
theorem wc_law_32 : ∀ r ∈ k_law_32, x_okW x_mt M_law r := (x_al x_e_iload_n (x_al x_e_iconst (x_al x_e_iadd (x_al x_e_iaload (x_al ⟨rfl, (Or.inr (Or.inr ⟨x_ab rfl, xk_RL_207⟩))⟩ (x_al x_e_pop (x_al x_e_goto (x_al x_e_aload_n (x_al x_e_aload_n (x_al x_e_iload_n (x_al x_e_iconst (x_al x_e_iadd (x_al x_e_iaload (x_al ⟨rfl, (Or.inr (Or.inr ⟨x_ab rfl, xk_RL_208⟩))⟩ (x_al x_e_pop (x_al x_e_aload_n (x_al x_e_aload_n (x_al x_e_iload_n (x_al x_e_iconst (x_al x_e_iadd (x_al x_e_iaload (x_al ⟨rfl, (Or.inr (Or.inr ⟨x_ab rfl, xk_RL_211⟩))⟩ (x_al x_e_pop (x_al x_e_goto (x_al x_e_aload_n (x_al x_e_aload_n (x_al x_e_iload_n (x_al x_e_iconst (x_al x_e_iadd (x_al x_e_iaload (x_al ⟨rfl, (Or.inr (Or.inr ⟨x_ab rfl, xk_RL_212⟩))⟩ (x_al x_e_pop x_an))))))))))))))))))))))))))))))))
theorem dc_law_31 : ∀ r ∈ k_law_31, decode cL_law r.1 = .ok (r.2.1, r.2.2.1) := x_wall_ok _ 1568 [46, 182, 0, 199, 87, 44, 42, 29, 4, 96, 46, 42, 29, 5, 96, 46, 42, 29, 6, 96, 46, 182, 0, 203, 87, 167, 3, 7, 43, 42, 29, 4, 96, 46, 182, 0, 204, 87, 44, 42] (x_win_of (by decide +kernel)) (by decide +kernel)
theorem wc_law_31 : ∀ r ∈ k_law_31, x_okW x_mt M_law r := (x_al x_e_iaload (x_al ⟨rfl, (Or.inr (Or.inr ⟨x_ab rfl, xk_RL_199⟩))⟩ (x_al x_e_pop (x_al x_e_aload_n (x_al x_e_aload_n (x_al x_e_iload_n (x_al x_e_iconst (x_al x_e_iadd (x_al x_e_iaload (x_al x_e_aload_n (x_al x_e_iload_n (x_al x_e_iconst (x_al x_e_iadd (x_al x_e_iaload (x_al x_e_aload_n (x_al x_e_iload_n (x_al x_e_iconst (x_al x_e_iadd (x_al x_e_iaload (x_al ⟨rfl, (Or.inr (Or.inr ⟨x_ab rfl, xk_RL_203⟩))⟩ (x_al x_e_pop (x_al x_e_goto (x_al x_e_aload_n (x_al x_e_aload_n (x_al x_e_iload_n (x_al x_e_iconst (x_al x_e_iadd (x_al x_e_iaload (x_al ⟨rfl, (Or.inr (Or.inr ⟨x_ab rfl, xk_RL_204⟩))⟩ (x_al x_e_pop (x_al x_e_aload_n (x_al x_e_aload_n x_an))))))))))))))))))))))))))))))))
theorem dc_law_30 : ∀ r ∈ k_law_30, decode cL_law r.1 = .ok (r.2.1, r.2.2.1) := x_wall_ok _ 1530 [43, 42, 29, 4, 96, 46, 182, 0, 195, 87, 44, 42, 29, 4, 96, 46, 182, 0, 198, 87, 167, 3, 50, 43, 42, 29, 4, 96, 46, 42, 29, 5, 96, 46, 42, 29, 6, 96] (x_win_of (by decide +kernel)) (by decide +kernel)
theorem wc_law_30 : ∀ r ∈ k_law_30, x_okW x_mt M_law r := (x_al x_e_aload_n (x_al x_e_aload_n (x_al x_e_iload_n (x_al x_e_iconst (x_al x_e_iadd (x_al x_e_iaload (x_al ⟨rfl, (Or.inr (Or.inr ⟨x_ab rfl, xk_RL_195⟩))⟩ (x_al x_e_pop (x_al x_e_aload_n (x_al x_e_aload_n (x_al x_e_iload_n (x_al x_e_iconst (x_al x_e_iadd (x_al x_e_iaload (x_al ⟨rfl, (Or.inr (Or.inr ⟨x_ab rfl, xk_RL_198⟩))⟩ (x_al x_e_pop (x_al x_e_goto (x_al x_e_aload_n (x_al x_e_aload_n (x_al x_e_iload_n (x_al x_e_iconst (x_al x_e_iadd (x_al x_e_iaload (x_al x_e_aload_n (x_al x_e_iload_n (x_al x_e_iconst (x_al x_e_iadd (x_al x_e_iaload (x_al x_e_aload_n (x_al x_e_iload_n (x_al x_e_iconst (x_al x_e_iadd x_an))))))))))))))))))))))))))))))))
theorem dc_law_29 : ∀ r ∈ k_law_29, decode cL_law r.1 = .ok (r.2.1, r.2.2.1) := x_wall_ok _ 1488 [96, 46, 182, 0, 190, 87, 167, 3, 106, 43, 42, 29, 4, 96, 46, 42, 29, 5, 96, 46, 182, 0, 191, 87, 44, 42, 29, 4, 96, 46, 42, 29, 5, 96, 46, 182, 0, 194, 87, 167, 3, 73] (x_win_of (by decide +kernel)) (by decide +kernel)
theorem wc_law_29 : ∀ r ∈ k_law_29, x_okW x_mt M_law r := (x_al x_e_iadd (x_al x_e_iaload (x_al ⟨rfl, (Or.inr (Or.inr ⟨x_ab rfl, xk_RL_190⟩))⟩ (x_al x_e_pop (x_al x_e_goto (x_al x_e_aload_n (x_al x_e_aload_n (x_al x_e_iload_n (x_al x_e_iconst (x_al x_e_iadd (x_al x_e_iaload (x_al x_e_aload_n (x_al x_e_iload_n (x_al x_e_iconst (x_al x_e_iadd (x_al x_e_iaload (x_al ⟨rfl, (Or.inr (Or.inr ⟨x_ab rfl, xk_RL_191⟩))⟩ (x_al x_e_pop (x_al x_e_aload_n (x_al x_e_aload_n (x_al x_e_iload_n (x_al x_e_iconst (x_al x_e_iadd (x_al x_e_iaload (x_al x_e_aload_n (x_al x_e_iload_n (x_al x_e_iconst (x_al x_e_iadd (x_al x_e_iaload (x_al ⟨rfl, (Or.inr (Or.inr ⟨x_ab rfl, xk_RL_194⟩))⟩ (x_al x_e_pop (x_al x_e_goto x_an))))))))))))))))))))))))))))))))
theorem dc_law_28 : ∀ r ∈ k_law_28, decode cL_law r.1 = .ok (r.2.1, r.2.2.1) := x_wall_ok _ 1442 [96, 46, 182, 0, 179, 87, 44, 42, 29, 4, 96, 46, 182, 0, 182, 87, 167, 3, 142, 43, 182, 0, 183, 87, 44, 182, 0, 186, 87, 167, 3, 129, 43, 42, 29, 4, 96, 46, 182, 0, 187, 87, 44, 42, 29, 4] (x_win_of (by decide +kernel)) (by decide +kernel)
theorem wc_law_28 : ∀ r ∈ k_law_28, x_okW x_mt M_law r := (x_al x_e_iadd (x_al x_e_iaload (x_al ⟨rfl, (Or.inr (Or.inr ⟨x_ab rfl, xk_RL_179⟩))⟩ (x_al x_e_pop (x_al x_e_aload_n (x_al x_e_aload_n (x_al x_e_iload_n (x_al x_e_iconst (x_al x_e_iadd (x_al x_e_iaload (x_al ⟨rfl, (Or.inr (Or.inr ⟨x_ab rfl, xk_RL_182⟩))⟩ (x_al x_e_pop (x_al x_e_goto (x_al x_e_aload_n (x_al ⟨rfl, (Or.inr (Or.inr ⟨x_ab rfl, xk_RL_183⟩))⟩ (x_al x_e_pop (x_al x_e_aload_n (x_al ⟨rfl, (Or.inr (Or.inr ⟨x_ab rfl, xk_RL_186⟩))⟩ (x_al x_e_pop (x_al x_e_goto (x_al x_e_aload_n (x_al x_e_aload_n (x_al x_e_iload_n (x_al x_e_iconst (x_al x_e_iadd (x_al x_e_iaload (x_al ⟨rfl, (Or.inr (Or.inr ⟨x_ab rfl, xk_RL_187⟩))⟩ (x_al x_e_pop (x_al x_e_aload_n (x_al x_e_aload_n (x_al x_e_iload_n (x_al x_e_iconst x_an))))))))))))))))))))))))))))))))
theorem dc_law_27 : ∀ r ∈ k_law_27, decode cL_law r.1 = .ok (r.2.1, r.2.2.1) := x_wall_ok _ 1400 [4, 96, 46, 42, 29, 5, 96, 46, 182, 0, 174, 87, 167, 3, 188, 43, 42, 29, 4, 96, 46, 182, 0, 175, 87, 44, 42, 29, 4, 96, 46, 182, 0, 178, 87, 167, 3, 165, 43, 42, 29, 4] (x_win_of (by decide +kernel)) (by decide +kernel)
theorem wc_law_27 : ∀ r ∈ k_law_27, x_okW x_mt M_law r := (x_al x_e_iconst (x_al x_e_iadd (x_al x_e_iaload (x_al x_e_aload_n (x_al x_e_iload_n (x_al x_e_iconst (x_al x_e_iadd (x_al x_e_iaload (x_al ⟨rfl, (Or.inr (Or.inr ⟨x_ab rfl, xk_RL_174⟩))⟩ (x_al x_e_pop (x_al x_e_goto (x_al x_e_aload_n (x_al x_e_aload_n (x_al x_e_iload_n (x_al x_e_iconst (x_al x_e_iadd (x_al x_e_iaload (x_al ⟨rfl, (Or.inr (Or.inr ⟨x_ab rfl, xk_RL_175⟩))⟩ (x_al x_e_pop (x_al x_e_aload_n (x_al x_e_aload_n (x_al x_e_iload_n (x_al x_e_iconst (x_al x_e_iadd (x_al x_e_iaload (x_al ⟨rfl, (Or.inr (Or.inr ⟨x_ab rfl, xk_RL_178⟩))⟩ (x_al x_e_pop (x_al x_e_goto (x_al x_e_aload_n (x_al x_e_aload_n (x_al x_e_iload_n (x_al x_e_iconst x_an))))))))))))))))))))))))))))))))
theorem dc_law_26 : ∀ r ∈ k_law_26, decode cL_law r.1 = .ok (r.2.1, r.2.2.1) := x_wall_ok _ 1360 [42, 29, 4, 96, 46, 182, 0, 167, 87, 44, 42, 29, 4, 96, 46, 182, 0, 170, 87, 167, 3, 221, 43, 42, 29, 4, 96, 46, 42, 29, 5, 96, 46, 182, 0, 171, 87, 44, 42, 29] (x_win_of (by decide +kernel)) (by decide +kernel)
theorem wc_law_26 : ∀ r ∈ k_law_26, x_okW x_mt M_law r := (x_al x_e_aload_n (x_al x_e_iload_n (x_al x_e_iconst (x_al x_e_iadd (x_al x_e_iaload (x_al ⟨rfl, (Or.inr (Or.inr ⟨x_ab rfl, xk_RL_167⟩))⟩ (x_al x_e_pop (x_al x_e_aload_n (x_al x_e_aload_n (x_al x_e_iload_n (x_al x_e_iconst (x_al x_e_iadd (x_al x_e_iaload (x_al ⟨rfl, (Or.inr (Or.inr ⟨x_ab rfl, xk_RL_170⟩))⟩ (x_al x_e_pop (x_al x_e_goto (x_al x_e_aload_n (x_al x_e_aload_n (x_al x_e_iload_n (x_al x_e_iconst (x_al x_e_iadd (x_al x_e_iaload (x_al x_e_aload_n (x_al x_e_iload_n (x_al x_e_iconst (x_al x_e_iadd (x_al x_e_iaload (x_al ⟨rfl, (Or.inr (Or.inr ⟨x_ab rfl, xk_RL_171⟩))⟩ (x_al x_e_pop (x_al x_e_aload_n (x_al x_e_aload_n (x_al x_e_iload_n x_an))))))))))))))))))))))))))))))))
theorem dc_law_25 : ∀ r ∈ k_law_25, decode cL_law r.1 = .ok (r.2.1, r.2.2.1) := x_wall_ok _ 1316 [4, 96, 46, 182, 0, 159, 87, 44, 42, 29, 4, 96, 46, 182, 0, 162, 87, 167, 4, 11, 43, 42, 29, 4, 96, 46, 182, 0, 163, 87, 44, 42, 29, 4, 96, 46, 182, 0, 166, 87, 167, 3, 244, 43] (x_win_of (by decide +kernel)) (by decide +kernel)
theorem wc_law_25 : ∀ r ∈ k_law_25, x_okW x_mt M_law r := (x_al x_e_iconst (x_al x_e_iadd (x_al x_e_iaload (x_al ⟨rfl, (Or.inr (Or.inr ⟨x_ab rfl, xk_RL_159⟩))⟩ (x_al x_e_pop (x_al x_e_aload_n (x_al x_e_aload_n (x_al x_e_iload_n (x_al x_e_iconst (x_al x_e_iadd (x_al x_e_iaload (x_al ⟨rfl, (Or.inr (Or.inr ⟨x_ab rfl, xk_RL_162⟩))⟩ (x_al x_e_pop (x_al x_e_goto (x_al x_e_aload_n (x_al x_e_aload_n (x_al x_e_iload_n (x_al x_e_iconst (x_al x_e_iadd (x_al x_e_iaload (x_al ⟨rfl, (Or.inr (Or.inr ⟨x_ab rfl, xk_RL_163⟩))⟩ (x_al x_e_pop (x_al x_e_aload_n (x_al x_e_aload_n (x_al x_e_iload_n (x_al x_e_iconst (x_al x_e_iadd (x_al x_e_iaload (x_al ⟨rfl, (Or.inr (Or.inr ⟨x_ab rfl, xk_RL_166⟩))⟩ (x_al x_e_pop (x_al x_e_goto (x_al x_e_aload_n x_an))))))))))))))))))))))))))))))))
theorem dc_law_24 : ∀ r ∈ k_law_24, decode cL_law r.1 = .ok (r.2.1, r.2.2.1) := x_wall_ok _ 1272 [46, 182, 0, 151, 87, 44, 42, 29, 4, 96, 46, 182, 0, 154, 87, 167, 4, 57, 43, 42, 29, 4, 96, 46, 182, 0, 155, 87, 44, 42, 29, 4, 96, 46, 182, 0, 158, 87, 167, 4, 34, 43, 42, 29] (x_win_of (by decide +kernel)) (by decide +kernel)
theorem wc_law_24 : ∀ r ∈ k_law_24, x_okW x_mt M_law r := (x_al x_e_iaload (x_al ⟨rfl, (Or.inr (Or.inr ⟨x_ab rfl, xk_RL_151⟩))⟩ (x_al x_e_pop (x_al x_e_aload_n (x_al x_e_aload_n (x_al x_e_iload_n (x_al x_e_iconst (x_al x_e_iadd (x_al x_e_iaload (x_al ⟨rfl, (Or.inr (Or.inr ⟨x_ab rfl, xk_RL_154⟩))⟩ (x_al x_e_pop (x_al x_e_goto (x_al x_e_aload_n (x_al x_e_aload_n (x_al x_e_iload_n (x_al x_e_iconst (x_al x_e_iadd (x_al x_e_iaload (x_al ⟨rfl, (Or.inr (Or.inr ⟨x_ab rfl, xk_RL_155⟩))⟩ (x_al x_e_pop (x_al x_e_aload_n (x_al x_e_aload_n (x_al x_e_iload_n (x_al x_e_iconst (x_al x_e_iadd (x_al x_e_iaload (x_al ⟨rfl, (Or.inr (Or.inr ⟨x_ab rfl, xk_RL_158⟩))⟩ (x_al x_e_pop (x_al x_e_goto (x_al x_e_aload_n (x_al x_e_aload_n (x_al x_e_iload_n x_an))))))))))))))))))))))))))))))))
theorem dc_law_23 : ∀ r ∈ k_law_23, decode cL_law r.1 = .ok (r.2.1, r.2.2.1) := x_wall_ok _ 1230 [96, 46, 42, 29, 6, 96, 46, 182, 0, 146, 88, 167, 4, 103, 43, 42, 29, 4, 96, 46, 182, 0, 147, 87, 44, 42, 29, 4, 96, 46, 182, 0, 150, 87, 167, 4, 80, 43, 42, 29, 4, 96] (x_win_of (by decide +kernel)) (by decide +kernel)
theorem wc_law_23 : ∀ r ∈ k_law_23, x_okW x_mt M_law r := (x_al x_e_iadd (x_al x_e_iaload (x_al x_e_aload_n (x_al x_e_iload_n (x_al x_e_iconst (x_al x_e_iadd (x_al x_e_iaload (x_al ⟨rfl, (Or.inr (Or.inr ⟨x_ab rfl, xk_RL_146⟩))⟩ (x_al x_e_pop2 (x_al x_e_goto (x_al x_e_aload_n (x_al x_e_aload_n (x_al x_e_iload_n (x_al x_e_iconst (x_al x_e_iadd (x_al x_e_iaload (x_al ⟨rfl, (Or.inr (Or.inr ⟨x_ab rfl, xk_RL_147⟩))⟩ (x_al x_e_pop (x_al x_e_aload_n (x_al x_e_aload_n (x_al x_e_iload_n (x_al x_e_iconst (x_al x_e_iadd (x_al x_e_iaload (x_al ⟨rfl, (Or.inr (Or.inr ⟨x_ab rfl, xk_RL_150⟩))⟩ (x_al x_e_pop (x_al x_e_goto (x_al x_e_aload_n (x_al x_e_aload_n (x_al x_e_iload_n (x_al x_e_iconst (x_al x_e_iadd x_an))))))))))))))))))))))))))))))))
theorem dc_law_22 : ∀ r ∈ k_law_22, decode cL_law r.1 = .ok (r.2.1, r.2.2.1) := x_wall_ok _ 1192 [96, 46, 182, 0, 141, 88, 167, 4, 146, 43, 42, 29, 4, 96, 46, 42, 29, 5, 96, 46, 42, 29, 6, 96, 46, 182, 0, 142, 88, 44, 42, 29, 4, 96, 46, 42, 29, 5] (x_win_of (by decide +kernel)) (by decide +kernel)
theorem wc_law_22 : ∀ r ∈ k_law_22, x_okW x_mt M_law r := (x_al x_e_iadd (x_al x_e_iaload (x_al ⟨rfl, (Or.inr (Or.inr ⟨x_ab rfl, xk_RL_141⟩))⟩ (x_al x_e_pop2 (x_al x_e_goto (x_al x_e_aload_n (x_al x_e_aload_n (x_al x_e_iload_n (x_al x_e_iconst (x_al x_e_iadd (x_al x_e_iaload (x_al x_e_aload_n (x_al x_e_iload_n (x_al x_e_iconst (x_al x_e_iadd (x_al x_e_iaload (x_al x_e_aload_n (x_al x_e_iload_n (x_al x_e_iconst (x_al x_e_iadd (x_al x_e_iaload (x_al ⟨rfl, (Or.inr (Or.inr ⟨x_ab rfl, xk_RL_142⟩))⟩ (x_al x_e_pop2 (x_al x_e_aload_n (x_al x_e_aload_n (x_al x_e_iload_n (x_al x_e_iconst (x_al x_e_iadd (x_al x_e_iaload (x_al x_e_aload_n (x_al x_e_iload_n (x_al x_e_iconst x_an))))))))))))))))))))))))))))))))
theorem dc_law_21 : ∀ r ∈ k_law_21, decode cL_law r.1 = .ok (r.2.1, r.2.2.1) := x_wall_ok _ 1154 [87, 44, 42, 29, 4, 96, 46, 182, 0, 136, 87, 167, 4, 179, 43, 42, 29, 4, 96, 46, 42, 29, 5, 96, 46, 182, 0, 137, 88, 44, 42, 29, 4, 96, 46, 42, 29, 5] (x_win_of (by decide +kernel)) (by decide +kernel)
theorem wc_law_21 : ∀ r ∈ k_law_21, x_okW x_mt M_law r := (x_al x_e_pop (x_al x_e_aload_n (x_al x_e_aload_n (x_al x_e_iload_n (x_al x_e_iconst (x_al x_e_iadd (x_al x_e_iaload (x_al ⟨rfl, (Or.inr (Or.inr ⟨x_ab rfl, xk_RL_136⟩))⟩ (x_al x_e_pop (x_al x_e_goto (x_al x_e_aload_n (x_al x_e_aload_n (x_al x_e_iload_n (x_al x_e_iconst (x_al x_e_iadd (x_al x_e_iaload (x_al x_e_aload_n (x_al x_e_iload_n (x_al x_e_iconst (x_al x_e_iadd (x_al x_e_iaload (x_al ⟨rfl, (Or.inr (Or.inr ⟨x_ab rfl, xk_RL_137⟩))⟩ (x_al x_e_pop2 (x_al x_e_aload_n (x_al x_e_aload_n (x_al x_e_iload_n (x_al x_e_iconst (x_al x_e_iadd (x_al x_e_iaload (x_al x_e_aload_n (x_al x_e_iload_n (x_al x_e_iconst x_an))))))))))))))))))))))))))))))))
theorem dc_law_20 : ∀ r ∈ k_law_20, decode cL_law r.1 = .ok (r.2.1, r.2.2.1) := x_wall_ok _ 1110 [42, 29, 5, 96, 46, 182, 0, 128, 87, 167, 4, 225, 43, 42, 29, 4, 96, 46, 182, 0, 129, 87, 44, 42, 29, 4, 96, 46, 182, 0, 132, 87, 167, 4, 202, 43, 42, 29, 4, 96, 46, 182, 0, 133] (x_win_of (by decide +kernel)) (by decide +kernel)
theorem wc_law_20 : ∀ r ∈ k_law_20, x_okW x_mt M_law r := (x_al x_e_aload_n (x_al x_e_iload_n (x_al x_e_iconst (x_al x_e_iadd (x_al x_e_iaload (x_al ⟨rfl, (Or.inr (Or.inr ⟨x_ab rfl, xk_RL_128⟩))⟩ (x_al x_e_pop (x_al x_e_goto (x_al x_e_aload_n (x_al x_e_aload_n (x_al x_e_iload_n (x_al x_e_iconst (x_al x_e_iadd (x_al x_e_iaload (x_al ⟨rfl, (Or.inr (Or.inr ⟨x_ab rfl, xk_RL_129⟩))⟩ (x_al x_e_pop (x_al x_e_aload_n (x_al x_e_aload_n (x_al x_e_iload_n (x_al x_e_iconst (x_al x_e_iadd (x_al x_e_iaload (x_al ⟨rfl, (Or.inr (Or.inr ⟨x_ab rfl, xk_RL_132⟩))⟩ (x_al x_e_pop (x_al x_e_goto (x_al x_e_aload_n (x_al x_e_aload_n (x_al x_e_iload_n (x_al x_e_iconst (x_al x_e_iadd (x_al x_e_iaload (x_al ⟨rfl, (Or.inr (Or.inr ⟨x_ab rfl, xk_RL_133⟩))⟩ x_an))))))))))))))))))))))))))))))))
theorem dc_law_19 : ∀ r ∈ k_law_19, decode cL_law r.1 = .ok (r.2.1, r.2.2.1) := x_wall_ok _ 1070 [96, 46, 182, 0, 121, 87, 44, 42, 29, 4, 96, 46, 182, 0, 124, 87, 167, 5, 2, 43, 42, 29, 4, 96, 46, 42, 29, 5, 96, 46, 182, 0, 125, 87, 44, 42, 29, 4, 96, 46] (x_win_of (by decide +kernel)) (by decide +kernel)
theorem wc_law_19 : ∀ r ∈ k_law_19, x_okW x_mt M_law r := (x_al x_e_iadd (x_al x_e_iaload (x_al ⟨rfl, (Or.inr (Or.inr ⟨x_ab rfl, xk_RL_121⟩))⟩ (x_al x_e_pop (x_al x_e_aload_n (x_al x_e_aload_n (x_al x_e_iload_n (x_al x_e_iconst (x_al x_e_iadd (x_al x_e_iaload (x_al ⟨rfl, (Or.inr (Or.inr ⟨x_ab rfl, xk_RL_124⟩))⟩ (x_al x_e_pop (x_al x_e_goto (x_al x_e_aload_n (x_al x_e_aload_n (x_al x_e_iload_n (x_al x_e_iconst (x_al x_e_iadd (x_al x_e_iaload (x_al x_e_aload_n (x_al x_e_iload_n (x_al x_e_iconst (x_al x_e_iadd (x_al x_e_iaload (x_al ⟨rfl, (Or.inr (Or.inr ⟨x_ab rfl, xk_RL_125⟩))⟩ (x_al x_e_pop (x_al x_e_aload_n (x_al x_e_aload_n (x_al x_e_iload_n (x_al x_e_iconst (x_al x_e_iadd (x_al x_e_iaload x_an))))))))))))))))))))))))))))))))
theorem dc_law_18 : ∀ r ∈ k_law_18, decode cL_law r.1 = .ok (r.2.1, r.2.2.1) := x_wall_ok _ 1030 [167, 5, 58, 43, 42, 29, 4, 96, 46, 42, 29, 5, 96, 46, 182, 0, 117, 87, 44, 42, 29, 4, 96, 46, 42, 29, 5, 96, 46, 182, 0, 120, 87, 167, 5, 25, 43, 42, 29, 4] (x_win_of (by decide +kernel)) (by decide +kernel)
theorem wc_law_18 : ∀ r ∈ k_law_18, x_okW x_mt M_law r := (x_al x_e_goto (x_al x_e_aload_n (x_al x_e_aload_n (x_al x_e_iload_n (x_al x_e_iconst (x_al x_e_iadd (x_al x_e_iaload (x_al x_e_aload_n (x_al x_e_iload_n (x_al x_e_iconst (x_al x_e_iadd (x_al x_e_iaload (x_al ⟨rfl, (Or.inr (Or.inr ⟨x_ab rfl, xk_RL_117⟩))⟩ (x_al x_e_pop (x_al x_e_aload_n (x_al x_e_aload_n (x_al x_e_iload_n (x_al x_e_iconst (x_al x_e_iadd (x_al x_e_iaload (x_al x_e_aload_n (x_al x_e_iload_n (x_al x_e_iconst (x_al x_e_iadd (x_al x_e_iaload (x_al ⟨rfl, (Or.inr (Or.inr ⟨x_ab rfl, xk_RL_120⟩))⟩ (x_al x_e_pop (x_al x_e_goto (x_al x_e_aload_n (x_al x_e_aload_n (x_al x_e_iload_n (x_al x_e_iconst x_an))))))))))))))))))))))))))))))))
theorem dc_law_17 : ∀ r ∈ k_law_17, decode cL_law r.1 = .ok (r.2.1, r.2.2.1) := x_wall_ok _ 990 [4, 96, 46, 182, 0, 112, 87, 167, 5, 91, 43, 42, 29, 4, 96, 46, 42, 29, 5, 96, 46, 182, 0, 113, 87, 44, 42, 29, 4, 96, 46, 42, 29, 5, 96, 46, 182, 0, 116, 87] (x_win_of (by decide +kernel)) (by decide +kernel)
theorem wc_law_17 : ∀ r ∈ k_law_17, x_okW x_mt M_law r := (x_al x_e_iconst (x_al x_e_iadd (x_al x_e_iaload (x_al ⟨rfl, (Or.inr (Or.inr ⟨x_ab rfl, xk_RL_112⟩))⟩ (x_al x_e_pop (x_al x_e_goto (x_al x_e_aload_n (x_al x_e_aload_n (x_al x_e_iload_n (x_al x_e_iconst (x_al x_e_iadd (x_al x_e_iaload (x_al x_e_aload_n (x_al x_e_iload_n (x_al x_e_iconst (x_al x_e_iadd (x_al x_e_iaload (x_al ⟨rfl, (Or.inr (Or.inr ⟨x_ab rfl, xk_RL_113⟩))⟩ (x_al x_e_pop (x_al x_e_aload_n (x_al x_e_aload_n (x_al x_e_iload_n (x_al x_e_iconst (x_al x_e_iadd (x_al x_e_iaload (x_al x_e_aload_n (x_al x_e_iload_n (x_al x_e_iconst (x_al x_e_iadd (x_al x_e_iaload (x_al ⟨rfl, (Or.inr (Or.inr ⟨x_ab rfl, xk_RL_116⟩))⟩ (x_al x_e_pop x_an))))))))))))))))))))))))))))))))
theorem dc_law_16 : ∀ r ∈ k_law_16, decode cL_law r.1 = .ok (r.2.1, r.2.2.1) := x_wall_ok _ 950 [42, 29, 5, 96, 46, 182, 0, 105, 87, 44, 42, 29, 4, 96, 46, 42, 29, 5, 96, 46, 182, 0, 108, 87, 167, 5, 114, 43, 42, 29, 4, 96, 46, 182, 0, 109, 87, 44, 42, 29] (x_win_of (by decide +kernel)) (by decide +kernel)
theorem wc_law_16 : ∀ r ∈ k_law_16, x_okW x_mt M_law r := (x_al x_e_aload_n (x_al x_e_iload_n (x_al x_e_iconst (x_al x_e_iadd (x_al x_e_iaload (x_al ⟨rfl, (Or.inr (Or.inr ⟨x_ab rfl, xk_RL_105⟩))⟩ (x_al x_e_pop (x_al x_e_aload_n (x_al x_e_aload_n (x_al x_e_iload_n (x_al x_e_iconst (x_al x_e_iadd (x_al x_e_iaload (x_al x_e_aload_n (x_al x_e_iload_n (x_al x_e_iconst (x_al x_e_iadd (x_al x_e_iaload (x_al ⟨rfl, (Or.inr (Or.inr ⟨x_ab rfl, xk_RL_108⟩))⟩ (x_al x_e_pop (x_al x_e_goto (x_al x_e_aload_n (x_al x_e_aload_n (x_al x_e_iload_n (x_al x_e_iconst (x_al x_e_iadd (x_al x_e_iaload (x_al ⟨rfl, (Or.inr (Or.inr ⟨x_ab rfl, xk_RL_109⟩))⟩ (x_al x_e_pop (x_al x_e_aload_n (x_al x_e_aload_n (x_al x_e_iload_n x_an))))))))))))))))))))))))))))))))
theorem dc_law_15 : ∀ r ∈ k_law_15, decode cL_law r.1 = .ok (r.2.1, r.2.2.1) := x_wall_ok _ 912 [42, 29, 4, 96, 46, 42, 29, 5, 96, 46, 182, 0, 101, 87, 44, 42, 29, 4, 96, 46, 42, 29, 5, 96, 46, 182, 0, 104, 87, 167, 5, 147, 43, 42, 29, 4, 96, 46] (x_win_of (by decide +kernel)) (by decide +kernel)
theorem wc_law_15 : ∀ r ∈ k_law_15, x_okW x_mt M_law r := (x_al x_e_aload_n (x_al x_e_iload_n (x_al x_e_iconst (x_al x_e_iadd (x_al x_e_iaload (x_al x_e_aload_n (x_al x_e_iload_n (x_al x_e_iconst (x_al x_e_iadd (x_al x_e_iaload (x_al ⟨rfl, (Or.inr (Or.inr ⟨x_ab rfl, xk_RL_101⟩))⟩ (x_al x_e_pop (x_al x_e_aload_n (x_al x_e_aload_n (x_al x_e_iload_n (x_al x_e_iconst (x_al x_e_iadd (x_al x_e_iaload (x_al x_e_aload_n (x_al x_e_iload_n (x_al x_e_iconst (x_al x_e_iadd (x_al x_e_iaload (x_al ⟨rfl, (Or.inr (Or.inr ⟨x_ab rfl, xk_RL_104⟩))⟩ (x_al x_e_pop (x_al x_e_goto (x_al x_e_aload_n (x_al x_e_aload_n (x_al x_e_iload_n (x_al x_e_iconst (x_al x_e_iadd (x_al x_e_iaload x_an))))))))))))))))))))))))))))))))
theorem dc_law_14 : ∀ r ∈ k_law_14, decode cL_law r.1 = .ok (r.2.1, r.2.2.1) := x_wall_ok _ 868 [4, 96, 46, 182, 0, 93, 87, 44, 42, 29, 4, 96, 46, 182, 0, 96, 87, 167, 5, 203, 43, 42, 29, 4, 96, 46, 182, 0, 97, 87, 44, 42, 29, 4, 96, 46, 182, 0, 100, 87, 167, 5, 180, 43] (x_win_of (by decide +kernel)) (by decide +kernel)
theorem wc_law_14 : ∀ r ∈ k_law_14, x_okW x_mt M_law r := (x_al x_e_iconst (x_al x_e_iadd (x_al x_e_iaload (x_al ⟨rfl, (Or.inr (Or.inr ⟨x_ab rfl, xk_RL_93⟩))⟩ (x_al x_e_pop (x_al x_e_aload_n (x_al x_e_aload_n (x_al x_e_iload_n (x_al x_e_iconst (x_al x_e_iadd (x_al x_e_iaload (x_al ⟨rfl, (Or.inr (Or.inr ⟨x_ab rfl, xk_RL_96⟩))⟩ (x_al x_e_pop (x_al x_e_goto (x_al x_e_aload_n (x_al x_e_aload_n (x_al x_e_iload_n (x_al x_e_iconst (x_al x_e_iadd (x_al x_e_iaload (x_al ⟨rfl, (Or.inr (Or.inr ⟨x_ab rfl, xk_RL_97⟩))⟩ (x_al x_e_pop (x_al x_e_aload_n (x_al x_e_aload_n (x_al x_e_iload_n (x_al x_e_iconst (x_al x_e_iadd (x_al x_e_iaload (x_al ⟨rfl, (Or.inr (Or.inr ⟨x_ab rfl, xk_RL_100⟩))⟩ (x_al x_e_pop (x_al x_e_goto (x_al x_e_aload_n x_an))))))))))))))))))))))))))))))))
theorem dc_law_13 : ∀ r ∈ k_law_13, decode cL_law r.1 = .ok (r.2.1, r.2.2.1) := x_wall_ok _ 826 [29, 4, 96, 46, 42, 29, 5, 96, 46, 182, 0, 88, 87, 167, 5, 249, 43, 42, 29, 4, 96, 46, 182, 0, 89, 87, 44, 42, 29, 4, 96, 46, 182, 0, 92, 87, 167, 5, 226, 43, 42, 29] (x_win_of (by decide +kernel)) (by decide +kernel)
theorem wc_law_13 : ∀ r ∈ k_law_13, x_okW x_mt M_law r := (x_al x_e_iload_n (x_al x_e_iconst (x_al x_e_iadd (x_al x_e_iaload (x_al x_e_aload_n (x_al x_e_iload_n (x_al x_e_iconst (x_al x_e_iadd (x_al x_e_iaload (x_al ⟨rfl, (Or.inr (Or.inr ⟨x_ab rfl, xk_RL_88⟩))⟩ (x_al x_e_pop (x_al x_e_goto (x_al x_e_aload_n (x_al x_e_aload_n (x_al x_e_iload_n (x_al x_e_iconst (x_al x_e_iadd (x_al x_e_iaload (x_al ⟨rfl, (Or.inr (Or.inr ⟨x_ab rfl, xk_RL_89⟩))⟩ (x_al x_e_pop (x_al x_e_aload_n (x_al x_e_aload_n (x_al x_e_iload_n (x_al x_e_iconst (x_al x_e_iadd (x_al x_e_iaload (x_al ⟨rfl, (Or.inr (Or.inr ⟨x_ab rfl, xk_RL_92⟩))⟩ (x_al x_e_pop (x_al x_e_goto (x_al x_e_aload_n (x_al x_e_aload_n (x_al x_e_iload_n x_an))))))))))))))))))))))))))))))))
theorem dc_law_12 : ∀ r ∈ k_law_12, decode cL_law r.1 = .ok (r.2.1, r.2.2.1) := x_wall_ok _ 786 [46, 182, 0, 81, 87, 44, 42, 29, 4, 96, 46, 42, 29, 5, 96, 46, 182, 0, 84, 87, 167, 6, 26, 43, 42, 29, 4, 96, 46, 42, 29, 5, 96, 46, 182, 0, 85, 87, 44, 42] (x_win_of (by decide +kernel)) (by decide +kernel)
theorem wc_law_12 : ∀ r ∈ k_law_12, x_okW x_mt M_law r := (x_al x_e_iaload (x_al ⟨rfl, (Or.inr (Or.inr ⟨x_ab rfl, xk_RL_81⟩))⟩ (x_al x_e_pop (x_al x_e_aload_n (x_al x_e_aload_n (x_al x_e_iload_n (x_al x_e_iconst (x_al x_e_iadd (x_al x_e_iaload (x_al x_e_aload_n (x_al x_e_iload_n (x_al x_e_iconst (x_al x_e_iadd (x_al x_e_iaload (x_al ⟨rfl, (Or.inr (Or.inr ⟨x_ab rfl, xk_RL_84⟩))⟩ (x_al x_e_pop (x_al x_e_goto (x_al x_e_aload_n (x_al x_e_aload_n (x_al x_e_iload_n (x_al x_e_iconst (x_al x_e_iadd (x_al x_e_iaload (x_al x_e_aload_n (x_al x_e_iload_n (x_al x_e_iconst (x_al x_e_iadd (x_al x_e_iaload (x_al ⟨rfl, (Or.inr (Or.inr ⟨x_ab rfl, xk_RL_85⟩))⟩ (x_al x_e_pop (x_al x_e_aload_n (x_al x_e_aload_n x_an))))))))))))))))))))))))))))))))
theorem dc_law_11 : ∀ r ∈ k_law_11, decode cL_law r.1 = .ok (r.2.1, r.2.2.1) := x_wall_ok _ 748 [46, 42, 29, 5, 96, 46, 182, 0, 77, 87, 44, 42, 29, 4, 96, 46, 42, 29, 5, 96, 46, 182, 0, 80, 87, 167, 6, 59, 43, 42, 29, 4, 96, 46, 42, 29, 5, 96] (x_win_of (by decide +kernel)) (by decide +kernel)
theorem wc_law_11 : ∀ r ∈ k_law_11, x_okW x_mt M_law r := (x_al x_e_iaload (x_al x_e_aload_n (x_al x_e_iload_n (x_al x_e_iconst (x_al x_e_iadd (x_al x_e_iaload (x_al ⟨rfl, (Or.inr (Or.inr ⟨x_ab rfl, xk_RL_77⟩))⟩ (x_al x_e_pop (x_al x_e_aload_n (x_al x_e_aload_n (x_al x_e_iload_n (x_al x_e_iconst (x_al x_e_iadd (x_al x_e_iaload (x_al x_e_aload_n (x_al x_e_iload_n (x_al x_e_iconst (x_al x_e_iadd (x_al x_e_iaload (x_al ⟨rfl, (Or.inr (Or.inr ⟨x_ab rfl, xk_RL_80⟩))⟩ (x_al x_e_pop (x_al x_e_goto (x_al x_e_aload_n (x_al x_e_aload_n (x_al x_e_iload_n (x_al x_e_iconst (x_al x_e_iadd (x_al x_e_iaload (x_al x_e_aload_n (x_al x_e_iload_n (x_al x_e_iconst (x_al x_e_iadd x_an))))))))))))))))))))))))))))))))
theorem dc_law_10 : ∀ r ∈ k_law_10, decode cL_law r.1 = .ok (r.2.1, r.2.2.1) := x_wall_ok _ 706 [96, 46, 42, 29, 5, 96, 46, 182, 0, 72, 87, 167, 6, 115, 43, 42, 29, 4, 96, 46, 182, 0, 73, 87, 44, 42, 29, 4, 96, 46, 182, 0, 76, 87, 167, 6, 92, 43, 42, 29, 4, 96] (x_win_of (by decide +kernel)) (by decide +kernel)
theorem wc_law_10 : ∀ r ∈ k_law_10, x_okW x_mt M_law r := (x_al x_e_iadd (x_al x_e_iaload (x_al x_e_aload_n (x_al x_e_iload_n (x_al x_e_iconst (x_al x_e_iadd (x_al x_e_iaload (x_al ⟨rfl, (Or.inr (Or.inr ⟨x_ab rfl, xk_RL_72⟩))⟩ (x_al x_e_pop (x_al x_e_goto (x_al x_e_aload_n (x_al x_e_aload_n (x_al x_e_iload_n (x_al x_e_iconst (x_al x_e_iadd (x_al x_e_iaload (x_al ⟨rfl, (Or.inr (Or.inr ⟨x_ab rfl, xk_RL_73⟩))⟩ (x_al x_e_pop (x_al x_e_aload_n (x_al x_e_aload_n (x_al x_e_iload_n (x_al x_e_iconst (x_al x_e_iadd (x_al x_e_iaload (x_al ⟨rfl, (Or.inr (Or.inr ⟨x_ab rfl, xk_RL_76⟩))⟩ (x_al x_e_pop (x_al x_e_goto (x_al x_e_aload_n (x_al x_e_aload_n (x_al x_e_iload_n (x_al x_e_iconst (x_al x_e_iadd x_an))))))))))))))))))))))))))))))))
theorem dc_law_9 : ∀ r ∈ k_law_9, decode cL_law r.1 = .ok (r.2.1, r.2.2.1) := x_wall_ok _ 668 [87, 44, 42, 29, 4, 96, 46, 42, 29, 5, 96, 46, 182, 0, 68, 87, 167, 6, 148, 43, 42, 29, 4, 96, 46, 42, 29, 5, 96, 46, 182, 0, 69, 87, 44, 42, 29, 4] (x_win_of (by decide +kernel)) (by decide +kernel)
theorem wc_law_9 : ∀ r ∈ k_law_9, x_okW x_mt M_law r := (x_al x_e_pop (x_al x_e_aload_n (x_al x_e_aload_n (x_al x_e_iload_n (x_al x_e_iconst (x_al x_e_iadd (x_al x_e_iaload (x_al x_e_aload_n (x_al x_e_iload_n (x_al x_e_iconst (x_al x_e_iadd (x_al x_e_iaload (x_al ⟨rfl, (Or.inr (Or.inr ⟨x_ab rfl, xk_RL_68⟩))⟩ (x_al x_e_pop (x_al x_e_goto (x_al x_e_aload_n (x_al x_e_aload_n (x_al x_e_iload_n (x_al x_e_iconst (x_al x_e_iadd (x_al x_e_iaload (x_al x_e_aload_n (x_al x_e_iload_n (x_al x_e_iconst (x_al x_e_iadd (x_al x_e_iaload (x_al ⟨rfl, (Or.inr (Or.inr ⟨x_ab rfl, xk_RL_69⟩))⟩ (x_al x_e_pop (x_al x_e_aload_n (x_al x_e_aload_n (x_al x_e_iload_n (x_al x_e_iconst x_an))))))))))))))))))))))))))))))))
theorem dc_law_8 : ∀ r ∈ k_law_8, decode cL_law r.1 = .ok (r.2.1, r.2.2.1) := x_wall_ok _ 628 [29, 5, 96, 46, 182, 0, 61, 87, 44, 42, 29, 4, 96, 46, 42, 29, 5, 96, 46, 182, 0, 64, 87, 167, 6, 181, 43, 42, 29, 4, 96, 46, 42, 29, 5, 96, 46, 182, 0, 65] (x_win_of (by decide +kernel)) (by decide +kernel)
theorem wc_law_8 : ∀ r ∈ k_law_8, x_okW x_mt M_law r := (x_al x_e_iload_n (x_al x_e_iconst (x_al x_e_iadd (x_al x_e_iaload (x_al ⟨rfl, (Or.inr (Or.inr ⟨x_ab rfl, xk_RL_61⟩))⟩ (x_al x_e_pop (x_al x_e_aload_n (x_al x_e_aload_n (x_al x_e_iload_n (x_al x_e_iconst (x_al x_e_iadd (x_al x_e_iaload (x_al x_e_aload_n (x_al x_e_iload_n (x_al x_e_iconst (x_al x_e_iadd (x_al x_e_iaload (x_al ⟨rfl, (Or.inr (Or.inr ⟨x_ab rfl, xk_RL_64⟩))⟩ (x_al x_e_pop (x_al x_e_goto (x_al x_e_aload_n (x_al x_e_aload_n (x_al x_e_iload_n (x_al x_e_iconst (x_al x_e_iadd (x_al x_e_iaload (x_al x_e_aload_n (x_al x_e_iload_n (x_al x_e_iconst (x_al x_e_iadd (x_al x_e_iaload (x_al ⟨rfl, (Or.inr (Or.inr ⟨x_ab rfl, xk_RL_65⟩))⟩ x_an))))))))))))))))))))))))))))))))
theorem dc_law_7 : ∀ r ∈ k_law_7, decode cL_law r.1 = .ok (r.2.1, r.2.2.1) := x_wall_ok _ 582 [167, 6, 250, 43, 42, 29, 4, 96, 46, 182, 0, 53, 87, 44, 42, 29, 4, 96, 46, 182, 0, 56, 87, 167, 6, 227, 43, 182, 0, 57, 87, 44, 182, 0, 60, 87, 167, 6, 214, 43, 42, 29, 4, 96, 46, 42] (x_win_of (by decide +kernel)) (by decide +kernel)
theorem wc_law_7 : ∀ r ∈ k_law_7, x_okW x_mt M_law r := (x_al x_e_goto (x_al x_e_aload_n (x_al x_e_aload_n (x_al x_e_iload_n (x_al x_e_iconst (x_al x_e_iadd (x_al x_e_iaload (x_al ⟨rfl, (Or.inr (Or.inr ⟨x_ab rfl, xk_RL_53⟩))⟩ (x_al x_e_pop (x_al x_e_aload_n (x_al x_e_aload_n (x_al x_e_iload_n (x_al x_e_iconst (x_al x_e_iadd (x_al x_e_iaload (x_al ⟨rfl, (Or.inr (Or.inr ⟨x_ab rfl, xk_RL_56⟩))⟩ (x_al x_e_pop (x_al x_e_goto (x_al x_e_aload_n (x_al ⟨rfl, (Or.inr (Or.inr ⟨x_ab rfl, xk_RL_57⟩))⟩ (x_al x_e_pop (x_al x_e_aload_n (x_al ⟨rfl, (Or.inr (Or.inr ⟨x_ab rfl, xk_RL_60⟩))⟩ (x_al x_e_pop (x_al x_e_goto (x_al x_e_aload_n (x_al x_e_aload_n (x_al x_e_iload_n (x_al x_e_iconst (x_al x_e_iadd (x_al x_e_iaload (x_al x_e_aload_n x_an))))))))))))))))))))))))))))))))
theorem dc_law_6 : ∀ r ∈ k_law_6, decode cL_law r.1 = .ok (r.2.1, r.2.2.1) := x_wall_ok _ 540 [182, 0, 45, 87, 44, 182, 0, 48, 87, 167, 7, 27, 43, 42, 29, 4, 96, 46, 42, 29, 5, 96, 46, 182, 0, 49, 87, 44, 42, 29, 4, 96, 46, 42, 29, 5, 96, 46, 182, 0, 52, 87] (x_win_of (by decide +kernel)) (by decide +kernel)
theorem wc_law_6 : ∀ r ∈ k_law_6, x_okW x_mt M_law r := (x_al ⟨rfl, (Or.inr (Or.inr ⟨x_ab rfl, xk_RL_45⟩))⟩ (x_al x_e_pop (x_al x_e_aload_n (x_al ⟨rfl, (Or.inr (Or.inr ⟨x_ab rfl, xk_RL_48⟩))⟩ (x_al x_e_pop (x_al x_e_goto (x_al x_e_aload_n (x_al x_e_aload_n (x_al x_e_iload_n (x_al x_e_iconst (x_al x_e_iadd (x_al x_e_iaload (x_al x_e_aload_n (x_al x_e_iload_n (x_al x_e_iconst (x_al x_e_iadd (x_al x_e_iaload (x_al ⟨rfl, (Or.inr (Or.inr ⟨x_ab rfl, xk_RL_49⟩))⟩ (x_al x_e_pop (x_al x_e_aload_n (x_al x_e_aload_n (x_al x_e_iload_n (x_al x_e_iconst (x_al x_e_iadd (x_al x_e_iaload (x_al x_e_aload_n (x_al x_e_iload_n (x_al x_e_iconst (x_al x_e_iadd (x_al x_e_iaload (x_al ⟨rfl, (Or.inr (Or.inr ⟨x_ab rfl, xk_RL_52⟩))⟩ (x_al x_e_pop x_an))))))))))))))))))))))))))))))))
theorem dc_law_5 : ∀ r ∈ k_law_5, decode cL_law r.1 = .ok (r.2.1, r.2.2.1) := x_wall_ok _ 498 [44, 42, 29, 4, 96, 46, 42, 29, 5, 96, 46, 182, 0, 40, 87, 167, 7, 63, 43, 42, 29, 4, 96, 46, 182, 0, 41, 87, 44, 42, 29, 4, 96, 46, 182, 0, 44, 87, 167, 7, 40, 43] (x_win_of (by decide +kernel)) (by decide +kernel)
theorem wc_law_5 : ∀ r ∈ k_law_5, x_okW x_mt M_law r := (x_al x_e_aload_n (x_al x_e_aload_n (x_al x_e_iload_n (x_al x_e_iconst (x_al x_e_iadd (x_al x_e_iaload (x_al x_e_aload_n (x_al x_e_iload_n (x_al x_e_iconst (x_al x_e_iadd (x_al x_e_iaload (x_al ⟨rfl, (Or.inr (Or.inr ⟨x_ab rfl, xk_RL_40⟩))⟩ (x_al x_e_pop (x_al x_e_goto (x_al x_e_aload_n (x_al x_e_aload_n (x_al x_e_iload_n (x_al x_e_iconst (x_al x_e_iadd (x_al x_e_iaload (x_al ⟨rfl, (Or.inr (Or.inr ⟨x_ab rfl, xk_RL_41⟩))⟩ (x_al x_e_pop (x_al x_e_aload_n (x_al x_e_aload_n (x_al x_e_iload_n (x_al x_e_iconst (x_al x_e_iadd (x_al x_e_iaload (x_al ⟨rfl, (Or.inr (Or.inr ⟨x_ab rfl, xk_RL_44⟩))⟩ (x_al x_e_pop (x_al x_e_goto (x_al x_e_aload_n x_an))))))))))))))))))))))))))))))))
theorem dc_law_4 : ∀ r ∈ k_law_4, decode cL_law r.1 = .ok (r.2.1, r.2.2.1) := x_wall_ok _ 458 [5, 96, 46, 182, 0, 32, 87, 44, 42, 29, 4, 96, 46, 42, 29, 5, 96, 46, 182, 0, 36, 87, 167, 7, 96, 43, 42, 29, 4, 96, 46, 42, 29, 5, 96, 46, 182, 0, 37, 87] (x_win_of (by decide +kernel)) (by decide +kernel)
theorem wc_law_4 : ∀ r ∈ k_law_4, x_okW x_mt M_law r := (x_al x_e_iconst (x_al x_e_iadd (x_al x_e_iaload (x_al ⟨rfl, (Or.inr (Or.inr ⟨x_ab rfl, xk_RL_32⟩))⟩ (x_al x_e_pop (x_al x_e_aload_n (x_al x_e_aload_n (x_al x_e_iload_n (x_al x_e_iconst (x_al x_e_iadd (x_al x_e_iaload (x_al x_e_aload_n (x_al x_e_iload_n (x_al x_e_iconst (x_al x_e_iadd (x_al x_e_iaload (x_al ⟨rfl, (Or.inr (Or.inr ⟨x_ab rfl, xk_RL_36⟩))⟩ (x_al x_e_pop (x_al x_e_goto (x_al x_e_aload_n (x_al x_e_aload_n (x_al x_e_iload_n (x_al x_e_iconst (x_al x_e_iadd (x_al x_e_iaload (x_al x_e_aload_n (x_al x_e_iload_n (x_al x_e_iconst (x_al x_e_iadd (x_al x_e_iaload (x_al ⟨rfl, (Or.inr (Or.inr ⟨x_ab rfl, xk_RL_37⟩))⟩ (x_al x_e_pop x_an))))))))))))))))))))))))))))))))
theorem dc_law_3 : ∀ r ∈ k_law_3, decode cL_law r.1 = .ok (r.2.1, r.2.2.1) := x_wall_ok _ 414 [43, 182, 0, 23, 87, 44, 182, 0, 27, 87, 167, 7, 152, 43, 42, 29, 4, 96, 46, 182, 0, 28, 87, 44, 42, 29, 4, 96, 46, 182, 0, 31, 87, 167, 7, 129, 43, 42, 29, 4, 96, 46, 42, 29] (x_win_of (by decide +kernel)) (by decide +kernel)
theorem wc_law_3 : ∀ r ∈ k_law_3, x_okW x_mt M_law r := (x_al x_e_aload_n (x_al ⟨rfl, (Or.inr (Or.inr ⟨x_ab rfl, xk_RL_23⟩))⟩ (x_al x_e_pop (x_al x_e_aload_n (x_al ⟨rfl, (Or.inr (Or.inr ⟨x_ab rfl, xk_RL_27⟩))⟩ (x_al x_e_pop (x_al x_e_goto (x_al x_e_aload_n (x_al x_e_aload_n (x_al x_e_iload_n (x_al x_e_iconst (x_al x_e_iadd (x_al x_e_iaload (x_al ⟨rfl, (Or.inr (Or.inr ⟨x_ab rfl, xk_RL_28⟩))⟩ (x_al x_e_pop (x_al x_e_aload_n (x_al x_e_aload_n (x_al x_e_iload_n (x_al x_e_iconst (x_al x_e_iadd (x_al x_e_iaload (x_al ⟨rfl, (Or.inr (Or.inr ⟨x_ab rfl, xk_RL_31⟩))⟩ (x_al x_e_pop (x_al x_e_goto (x_al x_e_aload_n (x_al x_e_aload_n (x_al x_e_iload_n (x_al x_e_iconst (x_al x_e_iadd (x_al x_e_iaload (x_al x_e_aload_n (x_al x_e_iload_n x_an))))))))))))))))))))))))))))))))
theorem dc_law_2 : ∀ r ∈ k_law_2, decode cL_law r.1 = .ok (r.2.1, r.2.2.1) := x_wall_ok _ 372 [96, 46, 42, 29, 7, 96, 46, 42, 29, 8, 96, 46, 182, 0, 17, 87, 167, 7, 188, 43, 42, 29, 4, 96, 46, 182, 0, 18, 87, 44, 42, 29, 4, 96, 46, 182, 0, 22, 87, 167, 7, 165] (x_win_of (by decide +kernel)) (by decide +kernel)
theorem wc_law_2 : ∀ r ∈ k_law_2, x_okW x_mt M_law r := (x_al x_e_iadd (x_al x_e_iaload (x_al x_e_aload_n (x_al x_e_iload_n (x_al x_e_iconst (x_al x_e_iadd (x_al x_e_iaload (x_al x_e_aload_n (x_al x_e_iload_n (x_al x_e_iconst (x_al x_e_iadd (x_al x_e_iaload (x_al ⟨rfl, (Or.inr (Or.inr ⟨x_ab rfl, xk_RL_17⟩))⟩ (x_al x_e_pop (x_al x_e_goto (x_al x_e_aload_n (x_al x_e_aload_n (x_al x_e_iload_n (x_al x_e_iconst (x_al x_e_iadd (x_al x_e_iaload (x_al ⟨rfl, (Or.inr (Or.inr ⟨x_ab rfl, xk_RL_18⟩))⟩ (x_al x_e_pop (x_al x_e_aload_n (x_al x_e_aload_n (x_al x_e_iload_n (x_al x_e_iconst (x_al x_e_iadd (x_al x_e_iaload (x_al ⟨rfl, (Or.inr (Or.inr ⟨x_ab rfl, xk_RL_22⟩))⟩ (x_al x_e_pop (x_al x_e_goto x_an))))))))))))))))))))))))))))))))
theorem dc_law_1 : ∀ r ∈ k_law_1, decode cL_law r.1 = .ok (r.2.1, r.2.2.1) := x_wall_ok _ 338 [46, 42, 29, 6, 96, 46, 42, 29, 7, 96, 46, 42, 29, 8, 96, 46, 182, 0, 13, 87, 44, 42, 29, 4, 96, 46, 42, 29, 5, 96, 46, 42, 29, 6] (x_win_of (by decide +kernel)) (by decide +kernel)
theorem wc_law_1 : ∀ r ∈ k_law_1, x_okW x_mt M_law r := (x_al x_e_iaload (x_al x_e_aload_n (x_al x_e_iload_n (x_al x_e_iconst (x_al x_e_iadd (x_al x_e_iaload (x_al x_e_aload_n (x_al x_e_iload_n (x_al x_e_iconst (x_al x_e_iadd (x_al x_e_iaload (x_al x_e_aload_n (x_al x_e_iload_n (x_al x_e_iconst (x_al x_e_iadd (x_al x_e_iaload (x_al ⟨rfl, (Or.inr (Or.inr ⟨x_ab rfl, xk_RL_13⟩))⟩ (x_al x_e_pop (x_al x_e_aload_n (x_al x_e_aload_n (x_al x_e_iload_n (x_al x_e_iconst (x_al x_e_iadd (x_al x_e_iaload (x_al x_e_aload_n (x_al x_e_iload_n (x_al x_e_iconst (x_al x_e_iadd (x_al x_e_iaload (x_al x_e_aload_n (x_al x_e_iload_n (x_al x_e_iconst x_an))))))))))))))))))))))))))))))))
theorem dc_law_0 : ∀ r ∈ k_law_0, decode cL_law r.1 = .ok (r.2.1, r.2.2.1) := x_wall_ok _ 0 [187, 0, 7, 89, 183, 0, 9, 76, 187, 0, 10, 89, 183, 0, 12, 77, 3, 62, 29, 42, 190, 16, 6, 100, 163, 9, 46, 42, 29, 46, 16, 127, 126, 170, 0, 0, 0, 0, 9, 31, 0, 0, 0, 0, 0, 0, 0, 69, 0, 0, 1, 39, 0, 0, 1, 102, 0, 0, 1, 125, 0, 0, 1, 138, 0, 0, 1, 161, 0, 0, 1, 194, 0, 0, 1, 227, 0, 0, 1, 250, 0, 0, 2, 7, 0, 0, 2, 40, 0, 0, 2, 63, 0, 0, 2, 76, 0, 0, 2, 109, 0, 0, 2, 142, 0, 0, 2, 175, 0, 0, 2, 198, 0, 0, 2, 231, 0, 0, 3, 8, 0, 0, 3, 41, 0, 0, 3, 64, 0, 0, 3, 87, 0, 0, 3, 110, 0, 0, 3, 143, 0, 0, 3, 176, 0, 0, 3, 199, 0, 0, 3, 232, 0, 0, 4, 9, 0, 0, 4, 32, 0, 0, 4, 65, 0, 0, 4, 88, 0, 0, 4, 111, 0, 0, 4, 144, 0, 0, 4, 187, 0, 0, 4, 210, 0, 0, 4, 233, 0, 0, 5, 0, 0, 0, 5, 23, 0, 0, 5, 46, 0, 0, 5, 69, 0, 0, 5, 102, 0, 0, 5, 125, 0, 0, 5, 148, 0, 0, 5, 161, 0, 0, 5, 184, 0, 0, 5, 217, 0, 0, 5, 240, 0, 0, 6, 27, 0, 0, 6, 50, 0, 0, 6, 73, 0, 0, 6, 96, 0, 0, 6, 119, 0, 0, 6, 152, 0, 0, 6, 175, 0, 0, 6, 188, 0, 0, 6, 201, 0, 0, 6, 224, 0, 0, 7, 1, 0, 0, 7, 34, 0, 0, 7, 57, 0, 0, 7, 80, 0, 0, 7, 113, 0, 0, 7, 156, 0, 0, 7, 199, 0, 0, 7, 242, 0, 0, 8, 39, 0, 0, 8, 62, 0, 0, 8, 85, 0, 0, 8, 108, 0, 0, 8, 151, 0, 0, 8, 224, 43, 42, 29, 4, 96, 46, 42, 29, 5, 96] (x_win_of (by decide +kernel)) (by decide +kernel)
theorem wc_law_0 : ∀ r ∈ k_law_0, x_okW x_mt M_law r := (x_al ⟨rfl, xw_RL_7⟩ (x_al x_e_dup (x_al ⟨rfl, (Or.inr ⟨x_ab rfl, xk_RL_9⟩)⟩ (x_al ⟨rfl, (Nat.le_of_ble_eq_true rfl)⟩ (x_al ⟨rfl, xw_RL_10⟩ (x_al x_e_dup (x_al ⟨rfl, (Or.inr ⟨x_ab rfl, xk_RL_12⟩)⟩ (x_al ⟨rfl, (Nat.le_of_ble_eq_true rfl)⟩ (x_al x_e_iconst (x_al ⟨rfl, (Nat.le_of_ble_eq_true rfl)⟩ (x_al x_e_iload_n (x_al x_e_aload_n (x_al x_e_arraylength (x_al x_e_bipush (x_al x_e_isub (x_al x_e_if_icmp (x_al x_e_aload_n (x_al x_e_iload_n (x_al x_e_iaload (x_al x_e_bipush (x_al x_e_iand (x_al ⟨trivial, trivial⟩ (x_al x_e_aload_n (x_al x_e_aload_n (x_al x_e_iload_n (x_al x_e_iconst (x_al x_e_iadd (x_al x_e_iaload (x_al x_e_aload_n (x_al x_e_iload_n (x_al x_e_iconst (x_al x_e_iadd x_an))))))))))))))))))))))))))))))))
set_option maxRecDepth 20000 in
theorem rk_law : ∀ q ∈ x_rws M_law, ∀ r ∈ q.2, x_okR x_mt M_law r := x_okRs (x_al (x_dec rfl dc_law_0) (x_al (x_dec rfl dc_law_1) (x_al (x_dec rfl dc_law_2) (x_al (x_dec rfl dc_law_3) (x_al (x_dec rfl dc_law_4) (x_al (x_dec rfl dc_law_5) (x_al (x_dec rfl dc_law_6) (x_al (x_dec rfl dc_law_7) (x_al (x_dec rfl dc_law_8) (x_al (x_dec rfl dc_law_9) (x_al (x_dec rfl dc_law_10) (x_al (x_dec rfl dc_law_11) (x_al (x_dec rfl dc_law_12) (x_al (x_dec rfl dc_law_13) (x_al (x_dec rfl dc_law_14) (x_al (x_dec rfl dc_law_15) (x_al (x_dec rfl dc_law_16) (x_al (x_dec rfl dc_law_17) (x_al (x_dec rfl dc_law_18) (x_al (x_dec rfl dc_law_19) (x_al (x_dec rfl dc_law_20) (x_al (x_dec rfl dc_law_21) (x_al (x_dec rfl dc_law_22) (x_al (x_dec rfl dc_law_23) (x_al (x_dec rfl dc_law_24) (x_al (x_dec rfl dc_law_25) (x_al (x_dec rfl dc_law_26) (x_al (x_dec rfl dc_law_27) (x_al (x_dec rfl dc_law_28) (x_al (x_dec rfl dc_law_29) (x_al (x_dec rfl dc_law_30) (x_al (x_dec rfl dc_law_31) (x_al (x_dec rfl dc_law_32) (x_al (x_dec rfl dc_law_33) (x_al (x_dec rfl dc_law_34) (x_al (x_dec rfl dc_law_35) (x_al (x_dec rfl dc_law_36) (x_al (x_dec rfl dc_law_37) (x_al (x_dec rfl dc_law_38) (x_al (x_dec rfl dc_law_39) (x_al (x_dec rfl dc_law_40) (x_al (x_dec rfl dc_law_41) (x_al (x_dec rfl dc_law_42) (x_al (x_dec rfl dc_law_43) (x_al (x_dec rfl dc_law_44) (x_al (x_dec rfl dc_law_45) (x_al (x_dec rfl dc_law_46) (x_al (x_dec rfl dc_law_47) (x_al (x_dec rfl dc_law_48) (x_al (x_dec rfl dc_law_49) (x_al (x_dec rfl dc_law_50) (x_al (x_dec rfl dc_law_51) x_an)))))))))))))))))))))))))))))))))))))))))))))))))))) (x_al wc_law_0 (x_al wc_law_1 (x_al wc_law_2 (x_al wc_law_3 (x_al wc_law_4 (x_al wc_law_5 (x_al wc_law_6 (x_al wc_law_7 (x_al wc_law_8 (x_al wc_law_9 (x_al wc_law_10 (x_al wc_law_11 (x_al wc_law_12 (x_al wc_law_13 (x_al wc_law_14 (x_al wc_law_15 (x_al wc_law_16 (x_al wc_law_17 (x_al wc_law_18 (x_al wc_law_19 (x_al wc_law_20 (x_al wc_law_21 (x_al wc_law_22 (x_al wc_law_23 (x_al wc_law_24 (x_al wc_law_25 (x_al wc_law_26 (x_al wc_law_27 (x_al wc_law_28 (x_al wc_law_29 (x_al wc_law_30 (x_al wc_law_31 (x_al wc_law_32 (x_al wc_law_33 (x_al wc_law_34 (x_al wc_law_35 (x_al wc_law_36 (x_al wc_law_37 (x_al wc_law_38 (x_al wc_law_39 (x_al wc_law_40 (x_al wc_law_41 (x_al wc_law_42 (x_al wc_law_43 (x_al wc_law_44 (x_al wc_law_45 (x_al wc_law_46 (x_al wc_law_47 (x_al wc_law_48 (x_al wc_law_49 (x_al wc_law_50 (x_al wc_law_51 x_an))))))))))))))))))))))))))))))))))))))))))))))))))))
set_option maxRecDepth 20000 in
theorem x_mt_ok : ∀ (i : Nat) (M : xM), x_mt[i]? = some M → x_okM x_mt M := fun i M h => (show ∀ M ∈ x_mt, x_okM x_mt M from (x_al ok_cX0_init (x_al ok_cX0_most (x_al ok_cX0_goOn (x_al ok_cX0_freeAt (x_al ok_cX0_keep (x_al ok_cX1_init (x_al ok_cX1_judge (x_al ok_cX1_judgeOne (x_al ok_cX2_init (x_al ok_cX2_empty (x_al ok_cX2_copy (x_al ok_cX2_isTold (x_al ok_cX2_holes (x_al ok_cX2_isHole (x_al ok_cX2_isTick (x_al ok_cX2_isPlayer (x_al ok_cX2_isShut (x_al ok_cX2_openHoles (x_al ok_cX2_apart (x_al ok_cX2_stepsToAll (x_al ok_cX2_pathRound (x_al ok_cX2_stayIn (x_al ok_cX2_hasStayFrom (x_al ok_cX2_setStay (x_al ok_cX2_trait (x_al ok_cX2_setTrait (x_al ok_cX2_isTrait (x_al ok_cX2_lets (x_al ok_cX3_init (x_al ok_cX3_empty (x_al ok_cX3_copy (x_al ok_cX3_has (x_al ok_cX3_add (x_al ok_cX3_exchange (x_al ok_cX3_exchangeIn (x_al ok_cX3_round (x_al ok_cX3_oftenAt (x_al ok_cX3_goesSo (x_al ok_cX3_neededFrom (x_al ok_cX3_alike (x_al ok_cX4_init (x_al ok_cX4_has (x_al ok_cX4_deal (x_al ok_cX4_draw (x_al ok_cX4_nthLet (x_al ok_cX4_begin (x_al ok_cX4_hasRoom (x_al ok_cX4_add (x_al ok_cX4_upIn (x_al ok_cX4_holesOf (x_al ok_cX4_goodHoles (x_al ok_cX4_goodIn (x_al ok_cX4_strike (x_al ok_cX5_init (x_al ok_cX5_begin (x_al ok_cX5_grow (x_al ok_cX5_growFrom (x_al ok_cX5_at (x_al ok_cX5_waysTo (x_al ok_cX5_add (x_al ok_cX5_rowsTo (x_al ok_cX5_rowsInAll (x_al ok_cX5_isEven (x_al ok_cX6_init (x_al ok_cX6_take (x_al ok_cX6_paceIn (x_al ok_cX6_awareOf (x_al ok_cX6_there (x_al ok_cX6_reachFrom (x_al ok_cX7_init (x_al ok_cX7_readAll (x_al ok_cX7_shapeOf (x_al ok_cX7_readLine (x_al ok_cX7_blame (x_al ok_cX7_behindBlank (x_al ok_cX7_kindOfLine (x_al ok_cX7_standsAt (x_al ok_cX7_isSpelled (x_al ok_cX7_isFull (x_al ok_cX7_judge (x_al ok_cX7_within (x_al ok_cX7_fitsBoard (x_al ok_cX7_judgeFrom (x_al ok_cX7_isOpen (x_al ok_cX7_apply (x_al ok_cX7_addPlayer (x_al ok_cX7_step (x_al ok_cX7_isBlank (x_al ok_cX7_isLetter (x_al ok_cX7_isDigit (x_al ok_cX8_init (x_al ok_cX8_isMade (x_al ok_cX8_make (x_al ok_cX8_put (x_al ok_cX8_hasPart (x_al ok_cX8_isBelow (x_al ok_cX8_isPeriod (x_al ok_cX8_leastPeriod (x_al ok_cX8_periodsInAll (x_al ok_cX9_init (x_al ok_cX9_good (x_al ok_cX9_rashPoints (x_al ok_cX9_begin (x_al ok_cX9_goFor (x_al ok_cX9_among (x_al ok_cX9_strike (x_al ok_cX9_holeBehind (x_al ok_cX9_firstMissed (x_al ok_cX10_init (x_al ok_cX10_put (x_al ok_cX10_at (x_al ok_cX11_init (x_al ok_cX11_feed (x_al ok_cX11_end (x_al ok_cX11_board (x_al ok_cX11_fault (x_al ok_cX11_drum (x_al ok_cX11_player (x_al ok_cX11_stay (x_al ok_cX11_count (x_al ok_cX11_comings (x_al ok_cX11_comes (x_al ok_cX11_up (x_al ok_cX11_calm (x_al ok_cX11_steps (x_al ok_cX11_pace (x_al ok_cX11_aware (x_al ok_cX11_hits (x_al ok_cX11_hit (x_al ok_cX11_twice (x_al ok_cX11_where (x_al ok_cX11_missed (x_al ok_cX11_walked (x_al ok_cX11_best (x_al ok_cX11_ahead (x_al ok_cX11_learns (x_al ok_cX11_enough (x_al ok_cX11_waits (x_al ok_cX11_slack (x_al ok_cX11_lucky (x_al ok_cX11_mean (x_al ok_cX11_middle (x_al ok_cX11_reach (x_al ok_cX11_post (x_al ok_cX11_rows (x_al ok_cX11_ends (x_al ok_cX11_fair (x_al ok_cX11_breaks (x_al ok_cX11_period (x_al ok_cX11_periods (x_al ok_cX11_luck (x_al ok_cX11_fits (x_al ok_cX11_place (x_al ok_cX11_next (x_al ok_cX11_needed (x_al ok_cX11_known (x_al ok_cX11_rash (x_al ok_cX11_look (x_al ok_cX11_line (x_al ok_cX11_two (x_al ok_cX11_tickets (x_al ok_cX11_prize (x_al ok_cX11_counted (x_al ok_cX11_scored (x_al ok_cX11_early (x_al ok_cX11_often (x_al ok_cX11_balance (x_al ok_cX11_path (x_al ok_cX11_better (x_al ok_cX11_swap (x_al ok_cX11_paint (x_al ok_cX11_turn (x_al ok_cX11_shut (x_al ok_cX11_train (x_al ok_cX11_drawn (x_al ok_cX11_night (x_al ok_cX11_years (x_al ok_cX11_image (x_al ok_cX11_back (x_al ok_cX11_row (x_al ok_cX11_write (x_al ok_cX11_paste (x_al ok_cX11_isSlot (x_al ok_cX11_isLaw (x_al ok_cX11_isSeed (x_al ok_cX11_rowsKept (x_al ok_cX11_makeReady (x_al ok_cX11_runOf (x_al ok_cX11_hitsKnowing (x_al ok_cX11_hitsLagging (x_al ok_cX11_lookPoints (x_al ok_cX11_ticketsOfRun (x_al ok_cX11_countLots (x_al ok_cX11_whyUnheard (x_al ok_cX11_whyNoBlows (x_al ok_cX12_init (x_al ok_cX12_in (x_al ok_cX12_image (x_al ok_cX12_back (x_al ok_cX12_isBoard (x_al ok_cX12_holes (x_al ok_cX12_isHole (x_al ok_cX12_isShut (x_al ok_cX12_isTick (x_al ok_cX12_isComing (x_al ok_cX12_isPlayer (x_al ok_cX12_ofComing (x_al ok_cX12_of (x_al ok_cX12_feed (x_al ok_cX12_end (x_al ok_cX12_see (x_al ok_cX12_advance (x_al ok_cX12_good (x_al ok_cX12_errs (x_al ok_cX12_is (x_al ok_cX12_takes (x_al ok_cX12_needs (x_al ok_cX12_number (x_al ok_cX12_told (x_al ok_cX12_fault (x_al ok_cX12_freshHoles (x_al ok_cX12_readFirst (x_al ok_cX12_freshStay (x_al ok_cX12_readStay (x_al ok_cX12_isNextHole (x_al ok_cX12_isFreshComing (x_al ok_cX12_readShut (x_al ok_cX12_readHole (x_al ok_cX12_readComing (x_al ok_cX12_readPlayer (x_al ok_cX12_readNext (x_al ok_cX12_readLine (x_al ok_cX12_board (x_al ok_cX12_stayIn (x_al ok_cX12_nextTick (x_al ok_cX12_mayCome (x_al ok_cX12_come (x_al ok_cX12_lay (x_al ok_cX12_inGame (x_al ok_cX12_drum (x_al ok_cX12_player (x_al ok_cX12_stay (x_al ok_cX12_comings (x_al ok_cX12_isInGame (x_al ok_cX12_comes (x_al ok_cX12_upIn (x_al ok_cX12_up (x_al ok_cX12_calm (x_al ok_cX12_stepsOf (x_al ok_cX12_steps (x_al ok_cX12_paceIn (x_al ok_cX12_pace (x_al ok_cX12_asTold (x_al ok_cX12_awareOf (x_al ok_cX12_aware (x_al ok_cX12_goes (x_al ok_cX12_isHis (x_al ok_cX12_goesFor (x_al ok_cX12_run (x_al ok_cX12_runAsTold (x_al ok_cX12_hits (x_al ok_cX12_hit (x_al ok_cX12_twice (x_al ok_cX12_where (x_al ok_cX12_missed (x_al ok_cX12_walked (x_al ok_cX12_cell (x_al ok_cX12_sooner (x_al ok_cX12_behind (x_al ok_cX12_mayHit (x_al ok_cX12_bestOf (x_al ok_cX12_best (x_al ok_cX12_ahead (x_al ok_cX12_learnsBy (x_al ok_cX12_learns (x_al ok_cX12_enough (x_al ok_cX12_waitingAt (x_al ok_cX12_waits (x_al ok_cX12_openHoles (x_al ok_cX12_stepsToAll (x_al ok_cX12_divisor (x_al ok_cX12_mean (x_al ok_cX12_middle (x_al ok_cX12_reachOf (x_al ok_cX12_reach (x_al ok_cX12_bits (x_al ok_cX12_post (x_al ok_cX12_lagging (x_al ok_cX12_slack (x_al ok_cX12_isLaw (x_al ok_cX12_lets (x_al ok_cX12_fillRows (x_al ok_cX12_endingIn (x_al ok_cX12_rows (x_al ok_cX12_ends (x_al ok_cX12_fair (x_al ok_cX12_holeAt (x_al ok_cX12_breaks (x_al ok_cX12_numberAt (x_al ok_cX12_asksHeard (x_al ok_cX12_isPeriod (x_al ok_cX12_leastPeriod (x_al ok_cX12_period (x_al ok_cX12_periods (x_al ok_cX12_luck (x_al ok_cX12_fitsFrom (x_al ok_cX12_fits (x_al ok_cX12_place (x_al ok_cX12_next (x_al ok_cX12_goesAlike (x_al ok_cX12_neededFrom (x_al ok_cX12_needed (x_al ok_cX12_known (x_al ok_cX12_rashOf (x_al ok_cX12_rash (x_al ok_cX12_lookOf (x_al ok_cX12_look (x_al ok_cX12_line (x_al ok_cX12_hitsOn (x_al ok_cX12_two (x_al ok_cX12_ticketsOf (x_al ok_cX12_tickets (x_al ok_cX12_prize (x_al ok_cX12_asksBlows (x_al ok_cX12_strike (x_al ok_cX12_layBlows (x_al ok_cX12_counted (x_al ok_cX12_scored (x_al ok_cX12_early (x_al ok_cX12_oftenOf (x_al ok_cX12_often (x_al ok_cX12_balance (x_al ok_cX12_pathOf (x_al ok_cX12_path (x_al ok_cX12_trade (x_al ok_cX12_better (x_al ok_cX12_swap (x_al ok_cX12_paint (x_al ok_cX12_turn (x_al ok_cX12_lucky (x_al ok_cX12_shut (x_al ok_cX12_train (x_al ok_cX12_draw (x_al ok_cX12_holeByLot (x_al ok_cX12_layNight (x_al ok_cX12_isSeed (x_al ok_cX12_drawn (x_al ok_cX12_nightOf (x_al ok_cX12_night (x_al ok_cX12_years (x_al ok_cX12_count (x_al ok_cX12_isSlot (x_al ok_cX12_cut (x_al ok_cX12_row (x_al ok_cX12_write (x_al ok_cX12_paste (x_al ok_cJ6_bitCount_0f7a4 (x_al ok_cJ9_floorMod_7cf53 x_an))))))))))))))))))))))))))))))))))))))))))))))))))))))))))))))))))))))))))))))))))))))))))))))))))))))))))))))))))))))))))))))))))))))))))))))))))))))))))))))))))))))))))))))))))))))))))))))))))))))))))))))))))))))))))))))))))))))))))))))))))))))))))))))))))))))))))))))))))))))))))))))))))))))))))))))))))))))))))))))))))))))))))))))))))))))))))))))))))))))) M (List.mem_of_getElem? h)
/-! THE CLAIM OUT OF ONE WALK OF THE LAW'S BODY. Your part is whole_start (and what it stands on); all else here is the same for every law, but numbers. -/
def R_law : String := "MoleBoardLaw"
def lw_P (b : Addr) (xs : List Int32) (args : Array Value) (s : State) : Prop := args = #[.ref b] ∧ s.IntsAt b xs ∧ xs.length ≤ 3072 ∧ (Jvm.Cond.and given_1 narrow_1).before args s = true
def lw_Q (_ : Array Value) (s : State) (o : Outcome) (t : State) : Prop := o = .returned (some (.int 1)) ∧ Framed s o t [] 600000 7302250
def lw_Z (below : List Frame) (a : Array Value) (s : State) : State → Prop := fun t => ∃ o, t.status = .running ∧ Ended t below o ∧ lw_Q a s o t
/-- the law's own end, with 1 on the stack, nothing written that was there before, its room as the claim has it -/
theorem lw_ret {p : Program} {l : Launch} {e : Env} {s : State} {m : MethodId} {below : List Frame} {meth : Method} {c : Code} {b : Nat} (hx : p.tables.exec = Jvm.exec) (hb : c.code = code) (hr : meth.sig.returnType = ret) (hlocks : meth.locks = false) {pc : Nat} {H : Heap} {ls : Array Slot} (hdg : decode code pc = .ok (.ireturn, 1)) : W p l e room_1 s m #[Value.ref b] below meth c H [] 600000 7302250 (lw_Z below #[Value.ref b] s) (F0 m pc ls [.int 1]) := by
  intro T hT X
  obtain ⟨fs, hret, hrun, hended, hW, hframe⟩ := X.leave (v := some (.int 1)) (hlocks := hlocks) (fun h => by rw [hr] at h; cases h)
  have hmeth' : T.vm.method? m = some meth := X.method'
  refine ⟨T.setFrames fs, ?_, .returned (some (.int 1)), hrun, hended, rfl, ⟨_, rfl⟩, hW, hframe⟩
  jvm_step X.here [X.here.top, hx, hb, hdg, hmeth', hr, ret, narrow_b1]
  (try refine ⟨rfl, ?_⟩); (try refine ⟨rfl, ?_⟩)
  first | (intro acts; rw [hret _ acts rfl rfl rfl]) | rw [hret _ _ rfl rfl rfl]
  exact Steps.refl _
/-- what holds at the law's entry: the machine, the code, the tables' words (any of lw_tbl by 'hts w (by decide +kernel)'), the script of L ints xs at the cell b, what the Statement gives of the start (any of its parts by flat_of_before) -/
def lw_At (p : Program) (s : State) (m : MethodId) (meth : Method) (c : Code) (b L : Nat) (xs : Nat → Int32) : Prop :=
  p.tables.exec = Jvm.exec ∧ c.code = code ∧ meth.sig.returnType = ret ∧ c.maxLocals = 4 ∧ s.vm.findClass R_law = some m.cls ∧ (∀ w ∈ lw_tbl, w.before #[Value.ref b] s = true) ∧ va_X b L xs s s.heap ∧ b < s.heap.size ∧ meth.locks = false ∧ (Jvm.Cond.and given_1 narrow_1).before #[Value.ref b] s = true
/-! ===== the claim out of a run of the interpreter ===== -/
def x_Law (N : Nat) : Prop := ∀ (L : Nat) (xs : Nat → Int32), L ≤ N → ∃ (n : Nat) (h' : xH) (k' z' : Nat), x_run x_mt (some (L, xs)) n 10 M_law (0, [(0, .ref x_scr)], [], [], 0, 0) = some (some (.int 1), h', k', z') ∧ k' ≤ room_1.cells ∧ z' ≤ room_1.slots
theorem x_known {s : State} {args : Array Value} (hts : ∀ w ∈ lw_tbl, w.before args s = true) : ∃ D : va_G, va_K D vwCl [] s := by
  have each : ∀ ci : Nat, ∃ (cC : ClassId) (iS : Nat → Nat), ∀ q : vw_C, (vwCl : List vw_C)[ci]? = some q → u_Kn s q.1 q.2.1 q.2.2 cC iS := by
    intro ci
    cases h : (vwCl : List vw_C)[ci]? with
    | none => exact ⟨0, fun _ => 0, fun q hq => by cases hq⟩
    | some q =>
      obtain ⟨C, T, N⟩ := q
      obtain ⟨hin, -, -, hins, -⟩ := x_okC_ok ci C T N h
      obtain ⟨cC, iS, hK⟩ := u_known (C := C) (T := T) (N := N) (n := N) hts (fun w hw => x_bw_tbl (hin w hw)) (hts _ (x_bw_tbl hins))
      exact ⟨cC, iS, fun q hq => by cases hq; exact hK⟩
  exact ⟨(fun ci => Classical.choose (each ci), fun ci => Classical.choose (Classical.choose_spec (each ci))), fun ci q hq => Classical.choose_spec (Classical.choose_spec (each ci)) q hq, fun k q hq => by simp at hq⟩
/-- the String constants at the start -/
def x_tm (j : Nat) : Term := match x_lit[j]? with
  | some q => .string q.1 q.2.1
  | none => .string "" 0
def x_sc (j : Nat) : List Cond := [.exactly (x_tm j) "java/lang/String", .eq (.field (x_tm j) "java/lang/String" "coder" "B") (.int 0), .arrayOf (.field (x_tm j) "java/lang/String" "value" "[B") .byte, .eq (.length (.field (x_tm j) "java/lang/String" "value" "[B")) (.int (Int32.ofNat (x_sbyt.getD j []).length))] ++ (List.range (x_sbyt.getD j []).length).map (fun i => .eq (.elem (.field (x_tm j) "java/lang/String" "value" "[B") (.int (Int32.ofNat i))) (.int ((x_sbyt.getD j []).getD i 0)))
set_option maxRecDepth 100000 in
theorem x_flat : ((List.range x_sbyt.length).all (fun j => decide (((flatC narrow_1).drop (x_off j)).take (x_sc j).length = x_sc j))) = true := by decide +kernel
theorem x_sc_of {args : Array Value} {s : State} (h : narrow_1.before args s = true) {j : Nat} (hj : j < x_sbyt.length) : ∀ w ∈ x_sc j, w.before args s = true := by
  intro w hw
  have h1 := List.all_eq_true.mp x_flat j (List.mem_range.mpr hj)
  have h2 : ((flatC narrow_1).drop (x_off j)).take (x_sc j).length = x_sc j := of_decide_eq_true h1
  rw [← h2] at hw
  exact flat_of_before _ h w (List.mem_of_mem_drop (List.mem_of_mem_take hw))
theorem x_strs {s : State} {b : Nat} (hg : (Jvm.Cond.and given_1 narrow_1).before #[Value.ref b] s = true) (hts : ∀ w ∈ lw_tbl, w.before #[Value.ref b] s = true) : ∃ adK adV : Nat → Nat,
    (∀ j : Nat, j < x_sbyt.length → va_O "java/lang/String" (adK j) (fun q => s.heap.size ≤ q) s s.heap ∧ va_OF "java/lang/String" "coder" "B" (.int 0) (adK j) (fun q => s.heap.size ≤ q) s s.heap ∧ va_OF "java/lang/String" "value" "[B" (.ref (adV j)) (adK j) (fun q => s.heap.size ≤ q) s s.heap ∧ va_T .byte (adV j) (x_sbyt.getD j []).length (fun i => .int ((x_sbyt.getD j []).getD i 0)) (fun q => s.heap.size ≤ q) s s.heap) ∧
    (∀ (j : Nat) (own : String) (k : Nat) (tx : String), x_lit[j]? = some (own, k, tx) → vk_R own k tx (adK j) s) ∧
    va_Z "java/lang/String" "COMPACT_STRINGS" "Z" (.int 1) (fun q => s.heap.size ≤ q) s s.heap ∧ va_Zq "jdk/internal/util/Preconditions" "SIOOBE_FORMATTER" "Ljava/util/function/BiFunction;" (fun q => s.heap.size ≤ q) s s.heap := by
  rw [Cond.before_and, Bool.and_eq_true] at hg
  have hn := hg.2
  have hA : ∀ a : Nat, a < s.heap.size → ¬ s.heap.size ≤ a := fun a h => by omega
  have h0 : ∀ j : Nat, ∃ q : Nat × Nat, j < x_sbyt.length → (x_tm j).eval #[Value.ref b] s none [] s = some (.ref q.1) ∧ va_O "java/lang/String" q.1 (fun q => s.heap.size ≤ q) s s.heap ∧ va_OF "java/lang/String" "coder" "B" (.int 0) q.1 (fun q => s.heap.size ≤ q) s s.heap ∧ va_OF "java/lang/String" "value" "[B" (.ref q.2) q.1 (fun q => s.heap.size ≤ q) s s.heap ∧ va_T .byte q.2 (x_sbyt.getD j []).length (fun i => .int ((x_sbyt.getD j []).getD i 0)) (fun q => s.heap.size ≤ q) s s.heap := by
    intro j
    by_cases hj : j < x_sbyt.length
    · have hc := x_sc_of hn hj
      have c0 := hc (.exactly (x_tm j) "java/lang/String") (List.mem_append_left _ (List.mem_of_getElem? (i := 0) rfl))
      have c1 := hc (.eq (.field (x_tm j) "java/lang/String" "coder" "B") (.int 0)) (List.mem_append_left _ (List.mem_of_getElem? (i := 1) rfl))
      have c2 := hc (.arrayOf (.field (x_tm j) "java/lang/String" "value" "[B") .byte) (List.mem_append_left _ (List.mem_of_getElem? (i := 2) rfl))
      have c3 := hc (.eq (.length (.field (x_tm j) "java/lang/String" "value" "[B")) (.int (Int32.ofNat (x_sbyt.getD j []).length))) (List.mem_append_left _ (List.mem_of_getElem? (i := 3) rfl))
      obtain ⟨a, c, cA, kA, q1, q2, q3, q4, q5, q6, -⟩ := Cond.exactly_spec (args := #[Value.ref b]) (first := s) (o := none) (s := s) (idx := []) (t := x_tm j) (cls := "java/lang/String") c0
      obtain ⟨t, ht, hTT⟩ := va_Tof (f := fun i => .int ((x_sbyt.getD j []).getD i 0)) (A := fun q => s.heap.size ≤ q) (x_jlen j hj) c2 (va_eqt c3) (fun i hi => va_eqt (hc _ (List.mem_append_right _ (List.mem_map.mpr ⟨i, List.mem_range.mpr hi, rfl⟩)))) hA
      exact ⟨(a, t), fun _ => ⟨q1, ⟨cA, q3, q5, by rw [q6]; exact q2, hA a (Array.getElem?_eq_some_iff.mp q3).1⟩, vk_OFof q1 (va_eqt c1) hA, vk_OFof q1 ht hA, hTT⟩⟩
    · exact ⟨(0, 0), fun h => absurd h hj⟩
  obtain ⟨ad, had⟩ := Classical.axiomOfChoice h0
  refine ⟨fun j => (ad j).1, fun j => (ad j).2, fun j hj => (had j hj).2, fun j own k tx e => ?_, ?_, ?_⟩
  · have hj : j < x_sbyt.length := Nat.lt_of_lt_of_eq (List.getElem?_eq_some_iff.mp e).1 x_ll
    have h1 := (had j hj).1
    have et : x_tm j = .string own k := by unfold x_tm; rw [e]
    rw [et] at h1
    exact vk_R.of (hts _ (x_lit_in _ (List.mem_of_getElem? e))) h1
  · exact va_Zof (hts _ x_ly1) (hts _ x_ly2) (va_eqt (flat_of_before _ hn _ (List.mem_of_getElem? (i := 2) rfl))) hA
  · exact va_Zqof (hts _ x_ly3) (hts _ x_ly4) (flat_of_before _ hn _ (List.mem_of_getElem? (i := 3) rfl)) hA
theorem x_start (hLaw : ∀ (L : Nat) (xs : Nat → Int32), L ≤ 3072 → ∃ (n : Nat) (h' : xH) (k' z' : Nat), x_run x_mt (some (L, xs)) n 10 M_law (0, [(0, .ref x_scr)], [], [], 0, 0) = some (some (.int 1), h', k', z') ∧ k' ≤ room_1.cells ∧ z' ≤ room_1.slots) {p : Program} {e : Env} {s : State} {m : MethodId} {below : List Frame} {meth : Method} {c : Code} (l : Launch) {b L : Nat} {xs : Nat → Int32} (hL : L ≤ 3072) (C0 : lw_At p s m meth c b L xs) : W p l e room_1 s m #[Value.ref b] below meth c s.heap [] 0 0 (lw_Z below #[Value.ref b] s) (entryFrame m ([Value.ref b] : List Value).toArray 4) := by
  obtain ⟨hx, hb, hr, hml, hown, hts, hX, hbl, hlocks, hgv⟩ := C0
  obtain ⟨n, h', k', z', hrun, hk, hz⟩ := hLaw L xs hL
  obtain ⟨D, hK⟩ := x_known hts
  have wk := x_walk x_okC_ok x_mt_ok n 10 M_law (some (L, xs)) _ _ h' k' z' rk_law hrun
  have hl := lv_entry ([.ref b]) (n := 4) (Nat.le_of_ble_eq_true rfl)
  rw [lg_entry_eq]
  generalize (lg_sl ([.ref b]) ++ List.replicate (4 - (lg_sl ([.ref b])).length) Slot.unset).toArray = ls at hl ⊢
  have hl : lv_has ls 4 [(0, .ref b)] := hl
  obtain ⟨adK, adV, hstr, hlit, hcs, hsi⟩ := x_strs hgv hts
  have had : ∀ k, k < x_scr → (fun k => if k < x_scr then s.heap.size + k else if k < x_str then b else if k < x_val then adK (k - x_str) else adV (k - x_val)) k = s.heap.size + k := fun k hk => if_pos hk
  have hsc : (fun k => if k < x_scr then s.heap.size + k else if k < x_str then b else if k < x_val then adK (k - x_str) else adV (k - x_val)) x_scr = b := by
    show (if x_scr < x_scr then _ else if x_scr < x_str then b else _) = b
    rw [if_neg (Nat.lt_irrefl _), if_pos (by decide)]
  have hak : ∀ j, j < x_sbyt.length → (fun k => if k < x_scr then s.heap.size + k else if k < x_str then b else if k < x_val then adK (k - x_str) else adV (k - x_val)) (x_str + j) = adK j := by
    intro j hj
    have hj2 : j < 1000 := Nat.lt_of_lt_of_le hj (by decide)
    show (if x_str + j < x_scr then _ else if x_str + j < x_str then b else if x_str + j < x_val then adK (x_str + j - x_str) else _) = _
    rw [if_neg (by unfold x_str x_scr; omega), if_neg (by omega), if_pos (by unfold x_str x_val; omega), Nat.add_sub_cancel_left]
  have hav : ∀ j, j < x_sbyt.length → (fun k => if k < x_scr then s.heap.size + k else if k < x_str then b else if k < x_val then adK (k - x_str) else adV (k - x_val)) (x_val + j) = adV j := by
    intro j hj
    show (if x_val + j < x_scr then _ else if x_val + j < x_str then b else if x_val + j < x_val then _ else adV (x_val + j - x_val)) = _
    rw [if_neg (by unfold x_val x_scr; omega), if_neg (by unfold x_val x_str; omega), if_neg (by omega), Nat.add_sub_cancel_left]
  generalize (fun k => if k < x_scr then s.heap.size + k else if k < x_str then b else if k < x_val then adK (k - x_str) else adV (k - x_val)) = ad at had hsc hak hav
  have hT : x_St s s.heap.size ad := by
    refine ⟨fun j hj => ?_, hcs, hsi, fun j own k tx e => ?_⟩
    · obtain ⟨o1, o2, o3, o4⟩ := hstr j hj
      rw [hak j hj, hav j hj]
      exact ⟨o1, o2, o3, o4⟩
    · have hj : j < x_sbyt.length := Nat.lt_of_lt_of_eq (List.getElem?_eq_some_iff.mp e).1 x_ll
      rw [hak j hj]
      exact hlit j own k tx e
  have hW : x_W ad s.heap.size D [] s s.heap := ⟨had, Nat.zero_le _, rfl, fun _ => 0, fun k q h => by simp [x_cw] at h, fun k e t h => by simp at h, fun C hC => by
    have e : x_ao = x_ao := rfl
    exact va_AO.of (A := #[Value.ref b]) (hts _ (x_ao_in C hC))⟩
  refine wk.2.2 (ad := ad) (base := s.heap.size) (D := D) hx hb hml ?_ ⟨hown, fun w hw => hts w (x_bw_tbl hw), hK, Nat.le_refl _, hW, va_S.rf⟩ ⟨fun n f q => ?_, hT⟩ ⟨by decide, by decide⟩ hk hz (by rw [show x_cl ad [(0, .ref x_scr)] = [(0, .ref (ad x_scr))] from rfl, hsc]; exact hl) ?_
  · intro q; exact absurd q (by decide)
  · cases q
    rw [hsc]
    exact ⟨hX, hbl, Nat.not_le.mpr hbl⟩
  · intro H1 locs1 ls1 pc1 ins st1 hd hv X
    obtain ⟨-, -, -, -, -, hS⟩ := X
    unfold x_ret at hv
    split at hv
    · split at hv
      · cases hv
        refine va_forget (fun q hq => hS.2.2 q hq) ?_
        refine W.widen hk hz ?_
        exact lw_ret hx hb hr hlocks hd
      · rename_i q; cases q
      · cases hv
    · split at hv <;> cases hv
    · split at hv <;> cases hv
    · split at hv <;> cases hv
    · cases hv

/-! ===== runs without fuel ===== -/
theorem x_more {mt : List xM} : ∀ (n d : Nat) (M : xM) (S : Option xS) (c : xC) (r : Option Value × xH × Nat × Nat), x_run mt S n d M c = some r → ∀ n' : Nat, n ≤ n' → x_run mt S n' d M c = some r := by
  intro n
  induction n with
  | zero => intro d M S c r h; cases h
  | succ n ih =>
    intro d M S c r h n' hn
    cases n' with
    | zero => exact absurd hn (by omega)
    | succ n' =>
      have hn : n ≤ n' := by omega
      unfold x_run at h ⊢
      cases hs : x_step M S c with
      | none => rw [hs] at h; cases h
      | some o =>
        rw [hs] at h
        obtain c' | q | u := o
        · exact ih d M S c' r h n' hn
        · cases d with
          | zero => cases h
          | succ d' =>
            dsimp only at h ⊢
            cases hM : mt[q.1]? with
            | none => rw [hM] at h; cases h
            | some M' =>
              rw [hM] at h
              dsimp only at h ⊢
              cases hb : (Nat.ble (x_cat q.2.1) M'.2.2.2.1 && x_rcv M' q.2.1 c.2.2.2.1) with
              | false => rw [hb] at h; cases h
              | true =>
                rw [hb] at h
                dsimp only [cond] at h ⊢
                cases h1 : x_run mt none n d' M' (0, lv_args 0 q.2.1, [], c.2.2.2.1, 0, 0) with
                | none => rw [h1] at h; cases h
                | some r1 =>
                  rw [h1] at h
                  rw [ih _ _ _ _ _ h1 n' hn]
                  exact ih _ _ _ _ _ h n' hn
        · exact h
/-- the interpreter comes to an end, with P -/
def x_R (mt : List xM) (S : Option xS) (d : Nat) (M : xM) (c : xC) (P : Option Value × xH × Nat × Nat → Prop) : Prop := ∃ (n : Nat) (r : Option Value × xH × Nat × Nat), x_run mt S n d M c = some r ∧ P r
section XR
variable {mt : List xM} {S : Option xS} {d : Nat} {M : xM} {c c' : xC} {P P' : Option Value × xH × Nat × Nat → Prop}
theorem x_R.mono (h : x_R mt S d M c P) (hp : ∀ r, P r → P' r) : x_R mt S d M c P' := by
  obtain ⟨n, r, h1, h2⟩ := h
  exact ⟨n, r, h1, hp r h2⟩
theorem x_R.step (e : x_step M S c = some (.inl c')) (k : x_R mt S d M c' P) : x_R mt S d M c P := by
  obtain ⟨n, r, h1, h2⟩ := k
  refine ⟨n + 1, r, ?_, h2⟩
  unfold x_run
  rw [e]
  exact h1
theorem x_R.ret {v : Option Value} (e : x_step M S c = some (.inr (.inr v))) (k : P (v, c.2.2.2.1, c.2.2.2.2.1, c.2.2.2.2.2)) : x_R mt S d M c P := by
  refine ⟨1, _, ?_, k⟩
  unfold x_run
  rw [e]
theorem x_R.call {a : Nat} {vs rest : List Value} {M' : xM} (e : x_step M S c = some (.inr (.inl (a, vs, rest)))) (em : mt[a]? = some M') (ec : (Nat.ble (x_cat vs) M'.2.2.2.1 && x_rcv M' vs c.2.2.2.1) = true)
    (k : x_R mt none d M' (0, lv_args 0 vs, [], c.2.2.2.1, 0, 0) (fun r => x_R mt S (d + 1) M (c.1 + 3, c.2.1, r.1.toList ++ rest, r.2.1, c.2.2.2.2.1 + r.2.2.1, c.2.2.2.2.2 + r.2.2.2) P)) : x_R mt S (d + 1) M c P := by
  obtain ⟨n1, r1, h1, n2, r2, h2, h3⟩ := k
  refine ⟨max n1 n2 + 1, r2, ?_, h3⟩
  unfold x_run
  rw [e]
  dsimp only
  rw [em]
  dsimp only
  rw [ec]
  dsimp only [cond]
  rw [x_more _ _ _ _ _ _ h1 _ (Nat.le_max_left _ _)]
  exact x_more _ _ _ _ _ _ h2 _ (Nat.le_max_right _ _)
theorem x_R.ite {p : Prop} [Decidable p] {c1 c2 : xC} (e : x_step M S c = if p then some (.inl c1) else some (.inl c2)) (k1 : p → x_R mt S d M c1 P) (k2 : ¬ p → x_R mt S d M c2 P) : x_R mt S d M c P := by
  by_cases h : p
  · rw [if_pos h] at e
    exact x_R.step e (k1 h)
  · rw [if_neg h] at e
    exact x_R.step e (k2 h)
/-- several plain steps -/
def x_steps (M : xM) (S : Option xS) : Nat → xC → Option xC
  | 0, c => some c
  | n + 1, c => match x_step M S c with
    | some (.inl c') => x_steps M S n c'
    | _ => none
theorem x_R.steps : ∀ (n : Nat) {c c' : xC}, x_steps M S n c = some c' → x_R mt S d M c' P → x_R mt S d M c P := by
  intro n
  induction n with
  | zero => intro c c' e k; cases e; exact k
  | succ n ih =>
    intro c c' e k
    unfold x_steps at e
    split at e
    · rename_i c1 e1
      exact x_R.step e1 (ih e k)
    · cases e
end XR
/-! ===== where all lies behind the two constructors ===== -/
def j_nx : Nat := 75
def j_sh : List ((Nat × Nat × List Nat) ⊕ (Nat × List Nat)) := [.inr (11, [3, 11, 12, 24, 30, 31, 32, 37, 39, 42, 44]),
  .inr (2, [0, 0, 0, 0, 0, 0, 0, 0, 0, 0, 0, 4, 5, 6, 7]),
  .inl (0, 6, []),
  .inl (0, 6, []),
  .inl (0, 20, []),
  .inr (3, [0, 0, 8, 9, 10]),
  .inl (0, 24, []),
  .inl (0, 24, []),
  .inl (0, 24, []),
  .inl (6, 3, [43, 51, 59]),
  .inr (7, [13, 0, 0, 21, 23, 0, 0, 0, 0]),
  .inr (2, [0, 0, 0, 0, 0, 0, 0, 0, 0, 0, 0, 14, 15, 16, 17]),
  .inl (0, 6, []),
  .inl (0, 6, []),
  .inl (0, 20, []),
  .inr (3, [0, 0, 18, 19, 20]),
  .inl (0, 24, []),
  .inl (0, 24, []),
  .inl (0, 24, []),
  .inr (10, [0, 22]),
  .inl (2, 1200, []),
  .inl (0, 5, []),
  .inr (4, [0, 25, 26, 27, 28, 29, 0]),
  .inl (0, 60, []),
  .inl (0, 60, []),
  .inl (0, 60, []),
  .inl (0, 60, []),
  .inl (0, 60, []),
  .inr (6, [0, 0, 0, 0, 0]),
  .inr (6, [0, 0, 0, 0, 0]),
  .inr (9, [0, 0, 33, 34, 0, 35, 36, 0, 0]),
  .inl (0, 60, []),
  .inl (0, 60, []),
  .inl (0, 120, []),
  .inl (0, 120, []),
  .inr (0, [38]),
  .inl (0, 1452, []),
  .inr (5, [40, 41]),
  .inl (1, 156, []),
  .inl (1, 156, []),
  .inr (1, [0, 0, 0, 43]),
  .inl (0, 60, []),
  .inl (12, 4, [67, 69, 71, 73]),
  .inr (2, [0, 0, 0, 0, 0, 0, 0, 0, 0, 0, 0, 46, 47, 48, 49]),
  .inl (0, 6, []),
  .inl (0, 6, []),
  .inl (0, 20, []),
  .inr (3, [0, 0, 50, 51, 52]),
  .inl (0, 24, []),
  .inl (0, 24, []),
  .inl (0, 24, []),
  .inr (2, [0, 0, 0, 0, 0, 0, 0, 0, 0, 0, 0, 54, 55, 56, 57]),
  .inl (0, 6, []),
  .inl (0, 6, []),
  .inl (0, 20, []),
  .inr (3, [0, 0, 58, 59, 60]),
  .inl (0, 24, []),
  .inl (0, 24, []),
  .inl (0, 24, []),
  .inr (2, [0, 0, 0, 0, 0, 0, 0, 0, 0, 0, 0, 62, 63, 64, 65]),
  .inl (0, 6, []),
  .inl (0, 6, []),
  .inl (0, 20, []),
  .inr (3, [0, 0, 66, 67, 68]),
  .inl (0, 24, []),
  .inl (0, 24, []),
  .inl (0, 24, []),
  .inr (8, [0, 0, 70]),
  .inl (1, 60, []),
  .inr (8, [0, 0, 72]),
  .inl (1, 60, []),
  .inr (8, [0, 0, 74]),
  .inl (1, 60, []),
  .inr (8, [0, 0, 76]),
  .inl (1, 60, []),
  .inr (12, [0, 78, 79, 80, 81, 0, 82, 0, 0, 0, 0, 0, 0, 0, 83, 84, 85, 86, 0, 0, 0, 0, 0, 0, 0, 87, 88, 89, 90, 0, 0, 0, 0, 0, 91, 92, 93, 94, 95, 0, 0, 0, 1, 96, 97, 98, 99]),
  .inl (0, 116, []),
  .inl (0, 348, []),
  .inl (3, 3, []),
  .inl (2, 1200, []),
  .inl (0, 5, []),
  .inl (0, 116, []),
  .inl (0, 180, []),
  .inl (0, 60, []),
  .inl (0, 60, []),
  .inl (0, 60, []),
  .inl (0, 60, []),
  .inl (0, 120, []),
  .inl (0, 120, []),
  .inl (0, 1452, []),
  .inl (0, 1452, []),
  .inl (1, 169, []),
  .inl (1, 169, []),
  .inl (0, 60, []),
  .inl (0, 4, []),
  .inl (0, 4, []),
  .inl (1, 240, []),
  .inl (1, 60, [])]
/-! ===== what a method's run says, over cells that stay in their places ===== -/
abbrev j_G : Type := (Nat → Nat → Int32) × (Nat → Nat → Int64)
/-- an array (tag, length, references) or an object (class, of each slot: 0 an int, 1 a long, r + 2 the reference r) -/
abbrev j_T : Type := (Nat × Nat × List Nat) ⊕ (Nat × List Nat)
def j_val (σ : j_G) (c j : Nat) : Nat → Value
  | 0 => .int (σ.1 c j)
  | 1 => .long (σ.2 c j)
  | r + 2 => .ref r
def j_cell (σ : j_G) (c : Nat) : j_T → xE
  | .inl (t, n, rs) => .inl (t, n, bif Nat.beq t 1 then .inr (.inl (σ.2 c)) else bif Nat.blt t 4 then .inl (σ.1 c) else .inr (.inr (.inr (.inr (fun j => rs[j]?)))))
  | .inr (k, fs) => .inr (k, fs.mapIdx (fun j q => j_val σ c j q))
def j_ow (s : Bool) (c : Nat) : Bool := bif s then Nat.blt c j_nx else Nat.ble j_nx c
def j_hp (s : Bool) (σ τ : j_G) : xH := (j_sh : List j_T).mapIdx (fun c q => j_cell (bif j_ow s c then σ else τ) c q)
def j_at (s : Bool) (c : Nat) : Option j_T := bif j_ow s c then (j_sh : List j_T)[c]? else none
theorem j_get {s : Bool} {σ τ : j_G} {c : Nat} {q : j_T} (h : j_at s c = some q) : (j_hp s σ τ)[c]? = some (j_cell σ c q) := by
  unfold j_at at h
  cases ho : j_ow s c with
  | false => rw [ho] at h; cases h
  | true =>
    rw [ho] at h
    dsimp only [cond] at h
    unfold j_hp
    rw [List.getElem?_mapIdx, h, ho]
    rfl
theorem j_put {s : Bool} {σ σ' τ : j_G} {c : Nat} {q : j_T} {e : xE} (h : j_at s c = some q) (h1 : ∀ c', c' ≠ c → ∀ q, j_cell σ' c' q = j_cell σ c' q) (h2 : j_cell σ' c q = e) : (j_hp s σ τ).set c e = j_hp s σ' τ := by
  unfold j_at at h
  cases ho : j_ow s c with
  | false => rw [ho] at h; cases h
  | true =>
    rw [ho] at h
    dsimp only [cond] at h
    refine List.ext_getElem? fun k => ?_
    rw [List.getElem?_set]
    unfold j_hp
    rw [List.getElem?_mapIdx, List.getElem?_mapIdx, List.length_mapIdx]
    by_cases hk : c = k
    · subst hk
      rw [if_pos rfl, h, ho]
      have hl := (List.getElem?_eq_some_iff.mp h).1
      rw [if_pos hl]
      show some e = some (j_cell σ' c q)
      rw [h2]
    · rw [if_neg hk]
      cases hz : (j_sh : List j_T)[k]? with
      | none => rfl
      | some y =>
        show some _ = some _
        cases ho2 : j_ow s k with
        | false => rfl
        | true =>
          dsimp only [cond]
          rw [h1 k (fun z => hk z.symm)]
theorem j_cell_same {σ σ' : j_G} {c : Nat} (h1 : σ'.1 c = σ.1 c) (h2 : σ'.2 c = σ.2 c) (q : j_T) : j_cell σ' c q = j_cell σ c q := by
  obtain ⟨t, n, rs⟩ | ⟨k, fs⟩ := q
  · unfold j_cell
    dsimp only
    rw [h1, h2]
  · unfold j_cell
    dsimp only
    congr 2
    congr 1
    funext j q
    match q with
    | 0 => show Value.int _ = Value.int _; rw [h1]
    | 1 => show Value.long _ = Value.long _; rw [h2]
    | r + 2 => rfl
def j_si (σ : j_G) (c j : Nat) (v : Int32) : j_G := (fun c' j' => bif Nat.beq c' c && Nat.beq j' j then v else σ.1 c' j', σ.2)
def j_sl (σ : j_G) (c j : Nat) (v : Int64) : j_G := (σ.1, fun c' j' => bif Nat.beq c' c && Nat.beq j' j then v else σ.2 c' j')
def j_ci (σ : j_G) (a0 sp a1 dp n : Nat) : j_G := (fun c' j' => bif Nat.beq c' a1 then va_cpy (σ.1 a0) (σ.1 a1) sp dp n j' else σ.1 c' j', σ.2)
def j_cl (σ : j_G) (a0 sp a1 dp n : Nat) : j_G := (σ.1, fun c' j' => bif Nat.beq c' a1 then va_cpy (σ.2 a0) (σ.2 a1) sp dp n j' else σ.2 c' j')
theorem j_beq_ne {a b : Nat} (h : a ≠ b) : Nat.beq a b = false := by
  cases hb : Nat.beq a b with
  | false => rfl
  | true => exact absurd (Nat.eq_of_beq_eq_true hb) h
theorem j_beq_self (a : Nat) : Nat.beq a a = true := Nat.beq_refl a
theorem j_up_ne {α : Type} {f : Nat → Nat → α} {c c' j : Nat} {v : α} (h : c' ≠ c) : (fun j' => bif Nat.beq c' c && Nat.beq j' j then v else f c' j') = f c' := by
  funext j'
  rw [j_beq_ne h]
  rfl
theorem j_up_eq {α : Type} {f : Nat → Nat → α} {c j : Nat} {v : α} : (fun j' => bif Nat.beq c c && Nat.beq j' j then v else f c j') = fun j' => if j' = j then v else f c j' := by
  funext j'
  rw [j_beq_self]
  by_cases hj : j' = j
  · subst hj; rw [j_beq_self, if_pos rfl]; rfl
  · rw [j_beq_ne hj, if_neg hj]; rfl
theorem j_cy_ne {α : Type} {f : Nat → Nat → α} {g : Nat → α} {c c' : Nat} (h : c' ≠ c) : (fun j' => bif Nat.beq c' c then g j' else f c' j') = f c' := by
  funext j'
  rw [j_beq_ne h]
  rfl
theorem j_cy_eq {α : Type} {f : Nat → Nat → α} {g : Nat → α} {c : Nat} : (fun j' => bif Nat.beq c c then g j' else f c j') = g := by
  funext j'
  rw [j_beq_self]
  rfl
/-- an object's slot is written -/
theorem j_setf {σ σ' : j_G} {c b k : Nat} {fs : List Nat} {v : Value} {t : Nat} (hb : fs[b]? = some t) (h1 : ∀ j q, (j = b → fs[j]? = some q → j_val σ' c j q = v) ∧ (j ≠ b → j_val σ' c j q = j_val σ c j q)) : j_cell σ' c (.inr (k, fs)) = .inr (k, (fs.mapIdx (fun j q => j_val σ c j q)).set b v) := by
  unfold j_cell
  dsimp only
  congr 2
  refine List.ext_getElem? fun j => ?_
  rw [List.getElem?_set, List.getElem?_mapIdx, List.getElem?_mapIdx, List.length_mapIdx]
  have hl := (List.getElem?_eq_some_iff.mp hb).1
  by_cases hj : b = j
  · subst hj
    rw [if_pos rfl, if_pos hl, hb]
    exact congrArg some ((h1 b t).1 rfl hb)
  · rw [if_neg hj]
    cases hz : fs[j]? with
    | none => rfl
    | some y =>
      exact congrArg some ((h1 j y).2 (fun z => hj z.symm))
theorem j_seti {s : Bool} {σ τ : j_G} {c b k : Nat} {fs : List Nat} {v : Int32} (h : j_at s c = some (.inr (k, fs))) (hb : fs[b]? = some 0) : (j_hp s σ τ).set c (.inr (k, (fs.mapIdx (fun j q => j_val σ c j q)).set b (.int v))) = j_hp s (j_si σ c b v) τ := by
  refine j_put h (fun c' hc q => j_cell_same (σ := σ) (σ' := j_si σ c b v) (c := c') (j_up_ne hc) rfl q) (j_setf hb fun j q => ⟨fun hj hq => ?_, fun hj => ?_⟩)
  · subst hj
    rw [hb] at hq
    cases hq
    show Value.int _ = _
    congr 1
    show (fun j' => bif Nat.beq c c && Nat.beq j' j then v else σ.1 c j') j = v
    rw [j_up_eq]
    exact if_pos rfl
  · match q with
    | 0 =>
      show Value.int _ = Value.int _
      congr 1
      show (fun j' => bif Nat.beq c c && Nat.beq j' b then v else σ.1 c j') j = _
      rw [j_up_eq]
      exact if_neg hj
    | 1 => rfl
    | r + 2 => rfl
theorem j_setl {s : Bool} {σ τ : j_G} {c b k : Nat} {fs : List Nat} {v : Int64} (h : j_at s c = some (.inr (k, fs))) (hb : fs[b]? = some 1) : (j_hp s σ τ).set c (.inr (k, (fs.mapIdx (fun j q => j_val σ c j q)).set b (.long v))) = j_hp s (j_sl σ c b v) τ := by
  refine j_put h (fun c' hc q => j_cell_same (σ := σ) (σ' := j_sl σ c b v) (c := c') rfl (j_up_ne hc) q) (j_setf hb fun j q => ⟨fun hj hq => ?_, fun hj => ?_⟩)
  · subst hj
    rw [hb] at hq
    cases hq
    show Value.long _ = _
    congr 1
    show (fun j' => bif Nat.beq c c && Nat.beq j' j then v else σ.2 c j') j = v
    rw [j_up_eq]
    exact if_pos rfl
  · match q with
    | 0 => rfl
    | 1 =>
      show Value.long _ = Value.long _
      congr 1
      show (fun j' => bif Nat.beq c c && Nat.beq j' b then v else σ.2 c j') j = _
      rw [j_up_eq]
      exact if_neg hj
    | r + 2 => rfl
/-- arrays -/
theorem j_ari {σ : j_G} {c t n : Nat} {rs : List Nat} (h1 : Nat.beq t 1 = false) (h2 : Nat.blt t 4 = true) : j_cell σ c (.inl (t, n, rs)) = .inl (t, n, .inl (σ.1 c)) := by
  unfold j_cell
  dsimp only
  rw [h1, h2]
  rfl
theorem j_arl {σ : j_G} {c n : Nat} {rs : List Nat} : j_cell σ c (.inl (1, n, rs)) = .inl (1, n, .inr (.inl (σ.2 c))) := rfl
theorem j_asti {s : Bool} {σ τ : j_G} {c t n i : Nat} {rs : List Nat} {v : Int32} (h : j_at s c = some (.inl (t, n, rs))) (h1 : Nat.beq t 1 = false) (h2 : Nat.blt t 4 = true) : (j_hp s σ τ).set c (.inl (t, n, .inl (upd (σ.1 c) i v))) = j_hp s (j_si σ c i v) τ := by
  refine j_put h (fun c' hc q => j_cell_same (σ := σ) (σ' := j_si σ c i v) (c := c') (j_up_ne hc) rfl q) ?_
  rw [j_ari h1 h2]
  congr 4
  exact j_up_eq
theorem j_astl {s : Bool} {σ τ : j_G} {c n i : Nat} {rs : List Nat} {v : Int64} (h : j_at s c = some (.inl (1, n, rs))) : (j_hp s σ τ).set c (.inl (1, n, .inr (.inl (vp_updL (σ.2 c) i v)))) = j_hp s (j_sl σ c i v) τ := by
  refine j_put h (fun c' hc q => j_cell_same (σ := σ) (σ' := j_sl σ c i v) (c := c') rfl (j_up_ne hc) q) ?_
  rw [j_arl]
  congr 5
  exact j_up_eq
theorem j_acpi {s : Bool} {σ τ : j_G} {a0 a1 sp dp n n1 : Nat} {rs : List Nat} (h : j_at s a1 = some (.inl (0, n1, rs))) : (j_hp s σ τ).set a1 (.inl (0, n1, .inl (va_cpy (σ.1 a0) (σ.1 a1) sp dp n))) = j_hp s (j_ci σ a0 sp a1 dp n) τ := by
  refine j_put h (fun c' hc q => j_cell_same (σ := σ) (σ' := j_ci σ a0 sp a1 dp n) (c := c') (j_cy_ne hc) rfl q) ?_
  rw [j_ari rfl rfl]
  congr 4
  exact j_cy_eq
theorem j_acpl {s : Bool} {σ τ : j_G} {a0 a1 sp dp n n1 : Nat} {rs : List Nat} (h : j_at s a1 = some (.inl (1, n1, rs))) : (j_hp s σ τ).set a1 (.inl (1, n1, .inr (.inl (va_cpy (σ.2 a0) (σ.2 a1) sp dp n)))) = j_hp s (j_cl σ a0 sp a1 dp n) τ := by
  refine j_put h (fun c' hc q => j_cell_same (σ := σ) (σ' := j_cl σ a0 sp a1 dp n) (c := c') rfl (j_cy_ne hc) q) ?_
  rw [j_arl]
  congr 5
  exact j_cy_eq
/-! locals -/
def j_has (l : xL) (L : List (Option Value)) : Prop := ∀ (n : Nat) (v : Value), L[n]? = some (some v) → x_ld l n = some v
def j_nl : Option Value → Option Value
  | some w => bif Nat.beq w.category 2 then none else some w
  | none => none
def j_st : List (Option Value) → Nat → Value → List (Option Value)
  | [], _, _ => []
  | _ :: r, 0, v => some v :: r
  | o :: r, 1, v => j_nl o :: j_st r 0 v
  | o :: r, n + 2, v => o :: j_st r (n + 1) v
def j_hd : List (Option Value) → List (Option Value)
  | [] => []
  | _ :: r => none :: r
def j_st2 : List (Option Value) → Nat → Value → List (Option Value)
  | [], _, _ => []
  | _ :: r, 0, v => some v :: j_hd r
  | o :: r, 1, v => j_nl o :: j_st2 r 0 v
  | o :: r, n + 2, v => o :: j_st2 r (n + 1) v
theorem j_nl_of {o : Option Value} {w : Value} (h : j_nl o = some w) : o = some w ∧ ¬ w.category = 2 := by
  cases o with
  | none => cases h
  | some y =>
    unfold j_nl at h
    dsimp only at h
    cases hb : Nat.beq y.category 2 with
    | true => rw [hb] at h; cases h
    | false =>
      rw [hb] at h
      cases h
      refine ⟨rfl, fun z => ?_⟩
      rw [z] at hb
      cases hb
theorem j_st_of : ∀ {L : List (Option Value)} {n : Nat} {v : Value} {m : Nat} {w : Value}, (j_st L n v)[m]? = some (some w) → (m = n ∧ w = v) ∨ (m ≠ n ∧ L[m]? = some (some w) ∧ ¬ (m + 1 = n ∧ w.category = 2)) := by
  intro L
  induction L with
  | nil => intro n v m w h; simp [j_st] at h
  | cons o r ih =>
    intro n v m w h
    match n with
    | 0 =>
      match m with
      | 0 => left; simp [j_st] at h; exact ⟨rfl, h.symm⟩
      | m + 1 => right; exact ⟨by omega, by simpa [j_st] using h, by omega⟩
    | 1 =>
      match m with
      | 0 =>
        right
        have h : j_nl o = some w := by simpa [j_st] using h
        have := j_nl_of h
        exact ⟨by omega, by simp [this.1], fun z => this.2 z.2⟩
      | m + 1 =>
        have h : (j_st r 0 v)[m]? = some (some w) := by simpa [j_st] using h
        rcases ih h with ⟨a, b⟩ | ⟨a, b, c⟩
        · left; exact ⟨by omega, b⟩
        · right; exact ⟨by omega, by simpa using b, by omega⟩
    | n + 2 =>
      match m with
      | 0 => right; exact ⟨by omega, by simpa [j_st] using h, by omega⟩
      | m + 1 =>
        have h : (j_st r (n + 1) v)[m]? = some (some w) := by simpa [j_st] using h
        rcases ih h with ⟨a, b⟩ | ⟨a, b, c⟩
        · left; exact ⟨by omega, b⟩
        · right; exact ⟨by omega, by simpa using b, fun z => c ⟨by omega, z.2⟩⟩
theorem j_st2_of : ∀ {L : List (Option Value)} {n : Nat} {v : Value} {m : Nat} {w : Value}, (j_st2 L n v)[m]? = some (some w) → (m = n ∧ w = v) ∨ (m ≠ n ∧ m ≠ n + 1 ∧ L[m]? = some (some w) ∧ ¬ (m + 1 = n ∧ w.category = 2)) := by
  intro L
  induction L with
  | nil => intro n v m w h; simp [j_st2] at h
  | cons o r ih =>
    intro n v m w h
    match n with
    | 0 =>
      match m with
      | 0 => left; simp [j_st2] at h; exact ⟨rfl, h.symm⟩
      | m + 1 =>
        right
        have h : (j_hd r)[m]? = some (some w) := by simpa [j_st2] using h
        match r, m, h with
        | [], m, h => simp [j_hd] at h
        | y :: r, 0, h => simp [j_hd] at h
        | y :: r, m + 1, h => exact ⟨by omega, by omega, by simpa [j_hd] using h, by omega⟩
    | 1 =>
      match m with
      | 0 =>
        right
        have h : j_nl o = some w := by simpa [j_st2] using h
        have := j_nl_of h
        exact ⟨by omega, by omega, by simp [this.1], fun z => this.2 z.2⟩
      | m + 1 =>
        have h : (j_st2 r 0 v)[m]? = some (some w) := by simpa [j_st2] using h
        rcases ih h with ⟨a, b⟩ | ⟨a, a2, b, c⟩
        · left; exact ⟨by omega, b⟩
        · right; exact ⟨by omega, by omega, by simpa using b, by omega⟩
    | n + 2 =>
      match m with
      | 0 => right; exact ⟨by omega, by omega, by simpa [j_st2] using h, by omega⟩
      | m + 1 =>
        have h : (j_st2 r (n + 1) v)[m]? = some (some w) := by simpa [j_st2] using h
        rcases ih h with ⟨a, b⟩ | ⟨a, a2, b, c⟩
        · left; exact ⟨by omega, b⟩
        · right; exact ⟨by omega, by omega, by simpa using b, fun z => c ⟨by omega, z.2⟩⟩
theorem j_ld_filter {p : Nat × Value → Bool} : ∀ {l : xL} {m : Nat} {w : Value}, x_ld l m = some w → p (m, w) = true → x_ld (l.filter p) m = some w := by
  intro l
  induction l with
  | nil => intro m w h; cases h
  | cons q r ih =>
    intro m w h hp
    unfold x_ld at h
    cases hb : Nat.beq q.1 m with
    | true =>
      rw [hb] at h
      have h1 : q.1 = m := Nat.eq_of_beq_eq_true hb
      have h2 : q.2 = w := Option.some.inj h
      have hq : q = (m, w) := by rw [← h1, ← h2]
      rw [hq, List.filter_cons, if_pos hp]
      unfold x_ld
      rw [j_beq_self]
      rfl
    | false =>
      rw [hb] at h
      rw [List.filter_cons]
      split
      · unfold x_ld
        rw [hb]
        exact ih h hp
      · exact ih h hp
theorem j_has_st {l : xL} {L : List (Option Value)} {n : Nat} {v : Value} (h : j_has l L) : j_has (x_st1 l n v) (j_st L n v) := by
  intro m w hm
  rcases j_st_of hm with ⟨a, b⟩ | ⟨a, b, c⟩
  · subst a; subst b
    unfold x_st1 x_ld
    rw [j_beq_self]
    rfl
  · unfold x_st1 x_ld
    rw [j_beq_ne (fun z => a z.symm)]
    refine j_ld_filter (h m w b) ?_
    by_cases hz : m + 1 = n
    · have : ¬ w.category = 2 := fun z => c ⟨hz, z⟩
      simp [a, this]
    · simp [a, hz]
theorem j_has_st2 {l : xL} {L : List (Option Value)} {n : Nat} {v : Value} (h : j_has l L) : j_has (x_st2 l n v) (j_st2 L n v) := by
  intro m w hm
  rcases j_st2_of hm with ⟨a, b⟩ | ⟨a, a2, b, c⟩
  · subst a; subst b
    unfold x_st2 x_ld
    rw [j_beq_self]
    rfl
  · unfold x_st2 x_ld
    rw [j_beq_ne (fun z => a z.symm)]
    refine j_ld_filter (h m w b) ?_
    by_cases hz : m + 1 = n
    · have : ¬ w.category = 2 := fun z => c ⟨hz, z⟩
      simp [a, a2, this]
    · simp [a, a2, hz]
/-- what is known of some locals is let go -/
def j_mk : List (Option Value) → List Bool → List (Option Value)
  | o :: r, b :: m => (bif b then o else none) :: j_mk r m
  | _, _ => []
theorem j_mk_of : ∀ {L : List (Option Value)} {m : List Bool} {n : Nat} {w : Value}, (j_mk L m)[n]? = some (some w) → L[n]? = some (some w) := by
  intro L
  induction L with
  | nil => intro m n w h; cases m <;> simp [j_mk] at h
  | cons o r ih =>
    intro m n w h
    match m with
    | [] => simp [j_mk] at h
    | b :: m =>
      match n with
      | 0 =>
        cases b with
        | true => simpa [j_mk] using h
        | false => simp [j_mk] at h
      | n + 1 =>
        have h : (j_mk r m)[n]? = some (some w) := by simpa [j_mk] using h
        simpa using ih h
def j_la : List Value → List (Option Value)
  | [] => []
  | v :: r => bif Nat.beq v.category 2 then some v :: none :: j_la r else some v :: j_la r
theorem j_args : ∀ (vs : List Value) (i k n : Nat) (w : Value), (j_la vs ++ List.replicate k none)[n]? = some (some w) → x_ld (lv_args i vs) (i + n) = some w := by
  intro vs
  induction vs with
  | nil =>
    intro i k n w h
    have h : (List.replicate k (none : Option Value))[n]? = some (some w) := h
    rw [List.getElem?_replicate] at h
    split at h <;> cases h
  | cons v vs ih =>
    intro i k n w h
    have e : lv_args i (v :: vs) = (i, v) :: lv_args (if v.category = 2 then i + 2 else i + 1) vs := rfl
    rw [e]
    unfold x_ld
    match n with
    | 0 =>
      have h2 : some v = some w := by
        unfold j_la at h
        cases hb : Nat.beq v.category 2 with
        | true => rw [hb] at h; simpa using h
        | false => rw [hb] at h; simpa using h
      rw [show i + 0 = i from rfl, j_beq_self]
      exact h2
    | n + 1 =>
      rw [j_beq_ne (by show i ≠ i + (n + 1); omega)]
      dsimp only [cond]
      unfold j_la at h
      cases hb : Nat.beq v.category 2 with
      | true =>
        rw [hb] at h
        rw [if_pos (Nat.eq_of_beq_eq_true hb)]
        match n, h with
        | 0, h => simp at h
        | n + 1, h =>
          have := ih (i + 2) k n w (by simpa using h)
          rw [show i + (n + 1 + 1) = i + 2 + n by omega]
          exact this
      | false =>
        rw [hb] at h
        rw [if_neg (fun z => by rw [z] at hb; cases hb)]
        have := ih (i + 1) k n w (by simpa using h)
        rw [show i + (n + 1) = i + 1 + n by omega]
        exact this
/-! the judgement -/
def j_Tr (s : Bool) (τ : j_G) (M : xM) (d pc : Nat) (L : List (Option Value)) (st : List Value) (σ : j_G) (Q : Option Value → j_G → Prop) : Prop :=
  ∀ l, j_has l L → ∃ (n : Nat) (v : Option Value) (σ' : j_G), x_run x_mt none n d M (pc, l, st, j_hp s σ τ, 0, 0) = some (v, j_hp s σ' τ, 0, 0) ∧ Q v σ'
def j_J {α : Type} (s : Bool) (τ : j_G) (M : xM) (d pc : Nat) (L : List (Option Value)) (st : List Value) (σ : j_G) (o : Option α) (Φ : α → (Option Value → j_G → Prop) → Prop) : Prop :=
  ∀ r, o = some r → ∀ Q, Φ r Q → j_Tr s τ M d pc L st σ Q
def j_Ri (r : Int32 × j_G) (Q : Option Value → j_G → Prop) : Prop := Q (some (.int r.1)) r.2
def j_Rl (r : Int64 × j_G) (Q : Option Value → j_G → Prop) : Prop := Q (some (.long r.1)) r.2
def j_Rv (σ : j_G) (Q : Option Value → j_G → Prop) : Prop := Q none σ
def j_Pi (σ : j_G) (v : Int32) (Q : Option Value → j_G → Prop) : Prop := Q (some (.int v)) σ
def j_Pl (σ : j_G) (v : Int64) (Q : Option Value → j_G → Prop) : Prop := Q (some (.long v)) σ
def j_Pr (σ : j_G) (v : Nat) (Q : Option Value → j_G → Prop) : Prop := Q (some (.ref v)) σ
def j_Pv (σ : j_G) (_ : Unit) (Q : Option Value → j_G → Prop) : Prop := Q none σ
def j_lt {α β : Type} (x : α) (k : α → β) : β := k x
def j_ix {α : Type} (i : Int32) (n : Nat) (o : Option α) : Option α := if i < 0 ∨ n ≤ i.toNatClampNeg then none else o
def j_cg {α : Type} (sp dp n : Int32) (n0 n1 : Nat) (o : Option α) : Option α := if sp < 0 ∨ dp < 0 ∨ n < 0 ∨ n0 < sp.toNatClampNeg + n.toNatClampNeg ∨ n1 < dp.toNatClampNeg + n.toNatClampNeg then none else o
def j_b0 {α β : Type} (o : Option α) (k : Option β) : Option β := match o with
  | none => none
  | some _ => k
def j_b1 {α β : Type} (o : Option α) (k : α → Option β) : Option β := match o with
  | none => none
  | some r => k r
def j_b2 {α β γ : Type} (o : Option (α × β)) (k : α → β → Option γ) : Option γ := match o with
  | none => none
  | some r => k r.1 r.2
def j_b3 {α β γ δ : Type} (o : Option (α × β × γ)) (k : α → β → γ → Option δ) : Option δ := match o with
  | none => none
  | some r => k r.1 r.2.1 r.2.2
def j_b4 {α β γ δ ε : Type} (o : Option (α × β × γ × δ)) (k : α → β → γ → δ → Option ε) : Option ε := match o with
  | none => none
  | some r => k r.1 r.2.1 r.2.2.1 r.2.2.2
def j_b5 {α β γ δ ε ζ : Type} (o : Option (α × β × γ × δ × ε)) (k : α → β → γ → δ → ε → Option ζ) : Option ζ := match o with
  | none => none
  | some r => k r.1 r.2.1 r.2.2.1 r.2.2.2.1 r.2.2.2.2
def j_b6 {α β γ δ ε ζ η : Type} (o : Option (α × β × γ × δ × ε × ζ)) (k : α → β → γ → δ → ε → ζ → Option η) : Option η := match o with
  | none => none
  | some r => k r.1 r.2.1 r.2.2.1 r.2.2.2.1 r.2.2.2.2.1 r.2.2.2.2.2
def j_F : Nat := 5000
section JJ
variable {α β γ δ ε ζ η : Type} {s : Bool} {τ : j_G} {M : xM} {d pc pc' : Nat} {L L' : List (Option Value)} {st st' : List Value} {σ σ' : j_G} {o o' : Option α} {Φ : α → (Option Value → j_G → Prop) → Prop} {ins : Instr} {p len a b w : Nat}
theorem j_none : j_J s τ M d pc L st σ (none : Option α) Φ := fun r h => by cases h
theorem j_o (e : o = o') (k : j_J s τ M d pc L st σ o' Φ) : j_J s τ M d pc L st σ o Φ := e ▸ k
theorem j_t {q : Prop} {iq : Decidable q} (h : q) (k : j_J s τ M d pc L st σ o Φ) : j_J s τ M d pc L st σ (if q then o else o') Φ := j_o (if_pos h) k
theorem j_e {q : Prop} {iq : Decidable q} (h : ¬ q) (k : j_J s τ M d pc L st σ o' Φ) : j_J s τ M d pc L st σ (if q then o else o') Φ := j_o (if_neg h) k
theorem j_ts {q : Prop} {iq : Decidable q} {x y : α} (h : q) (k : j_J s τ M d pc L st σ (some x) Φ) : j_J s τ M d pc L st σ (some (if q then x else y)) Φ := j_o (by rw [if_pos h]) k
theorem j_es {q : Prop} {iq : Decidable q} {x y : α} (h : ¬ q) (k : j_J s τ M d pc L st σ (some y) Φ) : j_J s τ M d pc L st σ (some (if q then x else y)) Φ := j_o (by rw [if_neg h]) k
theorem j_wk (m : List Bool) (e : j_mk L m = L') (k : j_J s τ M d pc L' st σ o Φ) : j_J s τ M d pc L st σ o Φ := fun r h Q hQ l hl => k r h Q hQ l (fun n v hn => hl n v (j_mk_of (by rw [e]; exact hn)))
theorem j_end {r : α} (h : ∀ Q, Φ r Q → j_Tr s τ M d pc L st σ Q) : j_J s τ M d pc L st σ (some r) Φ := fun r' e Q hQ => by cases e; exact h Q hQ
theorem j_step (e : ∀ l, j_has l L → ∃ l', j_has l' L' ∧ x_step M none (pc, l, st, j_hp s σ τ, 0, 0) = some (.inl (pc', l', st', j_hp s σ' τ, 0, 0))) (k : j_J s τ M d pc' L' st' σ' o Φ) : j_J s τ M d pc L st σ o Φ := by
  intro r hr Q hQ l hl
  obtain ⟨l', hl', he⟩ := e l hl
  obtain ⟨n, v, σ2, h1, h2⟩ := k r hr Q hQ l' hl'
  refine ⟨n + 1, v, σ2, ?_, h2⟩
  unfold x_run
  rw [he]
  exact h1
theorem j_f1 {S : Option xS} {l : xL} {h : xH} {k z : Nat} (e : x_row (x_rws M) pc = some (p, ins, len, a, b, w)) (g : x_grp ins = 1) : x_step M S (pc, l, st, h, k, z) = x_ins1 ins pc a l st h k z := by
  unfold x_step
  dsimp only
  rw [show x_row M.2.2.2.2.2.2.2 pc = _ from e]
  dsimp only
  rw [g]
  rfl
theorem j_f2 {S : Option xS} {l : xL} {h : xH} {k z : Nat} (e : x_row (x_rws M) pc = some (p, ins, len, a, b, w)) (g : x_grp ins = 2) : x_step M S (pc, l, st, h, k, z) = x_ins2 S ins pc a b l st h k z := by
  unfold x_step
  dsimp only
  rw [show x_row M.2.2.2.2.2.2.2 pc = _ from e]
  dsimp only
  rw [g]
  rfl
theorem j_f3 {S : Option xS} {l : xL} {h : xH} {k z : Nat} (e : x_row (x_rws M) pc = some (p, ins, len, a, b, w)) (g : x_grp ins = 3) : x_step M S (pc, l, st, h, k, z) = x_ins3 ins pc a b l st h k z := by
  unfold x_step
  dsimp only
  rw [show x_row M.2.2.2.2.2.2.2 pc = _ from e]
  dsimp only
  rw [g]
  rfl
/-- a step of the first group that leaves the locals -/
theorem j_s1 (e : x_row (x_rws M) pc = some (p, ins, len, a, b, w)) (g : x_grp ins = 1) (h : ∀ (l : xL) (hp : xH), j_has l L → x_ins1 ins pc a l st hp 0 0 = some (.inl (pc', l, st', hp, 0, 0))) (k : j_J s τ M d pc' L st' σ o Φ) : j_J s τ M d pc L st σ o Φ :=
  j_step (fun l hl => ⟨l, hl, by rw [j_f1 e g]; exact h l _ hl⟩) k
/-- constants, arithmetic, the stack: what the step does is seen by reckoning -/
theorem j_pl (e : x_row (x_rws M) pc = some (p, ins, len, a, b, w)) (g : x_grp ins = 1) (h : ∀ (l : xL) (hp : xH), x_ins1 ins pc a l st hp 0 0 = some (.inl (pc', l, st', hp, 0, 0))) (k : j_J s τ M d pc' L st' σ o Φ) : j_J s τ M d pc L st σ o Φ := j_s1 e g (fun l hp _ => h l hp) k
theorem j_iload_n {n : Fin 4} {x : Int32} (e : x_row (x_rws M) pc = some (p, .iload_n n, len, a, b, w)) (ep : pc + 1 = pc') (hv : L[(n : Nat)]? = some (some (.int x))) (k : j_J s τ M d pc' L (.int x :: st) σ o Φ) : j_J s τ M d pc L st σ o Φ :=
  j_s1 e rfl (fun l hp hl => by subst ep; show (match x_ld l (n : Nat) with | some (.int x) => _ | _ => none) = _; rw [hl _ _ hv]; rfl) k
theorem j_iload {n : Nat} {x : Int32} (e : x_row (x_rws M) pc = some (p, .iload n, len, a, b, w)) (ep : pc + 2 = pc') (hv : L[n]? = some (some (.int x))) (k : j_J s τ M d pc' L (.int x :: st) σ o Φ) : j_J s τ M d pc L st σ o Φ :=
  j_s1 e rfl (fun l hp hl => by subst ep; show (match x_ld l n with | some (.int x) => _ | _ => none) = _; rw [hl _ _ hv]; rfl) k
theorem j_lload_n {n : Fin 4} {x : Int64} (e : x_row (x_rws M) pc = some (p, .lload_n n, len, a, b, w)) (ep : pc + 1 = pc') (hv : L[(n : Nat)]? = some (some (.long x))) (k : j_J s τ M d pc' L (.long x :: st) σ o Φ) : j_J s τ M d pc L st σ o Φ :=
  j_s1 e rfl (fun l hp hl => by subst ep; show (match x_ld l (n : Nat) with | some (.long x) => _ | _ => none) = _; rw [hl _ _ hv]; rfl) k
theorem j_lload {n : Nat} {x : Int64} (e : x_row (x_rws M) pc = some (p, .lload n, len, a, b, w)) (ep : pc + 2 = pc') (hv : L[n]? = some (some (.long x))) (k : j_J s τ M d pc' L (.long x :: st) σ o Φ) : j_J s τ M d pc L st σ o Φ :=
  j_s1 e rfl (fun l hp hl => by subst ep; show (match x_ld l n with | some (.long x) => _ | _ => none) = _; rw [hl _ _ hv]; rfl) k
theorem j_aload_n {n : Fin 4} {x : Nat} (e : x_row (x_rws M) pc = some (p, .aload_n n, len, a, b, w)) (ep : pc + 1 = pc') (hv : L[(n : Nat)]? = some (some (.ref x))) (k : j_J s τ M d pc' L (.ref x :: st) σ o Φ) : j_J s τ M d pc L st σ o Φ :=
  j_s1 e rfl (fun l hp hl => by subst ep; show (match x_ld l (n : Nat) with | some (.ref x) => _ | _ => none) = _; rw [hl _ _ hv]; rfl) k
theorem j_aload {n : Nat} {x : Nat} (e : x_row (x_rws M) pc = some (p, .aload n, len, a, b, w)) (ep : pc + 2 = pc') (hv : L[n]? = some (some (.ref x))) (k : j_J s τ M d pc' L (.ref x :: st) σ o Φ) : j_J s τ M d pc L st σ o Φ :=
  j_s1 e rfl (fun l hp hl => by subst ep; show (match x_ld l n with | some (.ref x) => _ | _ => none) = _; rw [hl _ _ hv]; rfl) k
theorem j_istore_n {n : Fin 4} {x : Int32} (e : x_row (x_rws M) pc = some (p, .istore_n n, len, a, b, w)) (ep : pc + 1 = pc') (hs : j_st L n (.int x) = L') (k : j_J s τ M d pc' L' st σ o Φ) : j_J s τ M d pc L (.int x :: st) σ o Φ :=
  j_step (fun l hl => ⟨x_st1 l n (.int x), by rw [← hs]; exact j_has_st hl, by rw [j_f1 e rfl]; subst ep; rfl⟩) k
theorem j_istore {n : Nat} {x : Int32} (e : x_row (x_rws M) pc = some (p, .istore n, len, a, b, w)) (ep : pc + 2 = pc') (hs : j_st L n (.int x) = L') (k : j_J s τ M d pc' L' st σ o Φ) : j_J s τ M d pc L (.int x :: st) σ o Φ :=
  j_step (fun l hl => ⟨x_st1 l n (.int x), by rw [← hs]; exact j_has_st hl, by rw [j_f1 e rfl]; subst ep; rfl⟩) k
theorem j_astore_n {n : Fin 4} {x : Nat} (e : x_row (x_rws M) pc = some (p, .astore_n n, len, a, b, w)) (ep : pc + 1 = pc') (hs : j_st L n (.ref x) = L') (k : j_J s τ M d pc' L' st σ o Φ) : j_J s τ M d pc L (.ref x :: st) σ o Φ :=
  j_step (fun l hl => ⟨x_st1 l n (.ref x), by rw [← hs]; exact j_has_st hl, by rw [j_f1 e rfl]; subst ep; rfl⟩) k
theorem j_astore {n : Nat} {x : Nat} (e : x_row (x_rws M) pc = some (p, .astore n, len, a, b, w)) (ep : pc + 2 = pc') (hs : j_st L n (.ref x) = L') (k : j_J s τ M d pc' L' st σ o Φ) : j_J s τ M d pc L (.ref x :: st) σ o Φ :=
  j_step (fun l hl => ⟨x_st1 l n (.ref x), by rw [← hs]; exact j_has_st hl, by rw [j_f1 e rfl]; subst ep; rfl⟩) k
theorem j_lstore_n {n : Fin 4} {x : Int64} (e : x_row (x_rws M) pc = some (p, .lstore_n n, len, a, b, w)) (ep : pc + 1 = pc') (hs : j_st2 L n (.long x) = L') (k : j_J s τ M d pc' L' st σ o Φ) : j_J s τ M d pc L (.long x :: st) σ o Φ :=
  j_step (fun l hl => ⟨x_st2 l n (.long x), by rw [← hs]; exact j_has_st2 hl, by rw [j_f1 e rfl]; subst ep; rfl⟩) k
theorem j_lstore {n : Nat} {x : Int64} (e : x_row (x_rws M) pc = some (p, .lstore n, len, a, b, w)) (ep : pc + 2 = pc') (hs : j_st2 L n (.long x) = L') (k : j_J s τ M d pc' L' st σ o Φ) : j_J s τ M d pc L (.long x :: st) σ o Φ :=
  j_step (fun l hl => ⟨x_st2 l n (.long x), by rw [← hs]; exact j_has_st2 hl, by rw [j_f1 e rfl]; subst ep; rfl⟩) k
/-- a local is stepped; the new number gets a name -/
theorem j_iinc {n : Nat} {c : Int} {x : Int32} {y : Int32} {f : Int32 → Option α} (e : x_row (x_rws M) pc = some (p, .iinc n c, len, a, b, w)) (ep : pc + 3 = pc') (hv : L[n]? = some (some (.int x))) (hc : Int32.ofInt c = y) (k : ∀ u, j_J s τ M d pc' (j_st L n (.int u)) st σ (f u) Φ) : j_J s τ M d pc L st σ (j_lt (x + y) f) Φ :=
  j_step (fun l hl => ⟨x_st1 l n (.int (x + y)), j_has_st hl, by
    rw [j_f1 e rfl]
    subst ep
    subst hc
    show (match x_ld l n with | some (.int x) => _ | _ => none) = _
    rw [hl _ _ hv]
    rfl⟩) (k _)
theorem j_leti {x : Int32} {f : Int32 → Option α} (k : ∀ u, j_J s τ M d pc L (.int u :: st) σ (f u) Φ) : j_J s τ M d pc L (.int x :: st) σ (j_lt x f) Φ := k x
theorem j_letl {x : Int64} {f : Int64 → Option α} (k : ∀ u, j_J s τ M d pc L (.long u :: st) σ (f u) Φ) : j_J s τ M d pc L (.long x :: st) σ (j_lt x f) Φ := k x
theorem j_idiv {x y : Int32} (e : x_row (x_rws M) pc = some (p, .idiv, len, a, b, w)) (ep : pc + 1 = pc') (k : j_J s τ M d pc' L (.int (x / y) :: st) σ o Φ) : j_J s τ M d pc L (.int y :: .int x :: st) σ (if y = 0 then none else o) Φ := by
  by_cases h : y = 0
  · rw [if_pos h]; exact j_none
  · rw [if_neg h]
    exact j_s1 e rfl (fun l hp hl => by subst ep; show (if y = 0 then none else _) = _; rw [if_neg h]; rfl) k
theorem j_irem {x y : Int32} (e : x_row (x_rws M) pc = some (p, .irem, len, a, b, w)) (ep : pc + 1 = pc') (k : j_J s τ M d pc' L (.int (x - x / y * y) :: st) σ o Φ) : j_J s τ M d pc L (.int y :: .int x :: st) σ (if y = 0 then none else o) Φ := by
  by_cases h : y = 0
  · rw [if_pos h]; exact j_none
  · rw [if_neg h]
    exact j_s1 e rfl (fun l hp hl => by subst ep; show (if y = 0 then none else _) = _; rw [if_neg h]; rfl) k
theorem j_ldiv {x y : Int64} (e : x_row (x_rws M) pc = some (p, .ldiv, len, a, b, w)) (ep : pc + 1 = pc') (k : j_J s τ M d pc' L (.long (x / y) :: st) σ o Φ) : j_J s τ M d pc L (.long y :: .long x :: st) σ (if y = 0 then none else o) Φ := by
  by_cases h : y = 0
  · rw [if_pos h]; exact j_none
  · rw [if_neg h]
    exact j_s1 e rfl (fun l hp hl => by subst ep; show (if y = 0 then none else _) = _; rw [if_neg h]; rfl) k
theorem j_lrem {x y : Int64} (e : x_row (x_rws M) pc = some (p, .lrem, len, a, b, w)) (ep : pc + 1 = pc') (k : j_J s τ M d pc' L (.long (x - x / y * y) :: st) σ o Φ) : j_J s τ M d pc L (.long y :: .long x :: st) σ (if y = 0 then none else o) Φ := by
  by_cases h : y = 0
  · rw [if_pos h]; exact j_none
  · rw [if_neg h]
    exact j_s1 e rfl (fun l hp hl => by subst ep; show (if y = 0 then none else _) = _; rw [if_neg h]; rfl) k
/-! branches -/
theorem j_brt {off : Int} {t : Nat} (ht : (pc : Int) + off = Int.ofNat t) (f : Nat → xO) : x_br pc off f = f t := by
  unfold x_br
  rw [ht]
theorem j_goto {off : Int} {t : Nat} (e : x_row (x_rws M) pc = some (p, .goto off, len, a, b, w)) (ht : (pc : Int) + off = Int.ofNat t) (k : j_J s τ M d t L st σ o Φ) : j_J s τ M d pc L st σ o Φ :=
  j_s1 e rfl (fun l hp hl => by show x_br pc off _ = _; rw [j_brt ht]; rfl) k
theorem j_if {q : Prop} [Decidable q] {t : Nat} (e : x_row (x_rws M) pc = some (p, ins, len, a, b, w)) (g : x_grp ins = 1) (h : ∀ (l : xL) (hp : xH), x_ins1 ins pc a l st hp 0 0 = if q then some (.inl (t, l, st', hp, 0, 0)) else some (.inl (pc', l, st', hp, 0, 0))) (k1 : q → j_J s τ M d t L st' σ o Φ) (k2 : ¬ q → j_J s τ M d pc' L st' σ o Φ) : j_J s τ M d pc L st σ o Φ := by
  by_cases hq : q
  · exact j_s1 e g (fun l hp hl => by rw [h, if_pos hq]) (k1 hq)
  · exact j_s1 e g (fun l hp hl => by rw [h, if_neg hq]) (k2 hq)
section JB
variable {off : Int} {t : Nat} {x y : Int32}
theorem j_ifeq (e : x_row (x_rws M) pc = some (p, .ifCond .eq off, len, a, b, w)) (ht : (pc : Int) + off = Int.ofNat t) (ep : pc + 3 = pc') (k1 : x = 0 → j_J s τ M d t L st σ o Φ) (k2 : ¬ x = 0 → j_J s τ M d pc' L st σ o Φ) : j_J s τ M d pc L (.int x :: st) σ o Φ :=
  j_if (q := x = 0) e rfl (fun l hp => by subst ep; show x_br pc off _ = _; rw [j_brt ht]; rfl) k1 k2
theorem j_ifne (e : x_row (x_rws M) pc = some (p, .ifCond .ne off, len, a, b, w)) (ht : (pc : Int) + off = Int.ofNat t) (ep : pc + 3 = pc') (k1 : ¬ x = 0 → j_J s τ M d t L st σ o Φ) (k2 : x = 0 → j_J s τ M d pc' L st σ o Φ) : j_J s τ M d pc L (.int x :: st) σ o Φ :=
  j_if (q := ¬ x = 0) e rfl (fun l hp => by subst ep; show x_br pc off _ = _; rw [j_brt ht]; rfl) k1 (fun h => k2 (Decidable.not_not.mp h))
theorem j_iflt (e : x_row (x_rws M) pc = some (p, .ifCond .lt off, len, a, b, w)) (ht : (pc : Int) + off = Int.ofNat t) (ep : pc + 3 = pc') (k1 : x < 0 → j_J s τ M d t L st σ o Φ) (k2 : ¬ x < 0 → j_J s τ M d pc' L st σ o Φ) : j_J s τ M d pc L (.int x :: st) σ o Φ :=
  j_if (q := x < 0) e rfl (fun l hp => by subst ep; show x_br pc off _ = _; rw [j_brt ht]; rfl) k1 k2
theorem j_ifge (e : x_row (x_rws M) pc = some (p, .ifCond .ge off, len, a, b, w)) (ht : (pc : Int) + off = Int.ofNat t) (ep : pc + 3 = pc') (k1 : ¬ x < 0 → j_J s τ M d t L st σ o Φ) (k2 : x < 0 → j_J s τ M d pc' L st σ o Φ) : j_J s τ M d pc L (.int x :: st) σ o Φ :=
  j_if (q := 0 ≤ x) e rfl (fun l hp => by subst ep; show x_br pc off _ = _; rw [j_brt ht]; rfl) (fun h => k1 (Int32.not_lt.mpr h)) (fun h => k2 (Int32.not_le.mp h))
theorem j_ifgt (e : x_row (x_rws M) pc = some (p, .ifCond .gt off, len, a, b, w)) (ht : (pc : Int) + off = Int.ofNat t) (ep : pc + 3 = pc') (k1 : 0 < x → j_J s τ M d t L st σ o Φ) (k2 : ¬ 0 < x → j_J s τ M d pc' L st σ o Φ) : j_J s τ M d pc L (.int x :: st) σ o Φ :=
  j_if (q := 0 < x) e rfl (fun l hp => by subst ep; show x_br pc off _ = _; rw [j_brt ht]; rfl) k1 k2
theorem j_ifle (e : x_row (x_rws M) pc = some (p, .ifCond .le off, len, a, b, w)) (ht : (pc : Int) + off = Int.ofNat t) (ep : pc + 3 = pc') (k1 : ¬ 0 < x → j_J s τ M d t L st σ o Φ) (k2 : 0 < x → j_J s τ M d pc' L st σ o Φ) : j_J s τ M d pc L (.int x :: st) σ o Φ :=
  j_if (q := x ≤ 0) e rfl (fun l hp => by subst ep; show x_br pc off _ = _; rw [j_brt ht]; rfl) (fun h => k1 (Int32.not_lt.mpr h)) (fun h => k2 (Int32.not_le.mp h))
theorem j_iceq (e : x_row (x_rws M) pc = some (p, .if_icmp .eq off, len, a, b, w)) (ht : (pc : Int) + off = Int.ofNat t) (ep : pc + 3 = pc') (k1 : x = y → j_J s τ M d t L st σ o Φ) (k2 : ¬ x = y → j_J s τ M d pc' L st σ o Φ) : j_J s τ M d pc L (.int y :: .int x :: st) σ o Φ :=
  j_if (q := x = y) e rfl (fun l hp => by subst ep; show x_br pc off _ = _; rw [j_brt ht]; rfl) k1 k2
theorem j_icne (e : x_row (x_rws M) pc = some (p, .if_icmp .ne off, len, a, b, w)) (ht : (pc : Int) + off = Int.ofNat t) (ep : pc + 3 = pc') (k1 : ¬ x = y → j_J s τ M d t L st σ o Φ) (k2 : x = y → j_J s τ M d pc' L st σ o Φ) : j_J s τ M d pc L (.int y :: .int x :: st) σ o Φ :=
  j_if (q := ¬ x = y) e rfl (fun l hp => by subst ep; show x_br pc off _ = _; rw [j_brt ht]; rfl) k1 (fun h => k2 (Decidable.not_not.mp h))
theorem j_iclt (e : x_row (x_rws M) pc = some (p, .if_icmp .lt off, len, a, b, w)) (ht : (pc : Int) + off = Int.ofNat t) (ep : pc + 3 = pc') (k1 : x < y → j_J s τ M d t L st σ o Φ) (k2 : ¬ x < y → j_J s τ M d pc' L st σ o Φ) : j_J s τ M d pc L (.int y :: .int x :: st) σ o Φ :=
  j_if (q := x < y) e rfl (fun l hp => by subst ep; show x_br pc off _ = _; rw [j_brt ht]; rfl) k1 k2
theorem j_icge (e : x_row (x_rws M) pc = some (p, .if_icmp .ge off, len, a, b, w)) (ht : (pc : Int) + off = Int.ofNat t) (ep : pc + 3 = pc') (k1 : ¬ x < y → j_J s τ M d t L st σ o Φ) (k2 : x < y → j_J s τ M d pc' L st σ o Φ) : j_J s τ M d pc L (.int y :: .int x :: st) σ o Φ :=
  j_if (q := y ≤ x) e rfl (fun l hp => by subst ep; show x_br pc off _ = _; rw [j_brt ht]; rfl) (fun h => k1 (Int32.not_lt.mpr h)) (fun h => k2 (Int32.not_le.mp h))
theorem j_icgt (e : x_row (x_rws M) pc = some (p, .if_icmp .gt off, len, a, b, w)) (ht : (pc : Int) + off = Int.ofNat t) (ep : pc + 3 = pc') (k1 : y < x → j_J s τ M d t L st σ o Φ) (k2 : ¬ y < x → j_J s τ M d pc' L st σ o Φ) : j_J s τ M d pc L (.int y :: .int x :: st) σ o Φ :=
  j_if (q := y < x) e rfl (fun l hp => by subst ep; show x_br pc off _ = _; rw [j_brt ht]; rfl) k1 k2
theorem j_icle (e : x_row (x_rws M) pc = some (p, .if_icmp .le off, len, a, b, w)) (ht : (pc : Int) + off = Int.ofNat t) (ep : pc + 3 = pc') (k1 : ¬ y < x → j_J s τ M d t L st σ o Φ) (k2 : y < x → j_J s τ M d pc' L st σ o Φ) : j_J s τ M d pc L (.int y :: .int x :: st) σ o Φ :=
  j_if (q := x ≤ y) e rfl (fun l hp => by subst ep; show x_br pc off _ = _; rw [j_brt ht]; rfl) (fun h => k1 (Int32.not_lt.mpr h)) (fun h => k2 (Int32.not_le.mp h))
end JB
theorem j_lc_lt (x y : Int64) : lg_cmp x y < 0 ↔ x < y := by
  unfold lg_cmp
  simp only [gt_iff_lt, Int64.lt_iff_toInt_lt, ← Int64.toInt_inj]
  repeat' split
  all_goals (constructor <;> intro hh <;> first | omega | decide | exact absurd hh (by decide))
theorem j_lc_gt (x y : Int64) : 0 < lg_cmp x y ↔ y < x := by
  unfold lg_cmp
  simp only [gt_iff_lt, Int64.lt_iff_toInt_lt, ← Int64.toInt_inj]
  repeat' split
  all_goals (constructor <;> intro hh <;> first | omega | decide | exact absurd hh (by decide))
theorem j_lc_eq (x y : Int64) : lg_cmp x y = 0 ↔ x = y := by
  unfold lg_cmp
  simp only [gt_iff_lt, Int64.lt_iff_toInt_lt, ← Int64.toInt_inj]
  repeat' split
  all_goals (constructor <;> intro hh <;> first | omega | decide | exact absurd hh (by decide))
/-! fields and arrays -/
section JU
variable {S : Option xS} {r q k z n : Nat} {l : xL} {h : xH} {fs : List Value} {v : Value} {i x : Int32} {y : Int64} {f : Nat → Int32} {g : Nat → Int64} {e2 : xE}
theorem j_ugf (h1 : h[q]? = some (.inr (a, fs))) (h2 : fs[b]? = some v) : x_ins2 S (.getfield r) pc a b l (.ref q :: st) h k z = x_go (pc + 3) l (v :: st) h k z := by
  show x_ob h q (fun c fs => bif Nat.beq c a then (match fs[b]? with | some v => x_go (pc + 3) l (v :: st) h k z | none => none) else none) = _
  unfold x_ob
  rw [h1]
  dsimp only
  rw [j_beq_self, h2]
  rfl
theorem j_upf (h1 : h[q]? = some (.inr (a, fs))) (h2 : x_fit (x_fty a b) v = true) (h3 : b < fs.length) : x_ins2 S (.putfield r) pc a b l (v :: .ref q :: st) h k z = x_go (pc + 3) l st (h.set q (.inr (a, fs.set b v))) k z := by
  show x_ob h q (fun c fs => bif Nat.beq c a && (x_fit (x_fty a b) v && Nat.blt b fs.length) then x_go (pc + 3) l st (h.set q (.inr (c, fs.set b v))) k z else none) = _
  unfold x_ob
  rw [h1]
  dsimp only
  rw [j_beq_self, h2, show Nat.blt b fs.length = true from Nat.ble_eq_true_of_le h3]
  rfl
theorem j_uiald (hs : Nat.beq q x_scr = false) (h1 : h[q]? = some (.inl (0, n, .inl f))) (h2 : ¬ (i < 0 ∨ n ≤ i.toNatClampNeg)) : x_ins2 S .iaload pc a b l (.int i :: .ref q :: st) h k z = x_go (pc + 1) l (.int (f i.toNatClampNeg) :: st) h k z := by
  show (bif Nat.beq q x_scr then (match S with
    | some (n, f) => x_in i n (x_go (pc + 1) l (.int (f i.toNatClampNeg) :: st) h k z)
    | none => none) else x_ari 0 h q fun n f => x_in i n (x_go (pc + 1) l (.int (f i.toNatClampNeg) :: st) h k z)) = _
  rw [hs]
  dsimp only [cond]
  unfold x_ari
  rw [h1]
  show x_in i n _ = _
  unfold x_in
  rw [if_neg h2]
theorem j_uiast (h1 : h[q]? = some (.inl (0, n, .inl f))) (h2 : ¬ (i < 0 ∨ n ≤ i.toNatClampNeg)) : x_ins2 S .iastore pc a b l (.int x :: .int i :: .ref q :: st) h k z = x_go (pc + 1) l st (h.set q (.inl (0, n, .inl (upd f i.toNatClampNeg x)))) k z := by
  show (x_ari 0 h q fun n f => x_in i n (x_go (pc + 1) l st (h.set q (.inl (0, n, .inl (upd f i.toNatClampNeg x)))) k z)) = _
  unfold x_ari
  rw [h1]
  show x_in i n _ = _
  unfold x_in
  rw [if_neg h2]
theorem j_ubald2 (h1 : h[q]? = some (.inl (2, n, .inl f))) (h2 : ¬ (i < 0 ∨ n ≤ i.toNatClampNeg)) : x_ins2 S .baload pc a b l (.int i :: .ref q :: st) h k z = x_go (pc + 1) l (.int (f i.toNatClampNeg) :: st) h k z := by
  show (match h[q]? with
    | some (.inl (2, n, .inl f)) => x_in i n (x_go (pc + 1) l (.int (f i.toNatClampNeg) :: st) h k z)
    | some (.inl (3, n, .inl f)) => x_in i n (x_go (pc + 1) l (.int (f i.toNatClampNeg) :: st) h k z)
    | _ => none) = _
  rw [h1]
  show x_in i n _ = _
  unfold x_in
  rw [if_neg h2]
theorem j_ubald3 (h1 : h[q]? = some (.inl (3, n, .inl f))) (h2 : ¬ (i < 0 ∨ n ≤ i.toNatClampNeg)) : x_ins2 S .baload pc a b l (.int i :: .ref q :: st) h k z = x_go (pc + 1) l (.int (f i.toNatClampNeg) :: st) h k z := by
  show (match h[q]? with
    | some (.inl (2, n, .inl f)) => x_in i n (x_go (pc + 1) l (.int (f i.toNatClampNeg) :: st) h k z)
    | some (.inl (3, n, .inl f)) => x_in i n (x_go (pc + 1) l (.int (f i.toNatClampNeg) :: st) h k z)
    | _ => none) = _
  rw [h1]
  show x_in i n _ = _
  unfold x_in
  rw [if_neg h2]
theorem j_ubast2 (h1 : h[q]? = some (.inl (2, n, .inl f))) (h2 : ¬ (i < 0 ∨ n ≤ i.toNatClampNeg)) : x_ins2 S .bastore pc a b l (.int x :: .int i :: .ref q :: st) h k z = x_go (pc + 1) l st (h.set q (.inl (2, n, .inl (upd f i.toNatClampNeg (vp_nar .byte x))))) k z := by
  show (match h[q]? with
    | some (.inl (2, n, .inl f)) => x_in i n (x_go (pc + 1) l st (h.set q (.inl (2, n, .inl (upd f i.toNatClampNeg (vp_nar .byte x))))) k z)
    | some (.inl (3, n, .inl f)) => x_in i n (x_go (pc + 1) l st (h.set q (.inl (3, n, .inl (upd f i.toNatClampNeg (vp_nar .boolean x))))) k z)
    | _ => none) = _
  rw [h1]
  show x_in i n _ = _
  unfold x_in
  rw [if_neg h2]
theorem j_ubast3 (h1 : h[q]? = some (.inl (3, n, .inl f))) (h2 : ¬ (i < 0 ∨ n ≤ i.toNatClampNeg)) : x_ins2 S .bastore pc a b l (.int x :: .int i :: .ref q :: st) h k z = x_go (pc + 1) l st (h.set q (.inl (3, n, .inl (upd f i.toNatClampNeg (vp_nar .boolean x))))) k z := by
  show (match h[q]? with
    | some (.inl (2, n, .inl f)) => x_in i n (x_go (pc + 1) l st (h.set q (.inl (2, n, .inl (upd f i.toNatClampNeg (vp_nar .byte x))))) k z)
    | some (.inl (3, n, .inl f)) => x_in i n (x_go (pc + 1) l st (h.set q (.inl (3, n, .inl (upd f i.toNatClampNeg (vp_nar .boolean x))))) k z)
    | _ => none) = _
  rw [h1]
  show x_in i n _ = _
  unfold x_in
  rw [if_neg h2]
theorem j_ulald (h1 : h[q]? = some (.inl (1, n, .inr (.inl g)))) (h2 : ¬ (i < 0 ∨ n ≤ i.toNatClampNeg)) : x_ins2 S .laload pc a b l (.int i :: .ref q :: st) h k z = x_go (pc + 1) l (.long (g i.toNatClampNeg) :: st) h k z := by
  show (x_arl h q fun n f => x_in i n (x_go (pc + 1) l (.long (f i.toNatClampNeg) :: st) h k z)) = _
  unfold x_arl
  rw [h1]
  show x_in i n _ = _
  unfold x_in
  rw [if_neg h2]
theorem j_ulast (h1 : h[q]? = some (.inl (1, n, .inr (.inl g)))) (h2 : ¬ (i < 0 ∨ n ≤ i.toNatClampNeg)) : x_ins2 S .lastore pc a b l (.long y :: .int i :: .ref q :: st) h k z = x_go (pc + 1) l st (h.set q (.inl (1, n, .inr (.inl (vp_updL g i.toNatClampNeg y))))) k z := by
  show (x_arl h q fun n f => x_in i n (x_go (pc + 1) l st (h.set q (.inl (1, n, .inr (.inl (vp_updL f i.toNatClampNeg y))))) k z)) = _
  unfold x_arl
  rw [h1]
  show x_in i n _ = _
  unfold x_in
  rw [if_neg h2]
theorem j_uaald {t r : Nat} {f : Nat → Option Nat} (h1 : h[q]? = some (.inl (t + 4, n, .inr (.inr (.inr (.inr f)))))) (h2 : ¬ (i < 0 ∨ n ≤ i.toNatClampNeg)) (h3 : f i.toNatClampNeg = some r) : x_ins2 S .aaload pc a b l (.int i :: .ref q :: st) h k z = x_go (pc + 1) l (.ref r :: st) h k z := by
  show (x_arq h q fun t n f => bif Nat.ble 4 t then x_in i n (x_go (pc + 1) l (va_rf (f i.toNatClampNeg) :: st) h k z) else none) = _
  unfold x_arq
  rw [h1]
  show (bif Nat.ble 4 (t + 4) then x_in i n _ else none) = _
  rw [h3, show Nat.ble 4 (t + 4) = true from Nat.ble_eq_true_of_le (by omega)]
  dsimp only [cond]
  unfold x_in
  rw [if_neg h2]
  rfl
theorem j_ualen (hs : Nat.beq q x_scr = false) {y : vp_A} {t : Nat} (h1 : h[q]? = some (.inl (t, y))) : x_ins2 S .arraylength pc a b l (.ref q :: st) h k z = x_go (pc + 1) l (.int (Int32.ofNat y.1) :: st) h k z := by
  show (bif Nat.beq q x_scr then (match S with
    | some (n, _) => x_go (pc + 1) l (.int (Int32.ofNat n) :: st) h k z
    | none => none) else x_ar h q fun n => x_go (pc + 1) l (.int (Int32.ofNat n) :: st) h k z) = _
  rw [hs]
  dsimp only [cond]
  unfold x_ar
  rw [h1]
set_option maxRecDepth 100000 in
theorem j_ucpi {a0 a1 n0 n1 : Nat} {sp dp m : Int32} {f g : Nat → Int32} (h8 : Nat.ble (x_cat st) 8 = true) (h0 : h[a0]? = some (.inl (0, n0, .inl f))) (h1 : h[a1]? = some (.inl (0, n1, .inl g))) (h2 : ¬ (sp < 0 ∨ dp < 0 ∨ m < 0 ∨ n0 < sp.toNatClampNeg + m.toNatClampNeg ∨ n1 < dp.toNatClampNeg + m.toNatClampNeg)) : x_ins3 (.invokestatic r) pc 9004 b l (.int m :: .int dp :: .ref a1 :: .int sp :: .ref a0 :: st) h k z = x_go (pc + 3) l st (h.set a1 (.inl (0, n1, .inl (va_cpy f g sp.toNatClampNeg dp.toNatClampNeg m.toNatClampNeg)))) k z := by
  unfold x_ins3
  rw [show Nat.beq 9004 9001 = false from rfl, show Nat.beq 9004 9002 = false from rfl, show Nat.beq 9004 9003 = false from rfl, show Nat.beq 9004 9004 = true from rfl]
  show (bif Nat.ble (x_cat st) 8 then x_ari 0 h a0 fun n0 f => x_ari 0 h a1 fun n1 g => if sp < 0 ∨ dp < 0 ∨ m < 0 ∨ n0 < sp.toNatClampNeg + m.toNatClampNeg ∨ n1 < dp.toNatClampNeg + m.toNatClampNeg then none else x_go (pc + 3) l st (h.set a1 (.inl (0, n1, .inl (va_cpy f g sp.toNatClampNeg dp.toNatClampNeg m.toNatClampNeg)))) k z else none) = _
  rw [h8]
  dsimp only [cond]
  unfold x_ari
  rw [h0, h1]
  show (if sp < 0 ∨ dp < 0 ∨ m < 0 ∨ n0 < sp.toNatClampNeg + m.toNatClampNeg ∨ n1 < dp.toNatClampNeg + m.toNatClampNeg then none else _) = _
  rw [if_neg h2]
set_option maxRecDepth 100000 in
theorem j_ucpl {a0 a1 n0 n1 : Nat} {sp dp m : Int32} {f g : Nat → Int64} (h8 : Nat.ble (x_cat st) 8 = true) (h0 : h[a0]? = some (.inl (1, n0, .inr (.inl f)))) (h1 : h[a1]? = some (.inl (1, n1, .inr (.inl g)))) (h2 : ¬ (sp < 0 ∨ dp < 0 ∨ m < 0 ∨ n0 < sp.toNatClampNeg + m.toNatClampNeg ∨ n1 < dp.toNatClampNeg + m.toNatClampNeg)) : x_ins3 (.invokestatic r) pc 9005 b l (.int m :: .int dp :: .ref a1 :: .int sp :: .ref a0 :: st) h k z = x_go (pc + 3) l st (h.set a1 (.inl (1, n1, .inr (.inl (va_cpy f g sp.toNatClampNeg dp.toNatClampNeg m.toNatClampNeg))))) k z := by
  unfold x_ins3
  rw [show Nat.beq 9005 9001 = false from rfl, show Nat.beq 9005 9002 = false from rfl, show Nat.beq 9005 9003 = false from rfl, show Nat.beq 9005 9004 = false from rfl, show Nat.beq 9005 9005 = true from rfl]
  show (bif Nat.ble (x_cat st) 8 then x_arl h a0 fun n0 f => x_arl h a1 fun n1 g => if sp < 0 ∨ dp < 0 ∨ m < 0 ∨ n0 < sp.toNatClampNeg + m.toNatClampNeg ∨ n1 < dp.toNatClampNeg + m.toNatClampNeg then none else x_go (pc + 3) l st (h.set a1 (.inl (1, n1, .inr (.inl (va_cpy f g sp.toNatClampNeg dp.toNatClampNeg m.toNatClampNeg))))) k z else none) = _
  rw [h8]
  dsimp only [cond]
  unfold x_arl
  rw [h0, h1]
  show (if sp < 0 ∨ dp < 0 ∨ m < 0 ∨ n0 < sp.toNatClampNeg + m.toNatClampNeg ∨ n1 < dp.toNatClampNeg + m.toNatClampNeg then none else _) = _
  rw [if_neg h2]
end JU
theorem j_mi {f : Nat → Nat → Value} {fs : List Nat} {b t : Nat} (h : fs[b]? = some t) : (fs.mapIdx f)[b]? = some (f b t) := by
  rw [List.getElem?_mapIdx, h]
  rfl
theorem j_ob {q k : Nat} {fs : List Nat} (h : j_at s q = some (.inr (k, fs))) : (j_hp s σ τ)[q]? = some (.inr (k, fs.mapIdx (fun j y => j_val σ q j y))) := j_get h
theorem j_ai {q t n : Nat} {rs : List Nat} (h : j_at s q = some (.inl (t, n, rs))) (h1 : Nat.beq t 1 = false) (h2 : Nat.blt t 4 = true) : (j_hp s σ τ)[q]? = some (.inl (t, n, .inl (σ.1 q))) := by
  rw [j_get h, j_ari h1 h2]
theorem j_al {q n : Nat} {rs : List Nat} (h : j_at s q = some (.inl (1, n, rs))) : (j_hp s σ τ)[q]? = some (.inl (1, n, .inr (.inl (σ.2 q)))) := by
  rw [j_get h, j_arl]
theorem j_aq {q t n : Nat} {rs : List Nat} (h : j_at s q = some (.inl (t + 4, n, rs))) : (j_hp s σ τ)[q]? = some (.inl (t + 4, n, .inr (.inr (.inr (.inr (fun j => rs[j]?)))))) := j_get h
theorem j_go {pc2 : Nat} {l : xL} {st2 : List Value} {h : xH} : x_go pc2 l st2 h 0 0 = some (.inl (pc2, l, st2, h, 0, 0)) := rfl
theorem j_gf {q r : Nat} {fs : List Nat} {v : Value} (e : x_row (x_rws M) pc = some (p, .getfield r, len, a, b, w)) (ep : pc + 3 = pc') (hq : j_at s q = some (.inr (a, fs))) {t : Nat} (hf : fs[b]? = some t) (hv : j_val σ q b t = v) (k : j_J s τ M d pc' L (v :: st) σ o Φ) : j_J s τ M d pc L (.ref q :: st) σ o Φ :=
  j_step (fun l hl => ⟨l, hl, by rw [j_f2 e rfl, j_ugf (j_ob hq) (j_mi hf), hv, ep, j_go]⟩) k
theorem j_gfi {q r : Nat} {fs : List Nat} (e : x_row (x_rws M) pc = some (p, .getfield r, len, a, b, w)) (ep : pc + 3 = pc') (hq : j_at s q = some (.inr (a, fs))) (hf : fs[b]? = some 0) (k : j_J s τ M d pc' L (.int (σ.1 q b) :: st) σ o Φ) : j_J s τ M d pc L (.ref q :: st) σ o Φ := j_gf e ep hq hf rfl k
theorem j_gfl {q r : Nat} {fs : List Nat} (e : x_row (x_rws M) pc = some (p, .getfield r, len, a, b, w)) (ep : pc + 3 = pc') (hq : j_at s q = some (.inr (a, fs))) (hf : fs[b]? = some 1) (k : j_J s τ M d pc' L (.long (σ.2 q b) :: st) σ o Φ) : j_J s τ M d pc L (.ref q :: st) σ o Φ := j_gf e ep hq hf rfl k
theorem j_gfr {q r x t : Nat} {fs : List Nat} (e : x_row (x_rws M) pc = some (p, .getfield r, len, a, b, w)) (ep : pc + 3 = pc') (hq : j_at s q = some (.inr (a, fs))) (hf : fs[b]? = some t) (ht : t = x + 2) (k : j_J s τ M d pc' L (.ref x :: st) σ o Φ) : j_J s τ M d pc L (.ref q :: st) σ o Φ := j_gf e ep hq hf (by subst ht; rfl) k
theorem j_pfi {q r : Nat} {fs : List Nat} {v : Int32} {f : j_G → Option α} (e : x_row (x_rws M) pc = some (p, .putfield r, len, a, b, w)) (ep : pc + 3 = pc') (hq : j_at s q = some (.inr (a, fs))) (hf : fs[b]? = some 0) (hy : x_fit (x_fty a b) (.int v) = true) (k : ∀ σ', j_J s τ M d pc' L st σ' (f σ') Φ) : j_J s τ M d pc L (.int v :: .ref q :: st) σ (j_lt (j_si σ q b v) f) Φ :=
  j_step (fun l hl => ⟨l, hl, by rw [j_f2 e rfl, j_upf (j_ob hq) hy (by rw [List.length_mapIdx]; exact (List.getElem?_eq_some_iff.mp hf).1), j_seti hq hf, ep, j_go]⟩) (k _)
theorem j_pfl {q r : Nat} {fs : List Nat} {v : Int64} {f : j_G → Option α} (e : x_row (x_rws M) pc = some (p, .putfield r, len, a, b, w)) (ep : pc + 3 = pc') (hq : j_at s q = some (.inr (a, fs))) (hf : fs[b]? = some 1) (hy : x_fit (x_fty a b) (.long v) = true) (k : ∀ σ', j_J s τ M d pc' L st σ' (f σ') Φ) : j_J s τ M d pc L (.long v :: .ref q :: st) σ (j_lt (j_sl σ q b v) f) Φ :=
  j_step (fun l hl => ⟨l, hl, by rw [j_f2 e rfl, j_upf (j_ob hq) hy (by rw [List.length_mapIdx]; exact (List.getElem?_eq_some_iff.mp hf).1), j_setl hq hf, ep, j_go]⟩) (k _)
theorem j_nscr {c : Nat} {q : j_T} (h : j_at s c = some q) : Nat.beq c x_scr = false := by
  refine j_beq_ne fun z => ?_
  unfold j_at at h
  cases ho : j_ow s c with
  | false => rw [ho] at h; cases h
  | true =>
    rw [ho] at h
    have hl := (List.getElem?_eq_some_iff.mp h).1
    rw [z] at hl
    exact absurd hl (by decide)
theorem j_ixJ {i : Int32} {n : Nat} (k : ¬ (i < 0 ∨ n ≤ i.toNatClampNeg) → j_J s τ M d pc L st σ o Φ) : j_J s τ M d pc L st σ (j_ix i n o) Φ := by
  unfold j_ix
  by_cases h : i < 0 ∨ n ≤ i.toNatClampNeg
  · rw [if_pos h]; exact j_none
  · rw [if_neg h]; exact k h
theorem j_iald {q n : Nat} {rs : List Nat} {i : Int32} (e : x_row (x_rws M) pc = some (p, .iaload, len, a, b, w)) (ep : pc + 1 = pc') (hq : j_at s q = some (.inl (0, n, rs))) (k : j_J s τ M d pc' L (.int (σ.1 q i.toNatClampNeg) :: st) σ o Φ) : j_J s τ M d pc L (.int i :: .ref q :: st) σ (j_ix i n o) Φ :=
  j_ixJ fun h => j_step (fun l hl => ⟨l, hl, by rw [j_f2 e rfl, j_uiald (j_nscr hq) (j_ai hq rfl rfl) h, ep, j_go]⟩) k
theorem j_iast {q n : Nat} {rs : List Nat} {i v : Int32} {f : j_G → Option α} (e : x_row (x_rws M) pc = some (p, .iastore, len, a, b, w)) (ep : pc + 1 = pc') (hq : j_at s q = some (.inl (0, n, rs))) (k : ∀ σ', j_J s τ M d pc' L st σ' (f σ') Φ) : j_J s τ M d pc L (.int v :: .int i :: .ref q :: st) σ (j_ix i n (j_lt (j_si σ q i.toNatClampNeg v) f)) Φ :=
  j_ixJ fun h => j_step (fun l hl => ⟨l, hl, by rw [j_f2 e rfl, j_uiast (j_ai hq rfl rfl) h, j_asti hq rfl rfl, ep, j_go]⟩) (k _)
theorem j_bald {q n : Nat} {rs : List Nat} {i : Int32} (e : x_row (x_rws M) pc = some (p, .baload, len, a, b, w)) (ep : pc + 1 = pc') (hq : j_at s q = some (.inl (2, n, rs))) (k : j_J s τ M d pc' L (.int (σ.1 q i.toNatClampNeg) :: st) σ o Φ) : j_J s τ M d pc L (.int i :: .ref q :: st) σ (j_ix i n o) Φ :=
  j_ixJ fun h => j_step (fun l hl => ⟨l, hl, by rw [j_f2 e rfl, j_ubald2 (j_ai hq rfl rfl) h, ep, j_go]⟩) k
theorem j_baldz {q n : Nat} {rs : List Nat} {i : Int32} (e : x_row (x_rws M) pc = some (p, .baload, len, a, b, w)) (ep : pc + 1 = pc') (hq : j_at s q = some (.inl (3, n, rs))) (k : j_J s τ M d pc' L (.int (σ.1 q i.toNatClampNeg) :: st) σ o Φ) : j_J s τ M d pc L (.int i :: .ref q :: st) σ (j_ix i n o) Φ :=
  j_ixJ fun h => j_step (fun l hl => ⟨l, hl, by rw [j_f2 e rfl, j_ubald3 (j_ai hq rfl rfl) h, ep, j_go]⟩) k
theorem j_bast {q n : Nat} {rs : List Nat} {i v : Int32} {f : j_G → Option α} (e : x_row (x_rws M) pc = some (p, .bastore, len, a, b, w)) (ep : pc + 1 = pc') (hq : j_at s q = some (.inl (2, n, rs))) (k : ∀ σ', j_J s τ M d pc' L st σ' (f σ') Φ) : j_J s τ M d pc L (.int v :: .int i :: .ref q :: st) σ (j_ix i n (j_lt (j_si σ q i.toNatClampNeg (vp_nar .byte v)) f)) Φ :=
  j_ixJ fun h => j_step (fun l hl => ⟨l, hl, by rw [j_f2 e rfl, j_ubast2 (j_ai hq rfl rfl) h, j_asti hq rfl rfl, ep, j_go]⟩) (k _)
theorem j_bastz {q n : Nat} {rs : List Nat} {i v : Int32} {f : j_G → Option α} (e : x_row (x_rws M) pc = some (p, .bastore, len, a, b, w)) (ep : pc + 1 = pc') (hq : j_at s q = some (.inl (3, n, rs))) (k : ∀ σ', j_J s τ M d pc' L st σ' (f σ') Φ) : j_J s τ M d pc L (.int v :: .int i :: .ref q :: st) σ (j_ix i n (j_lt (j_si σ q i.toNatClampNeg (vp_nar .boolean v)) f)) Φ :=
  j_ixJ fun h => j_step (fun l hl => ⟨l, hl, by rw [j_f2 e rfl, j_ubast3 (j_ai hq rfl rfl) h, j_asti hq rfl rfl, ep, j_go]⟩) (k _)
theorem j_lald {q n : Nat} {rs : List Nat} {i : Int32} (e : x_row (x_rws M) pc = some (p, .laload, len, a, b, w)) (ep : pc + 1 = pc') (hq : j_at s q = some (.inl (1, n, rs))) (k : j_J s τ M d pc' L (.long (σ.2 q i.toNatClampNeg) :: st) σ o Φ) : j_J s τ M d pc L (.int i :: .ref q :: st) σ (j_ix i n o) Φ :=
  j_ixJ fun h => j_step (fun l hl => ⟨l, hl, by rw [j_f2 e rfl, j_ulald (j_al hq) h, ep, j_go]⟩) k
theorem j_last {q n : Nat} {rs : List Nat} {i : Int32} {v : Int64} {f : j_G → Option α} (e : x_row (x_rws M) pc = some (p, .lastore, len, a, b, w)) (ep : pc + 1 = pc') (hq : j_at s q = some (.inl (1, n, rs))) (k : ∀ σ', j_J s τ M d pc' L st σ' (f σ') Φ) : j_J s τ M d pc L (.long v :: .int i :: .ref q :: st) σ (j_ix i n (j_lt (j_sl σ q i.toNatClampNeg v) f)) Φ :=
  j_ixJ fun h => j_step (fun l hl => ⟨l, hl, by rw [j_f2 e rfl, j_ulast (j_al hq) h, j_astl hq, ep, j_go]⟩) (k _)
/-- a row of objects, at a place that is known -/
theorem j_aald {q n t r : Nat} {rs : List Nat} {i : Int32} (e : x_row (x_rws M) pc = some (p, .aaload, len, a, b, w)) (ep : pc + 1 = pc') (hq : j_at s q = some (.inl (t + 4, n, rs))) (hi : ¬ (i < 0 ∨ n ≤ i.toNatClampNeg)) (hr : rs[i.toNatClampNeg]? = some r) (k : j_J s τ M d pc' L (.ref r :: st) σ o Φ) : j_J s τ M d pc L (.int i :: .ref q :: st) σ o Φ :=
  j_step (fun l hl => ⟨l, hl, by rw [j_f2 e rfl, j_uaald (j_aq hq) hi hr, ep, j_go]⟩) k
theorem j_alen {q n t : Nat} {rs : List Nat} {v : Int32} (e : x_row (x_rws M) pc = some (p, .arraylength, len, a, b, w)) (ep : pc + 1 = pc') (hq : j_at s q = some (.inl (t, n, rs))) (hv : Int32.ofNat n = v) (k : j_J s τ M d pc' L (.int v :: st) σ o Φ) : j_J s τ M d pc L (.ref q :: st) σ o Φ :=
  j_step (fun l hl => ⟨l, hl, by rw [j_f2 e rfl, j_ualen (j_nscr hq) (j_get hq), hv, ep, j_go]⟩) k
/-! a value is one of some -/
theorem j_spl {f : Option α} {i k : Int32} (h1 : i = k → j_J s τ M d pc L st σ o Φ) (h2 : ¬ i = k → j_J s τ M d pc L st σ f Φ) : j_J s τ M d pc L st σ (if i = k then o else f) Φ := by
  by_cases h : i = k
  · rw [if_pos h]; exact h1 h
  · rw [if_neg h]; exact h2 h
/-! what stands one behind the other -/
theorem j_q0 {ol : Option α} {f : Option β} {Φl : α → (Option Value → j_G → Prop) → Prop} {Φ : β → (Option Value → j_G → Prop) → Prop} (hl : j_J s τ M d pc L st σ ol Φl) (k : ∀ x r, f = some r → ∀ Q, Φ r Q → Φl x Q) : j_J s τ M d pc L st σ (j_b0 ol f) Φ := by
  intro r hr Q hQ
  unfold j_b0 at hr
  cases ho : ol with
  | none => rw [ho] at hr; cases hr
  | some x => rw [ho] at hr; exact hl x ho Q (k x r hr Q hQ)
theorem j_q1 {ol : Option α} {f : α → Option β} {Φl : α → (Option Value → j_G → Prop) → Prop} {Φ : β → (Option Value → j_G → Prop) → Prop} (hl : j_J s τ M d pc L st σ ol Φl) (k : ∀ x r, f x = some r → ∀ Q, Φ r Q → Φl x Q) : j_J s τ M d pc L st σ (j_b1 ol f) Φ := by
  intro r hr Q hQ
  unfold j_b1 at hr
  cases ho : ol with
  | none => rw [ho] at hr; cases hr
  | some x => rw [ho] at hr; exact hl x ho Q (k x r hr Q hQ)
theorem j_q2 {ol : Option (α × β)} {f : α → β → Option γ} {Φl : α × β → (Option Value → j_G → Prop) → Prop} {Φ : γ → (Option Value → j_G → Prop) → Prop} (hl : j_J s τ M d pc L st σ ol Φl) (k : ∀ x y r, f x y = some r → ∀ Q, Φ r Q → Φl (x, y) Q) : j_J s τ M d pc L st σ (j_b2 ol f) Φ := by
  intro r hr Q hQ
  unfold j_b2 at hr
  cases ho : ol with
  | none => rw [ho] at hr; cases hr
  | some x => rw [ho] at hr; exact hl x ho Q (k x.1 x.2 r hr Q hQ)
theorem j_q3 {ol : Option (α × β × γ)} {f : α → β → γ → Option δ} {Φl : α × β × γ → (Option Value → j_G → Prop) → Prop} {Φ : δ → (Option Value → j_G → Prop) → Prop} (hl : j_J s τ M d pc L st σ ol Φl) (k : ∀ x y z r, f x y z = some r → ∀ Q, Φ r Q → Φl (x, y, z) Q) : j_J s τ M d pc L st σ (j_b3 ol f) Φ := by
  intro r hr Q hQ
  unfold j_b3 at hr
  cases ho : ol with
  | none => rw [ho] at hr; cases hr
  | some x => rw [ho] at hr; exact hl x ho Q (k x.1 x.2.1 x.2.2 r hr Q hQ)
theorem j_q4 {ol : Option (α × β × γ × δ)} {f : α → β → γ → δ → Option ε} {Φl : α × β × γ × δ → (Option Value → j_G → Prop) → Prop} {Φ : ε → (Option Value → j_G → Prop) → Prop} (hl : j_J s τ M d pc L st σ ol Φl) (k : ∀ x y z u r, f x y z u = some r → ∀ Q, Φ r Q → Φl (x, y, z, u) Q) : j_J s τ M d pc L st σ (j_b4 ol f) Φ := by
  intro r hr Q hQ
  unfold j_b4 at hr
  cases ho : ol with
  | none => rw [ho] at hr; cases hr
  | some x => rw [ho] at hr; exact hl x ho Q (k x.1 x.2.1 x.2.2.1 x.2.2.2 r hr Q hQ)
theorem j_q5 {ol : Option (α × β × γ × δ × ε)} {f : α → β → γ → δ → ε → Option ζ} {Φl : α × β × γ × δ × ε → (Option Value → j_G → Prop) → Prop} {Φ : ζ → (Option Value → j_G → Prop) → Prop} (hl : j_J s τ M d pc L st σ ol Φl) (k : ∀ x y z u v r, f x y z u v = some r → ∀ Q, Φ r Q → Φl (x, y, z, u, v) Q) : j_J s τ M d pc L st σ (j_b5 ol f) Φ := by
  intro r hr Q hQ
  unfold j_b5 at hr
  cases ho : ol with
  | none => rw [ho] at hr; cases hr
  | some x => rw [ho] at hr; exact hl x ho Q (k x.1 x.2.1 x.2.2.1 x.2.2.2.1 x.2.2.2.2 r hr Q hQ)
theorem j_q6 {ol : Option (α × β × γ × δ × ε × ζ)} {f : α → β → γ → δ → ε → ζ → Option η} {Φl : α × β × γ × δ × ε × ζ → (Option Value → j_G → Prop) → Prop} {Φ : η → (Option Value → j_G → Prop) → Prop} (hl : j_J s τ M d pc L st σ ol Φl) (k : ∀ x y z u v w r, f x y z u v w = some r → ∀ Q, Φ r Q → Φl (x, y, z, u, v, w) Q) : j_J s τ M d pc L st σ (j_b6 ol f) Φ := by
  intro r hr Q hQ
  unfold j_b6 at hr
  cases ho : ol with
  | none => rw [ho] at hr; cases hr
  | some x => rw [ho] at hr; exact hl x ho Q (k x.1 x.2.1 x.2.2.1 x.2.2.2.1 x.2.2.2.2.1 x.2.2.2.2.2 r hr Q hQ)
theorem j_ql {x : β} {f : β → Option α} {Φl : β → (Option Value → j_G → Prop) → Prop} (hl : j_J s τ M d pc L st σ (some x) Φl) (k : ∀ x r, f x = some r → ∀ Q, Φ r Q → Φl x Q) : j_J s τ M d pc L st σ (j_lt x f) Φ :=
  fun r hr Q hQ => hl x rfl Q (k x r hr Q hQ)
/-! calls -/
def j_K (s : Bool) (D i : Nat) (vs : List Value) (σ : j_G) {α : Type} (o : Option α) (Φ : α → (Option Value → j_G → Prop) → Prop) : Prop :=
  ∀ (d : Nat), D ≤ d → ∀ (τ : j_G) (r : α), o = some r → ∀ Q, Φ r Q → ∃ M', (x_mt : List xM)[i]? = some M' ∧ (Nat.ble (x_cat vs) M'.2.2.2.1 && x_rcv M' vs (j_hp s σ τ)) = true ∧ ∃ (n : Nat) (v : Option Value) (σ' : j_G), x_run x_mt none n d M' (0, lv_args 0 vs, [], j_hp s σ τ, 0, 0) = some (v, j_hp s σ' τ, 0, 0) ∧ Q v σ'
theorem j_mkK {D i m : Nat} {vs : List Value} (em : (x_mt : List xM)[i]? = some M) (hb : Nat.ble (x_cat vs) M.2.2.2.1 = true) (hr : ∀ σ τ : j_G, x_rcv M vs (j_hp s σ τ) = true) (hL : j_la vs ++ List.replicate m none = L) (k : ∀ d, D ≤ d → ∀ τ, j_J s τ M d 0 L [] σ o Φ) : j_K s D i vs σ o Φ := by
  intro d hd τ r ho Q hQ
  refine ⟨M, em, by rw [hb, hr]; rfl, k d hd τ r ho Q hQ _ ?_⟩
  intro n v hn
  have := j_args vs 0 m n v (by rw [hL]; exact hn)
  rw [Nat.zero_add] at this
  exact this
theorem j_rcvS {vs : List Value} (h : M.2.2.2.2.2.1 = true) (σ τ : j_G) : x_rcv M vs (j_hp s σ τ) = true := by
  unfold x_rcv
  rw [h]
  rfl
theorem j_rcvO {q c : Nat} {fs : List Nat} {vs : List Value} (h : j_at s q = some (.inr (c, fs))) (hc : M.2.2.2.2.2.2.1 = c) (σ τ : j_G) : x_rcv M (.ref q :: vs) (j_hp s σ τ) = true := by
  unfold x_rcv
  dsimp only
  rw [j_get h]
  show (_ || Nat.beq c _) = true
  rw [hc, j_beq_self, Bool.or_true]
theorem j_calQ {β : Type} {oc : Option β} {Φc : β → (Option Value → j_G → Prop) → Prop} {D ai : Nat} {vs rest : List Value} (e : x_row (x_rws M) pc = some (p, ins, len, a, b, w)) (g : x_grp ins = 3) (hx : ∀ (l : xL) (h : xH), x_ins3 ins pc a b l st h 0 0 = some (.inr (.inl (ai, vs, rest)))) (hK : j_K s D ai vs σ oc Φc) (hD : D < d) (ep : pc + 3 = pc') {x : β} (hx2 : oc = some x) {Q : Option Value → j_G → Prop} (k : Φc x (fun v σ' => j_Tr s τ M d pc' L (v.toList ++ rest) σ' Q)) : j_Tr s τ M d pc L st σ Q := by
  intro l hl
  cases d with
  | zero => exact absurd hD (by omega)
  | succ d =>
    obtain ⟨M', em, hc, n1, v, σ1, h1, h2⟩ := hK d (by omega) τ x hx2 _ k
    obtain ⟨n2, v2, σ2, h3, h4⟩ := h2 l hl
    refine ⟨max n1 n2 + 1, v2, σ2, ?_, h4⟩
    unfold x_run
    rw [j_f3 e g, hx]
    dsimp only
    rw [em]
    dsimp only
    rw [hc]
    dsimp only [cond]
    rw [x_more _ _ _ _ _ _ h1 _ (Nat.le_max_left _ _)]
    have h5 := x_more _ _ _ _ _ _ h3 (max n1 n2) (Nat.le_max_right _ _)
    rw [← ep] at h5
    dsimp only
    simp only [Nat.add_zero]
    exact h5
section JC
variable {D ai : Nat} {vs rest : List Value}
theorem j_callRi {oc : Option (Int32 × j_G)} {f : Int32 → j_G → Option α} (e : x_row (x_rws M) pc = some (p, ins, len, a, b, w)) (g : x_grp ins = 3) (hx : ∀ (l : xL) (h : xH), x_ins3 ins pc a b l st h 0 0 = some (.inr (.inl (ai, vs, rest)))) (hK : j_K s D ai vs σ oc j_Ri) (hD : D < d) (ep : pc + 3 = pc') (k : ∀ v σ', j_J s τ M d pc' L (.int v :: rest) σ' (f v σ') Φ) : j_J s τ M d pc L st σ (j_b2 oc f) Φ := by
  intro r hr Q hQ
  cases ho : oc with
  | none => rw [ho] at hr; cases hr
  | some x => rw [ho] at hr; exact j_calQ e g hx hK hD ep ho (k x.1 x.2 r hr Q hQ)
theorem j_callRl {oc : Option (Int64 × j_G)} {f : Int64 → j_G → Option α} (e : x_row (x_rws M) pc = some (p, ins, len, a, b, w)) (g : x_grp ins = 3) (hx : ∀ (l : xL) (h : xH), x_ins3 ins pc a b l st h 0 0 = some (.inr (.inl (ai, vs, rest)))) (hK : j_K s D ai vs σ oc j_Rl) (hD : D < d) (ep : pc + 3 = pc') (k : ∀ v σ', j_J s τ M d pc' L (.long v :: rest) σ' (f v σ') Φ) : j_J s τ M d pc L st σ (j_b2 oc f) Φ := by
  intro r hr Q hQ
  cases ho : oc with
  | none => rw [ho] at hr; cases hr
  | some x => rw [ho] at hr; exact j_calQ e g hx hK hD ep ho (k x.1 x.2 r hr Q hQ)
theorem j_callRv {oc : Option j_G} {f : j_G → Option α} (e : x_row (x_rws M) pc = some (p, ins, len, a, b, w)) (g : x_grp ins = 3) (hx : ∀ (l : xL) (h : xH), x_ins3 ins pc a b l st h 0 0 = some (.inr (.inl (ai, vs, rest)))) (hK : j_K s D ai vs σ oc j_Rv) (hD : D < d) (ep : pc + 3 = pc') (k : ∀ σ', j_J s τ M d pc' L rest σ' (f σ') Φ) : j_J s τ M d pc L st σ (j_b1 oc f) Φ := by
  intro r hr Q hQ
  cases ho : oc with
  | none => rw [ho] at hr; cases hr
  | some x => rw [ho] at hr; exact j_calQ e g hx hK hD ep ho (k x r hr Q hQ)
theorem j_callPi {oc : Option Int32} {f : Int32 → Option α} (e : x_row (x_rws M) pc = some (p, ins, len, a, b, w)) (g : x_grp ins = 3) (hx : ∀ (l : xL) (h : xH), x_ins3 ins pc a b l st h 0 0 = some (.inr (.inl (ai, vs, rest)))) (hK : j_K s D ai vs σ oc (j_Pi σ)) (hD : D < d) (ep : pc + 3 = pc') (k : ∀ v, j_J s τ M d pc' L (.int v :: rest) σ (f v) Φ) : j_J s τ M d pc L st σ (j_b1 oc f) Φ := by
  intro r hr Q hQ
  cases ho : oc with
  | none => rw [ho] at hr; cases hr
  | some x => rw [ho] at hr; exact j_calQ e g hx hK hD ep ho (k x r hr Q hQ)
theorem j_callPl {oc : Option Int64} {f : Int64 → Option α} (e : x_row (x_rws M) pc = some (p, ins, len, a, b, w)) (g : x_grp ins = 3) (hx : ∀ (l : xL) (h : xH), x_ins3 ins pc a b l st h 0 0 = some (.inr (.inl (ai, vs, rest)))) (hK : j_K s D ai vs σ oc (j_Pl σ)) (hD : D < d) (ep : pc + 3 = pc') (k : ∀ v, j_J s τ M d pc' L (.long v :: rest) σ (f v) Φ) : j_J s τ M d pc L st σ (j_b1 oc f) Φ := by
  intro r hr Q hQ
  cases ho : oc with
  | none => rw [ho] at hr; cases hr
  | some x => rw [ho] at hr; exact j_calQ e g hx hK hD ep ho (k x r hr Q hQ)
theorem j_callPv {oc : Option Unit} {f : Option α} (e : x_row (x_rws M) pc = some (p, ins, len, a, b, w)) (g : x_grp ins = 3) (hx : ∀ (l : xL) (h : xH), x_ins3 ins pc a b l st h 0 0 = some (.inr (.inl (ai, vs, rest)))) (hK : j_K s D ai vs σ oc (j_Pv σ)) (hD : D < d) (ep : pc + 3 = pc') (k : j_J s τ M d pc' L rest σ f Φ) : j_J s τ M d pc L st σ (j_b0 oc f) Φ := by
  intro r hr Q hQ
  cases ho : oc with
  | none => rw [ho] at hr; cases hr
  | some x => rw [ho] at hr; exact j_calQ e g hx hK hD ep ho (k r hr Q hQ)
theorem j_callTi {v : Int32} (e : x_row (x_rws M) pc = some (p, ins, len, a, b, w)) (g : x_grp ins = 3) (hx : ∀ (l : xL) (h : xH), x_ins3 ins pc a b l st h 0 0 = some (.inr (.inl (ai, vs, rest)))) (hK : j_K s D ai vs σ (some v) (j_Pi σ)) (hD : D < d) (ep : pc + 3 = pc') (k : j_J s τ M d pc' L (.int v :: rest) σ o Φ) : j_J s τ M d pc L st σ o Φ := by
  intro r hr Q hQ
  exact j_calQ e g hx hK hD ep rfl (k r hr Q hQ)
theorem j_callTl {v : Int64} (e : x_row (x_rws M) pc = some (p, ins, len, a, b, w)) (g : x_grp ins = 3) (hx : ∀ (l : xL) (h : xH), x_ins3 ins pc a b l st h 0 0 = some (.inr (.inl (ai, vs, rest)))) (hK : j_K s D ai vs σ (some v) (j_Pl σ)) (hD : D < d) (ep : pc + 3 = pc') (k : j_J s τ M d pc' L (.long v :: rest) σ o Φ) : j_J s τ M d pc L st σ o Φ := by
  intro r hr Q hQ
  exact j_calQ e g hx hK hD ep rfl (k r hr Q hQ)
theorem j_callTr {v : Nat} (e : x_row (x_rws M) pc = some (p, ins, len, a, b, w)) (g : x_grp ins = 3) (hx : ∀ (l : xL) (h : xH), x_ins3 ins pc a b l st h 0 0 = some (.inr (.inl (ai, vs, rest)))) (hK : j_K s D ai vs σ (some v) (j_Pr σ)) (hD : D < d) (ep : pc + 3 = pc') (k : j_J s τ M d pc' L (.ref v :: rest) σ o Φ) : j_J s τ M d pc L st σ o Φ := by
  intro r hr Q hQ
  exact j_calQ e g hx hK hD ep rfl (k r hr Q hQ)
end JC
/-- Math.max, min, abs: seen by reckoning -/
theorem j_lib (e : x_row (x_rws M) pc = some (p, ins, len, a, b, w)) (g : x_grp ins = 3) (h : ∀ (l : xL) (hp : xH), x_ins3 ins pc a b l st hp 0 0 = some (.inl (pc', l, st', hp, 0, 0))) (k : j_J s τ M d pc' L st' σ o Φ) : j_J s τ M d pc L st σ o Φ :=
  j_step (fun l hl => ⟨l, hl, by rw [j_f3 e g]; exact h l _⟩) k
theorem j_cgJ {sp dp n : Int32} {n0 n1 : Nat} (k : ¬ (sp < 0 ∨ dp < 0 ∨ n < 0 ∨ n0 < sp.toNatClampNeg + n.toNatClampNeg ∨ n1 < dp.toNatClampNeg + n.toNatClampNeg) → j_J s τ M d pc L st σ o Φ) : j_J s τ M d pc L st σ (j_cg sp dp n n0 n1 o) Φ := by
  unfold j_cg
  by_cases h : sp < 0 ∨ dp < 0 ∨ n < 0 ∨ n0 < sp.toNatClampNeg + n.toNatClampNeg ∨ n1 < dp.toNatClampNeg + n.toNatClampNeg
  · rw [if_pos h]; exact j_none
  · rw [if_neg h]; exact k h
theorem j_cpi {a0 a1 n0 n1 r : Nat} {rs0 rs1 : List Nat} {sp dp n : Int32} {f : j_G → Option α} (e : x_row (x_rws M) pc = some (p, .invokestatic r, len, 9004, b, w)) (ep : pc + 3 = pc') (h8 : Nat.ble (x_cat st) 8 = true) (h0 : j_at s a0 = some (.inl (0, n0, rs0))) (h1 : j_at s a1 = some (.inl (0, n1, rs1))) (k : ∀ σ', j_J s τ M d pc' L st σ' (f σ') Φ) : j_J s τ M d pc L (.int n :: .int dp :: .ref a1 :: .int sp :: .ref a0 :: st) σ (j_cg sp dp n n0 n1 (j_lt (j_ci σ a0 sp.toNatClampNeg a1 dp.toNatClampNeg n.toNatClampNeg) f)) Φ :=
  j_cgJ fun h => j_step (fun l hl => ⟨l, hl, by rw [j_f3 e rfl, j_ucpi h8 (j_ai h0 rfl rfl) (j_ai h1 rfl rfl) h, j_acpi h1, ep, j_go]⟩) (k _)
theorem j_cpl {a0 a1 n0 n1 r : Nat} {rs0 rs1 : List Nat} {sp dp n : Int32} {f : j_G → Option α} (e : x_row (x_rws M) pc = some (p, .invokestatic r, len, 9005, b, w)) (ep : pc + 3 = pc') (h8 : Nat.ble (x_cat st) 8 = true) (h0 : j_at s a0 = some (.inl (1, n0, rs0))) (h1 : j_at s a1 = some (.inl (1, n1, rs1))) (k : ∀ σ', j_J s τ M d pc' L st σ' (f σ') Φ) : j_J s τ M d pc L (.int n :: .int dp :: .ref a1 :: .int sp :: .ref a0 :: st) σ (j_cg sp dp n n0 n1 (j_lt (j_cl σ a0 sp.toNatClampNeg a1 dp.toNatClampNeg n.toNatClampNeg) f)) Φ :=
  j_cgJ fun h => j_step (fun l hl => ⟨l, hl, by rw [j_f3 e rfl, j_ucpl h8 (j_al h0) (j_al h1) h, j_acpl h1, ep, j_go]⟩) (k _)
/-! returns -/
theorem j_ret {r : α} {v : Option Value} (e : x_row (x_rws M) pc = some (p, ins, len, a, b, w)) (g : x_grp ins = 4) (h : x_ret M.2.2.2.2.1 ins st = some v) (k : ∀ Q, Φ r Q → Q v σ) : j_J s τ M d pc L st σ (some r) Φ := by
  intro r' hr Q hQ l hl
  cases hr
  refine ⟨1, v, σ, ?_, k Q hQ⟩
  unfold x_run x_step
  dsimp only
  rw [show x_row M.2.2.2.2.2.2.2 pc = _ from e]
  dsimp only
  rw [g]
  show (match (match x_ret M.2.2.2.2.1 ins st with | some v => (some (.inr (.inr v)) : xO) | none => none) with | none => none | some (.inl c') => _ | some (.inr (.inr v)) => _ | some (.inr (.inl q)) => _) = _
  rw [h]
/-- a branch with one or more conditions -/
theorem j_two {q : Prop} {iq : Decidable q} {pT pF : Nat} {L1 : List (Option Value)} {st1 : List Value} {o1 o2 : Option α} (m : ∀ o : Option α, (q → j_J s τ M d pT L1 st1 σ o Φ) → (¬ q → j_J s τ M d pF L1 st1 σ o Φ) → j_J s τ M d pc L st σ o Φ) (kT : q → j_J s τ M d pT L1 st1 σ o1 Φ) (kF : ¬ q → j_J s τ M d pF L1 st1 σ o2 Φ) : j_J s τ M d pc L st σ (if q then o1 else o2) Φ := by
  by_cases h : q
  · rw [if_pos h]; exact m o1 (fun _ => kT h) (fun z => absurd h z)
  · rw [if_neg h]; exact m o2 (fun z => absurd z h) (fun _ => kF h)
theorem j_twoT {q : Prop} {iq : Decidable q} {pT pF : Nat} {L1 : List (Option Value)} {st1 : List Value} {o1 o2 : α} (m : ∀ o : Option α, (q → j_J s τ M d pT L1 st1 σ o Φ) → (¬ q → j_J s τ M d pF L1 st1 σ o Φ) → j_J s τ M d pc L st σ o Φ) (kT : q → j_J s τ M d pT L1 st1 σ (some o1) Φ) (kF : ¬ q → j_J s τ M d pF L1 st1 σ (some o2) Φ) : j_J s τ M d pc L st σ (some (if q then o1 else o2)) Φ := by
  by_cases h : q
  · rw [if_pos h]; exact m (some o1) (fun _ => kT h) (fun z => absurd h z)
  · rw [if_neg h]; exact m (some o2) (fun z => absurd z h) (fun _ => kF h)
theorem j_splx {f : Option α} (i k : Int32) (h1 : i = k → j_J s τ M d pc L st σ o Φ) (h2 : ¬ i = k → j_J s τ M d pc L st σ f Φ) : j_J s τ M d pc L st σ (if i = k then o else f) Φ := by
  by_cases h : i = k
  · rw [if_pos h]; exact h1 h
  · rw [if_neg h]; exact h2 h
theorem j_splT {x y : α} {i k : Int32} (h1 : i = k → j_J s τ M d pc L st σ (some x) Φ) (h2 : ¬ i = k → j_J s τ M d pc L st σ (some y) Φ) : j_J s τ M d pc L st σ (some (if i = k then x else y)) Φ := by
  by_cases h : i = k
  · rw [if_pos h]; exact h1 h
  · rw [if_neg h]; exact h2 h
theorem j_letiT {x : Int32} {f : Int32 → α} (k : ∀ u, j_J s τ M d pc L (.int u :: st) σ (some (f u)) Φ) : j_J s τ M d pc L (.int x :: st) σ (some (j_lt x f)) Φ := k x
theorem j_letlT {x : Int64} {f : Int64 → α} (k : ∀ u, j_J s τ M d pc L (.long u :: st) σ (some (f u)) Φ) : j_J s τ M d pc L (.long x :: st) σ (some (j_lt x f)) Φ := k x
/-- what two ways share -/
theorem j_jn {κ : Type} {rest : κ} {body : κ → Option α} (P : κ → Prop) (hr : P rest) (hb : ∀ k, P k → j_J s τ M d pc L st σ (body k) Φ) : j_J s τ M d pc L st σ (j_lt rest body) Φ := hb rest hr
def j_bo {β : Type} (v : Int32) (o : Option β) : Option β := if v = 0 ∨ v = 1 then o else none
theorem j_boJ {v : Int32} (k : (v = 0 ∨ v = 1) → j_J s τ M d pc L st σ o Φ) : j_J s τ M d pc L st σ (j_bo v o) Φ := by
  unfold j_bo
  by_cases h : v = 0 ∨ v = 1
  · rw [if_pos h]; exact k h
  · rw [if_neg h]; exact j_none
theorem j_retb {r : α} {v : Int32} (e : x_row (x_rws M) pc = some (p, .ireturn, len, a, b, w)) (hm : M.2.2.2.2.1 = some .boolean) (hv : v = 0 ∨ v = 1) (k : ∀ Q, Φ r Q → Q (some (.int v)) σ) : j_J s τ M d pc L [.int v] σ (some r) Φ :=
  j_ret e rfl (by rw [hm]; rcases hv with rfl | rfl <;> rfl) k
/-- a switch -/
theorem j_sw {x k : Int32} {t : Nat} (hk : x = k) (e : x_row (x_rws M) pc = some (p, ins, len, a, b, w)) (g : x_grp ins = 1) (h : ∀ (l : xL) (hp : xH), x_ins1 ins pc a l (.int k :: st) hp 0 0 = some (.inl (t, l, st, hp, 0, 0))) (kk : j_J s τ M d t L st σ o Φ) : j_J s τ M d pc L (.int x :: st) σ o Φ := by
  subst hk
  exact j_s1 e g (fun l hp _ => h l hp) kk
theorem j_ne {x k : Int32} (n : Int) (hk : k.toInt = n) (h : ¬ x = k) : x.toInt ≠ n := fun z => h (Int32.toInt_inj.mp (by rw [z, hk]))
theorem j_tsd {x : Int32} {df : Int} {lo hi : Int} {offs : Array Int} {t : Nat} (e : x_row (x_rws M) pc = some (p, .tableswitch df lo hi offs, len, a, b, w)) (hx : x.toInt < lo ∨ hi < x.toInt) (ht : (pc : Int) + df = Int.ofNat t) (kk : j_J s τ M d t L st σ o Φ) : j_J s τ M d pc L (.int x :: st) σ o Φ :=
  j_s1 e rfl (fun l hp _ => by
    show (if x.toInt < lo ∨ hi < x.toInt then x_br pc df fun t => x_go t l st hp 0 0 else _) = _
    rw [if_pos hx, j_brt ht]
    rfl) kk
theorem j_lsd {x : Int32} {df : Int} {ps : Array (Int × Int)} {t : Nat} (e : x_row (x_rws M) pc = some (p, .lookupswitch df ps, len, a, b, w)) (ha : (ps.toList.zip (ps.toList.drop 1)).all (fun q => decide (q.1.1 < q.2.1)) = true) (hx : Op.lookupswitch.offset ps.toList df x.toInt = df) (ht : (pc : Int) + df = Int.ofNat t) (kk : j_J s τ M d t L st σ o Φ) : j_J s τ M d pc L (.int x :: st) σ o Φ :=
  j_s1 e rfl (fun l hp _ => by
    show (if (ps.toList.zip (ps.toList.drop 1)).all (fun q => decide (q.1.1 < q.2.1)) = true then x_br pc (Op.lookupswitch.offset ps.toList df x.toInt) fun t => x_go t l st hp 0 0 else none) = _
    rw [if_pos ha, hx, j_brt ht]
    rfl) kk
theorem j_iadd {x y : Int32} (e : x_row (x_rws M) pc = some (p, .iadd, len, a, b, w)) (ep : pc + 1 = pc') (k : j_J s τ M d pc' L (.int (x + y) :: st) σ o Φ) : j_J s τ M d pc L (.int y :: .int x :: st) σ o Φ := j_pl e rfl (fun _ _ => by subst ep; rfl) k
theorem j_isub {x y : Int32} (e : x_row (x_rws M) pc = some (p, .isub, len, a, b, w)) (ep : pc + 1 = pc') (k : j_J s τ M d pc' L (.int (x - y) :: st) σ o Φ) : j_J s τ M d pc L (.int y :: .int x :: st) σ o Φ := j_pl e rfl (fun _ _ => by subst ep; rfl) k
theorem j_imul {x y : Int32} (e : x_row (x_rws M) pc = some (p, .imul, len, a, b, w)) (ep : pc + 1 = pc') (k : j_J s τ M d pc' L (.int (x * y) :: st) σ o Φ) : j_J s τ M d pc L (.int y :: .int x :: st) σ o Φ := j_pl e rfl (fun _ _ => by subst ep; rfl) k
theorem j_iand {x y : Int32} (e : x_row (x_rws M) pc = some (p, .iand, len, a, b, w)) (ep : pc + 1 = pc') (k : j_J s τ M d pc' L (.int (x &&& y) :: st) σ o Φ) : j_J s τ M d pc L (.int y :: .int x :: st) σ o Φ := j_pl e rfl (fun _ _ => by subst ep; rfl) k
theorem j_ior {x y : Int32} (e : x_row (x_rws M) pc = some (p, .ior, len, a, b, w)) (ep : pc + 1 = pc') (k : j_J s τ M d pc' L (.int (x ||| y) :: st) σ o Φ) : j_J s τ M d pc L (.int y :: .int x :: st) σ o Φ := j_pl e rfl (fun _ _ => by subst ep; rfl) k
theorem j_ixor {x y : Int32} (e : x_row (x_rws M) pc = some (p, .ixor, len, a, b, w)) (ep : pc + 1 = pc') (k : j_J s τ M d pc' L (.int (x ^^^ y) :: st) σ o Φ) : j_J s τ M d pc L (.int y :: .int x :: st) σ o Φ := j_pl e rfl (fun _ _ => by subst ep; rfl) k
theorem j_ishl {x y : Int32} (e : x_row (x_rws M) pc = some (p, .ishl, len, a, b, w)) (ep : pc + 1 = pc') (k : j_J s τ M d pc' L (.int (x <<< (y &&& 31)) :: st) σ o Φ) : j_J s τ M d pc L (.int y :: .int x :: st) σ o Φ := j_pl e rfl (fun _ _ => by subst ep; rfl) k
theorem j_ishr {x y : Int32} (e : x_row (x_rws M) pc = some (p, .ishr, len, a, b, w)) (ep : pc + 1 = pc') (k : j_J s τ M d pc' L (.int (x >>> (y &&& 31)) :: st) σ o Φ) : j_J s τ M d pc L (.int y :: .int x :: st) σ o Φ := j_pl e rfl (fun _ _ => by subst ep; rfl) k
theorem j_iushr {x y : Int32} (e : x_row (x_rws M) pc = some (p, .iushr, len, a, b, w)) (ep : pc + 1 = pc') (k : j_J s τ M d pc' L (.int ((x.toUInt32 >>> (y.toUInt32 &&& Int32.toUInt32 31)).toInt32) :: st) σ o Φ) : j_J s τ M d pc L (.int y :: .int x :: st) σ o Φ := j_pl e rfl (fun _ _ => by subst ep; rfl) k
theorem j_ladd {x y : Int64} (e : x_row (x_rws M) pc = some (p, .ladd, len, a, b, w)) (ep : pc + 1 = pc') (k : j_J s τ M d pc' L (.long (x + y) :: st) σ o Φ) : j_J s τ M d pc L (.long y :: .long x :: st) σ o Φ := j_pl e rfl (fun _ _ => by subst ep; rfl) k
theorem j_lmul {x y : Int64} (e : x_row (x_rws M) pc = some (p, .lmul, len, a, b, w)) (ep : pc + 1 = pc') (k : j_J s τ M d pc' L (.long (x * y) :: st) σ o Φ) : j_J s τ M d pc L (.long y :: .long x :: st) σ o Φ := j_pl e rfl (fun _ _ => by subst ep; rfl) k
theorem j_land {x y : Int64} (e : x_row (x_rws M) pc = some (p, .land, len, a, b, w)) (ep : pc + 1 = pc') (k : j_J s τ M d pc' L (.long (x &&& y) :: st) σ o Φ) : j_J s τ M d pc L (.long y :: .long x :: st) σ o Φ := j_pl e rfl (fun _ _ => by subst ep; rfl) k
theorem j_lor {x y : Int64} (e : x_row (x_rws M) pc = some (p, .lor, len, a, b, w)) (ep : pc + 1 = pc') (k : j_J s τ M d pc' L (.long (x ||| y) :: st) σ o Φ) : j_J s τ M d pc L (.long y :: .long x :: st) σ o Φ := j_pl e rfl (fun _ _ => by subst ep; rfl) k
theorem j_lshl {x : Int64} {y : Int32} (e : x_row (x_rws M) pc = some (p, .lshl, len, a, b, w)) (ep : pc + 1 = pc') (k : j_J s τ M d pc' L (.long (x <<< (y.toInt64 &&& 63)) :: st) σ o Φ) : j_J s τ M d pc L (.int y :: .long x :: st) σ o Φ := j_pl e rfl (fun _ _ => by subst ep; rfl) k
theorem j_lshr {x : Int64} {y : Int32} (e : x_row (x_rws M) pc = some (p, .lshr, len, a, b, w)) (ep : pc + 1 = pc') (k : j_J s τ M d pc' L (.long (x >>> (y.toInt64 &&& 63)) :: st) σ o Φ) : j_J s τ M d pc L (.int y :: .long x :: st) σ o Φ := j_pl e rfl (fun _ _ => by subst ep; rfl) k
theorem j_i2l {x : Int32} (e : x_row (x_rws M) pc = some (p, .i2l, len, a, b, w)) (ep : pc + 1 = pc') (k : j_J s τ M d pc' L (.long (x.toInt64) :: st) σ o Φ) : j_J s τ M d pc L (.int x :: st) σ o Φ := j_pl e rfl (fun _ _ => by subst ep; rfl) k
theorem j_l2i {x : Int64} (e : x_row (x_rws M) pc = some (p, .l2i, len, a, b, w)) (ep : pc + 1 = pc') (k : j_J s τ M d pc' L (.int (x.toInt32) :: st) σ o Φ) : j_J s τ M d pc L (.long x :: st) σ o Φ := j_pl e rfl (fun _ _ => by subst ep; rfl) k
theorem j_i2b {x : Int32} (e : x_row (x_rws M) pc = some (p, .i2b, len, a, b, w)) (ep : pc + 1 = pc') (k : j_J s τ M d pc' L (.int (x.toInt8.toInt32) :: st) σ o Φ) : j_J s τ M d pc L (.int x :: st) σ o Φ := j_pl e rfl (fun _ _ => by subst ep; rfl) k
theorem j_i2s {x : Int32} (e : x_row (x_rws M) pc = some (p, .i2s, len, a, b, w)) (ep : pc + 1 = pc') (k : j_J s τ M d pc' L (.int (x.toInt16.toInt32) :: st) σ o Φ) : j_J s τ M d pc L (.int x :: st) σ o Φ := j_pl e rfl (fun _ _ => by subst ep; rfl) k
theorem j_iconst {n : Int} {x : Int32} (e : x_row (x_rws M) pc = some (p, .iconst n, len, a, b, w)) (ep : pc + 1 = pc') (hx : Int32.ofInt n = x) (k : j_J s τ M d pc' L (.int x :: st) σ o Φ) : j_J s τ M d pc L st σ o Φ := j_pl e rfl (fun _ _ => by subst ep; subst hx; rfl) k
theorem j_bipush {n : Int} {x : Int32} (e : x_row (x_rws M) pc = some (p, .bipush n, len, a, b, w)) (ep : pc + 2 = pc') (hx : (Int8.ofInt n).toInt32 = x) (k : j_J s τ M d pc' L (.int x :: st) σ o Φ) : j_J s τ M d pc L st σ o Φ := j_pl e rfl (fun _ _ => by subst ep; subst hx; rfl) k
theorem j_sipush {n : Int} {x : Int32} (e : x_row (x_rws M) pc = some (p, .sipush n, len, a, b, w)) (ep : pc + 3 = pc') (hx : (Int16.ofInt n).toInt32 = x) (k : j_J s τ M d pc' L (.int x :: st) σ o Φ) : j_J s τ M d pc L st σ o Φ := j_pl e rfl (fun _ _ => by subst ep; subst hx; rfl) k
theorem j_lconst {n : Fin 2} {x : Int64} (e : x_row (x_rws M) pc = some (p, .lconst n, len, a, b, w)) (ep : pc + 1 = pc') (hx : Int64.ofNat (n : Nat) = x) (k : j_J s τ M d pc' L (.long x :: st) σ o Φ) : j_J s τ M d pc L st σ o Φ := j_pl e rfl (fun _ _ => by subst ep; subst hx; rfl) k
theorem j_ldc {n : Nat} {x : Int32} (e : x_row (x_rws M) pc = some (p, .ldc n, len, a, b, w)) (ep : pc + 2 = pc') (ha : Nat.ble 4294967296 a = false) (hx : Int32.ofNat a = x) (k : j_J s τ M d pc' L (.int x :: st) σ o Φ) : j_J s τ M d pc L st σ o Φ := j_pl e rfl (fun l hp => by
  subst ep
  subst hx
  show (bif Nat.ble 4294967296 a then x_go (pc + 2) l (.ref (x_str + (a - 4294967296)) :: st) hp 0 0 else x_go (pc + 2) l (.int (Int32.ofNat a) :: st) hp 0 0) = _
  rw [ha]
  rfl) k
theorem j_ldcs {n x : Nat} (e : x_row (x_rws M) pc = some (p, .ldc n, len, a, b, w)) (ep : pc + 2 = pc') (ha : Nat.ble 4294967296 a = true) (hx : x_str + (a - 4294967296) = x) (k : j_J s τ M d pc' L (.ref x :: st) σ o Φ) : j_J s τ M d pc L st σ o Φ := j_pl e rfl (fun l hp => by
  subst ep
  subst hx
  show (bif Nat.ble 4294967296 a then x_go (pc + 2) l (.ref (x_str + (a - 4294967296)) :: st) hp 0 0 else x_go (pc + 2) l (.int (Int32.ofNat a) :: st) hp 0 0) = _
  rw [ha]
  rfl) k
theorem j_ldc_w {n : Nat} {x : Int32} (e : x_row (x_rws M) pc = some (p, .ldc_w n, len, a, b, w)) (ep : pc + 3 = pc') (hx : Int32.ofNat a = x) (k : j_J s τ M d pc' L (.int x :: st) σ o Φ) : j_J s τ M d pc L st σ o Φ := j_pl e rfl (fun _ _ => by subst ep; subst hx; rfl) k
theorem j_ldc2_w {n : Nat} {x : Int64} (e : x_row (x_rws M) pc = some (p, .ldc2_w n, len, a, b, w)) (ep : pc + 3 = pc') (hx : Int64.ofNat a = x) (k : j_J s τ M d pc' L (.long x :: st) σ o Φ) : j_J s τ M d pc L st σ o Φ := j_pl e rfl (fun _ _ => by subst ep; subst hx; rfl) k
theorem j_dup {v : Value} (e : x_row (x_rws M) pc = some (p, .dup, len, a, b, w)) (ep : pc + 1 = pc') (hv : Nat.beq v.category 1 = true) (k : j_J s τ M d pc' L (v :: v :: st) σ o Φ) : j_J s τ M d pc L (v :: st) σ o Φ := j_pl e rfl (fun l hp => by subst ep; show (bif Nat.beq v.category 1 then x_go (pc + 1) l (v :: v :: st) hp 0 0 else none) = _; rw [hv]; rfl) k
theorem j_dup2 {v u : Value} (e : x_row (x_rws M) pc = some (p, .dup2, len, a, b, w)) (ep : pc + 1 = pc') (hv : Nat.beq v.category 1 = true) (hu : Nat.beq u.category 1 = true) (k : j_J s τ M d pc' L (v :: u :: v :: u :: st) σ o Φ) : j_J s τ M d pc L (v :: u :: st) σ o Φ := j_pl e rfl (fun l hp => by subst ep; show (bif Nat.beq v.category 1 && Nat.beq u.category 1 then x_go (pc + 1) l (v :: u :: v :: u :: st) hp 0 0 else none) = _; rw [hv, hu]; rfl) k
theorem j_pop {v : Value} (e : x_row (x_rws M) pc = some (p, .pop, len, a, b, w)) (ep : pc + 1 = pc') (hv : Nat.beq v.category 1 = true) (k : j_J s τ M d pc' L st σ o Φ) : j_J s τ M d pc L (v :: st) σ o Φ := j_pl e rfl (fun l hp => by subst ep; show (bif Nat.beq v.category 1 then x_go (pc + 1) l st hp 0 0 else none) = _; rw [hv]; rfl) k
theorem j_lcmp {x y : Int64} (e : x_row (x_rws M) pc = some (p, .lcmp, len, a, b, w)) (ep : pc + 1 = pc') (k : j_J s τ M d pc' L (.int (lg_cmp x y) :: st) σ o Φ) : j_J s τ M d pc L (.long y :: .long x :: st) σ o Φ := j_pl e rfl (fun _ _ => by subst ep; rfl) k
theorem j_iincx {n : Nat} {c : Int} {x y : Int32} (e : x_row (x_rws M) pc = some (p, .iinc n c, len, a, b, w)) (ep : pc + 3 = pc') (hv : L[n]? = some (some (.int x))) (hc : Int32.ofInt c = y) (hs : j_st L n (.int (x + y)) = L') (k : j_J s τ M d pc' L' st σ o Φ) : j_J s τ M d pc L st σ o Φ :=
  j_step (fun l hl => ⟨x_st1 l n (.int (x + y)), by rw [← hs]; exact j_has_st hl, by
    rw [j_f1 e rfl]
    subst ep
    subst hc
    show (match x_ld l n with | some (.int x) => _ | _ => none) = _
    rw [hl _ _ hv]
    rfl⟩) k
theorem j_dd {k m : Nat} (h : Nat.blt k m = true) (hd : m ≤ d) : k < d := Nat.lt_of_lt_of_le (Nat.le_of_ble_eq_true h) hd
set_option maxRecDepth 100000 in
theorem j_max {x y : Int32} {r : Nat} (e : x_row (x_rws M) pc = some (p, .invokestatic r, len, 9001, b, w)) (ep : pc + 3 = pc') (h8 : Nat.ble (x_cat st) 8 = true) (k : j_J s τ M d pc' L (.int (if x < y then y else x) :: st) σ o Φ) : j_J s τ M d pc L (.int y :: .int x :: st) σ o Φ :=
  j_lib e rfl (fun l hp => by subst ep; unfold x_ins3; rw [show Nat.beq 9001 9001 = true from rfl]; show (bif Nat.ble (x_cat st) 8 then x_go (pc + 3) l (.int (if x < y then y else x) :: st) hp 0 0 else none) = _; rw [h8]; rfl) k
set_option maxRecDepth 100000 in
theorem j_min {x y : Int32} {r : Nat} (e : x_row (x_rws M) pc = some (p, .invokestatic r, len, 9002, b, w)) (ep : pc + 3 = pc') (h8 : Nat.ble (x_cat st) 8 = true) (k : j_J s τ M d pc' L (.int (if y < x then y else x) :: st) σ o Φ) : j_J s τ M d pc L (.int y :: .int x :: st) σ o Φ :=
  j_lib e rfl (fun l hp => by subst ep; unfold x_ins3; rw [show Nat.beq 9002 9001 = false from rfl, show Nat.beq 9002 9002 = true from rfl]; show (bif Nat.ble (x_cat st) 8 then x_go (pc + 3) l (.int (if y < x then y else x) :: st) hp 0 0 else none) = _; rw [h8]; rfl) k
set_option maxRecDepth 100000 in
theorem j_abs {x : Int32} {r : Nat} (e : x_row (x_rws M) pc = some (p, .invokestatic r, len, 9003, b, w)) (ep : pc + 3 = pc') (h8 : Nat.ble (x_cat st) 8 = true) (k : j_J s τ M d pc' L (.int (if 0 ≤ x then x else 0 - x) :: st) σ o Φ) : j_J s τ M d pc L (.int x :: st) σ o Φ :=
  j_lib e rfl (fun l hp => by subst ep; unfold x_ins3; rw [show Nat.beq 9003 9001 = false from rfl, show Nat.beq 9003 9002 = false from rfl, show Nat.beq 9003 9003 = true from rfl]; show (bif Nat.ble (x_cat st) 8 then x_go (pc + 3) l (.int (if 0 ≤ x then x else 0 - x) :: st) hp 0 0 else none) = _; rw [h8]; rfl) k
theorem j_qlT {x : β} {f : β → α} {Φl : β → (Option Value → j_G → Prop) → Prop} (hl : j_J s τ M d pc L st σ (some x) Φl) (k : ∀ x r, some (f x) = some r → ∀ Q, Φ r Q → Φl x Q) : j_J s τ M d pc L st σ (some (j_lt x f)) Φ :=
  fun r hr Q hQ => hl x rfl Q (k x r hr Q hQ)
section JL
variable {off : Int} {t : Nat} {x y : Int64}
theorem j_ifeqL (e : x_row (x_rws M) pc = some (p, .ifCond .eq off, len, a, b, w)) (ht : (pc : Int) + off = Int.ofNat t) (ep : pc + 3 = pc') (k1 : x = y → j_J s τ M d t L st σ o Φ) (k2 : ¬ x = y → j_J s τ M d pc' L st σ o Φ) : j_J s τ M d pc L (.int (lg_cmp x y) :: st) σ o Φ :=
  j_ifeq e ht ep (fun h => k1 ((j_lc_eq x y).mp h)) (fun h => k2 (fun z => h ((j_lc_eq x y).mpr z)))
theorem j_ifneL (e : x_row (x_rws M) pc = some (p, .ifCond .ne off, len, a, b, w)) (ht : (pc : Int) + off = Int.ofNat t) (ep : pc + 3 = pc') (k1 : ¬ x = y → j_J s τ M d t L st σ o Φ) (k2 : x = y → j_J s τ M d pc' L st σ o Φ) : j_J s τ M d pc L (.int (lg_cmp x y) :: st) σ o Φ :=
  j_ifne e ht ep (fun h => k1 (fun z => h ((j_lc_eq x y).mpr z))) (fun h => k2 ((j_lc_eq x y).mp h))
theorem j_ifltL (e : x_row (x_rws M) pc = some (p, .ifCond .lt off, len, a, b, w)) (ht : (pc : Int) + off = Int.ofNat t) (ep : pc + 3 = pc') (k1 : x < y → j_J s τ M d t L st σ o Φ) (k2 : ¬ x < y → j_J s τ M d pc' L st σ o Φ) : j_J s τ M d pc L (.int (lg_cmp x y) :: st) σ o Φ :=
  j_iflt e ht ep (fun h => k1 ((j_lc_lt x y).mp h)) (fun h => k2 (fun z => h ((j_lc_lt x y).mpr z)))
theorem j_ifgeL (e : x_row (x_rws M) pc = some (p, .ifCond .ge off, len, a, b, w)) (ht : (pc : Int) + off = Int.ofNat t) (ep : pc + 3 = pc') (k1 : ¬ x < y → j_J s τ M d t L st σ o Φ) (k2 : x < y → j_J s τ M d pc' L st σ o Φ) : j_J s τ M d pc L (.int (lg_cmp x y) :: st) σ o Φ :=
  j_ifge e ht ep (fun h => k1 (fun z => h ((j_lc_lt x y).mpr z))) (fun h => k2 ((j_lc_lt x y).mp h))
theorem j_ifgtL (e : x_row (x_rws M) pc = some (p, .ifCond .gt off, len, a, b, w)) (ht : (pc : Int) + off = Int.ofNat t) (ep : pc + 3 = pc') (k1 : y < x → j_J s τ M d t L st σ o Φ) (k2 : ¬ y < x → j_J s τ M d pc' L st σ o Φ) : j_J s τ M d pc L (.int (lg_cmp x y) :: st) σ o Φ :=
  j_ifgt e ht ep (fun h => k1 ((j_lc_gt x y).mp h)) (fun h => k2 (fun z => h ((j_lc_gt x y).mpr z)))
theorem j_ifleL (e : x_row (x_rws M) pc = some (p, .ifCond .le off, len, a, b, w)) (ht : (pc : Int) + off = Int.ofNat t) (ep : pc + 3 = pc') (k1 : ¬ y < x → j_J s τ M d t L st σ o Φ) (k2 : y < x → j_J s τ M d pc' L st σ o Φ) : j_J s τ M d pc L (.int (lg_cmp x y) :: st) σ o Φ :=
  j_ifle e ht ep (fun h => k1 (fun z => h ((j_lc_gt x y).mpr z))) (fun h => k2 ((j_lc_gt x y).mp h))
end JL
/-! String constants -/
def j_len (q : Nat) : Option Int32 := if x_str ≤ q then (match x_sbyt[q - x_str]? with
  | some bs => some (Int32.ofNat bs.length)
  | none => none) else none
def j_chr (q : Nat) (i : Int32) : Option Int32 := if x_str ≤ q then (match x_sbyt[q - x_str]? with
  | some bs => if i < 0 ∨ bs.length ≤ i.toNatClampNeg then none else some (bs.getD i.toNatClampNeg 0)
  | none => none) else none
theorem j_u3l {r k z q : Nat} {l : xL} {h : xH} {bs : List Int32} (h8 : Nat.ble (x_cat st) 8 = true) (hq : Nat.ble x_str q = true) (hz : x_sbyt[q - x_str]? = some bs) : x_ins3 (.invokevirtual r) pc 9006 b l (.ref q :: st) h k z = x_go (pc + 3) l (.int (Int32.ofNat bs.length) :: st) h k z := by
  unfold x_ins3
  dsimp only
  rw [show Nat.beq 9006 9006 = true from rfl, cond_true]
  unfold x_a1
  dsimp only
  rw [h8, hq, hz]
  rfl
theorem j_u3c {r k z q : Nat} {l : xL} {h : xH} {bs : List Int32} {i : Int32} (h8 : Nat.ble (x_cat st) 8 = true) (hq : Nat.ble x_str q = true) (hz : x_sbyt[q - x_str]? = some bs) (hi : ¬ (i < 0 ∨ bs.length ≤ i.toNatClampNeg)) : x_ins3 (.invokevirtual r) pc 9007 b l (.int i :: .ref q :: st) h k z = x_go (pc + 3) l (.int (bs.getD i.toNatClampNeg 0) :: st) h k z := by
  unfold x_ins3
  dsimp only
  rw [show Nat.beq 9007 9006 = false from rfl, cond_false, show Nat.beq 9007 9007 = true from rfl, cond_true]
  unfold x_ai
  dsimp only
  rw [h8, hq, hz]
  dsimp only [Bool.and_true, cond]
  unfold x_in
  rw [if_neg hi]
  rfl
theorem j_slen {q r : Nat} {f : Int32 → Option α} (e : x_row (x_rws M) pc = some (p, .invokevirtual r, len, 9006, b, w)) (ep : pc + 3 = pc') (h8 : Nat.ble (x_cat st) 8 = true) (k : ∀ v, j_J s τ M d pc' L (.int v :: st) σ (f v) Φ) : j_J s τ M d pc L (.ref q :: st) σ (j_b1 (j_len q) f) Φ := by
  unfold j_len
  by_cases hq : x_str ≤ q
  · rw [if_pos hq]
    cases hz : x_sbyt[q - x_str]? with
    | none => exact j_none
    | some bs => exact j_lib (pc' := pc') (st' := .int (Int32.ofNat bs.length) :: st) e rfl (fun l hp => by rw [j_u3l h8 (Nat.ble_eq_true_of_le hq) hz, ep, j_go]) (k _)
  · rw [if_neg hq]; exact j_none
theorem j_schr {q r : Nat} {i : Int32} {f : Int32 → Option α} (e : x_row (x_rws M) pc = some (p, .invokevirtual r, len, 9007, b, w)) (ep : pc + 3 = pc') (h8 : Nat.ble (x_cat st) 8 = true) (k : ∀ v, j_J s τ M d pc' L (.int v :: st) σ (f v) Φ) : j_J s τ M d pc L (.int i :: .ref q :: st) σ (j_b1 (j_chr q i) f) Φ := by
  unfold j_chr
  by_cases hq : x_str ≤ q
  · rw [if_pos hq]
    cases hz : x_sbyt[q - x_str]? with
    | none => exact j_none
    | some bs =>
      dsimp only
      by_cases hi : i < 0 ∨ bs.length ≤ i.toNatClampNeg
      · rw [if_pos hi]; exact j_none
      · rw [if_neg hi]
        exact j_lib (pc' := pc') (st' := .int (bs.getD i.toNatClampNeg 0) :: st) e rfl (fun l hp => by rw [j_u3c h8 (Nat.ble_eq_true_of_le hq) hz hi, ep, j_go]) (k _)
  · rw [if_neg hq]; exact j_none
end JJ
theorem j_a0 : j_at true 0 = some (.inr (11, [3, 11, 12, 24, 30, 31, 32, 37, 39, 42, 44])) := rfl
theorem j_a1 : j_at true 1 = some (.inr (2, [0, 0, 0, 0, 0, 0, 0, 0, 0, 0, 0, 4, 5, 6, 7])) := rfl
theorem j_a2 : j_at true 2 = some (.inl (0, 6, [])) := rfl
theorem j_a3 : j_at true 3 = some (.inl (0, 6, [])) := rfl
theorem j_a4 : j_at true 4 = some (.inl (0, 20, [])) := rfl
theorem j_a5 : j_at true 5 = some (.inr (3, [0, 0, 8, 9, 10])) := rfl
theorem j_a6 : j_at true 6 = some (.inl (0, 24, [])) := rfl
theorem j_a7 : j_at true 7 = some (.inl (0, 24, [])) := rfl
theorem j_a8 : j_at true 8 = some (.inl (0, 24, [])) := rfl
theorem j_a9 : j_at true 9 = some (.inl (6, 3, [43, 51, 59])) := rfl
theorem j_a10 : j_at true 10 = some (.inr (7, [13, 0, 0, 21, 23, 0, 0, 0, 0])) := rfl
theorem j_a11 : j_at true 11 = some (.inr (2, [0, 0, 0, 0, 0, 0, 0, 0, 0, 0, 0, 14, 15, 16, 17])) := rfl
theorem j_a12 : j_at true 12 = some (.inl (0, 6, [])) := rfl
theorem j_a13 : j_at true 13 = some (.inl (0, 6, [])) := rfl
theorem j_a14 : j_at true 14 = some (.inl (0, 20, [])) := rfl
theorem j_a15 : j_at true 15 = some (.inr (3, [0, 0, 18, 19, 20])) := rfl
theorem j_a16 : j_at true 16 = some (.inl (0, 24, [])) := rfl
theorem j_a17 : j_at true 17 = some (.inl (0, 24, [])) := rfl
theorem j_a18 : j_at true 18 = some (.inl (0, 24, [])) := rfl
theorem j_a19 : j_at true 19 = some (.inr (10, [0, 22])) := rfl
theorem j_a20 : j_at true 20 = some (.inl (2, 1200, [])) := rfl
theorem j_a21 : j_at true 21 = some (.inl (0, 5, [])) := rfl
theorem j_a22 : j_at true 22 = some (.inr (4, [0, 25, 26, 27, 28, 29, 0])) := rfl
theorem j_a23 : j_at true 23 = some (.inl (0, 60, [])) := rfl
theorem j_a24 : j_at true 24 = some (.inl (0, 60, [])) := rfl
theorem j_a25 : j_at true 25 = some (.inl (0, 60, [])) := rfl
theorem j_a26 : j_at true 26 = some (.inl (0, 60, [])) := rfl
theorem j_a27 : j_at true 27 = some (.inl (0, 60, [])) := rfl
theorem j_a28 : j_at true 28 = some (.inr (6, [0, 0, 0, 0, 0])) := rfl
theorem j_a29 : j_at true 29 = some (.inr (6, [0, 0, 0, 0, 0])) := rfl
theorem j_a30 : j_at true 30 = some (.inr (9, [0, 0, 33, 34, 0, 35, 36, 0, 0])) := rfl
theorem j_a31 : j_at true 31 = some (.inl (0, 60, [])) := rfl
theorem j_a32 : j_at true 32 = some (.inl (0, 60, [])) := rfl
theorem j_a33 : j_at true 33 = some (.inl (0, 120, [])) := rfl
theorem j_a34 : j_at true 34 = some (.inl (0, 120, [])) := rfl
theorem j_a35 : j_at true 35 = some (.inr (0, [38])) := rfl
theorem j_a36 : j_at true 36 = some (.inl (0, 1452, [])) := rfl
theorem j_a37 : j_at true 37 = some (.inr (5, [40, 41])) := rfl
theorem j_a38 : j_at true 38 = some (.inl (1, 156, [])) := rfl
theorem j_a39 : j_at true 39 = some (.inl (1, 156, [])) := rfl
theorem j_a40 : j_at true 40 = some (.inr (1, [0, 0, 0, 43])) := rfl
theorem j_a41 : j_at true 41 = some (.inl (0, 60, [])) := rfl
theorem j_a42 : j_at true 42 = some (.inl (12, 4, [67, 69, 71, 73])) := rfl
theorem j_a43 : j_at true 43 = some (.inr (2, [0, 0, 0, 0, 0, 0, 0, 0, 0, 0, 0, 46, 47, 48, 49])) := rfl
theorem j_a44 : j_at true 44 = some (.inl (0, 6, [])) := rfl
theorem j_a45 : j_at true 45 = some (.inl (0, 6, [])) := rfl
theorem j_a46 : j_at true 46 = some (.inl (0, 20, [])) := rfl
theorem j_a47 : j_at true 47 = some (.inr (3, [0, 0, 50, 51, 52])) := rfl
theorem j_a48 : j_at true 48 = some (.inl (0, 24, [])) := rfl
theorem j_a49 : j_at true 49 = some (.inl (0, 24, [])) := rfl
theorem j_a50 : j_at true 50 = some (.inl (0, 24, [])) := rfl
theorem j_a51 : j_at true 51 = some (.inr (2, [0, 0, 0, 0, 0, 0, 0, 0, 0, 0, 0, 54, 55, 56, 57])) := rfl
theorem j_a52 : j_at true 52 = some (.inl (0, 6, [])) := rfl
theorem j_a53 : j_at true 53 = some (.inl (0, 6, [])) := rfl
theorem j_a54 : j_at true 54 = some (.inl (0, 20, [])) := rfl
theorem j_a55 : j_at true 55 = some (.inr (3, [0, 0, 58, 59, 60])) := rfl
theorem j_a56 : j_at true 56 = some (.inl (0, 24, [])) := rfl
theorem j_a57 : j_at true 57 = some (.inl (0, 24, [])) := rfl
theorem j_a58 : j_at true 58 = some (.inl (0, 24, [])) := rfl
theorem j_a59 : j_at true 59 = some (.inr (2, [0, 0, 0, 0, 0, 0, 0, 0, 0, 0, 0, 62, 63, 64, 65])) := rfl
theorem j_a60 : j_at true 60 = some (.inl (0, 6, [])) := rfl
theorem j_a61 : j_at true 61 = some (.inl (0, 6, [])) := rfl
theorem j_a62 : j_at true 62 = some (.inl (0, 20, [])) := rfl
theorem j_a63 : j_at true 63 = some (.inr (3, [0, 0, 66, 67, 68])) := rfl
theorem j_a64 : j_at true 64 = some (.inl (0, 24, [])) := rfl
theorem j_a65 : j_at true 65 = some (.inl (0, 24, [])) := rfl
theorem j_a66 : j_at true 66 = some (.inl (0, 24, [])) := rfl
theorem j_a67 : j_at true 67 = some (.inr (8, [0, 0, 70])) := rfl
theorem j_a68 : j_at true 68 = some (.inl (1, 60, [])) := rfl
theorem j_a69 : j_at true 69 = some (.inr (8, [0, 0, 72])) := rfl
theorem j_a70 : j_at true 70 = some (.inl (1, 60, [])) := rfl
theorem j_a71 : j_at true 71 = some (.inr (8, [0, 0, 74])) := rfl
theorem j_a72 : j_at true 72 = some (.inl (1, 60, [])) := rfl
theorem j_a73 : j_at true 73 = some (.inr (8, [0, 0, 76])) := rfl
theorem j_a74 : j_at true 74 = some (.inl (1, 60, [])) := rfl
theorem j_a75 : j_at false 75 = some (.inr (12, [0, 78, 79, 80, 81, 0, 82, 0, 0, 0, 0, 0, 0, 0, 83, 84, 85, 86, 0, 0, 0, 0, 0, 0, 0, 87, 88, 89, 90, 0, 0, 0, 0, 0, 91, 92, 93, 94, 95, 0, 0, 0, 1, 96, 97, 98, 99])) := rfl
theorem j_a76 : j_at false 76 = some (.inl (0, 116, [])) := rfl
theorem j_a77 : j_at false 77 = some (.inl (0, 348, [])) := rfl
theorem j_a78 : j_at false 78 = some (.inl (3, 3, [])) := rfl
theorem j_a79 : j_at false 79 = some (.inl (2, 1200, [])) := rfl
theorem j_a80 : j_at false 80 = some (.inl (0, 5, [])) := rfl
theorem j_a81 : j_at false 81 = some (.inl (0, 116, [])) := rfl
theorem j_a82 : j_at false 82 = some (.inl (0, 180, [])) := rfl
theorem j_a83 : j_at false 83 = some (.inl (0, 60, [])) := rfl
theorem j_a84 : j_at false 84 = some (.inl (0, 60, [])) := rfl
theorem j_a85 : j_at false 85 = some (.inl (0, 60, [])) := rfl
theorem j_a86 : j_at false 86 = some (.inl (0, 60, [])) := rfl
theorem j_a87 : j_at false 87 = some (.inl (0, 120, [])) := rfl
theorem j_a88 : j_at false 88 = some (.inl (0, 120, [])) := rfl
theorem j_a89 : j_at false 89 = some (.inl (0, 1452, [])) := rfl
theorem j_a90 : j_at false 90 = some (.inl (0, 1452, [])) := rfl
theorem j_a91 : j_at false 91 = some (.inl (1, 169, [])) := rfl
theorem j_a92 : j_at false 92 = some (.inl (1, 169, [])) := rfl
theorem j_a93 : j_at false 93 = some (.inl (0, 60, [])) := rfl
theorem j_a94 : j_at false 94 = some (.inl (0, 4, [])) := rfl
theorem j_a95 : j_at false 95 = some (.inl (0, 4, [])) := rfl
theorem j_a96 : j_at false 96 = some (.inl (1, 240, [])) := rfl
theorem j_a97 : j_at false 97 = some (.inl (1, 60, [])) := rfl
theorem t_1 : (x_mt : List xM)[1]? = some M_cX0_most := (x_g1 x_g0)
theorem t_2 : (x_mt : List xM)[2]? = some M_cX0_goOn := (x_g1 (x_g1 x_g0))
theorem t_3 : (x_mt : List xM)[3]? = some M_cX0_freeAt := (x_g1 (x_g1 (x_g1 x_g0)))
theorem t_4 : (x_mt : List xM)[4]? = some M_cX0_keep := (x_g4 x_g0)
theorem t_6 : (x_mt : List xM)[6]? = some M_cX1_judge := (x_g4 (x_g1 (x_g1 x_g0)))
theorem t_7 : (x_mt : List xM)[7]? = some M_cX1_judgeOne := (x_g4 (x_g1 (x_g1 (x_g1 x_g0))))
theorem t_9 : (x_mt : List xM)[9]? = some M_cX2_empty := (x_g4 (x_g4 (x_g1 x_g0)))
theorem t_10 : (x_mt : List xM)[10]? = some M_cX2_copy := (x_g4 (x_g4 (x_g1 (x_g1 x_g0))))
theorem t_11 : (x_mt : List xM)[11]? = some M_cX2_isTold := (x_g4 (x_g4 (x_g1 (x_g1 (x_g1 x_g0)))))
theorem t_12 : (x_mt : List xM)[12]? = some M_cX2_holes := (x_g4 (x_g4 (x_g4 x_g0)))
theorem t_13 : (x_mt : List xM)[13]? = some M_cX2_isHole := (x_g4 (x_g4 (x_g4 (x_g1 x_g0))))
theorem t_14 : (x_mt : List xM)[14]? = some M_cX2_isTick := (x_g4 (x_g4 (x_g4 (x_g1 (x_g1 x_g0)))))
theorem t_15 : (x_mt : List xM)[15]? = some M_cX2_isPlayer := (x_g4 (x_g4 (x_g4 (x_g1 (x_g1 (x_g1 x_g0))))))
theorem t_16 : (x_mt : List xM)[16]? = some M_cX2_isShut := (x_g16 x_g0)
theorem t_17 : (x_mt : List xM)[17]? = some M_cX2_openHoles := (x_g16 (x_g1 x_g0))
theorem t_18 : (x_mt : List xM)[18]? = some M_cX2_apart := (x_g16 (x_g1 (x_g1 x_g0)))
theorem t_19 : (x_mt : List xM)[19]? = some M_cX2_stepsToAll := (x_g16 (x_g1 (x_g1 (x_g1 x_g0))))
theorem t_20 : (x_mt : List xM)[20]? = some M_cX2_pathRound := (x_g16 (x_g4 x_g0))
theorem t_21 : (x_mt : List xM)[21]? = some M_cX2_stayIn := (x_g16 (x_g4 (x_g1 x_g0)))
theorem t_22 : (x_mt : List xM)[22]? = some M_cX2_hasStayFrom := (x_g16 (x_g4 (x_g1 (x_g1 x_g0))))
theorem t_23 : (x_mt : List xM)[23]? = some M_cX2_setStay := (x_g16 (x_g4 (x_g1 (x_g1 (x_g1 x_g0)))))
theorem t_24 : (x_mt : List xM)[24]? = some M_cX2_trait := (x_g16 (x_g4 (x_g4 x_g0)))
theorem t_25 : (x_mt : List xM)[25]? = some M_cX2_setTrait := (x_g16 (x_g4 (x_g4 (x_g1 x_g0))))
theorem t_26 : (x_mt : List xM)[26]? = some M_cX2_isTrait := (x_g16 (x_g4 (x_g4 (x_g1 (x_g1 x_g0)))))
theorem t_27 : (x_mt : List xM)[27]? = some M_cX2_lets := (x_g16 (x_g4 (x_g4 (x_g1 (x_g1 (x_g1 x_g0))))))
theorem t_29 : (x_mt : List xM)[29]? = some M_cX3_empty := (x_g16 (x_g4 (x_g4 (x_g4 (x_g1 x_g0)))))
theorem t_30 : (x_mt : List xM)[30]? = some M_cX3_copy := (x_g16 (x_g4 (x_g4 (x_g4 (x_g1 (x_g1 x_g0))))))
theorem t_31 : (x_mt : List xM)[31]? = some M_cX3_has := (x_g16 (x_g4 (x_g4 (x_g4 (x_g1 (x_g1 (x_g1 x_g0)))))))
theorem t_32 : (x_mt : List xM)[32]? = some M_cX3_add := (x_g16 (x_g16 x_g0))
theorem t_33 : (x_mt : List xM)[33]? = some M_cX3_exchange := (x_g16 (x_g16 (x_g1 x_g0)))
theorem t_34 : (x_mt : List xM)[34]? = some M_cX3_exchangeIn := (x_g16 (x_g16 (x_g1 (x_g1 x_g0))))
theorem t_35 : (x_mt : List xM)[35]? = some M_cX3_round := (x_g16 (x_g16 (x_g1 (x_g1 (x_g1 x_g0)))))
theorem t_36 : (x_mt : List xM)[36]? = some M_cX3_oftenAt := (x_g16 (x_g16 (x_g4 x_g0)))
theorem t_37 : (x_mt : List xM)[37]? = some M_cX3_goesSo := (x_g16 (x_g16 (x_g4 (x_g1 x_g0))))
theorem t_38 : (x_mt : List xM)[38]? = some M_cX3_neededFrom := (x_g16 (x_g16 (x_g4 (x_g1 (x_g1 x_g0)))))
theorem t_39 : (x_mt : List xM)[39]? = some M_cX3_alike := (x_g16 (x_g16 (x_g4 (x_g1 (x_g1 (x_g1 x_g0))))))
theorem t_41 : (x_mt : List xM)[41]? = some M_cX4_has := (x_g16 (x_g16 (x_g4 (x_g4 (x_g1 x_g0)))))
theorem t_42 : (x_mt : List xM)[42]? = some M_cX4_deal := (x_g16 (x_g16 (x_g4 (x_g4 (x_g1 (x_g1 x_g0))))))
theorem t_43 : (x_mt : List xM)[43]? = some M_cX4_draw := (x_g16 (x_g16 (x_g4 (x_g4 (x_g1 (x_g1 (x_g1 x_g0)))))))
theorem t_44 : (x_mt : List xM)[44]? = some M_cX4_nthLet := (x_g16 (x_g16 (x_g4 (x_g4 (x_g4 x_g0)))))
theorem t_45 : (x_mt : List xM)[45]? = some M_cX4_begin := (x_g16 (x_g16 (x_g4 (x_g4 (x_g4 (x_g1 x_g0))))))
theorem t_46 : (x_mt : List xM)[46]? = some M_cX4_hasRoom := (x_g16 (x_g16 (x_g4 (x_g4 (x_g4 (x_g1 (x_g1 x_g0)))))))
theorem t_47 : (x_mt : List xM)[47]? = some M_cX4_add := (x_g16 (x_g16 (x_g4 (x_g4 (x_g4 (x_g1 (x_g1 (x_g1 x_g0))))))))
theorem t_48 : (x_mt : List xM)[48]? = some M_cX4_upIn := (x_g16 (x_g16 (x_g16 x_g0)))
theorem t_49 : (x_mt : List xM)[49]? = some M_cX4_holesOf := (x_g16 (x_g16 (x_g16 (x_g1 x_g0))))
theorem t_50 : (x_mt : List xM)[50]? = some M_cX4_goodHoles := (x_g16 (x_g16 (x_g16 (x_g1 (x_g1 x_g0)))))
theorem t_51 : (x_mt : List xM)[51]? = some M_cX4_goodIn := (x_g16 (x_g16 (x_g16 (x_g1 (x_g1 (x_g1 x_g0))))))
theorem t_52 : (x_mt : List xM)[52]? = some M_cX4_strike := (x_g16 (x_g16 (x_g16 (x_g4 x_g0))))
theorem t_54 : (x_mt : List xM)[54]? = some M_cX5_begin := (x_g16 (x_g16 (x_g16 (x_g4 (x_g1 (x_g1 x_g0))))))
theorem t_55 : (x_mt : List xM)[55]? = some M_cX5_grow := (x_g16 (x_g16 (x_g16 (x_g4 (x_g1 (x_g1 (x_g1 x_g0)))))))
theorem t_56 : (x_mt : List xM)[56]? = some M_cX5_growFrom := (x_g16 (x_g16 (x_g16 (x_g4 (x_g4 x_g0)))))
theorem t_57 : (x_mt : List xM)[57]? = some M_cX5_at := (x_g16 (x_g16 (x_g16 (x_g4 (x_g4 (x_g1 x_g0))))))
theorem t_58 : (x_mt : List xM)[58]? = some M_cX5_waysTo := (x_g16 (x_g16 (x_g16 (x_g4 (x_g4 (x_g1 (x_g1 x_g0)))))))
theorem t_59 : (x_mt : List xM)[59]? = some M_cX5_add := (x_g16 (x_g16 (x_g16 (x_g4 (x_g4 (x_g1 (x_g1 (x_g1 x_g0))))))))
theorem t_60 : (x_mt : List xM)[60]? = some M_cX5_rowsTo := (x_g16 (x_g16 (x_g16 (x_g4 (x_g4 (x_g4 x_g0))))))
theorem t_61 : (x_mt : List xM)[61]? = some M_cX5_rowsInAll := (x_g16 (x_g16 (x_g16 (x_g4 (x_g4 (x_g4 (x_g1 x_g0)))))))
theorem t_62 : (x_mt : List xM)[62]? = some M_cX5_isEven := (x_g16 (x_g16 (x_g16 (x_g4 (x_g4 (x_g4 (x_g1 (x_g1 x_g0))))))))
theorem t_64 : (x_mt : List xM)[64]? = some M_cX6_take := (x_g16 (x_g16 (x_g16 (x_g16 x_g0))))
theorem t_65 : (x_mt : List xM)[65]? = some M_cX6_paceIn := (x_g16 (x_g16 (x_g16 (x_g16 (x_g1 x_g0)))))
theorem t_66 : (x_mt : List xM)[66]? = some M_cX6_awareOf := (x_g16 (x_g16 (x_g16 (x_g16 (x_g1 (x_g1 x_g0))))))
theorem t_67 : (x_mt : List xM)[67]? = some M_cX6_there := (x_g16 (x_g16 (x_g16 (x_g16 (x_g1 (x_g1 (x_g1 x_g0)))))))
theorem t_68 : (x_mt : List xM)[68]? = some M_cX6_reachFrom := (x_g16 (x_g16 (x_g16 (x_g16 (x_g4 x_g0)))))
theorem t_70 : (x_mt : List xM)[70]? = some M_cX7_readAll := (x_g16 (x_g16 (x_g16 (x_g16 (x_g4 (x_g1 (x_g1 x_g0)))))))
theorem t_71 : (x_mt : List xM)[71]? = some M_cX7_shapeOf := (x_g16 (x_g16 (x_g16 (x_g16 (x_g4 (x_g1 (x_g1 (x_g1 x_g0))))))))
theorem t_72 : (x_mt : List xM)[72]? = some M_cX7_readLine := (x_g16 (x_g16 (x_g16 (x_g16 (x_g4 (x_g4 x_g0))))))
theorem t_73 : (x_mt : List xM)[73]? = some M_cX7_blame := (x_g16 (x_g16 (x_g16 (x_g16 (x_g4 (x_g4 (x_g1 x_g0)))))))
theorem t_74 : (x_mt : List xM)[74]? = some M_cX7_behindBlank := (x_g16 (x_g16 (x_g16 (x_g16 (x_g4 (x_g4 (x_g1 (x_g1 x_g0))))))))
theorem t_75 : (x_mt : List xM)[75]? = some M_cX7_kindOfLine := (x_g16 (x_g16 (x_g16 (x_g16 (x_g4 (x_g4 (x_g1 (x_g1 (x_g1 x_g0)))))))))
theorem t_76 : (x_mt : List xM)[76]? = some M_cX7_standsAt := (x_g16 (x_g16 (x_g16 (x_g16 (x_g4 (x_g4 (x_g4 x_g0)))))))
theorem t_77 : (x_mt : List xM)[77]? = some M_cX7_isSpelled := (x_g16 (x_g16 (x_g16 (x_g16 (x_g4 (x_g4 (x_g4 (x_g1 x_g0))))))))
theorem t_78 : (x_mt : List xM)[78]? = some M_cX7_isFull := (x_g16 (x_g16 (x_g16 (x_g16 (x_g4 (x_g4 (x_g4 (x_g1 (x_g1 x_g0)))))))))
theorem t_79 : (x_mt : List xM)[79]? = some M_cX7_judge := (x_g16 (x_g16 (x_g16 (x_g16 (x_g4 (x_g4 (x_g4 (x_g1 (x_g1 (x_g1 x_g0))))))))))
theorem t_80 : (x_mt : List xM)[80]? = some M_cX7_within := (x_g16 (x_g16 (x_g16 (x_g16 (x_g16 x_g0)))))
theorem t_81 : (x_mt : List xM)[81]? = some M_cX7_fitsBoard := (x_g16 (x_g16 (x_g16 (x_g16 (x_g16 (x_g1 x_g0))))))
theorem t_82 : (x_mt : List xM)[82]? = some M_cX7_judgeFrom := (x_g16 (x_g16 (x_g16 (x_g16 (x_g16 (x_g1 (x_g1 x_g0)))))))
theorem t_83 : (x_mt : List xM)[83]? = some M_cX7_isOpen := (x_g16 (x_g16 (x_g16 (x_g16 (x_g16 (x_g1 (x_g1 (x_g1 x_g0))))))))
theorem t_84 : (x_mt : List xM)[84]? = some M_cX7_apply := (x_g16 (x_g16 (x_g16 (x_g16 (x_g16 (x_g4 x_g0))))))
theorem t_85 : (x_mt : List xM)[85]? = some M_cX7_addPlayer := (x_g16 (x_g16 (x_g16 (x_g16 (x_g16 (x_g4 (x_g1 x_g0)))))))
theorem t_86 : (x_mt : List xM)[86]? = some M_cX7_step := (x_g16 (x_g16 (x_g16 (x_g16 (x_g16 (x_g4 (x_g1 (x_g1 x_g0))))))))
theorem t_87 : (x_mt : List xM)[87]? = some M_cX7_isBlank := (x_g16 (x_g16 (x_g16 (x_g16 (x_g16 (x_g4 (x_g1 (x_g1 (x_g1 x_g0)))))))))
theorem t_88 : (x_mt : List xM)[88]? = some M_cX7_isLetter := (x_g16 (x_g16 (x_g16 (x_g16 (x_g16 (x_g4 (x_g4 x_g0)))))))
theorem t_89 : (x_mt : List xM)[89]? = some M_cX7_isDigit := (x_g16 (x_g16 (x_g16 (x_g16 (x_g16 (x_g4 (x_g4 (x_g1 x_g0))))))))
theorem t_91 : (x_mt : List xM)[91]? = some M_cX8_isMade := (x_g16 (x_g16 (x_g16 (x_g16 (x_g16 (x_g4 (x_g4 (x_g1 (x_g1 (x_g1 x_g0))))))))))
theorem t_92 : (x_mt : List xM)[92]? = some M_cX8_make := (x_g16 (x_g16 (x_g16 (x_g16 (x_g16 (x_g4 (x_g4 (x_g4 x_g0))))))))
theorem t_93 : (x_mt : List xM)[93]? = some M_cX8_put := (x_g16 (x_g16 (x_g16 (x_g16 (x_g16 (x_g4 (x_g4 (x_g4 (x_g1 x_g0)))))))))
theorem t_94 : (x_mt : List xM)[94]? = some M_cX8_hasPart := (x_g16 (x_g16 (x_g16 (x_g16 (x_g16 (x_g4 (x_g4 (x_g4 (x_g1 (x_g1 x_g0))))))))))
theorem t_95 : (x_mt : List xM)[95]? = some M_cX8_isBelow := (x_g16 (x_g16 (x_g16 (x_g16 (x_g16 (x_g4 (x_g4 (x_g4 (x_g1 (x_g1 (x_g1 x_g0)))))))))))
theorem t_96 : (x_mt : List xM)[96]? = some M_cX8_isPeriod := (x_g16 (x_g16 (x_g16 (x_g16 (x_g16 (x_g16 x_g0))))))
theorem t_97 : (x_mt : List xM)[97]? = some M_cX8_leastPeriod := (x_g16 (x_g16 (x_g16 (x_g16 (x_g16 (x_g16 (x_g1 x_g0)))))))
theorem t_98 : (x_mt : List xM)[98]? = some M_cX8_periodsInAll := (x_g16 (x_g16 (x_g16 (x_g16 (x_g16 (x_g16 (x_g1 (x_g1 x_g0))))))))
theorem t_100 : (x_mt : List xM)[100]? = some M_cX9_good := (x_g16 (x_g16 (x_g16 (x_g16 (x_g16 (x_g16 (x_g4 x_g0)))))))
theorem t_101 : (x_mt : List xM)[101]? = some M_cX9_rashPoints := (x_g16 (x_g16 (x_g16 (x_g16 (x_g16 (x_g16 (x_g4 (x_g1 x_g0))))))))
theorem t_102 : (x_mt : List xM)[102]? = some M_cX9_begin := (x_g16 (x_g16 (x_g16 (x_g16 (x_g16 (x_g16 (x_g4 (x_g1 (x_g1 x_g0)))))))))
theorem t_103 : (x_mt : List xM)[103]? = some M_cX9_goFor := (x_g16 (x_g16 (x_g16 (x_g16 (x_g16 (x_g16 (x_g4 (x_g1 (x_g1 (x_g1 x_g0))))))))))
theorem t_104 : (x_mt : List xM)[104]? = some M_cX9_among := (x_g16 (x_g16 (x_g16 (x_g16 (x_g16 (x_g16 (x_g4 (x_g4 x_g0))))))))
theorem t_105 : (x_mt : List xM)[105]? = some M_cX9_strike := (x_g16 (x_g16 (x_g16 (x_g16 (x_g16 (x_g16 (x_g4 (x_g4 (x_g1 x_g0)))))))))
theorem t_106 : (x_mt : List xM)[106]? = some M_cX9_holeBehind := (x_g16 (x_g16 (x_g16 (x_g16 (x_g16 (x_g16 (x_g4 (x_g4 (x_g1 (x_g1 x_g0))))))))))
theorem t_107 : (x_mt : List xM)[107]? = some M_cX9_firstMissed := (x_g16 (x_g16 (x_g16 (x_g16 (x_g16 (x_g16 (x_g4 (x_g4 (x_g1 (x_g1 (x_g1 x_g0)))))))))))
theorem t_109 : (x_mt : List xM)[109]? = some M_cX10_put := (x_g16 (x_g16 (x_g16 (x_g16 (x_g16 (x_g16 (x_g4 (x_g4 (x_g4 (x_g1 x_g0))))))))))
theorem t_110 : (x_mt : List xM)[110]? = some M_cX10_at := (x_g16 (x_g16 (x_g16 (x_g16 (x_g16 (x_g16 (x_g4 (x_g4 (x_g4 (x_g1 (x_g1 x_g0)))))))))))
theorem t_112 : (x_mt : List xM)[112]? = some M_cX11_feed := (x_g16 (x_g16 (x_g16 (x_g16 (x_g16 (x_g16 (x_g16 x_g0)))))))
theorem t_113 : (x_mt : List xM)[113]? = some M_cX11_end := (x_g16 (x_g16 (x_g16 (x_g16 (x_g16 (x_g16 (x_g16 (x_g1 x_g0))))))))
theorem t_114 : (x_mt : List xM)[114]? = some M_cX11_board := (x_g16 (x_g16 (x_g16 (x_g16 (x_g16 (x_g16 (x_g16 (x_g1 (x_g1 x_g0)))))))))
theorem t_115 : (x_mt : List xM)[115]? = some M_cX11_fault := (x_g16 (x_g16 (x_g16 (x_g16 (x_g16 (x_g16 (x_g16 (x_g1 (x_g1 (x_g1 x_g0))))))))))
theorem t_116 : (x_mt : List xM)[116]? = some M_cX11_drum := (x_g16 (x_g16 (x_g16 (x_g16 (x_g16 (x_g16 (x_g16 (x_g4 x_g0))))))))
theorem t_117 : (x_mt : List xM)[117]? = some M_cX11_player := (x_g16 (x_g16 (x_g16 (x_g16 (x_g16 (x_g16 (x_g16 (x_g4 (x_g1 x_g0)))))))))
theorem t_118 : (x_mt : List xM)[118]? = some M_cX11_stay := (x_g16 (x_g16 (x_g16 (x_g16 (x_g16 (x_g16 (x_g16 (x_g4 (x_g1 (x_g1 x_g0))))))))))
theorem t_119 : (x_mt : List xM)[119]? = some M_cX11_count := (x_g16 (x_g16 (x_g16 (x_g16 (x_g16 (x_g16 (x_g16 (x_g4 (x_g1 (x_g1 (x_g1 x_g0)))))))))))
theorem t_120 : (x_mt : List xM)[120]? = some M_cX11_comings := (x_g16 (x_g16 (x_g16 (x_g16 (x_g16 (x_g16 (x_g16 (x_g4 (x_g4 x_g0)))))))))
theorem t_121 : (x_mt : List xM)[121]? = some M_cX11_comes := (x_g16 (x_g16 (x_g16 (x_g16 (x_g16 (x_g16 (x_g16 (x_g4 (x_g4 (x_g1 x_g0))))))))))
theorem t_122 : (x_mt : List xM)[122]? = some M_cX11_up := (x_g16 (x_g16 (x_g16 (x_g16 (x_g16 (x_g16 (x_g16 (x_g4 (x_g4 (x_g1 (x_g1 x_g0)))))))))))
theorem t_123 : (x_mt : List xM)[123]? = some M_cX11_calm := (x_g16 (x_g16 (x_g16 (x_g16 (x_g16 (x_g16 (x_g16 (x_g4 (x_g4 (x_g1 (x_g1 (x_g1 x_g0))))))))))))
theorem t_124 : (x_mt : List xM)[124]? = some M_cX11_steps := (x_g16 (x_g16 (x_g16 (x_g16 (x_g16 (x_g16 (x_g16 (x_g4 (x_g4 (x_g4 x_g0))))))))))
theorem t_125 : (x_mt : List xM)[125]? = some M_cX11_pace := (x_g16 (x_g16 (x_g16 (x_g16 (x_g16 (x_g16 (x_g16 (x_g4 (x_g4 (x_g4 (x_g1 x_g0)))))))))))
theorem t_126 : (x_mt : List xM)[126]? = some M_cX11_aware := (x_g16 (x_g16 (x_g16 (x_g16 (x_g16 (x_g16 (x_g16 (x_g4 (x_g4 (x_g4 (x_g1 (x_g1 x_g0))))))))))))
theorem t_127 : (x_mt : List xM)[127]? = some M_cX11_hits := (x_g16 (x_g16 (x_g16 (x_g16 (x_g16 (x_g16 (x_g16 (x_g4 (x_g4 (x_g4 (x_g1 (x_g1 (x_g1 x_g0)))))))))))))
theorem t_128 : (x_mt : List xM)[128]? = some M_cX11_hit := (x_g16 (x_g16 (x_g16 (x_g16 (x_g16 (x_g16 (x_g16 (x_g16 x_g0))))))))
theorem t_129 : (x_mt : List xM)[129]? = some M_cX11_twice := (x_g16 (x_g16 (x_g16 (x_g16 (x_g16 (x_g16 (x_g16 (x_g16 (x_g1 x_g0)))))))))
theorem t_130 : (x_mt : List xM)[130]? = some M_cX11_where := (x_g16 (x_g16 (x_g16 (x_g16 (x_g16 (x_g16 (x_g16 (x_g16 (x_g1 (x_g1 x_g0))))))))))
theorem t_131 : (x_mt : List xM)[131]? = some M_cX11_missed := (x_g16 (x_g16 (x_g16 (x_g16 (x_g16 (x_g16 (x_g16 (x_g16 (x_g1 (x_g1 (x_g1 x_g0)))))))))))
theorem t_132 : (x_mt : List xM)[132]? = some M_cX11_walked := (x_g16 (x_g16 (x_g16 (x_g16 (x_g16 (x_g16 (x_g16 (x_g16 (x_g4 x_g0)))))))))
theorem t_133 : (x_mt : List xM)[133]? = some M_cX11_best := (x_g16 (x_g16 (x_g16 (x_g16 (x_g16 (x_g16 (x_g16 (x_g16 (x_g4 (x_g1 x_g0))))))))))
theorem t_134 : (x_mt : List xM)[134]? = some M_cX11_ahead := (x_g16 (x_g16 (x_g16 (x_g16 (x_g16 (x_g16 (x_g16 (x_g16 (x_g4 (x_g1 (x_g1 x_g0)))))))))))
theorem t_135 : (x_mt : List xM)[135]? = some M_cX11_learns := (x_g16 (x_g16 (x_g16 (x_g16 (x_g16 (x_g16 (x_g16 (x_g16 (x_g4 (x_g1 (x_g1 (x_g1 x_g0))))))))))))
theorem t_136 : (x_mt : List xM)[136]? = some M_cX11_enough := (x_g16 (x_g16 (x_g16 (x_g16 (x_g16 (x_g16 (x_g16 (x_g16 (x_g4 (x_g4 x_g0))))))))))
theorem t_137 : (x_mt : List xM)[137]? = some M_cX11_waits := (x_g16 (x_g16 (x_g16 (x_g16 (x_g16 (x_g16 (x_g16 (x_g16 (x_g4 (x_g4 (x_g1 x_g0)))))))))))
theorem t_138 : (x_mt : List xM)[138]? = some M_cX11_slack := (x_g16 (x_g16 (x_g16 (x_g16 (x_g16 (x_g16 (x_g16 (x_g16 (x_g4 (x_g4 (x_g1 (x_g1 x_g0))))))))))))
theorem t_139 : (x_mt : List xM)[139]? = some M_cX11_lucky := (x_g16 (x_g16 (x_g16 (x_g16 (x_g16 (x_g16 (x_g16 (x_g16 (x_g4 (x_g4 (x_g1 (x_g1 (x_g1 x_g0)))))))))))))
theorem t_140 : (x_mt : List xM)[140]? = some M_cX11_mean := (x_g16 (x_g16 (x_g16 (x_g16 (x_g16 (x_g16 (x_g16 (x_g16 (x_g4 (x_g4 (x_g4 x_g0)))))))))))
theorem t_141 : (x_mt : List xM)[141]? = some M_cX11_middle := (x_g16 (x_g16 (x_g16 (x_g16 (x_g16 (x_g16 (x_g16 (x_g16 (x_g4 (x_g4 (x_g4 (x_g1 x_g0))))))))))))
theorem t_142 : (x_mt : List xM)[142]? = some M_cX11_reach := (x_g16 (x_g16 (x_g16 (x_g16 (x_g16 (x_g16 (x_g16 (x_g16 (x_g4 (x_g4 (x_g4 (x_g1 (x_g1 x_g0)))))))))))))
theorem t_143 : (x_mt : List xM)[143]? = some M_cX11_post := (x_g16 (x_g16 (x_g16 (x_g16 (x_g16 (x_g16 (x_g16 (x_g16 (x_g4 (x_g4 (x_g4 (x_g1 (x_g1 (x_g1 x_g0))))))))))))))
theorem t_144 : (x_mt : List xM)[144]? = some M_cX11_rows := (x_g16 (x_g16 (x_g16 (x_g16 (x_g16 (x_g16 (x_g16 (x_g16 (x_g16 x_g0)))))))))
theorem t_145 : (x_mt : List xM)[145]? = some M_cX11_ends := (x_g16 (x_g16 (x_g16 (x_g16 (x_g16 (x_g16 (x_g16 (x_g16 (x_g16 (x_g1 x_g0))))))))))
theorem t_146 : (x_mt : List xM)[146]? = some M_cX11_fair := (x_g16 (x_g16 (x_g16 (x_g16 (x_g16 (x_g16 (x_g16 (x_g16 (x_g16 (x_g1 (x_g1 x_g0)))))))))))
theorem t_147 : (x_mt : List xM)[147]? = some M_cX11_breaks := (x_g16 (x_g16 (x_g16 (x_g16 (x_g16 (x_g16 (x_g16 (x_g16 (x_g16 (x_g1 (x_g1 (x_g1 x_g0))))))))))))
theorem t_148 : (x_mt : List xM)[148]? = some M_cX11_period := (x_g16 (x_g16 (x_g16 (x_g16 (x_g16 (x_g16 (x_g16 (x_g16 (x_g16 (x_g4 x_g0))))))))))
theorem t_149 : (x_mt : List xM)[149]? = some M_cX11_periods := (x_g16 (x_g16 (x_g16 (x_g16 (x_g16 (x_g16 (x_g16 (x_g16 (x_g16 (x_g4 (x_g1 x_g0)))))))))))
theorem t_150 : (x_mt : List xM)[150]? = some M_cX11_luck := (x_g16 (x_g16 (x_g16 (x_g16 (x_g16 (x_g16 (x_g16 (x_g16 (x_g16 (x_g4 (x_g1 (x_g1 x_g0))))))))))))
theorem t_151 : (x_mt : List xM)[151]? = some M_cX11_fits := (x_g16 (x_g16 (x_g16 (x_g16 (x_g16 (x_g16 (x_g16 (x_g16 (x_g16 (x_g4 (x_g1 (x_g1 (x_g1 x_g0)))))))))))))
theorem t_152 : (x_mt : List xM)[152]? = some M_cX11_place := (x_g16 (x_g16 (x_g16 (x_g16 (x_g16 (x_g16 (x_g16 (x_g16 (x_g16 (x_g4 (x_g4 x_g0)))))))))))
theorem t_153 : (x_mt : List xM)[153]? = some M_cX11_next := (x_g16 (x_g16 (x_g16 (x_g16 (x_g16 (x_g16 (x_g16 (x_g16 (x_g16 (x_g4 (x_g4 (x_g1 x_g0))))))))))))
theorem t_154 : (x_mt : List xM)[154]? = some M_cX11_needed := (x_g16 (x_g16 (x_g16 (x_g16 (x_g16 (x_g16 (x_g16 (x_g16 (x_g16 (x_g4 (x_g4 (x_g1 (x_g1 x_g0)))))))))))))
theorem t_155 : (x_mt : List xM)[155]? = some M_cX11_known := (x_g16 (x_g16 (x_g16 (x_g16 (x_g16 (x_g16 (x_g16 (x_g16 (x_g16 (x_g4 (x_g4 (x_g1 (x_g1 (x_g1 x_g0))))))))))))))
theorem t_156 : (x_mt : List xM)[156]? = some M_cX11_rash := (x_g16 (x_g16 (x_g16 (x_g16 (x_g16 (x_g16 (x_g16 (x_g16 (x_g16 (x_g4 (x_g4 (x_g4 x_g0))))))))))))
theorem t_157 : (x_mt : List xM)[157]? = some M_cX11_look := (x_g16 (x_g16 (x_g16 (x_g16 (x_g16 (x_g16 (x_g16 (x_g16 (x_g16 (x_g4 (x_g4 (x_g4 (x_g1 x_g0)))))))))))))
theorem t_158 : (x_mt : List xM)[158]? = some M_cX11_line := (x_g16 (x_g16 (x_g16 (x_g16 (x_g16 (x_g16 (x_g16 (x_g16 (x_g16 (x_g4 (x_g4 (x_g4 (x_g1 (x_g1 x_g0))))))))))))))
theorem t_159 : (x_mt : List xM)[159]? = some M_cX11_two := (x_g16 (x_g16 (x_g16 (x_g16 (x_g16 (x_g16 (x_g16 (x_g16 (x_g16 (x_g4 (x_g4 (x_g4 (x_g1 (x_g1 (x_g1 x_g0)))))))))))))))
theorem t_160 : (x_mt : List xM)[160]? = some M_cX11_tickets := (x_g16 (x_g16 (x_g16 (x_g16 (x_g16 (x_g16 (x_g16 (x_g16 (x_g16 (x_g16 x_g0))))))))))
theorem t_161 : (x_mt : List xM)[161]? = some M_cX11_prize := (x_g16 (x_g16 (x_g16 (x_g16 (x_g16 (x_g16 (x_g16 (x_g16 (x_g16 (x_g16 (x_g1 x_g0)))))))))))
theorem t_162 : (x_mt : List xM)[162]? = some M_cX11_counted := (x_g16 (x_g16 (x_g16 (x_g16 (x_g16 (x_g16 (x_g16 (x_g16 (x_g16 (x_g16 (x_g1 (x_g1 x_g0))))))))))))
theorem t_163 : (x_mt : List xM)[163]? = some M_cX11_scored := (x_g16 (x_g16 (x_g16 (x_g16 (x_g16 (x_g16 (x_g16 (x_g16 (x_g16 (x_g16 (x_g1 (x_g1 (x_g1 x_g0)))))))))))))
theorem t_164 : (x_mt : List xM)[164]? = some M_cX11_early := (x_g16 (x_g16 (x_g16 (x_g16 (x_g16 (x_g16 (x_g16 (x_g16 (x_g16 (x_g16 (x_g4 x_g0)))))))))))
theorem t_165 : (x_mt : List xM)[165]? = some M_cX11_often := (x_g16 (x_g16 (x_g16 (x_g16 (x_g16 (x_g16 (x_g16 (x_g16 (x_g16 (x_g16 (x_g4 (x_g1 x_g0))))))))))))
theorem t_166 : (x_mt : List xM)[166]? = some M_cX11_balance := (x_g16 (x_g16 (x_g16 (x_g16 (x_g16 (x_g16 (x_g16 (x_g16 (x_g16 (x_g16 (x_g4 (x_g1 (x_g1 x_g0)))))))))))))
theorem t_167 : (x_mt : List xM)[167]? = some M_cX11_path := (x_g16 (x_g16 (x_g16 (x_g16 (x_g16 (x_g16 (x_g16 (x_g16 (x_g16 (x_g16 (x_g4 (x_g1 (x_g1 (x_g1 x_g0))))))))))))))
theorem t_168 : (x_mt : List xM)[168]? = some M_cX11_better := (x_g16 (x_g16 (x_g16 (x_g16 (x_g16 (x_g16 (x_g16 (x_g16 (x_g16 (x_g16 (x_g4 (x_g4 x_g0))))))))))))
theorem t_169 : (x_mt : List xM)[169]? = some M_cX11_swap := (x_g16 (x_g16 (x_g16 (x_g16 (x_g16 (x_g16 (x_g16 (x_g16 (x_g16 (x_g16 (x_g4 (x_g4 (x_g1 x_g0)))))))))))))
theorem t_170 : (x_mt : List xM)[170]? = some M_cX11_paint := (x_g16 (x_g16 (x_g16 (x_g16 (x_g16 (x_g16 (x_g16 (x_g16 (x_g16 (x_g16 (x_g4 (x_g4 (x_g1 (x_g1 x_g0))))))))))))))
theorem t_171 : (x_mt : List xM)[171]? = some M_cX11_turn := (x_g16 (x_g16 (x_g16 (x_g16 (x_g16 (x_g16 (x_g16 (x_g16 (x_g16 (x_g16 (x_g4 (x_g4 (x_g1 (x_g1 (x_g1 x_g0)))))))))))))))
theorem t_172 : (x_mt : List xM)[172]? = some M_cX11_shut := (x_g16 (x_g16 (x_g16 (x_g16 (x_g16 (x_g16 (x_g16 (x_g16 (x_g16 (x_g16 (x_g4 (x_g4 (x_g4 x_g0)))))))))))))
theorem t_173 : (x_mt : List xM)[173]? = some M_cX11_train := (x_g16 (x_g16 (x_g16 (x_g16 (x_g16 (x_g16 (x_g16 (x_g16 (x_g16 (x_g16 (x_g4 (x_g4 (x_g4 (x_g1 x_g0))))))))))))))
theorem t_174 : (x_mt : List xM)[174]? = some M_cX11_drawn := (x_g16 (x_g16 (x_g16 (x_g16 (x_g16 (x_g16 (x_g16 (x_g16 (x_g16 (x_g16 (x_g4 (x_g4 (x_g4 (x_g1 (x_g1 x_g0)))))))))))))))
theorem t_175 : (x_mt : List xM)[175]? = some M_cX11_night := (x_g16 (x_g16 (x_g16 (x_g16 (x_g16 (x_g16 (x_g16 (x_g16 (x_g16 (x_g16 (x_g4 (x_g4 (x_g4 (x_g1 (x_g1 (x_g1 x_g0))))))))))))))))
theorem t_176 : (x_mt : List xM)[176]? = some M_cX11_years := (x_g16 (x_g16 (x_g16 (x_g16 (x_g16 (x_g16 (x_g16 (x_g16 (x_g16 (x_g16 (x_g16 x_g0)))))))))))
theorem t_177 : (x_mt : List xM)[177]? = some M_cX11_image := (x_g16 (x_g16 (x_g16 (x_g16 (x_g16 (x_g16 (x_g16 (x_g16 (x_g16 (x_g16 (x_g16 (x_g1 x_g0))))))))))))
theorem t_178 : (x_mt : List xM)[178]? = some M_cX11_back := (x_g16 (x_g16 (x_g16 (x_g16 (x_g16 (x_g16 (x_g16 (x_g16 (x_g16 (x_g16 (x_g16 (x_g1 (x_g1 x_g0)))))))))))))
theorem t_179 : (x_mt : List xM)[179]? = some M_cX11_row := (x_g16 (x_g16 (x_g16 (x_g16 (x_g16 (x_g16 (x_g16 (x_g16 (x_g16 (x_g16 (x_g16 (x_g1 (x_g1 (x_g1 x_g0))))))))))))))
theorem t_180 : (x_mt : List xM)[180]? = some M_cX11_write := (x_g16 (x_g16 (x_g16 (x_g16 (x_g16 (x_g16 (x_g16 (x_g16 (x_g16 (x_g16 (x_g16 (x_g4 x_g0))))))))))))
theorem t_181 : (x_mt : List xM)[181]? = some M_cX11_paste := (x_g16 (x_g16 (x_g16 (x_g16 (x_g16 (x_g16 (x_g16 (x_g16 (x_g16 (x_g16 (x_g16 (x_g4 (x_g1 x_g0)))))))))))))
theorem t_182 : (x_mt : List xM)[182]? = some M_cX11_isSlot := (x_g16 (x_g16 (x_g16 (x_g16 (x_g16 (x_g16 (x_g16 (x_g16 (x_g16 (x_g16 (x_g16 (x_g4 (x_g1 (x_g1 x_g0))))))))))))))
theorem t_183 : (x_mt : List xM)[183]? = some M_cX11_isLaw := (x_g16 (x_g16 (x_g16 (x_g16 (x_g16 (x_g16 (x_g16 (x_g16 (x_g16 (x_g16 (x_g16 (x_g4 (x_g1 (x_g1 (x_g1 x_g0)))))))))))))))
theorem t_184 : (x_mt : List xM)[184]? = some M_cX11_isSeed := (x_g16 (x_g16 (x_g16 (x_g16 (x_g16 (x_g16 (x_g16 (x_g16 (x_g16 (x_g16 (x_g16 (x_g4 (x_g4 x_g0)))))))))))))
theorem t_185 : (x_mt : List xM)[185]? = some M_cX11_rowsKept := (x_g16 (x_g16 (x_g16 (x_g16 (x_g16 (x_g16 (x_g16 (x_g16 (x_g16 (x_g16 (x_g16 (x_g4 (x_g4 (x_g1 x_g0))))))))))))))
theorem t_186 : (x_mt : List xM)[186]? = some M_cX11_makeReady := (x_g16 (x_g16 (x_g16 (x_g16 (x_g16 (x_g16 (x_g16 (x_g16 (x_g16 (x_g16 (x_g16 (x_g4 (x_g4 (x_g1 (x_g1 x_g0)))))))))))))))
theorem t_187 : (x_mt : List xM)[187]? = some M_cX11_runOf := (x_g16 (x_g16 (x_g16 (x_g16 (x_g16 (x_g16 (x_g16 (x_g16 (x_g16 (x_g16 (x_g16 (x_g4 (x_g4 (x_g1 (x_g1 (x_g1 x_g0))))))))))))))))
theorem t_188 : (x_mt : List xM)[188]? = some M_cX11_hitsKnowing := (x_g16 (x_g16 (x_g16 (x_g16 (x_g16 (x_g16 (x_g16 (x_g16 (x_g16 (x_g16 (x_g16 (x_g4 (x_g4 (x_g4 x_g0))))))))))))))
theorem t_189 : (x_mt : List xM)[189]? = some M_cX11_hitsLagging := (x_g16 (x_g16 (x_g16 (x_g16 (x_g16 (x_g16 (x_g16 (x_g16 (x_g16 (x_g16 (x_g16 (x_g4 (x_g4 (x_g4 (x_g1 x_g0)))))))))))))))
theorem t_190 : (x_mt : List xM)[190]? = some M_cX11_lookPoints := (x_g16 (x_g16 (x_g16 (x_g16 (x_g16 (x_g16 (x_g16 (x_g16 (x_g16 (x_g16 (x_g16 (x_g4 (x_g4 (x_g4 (x_g1 (x_g1 x_g0))))))))))))))))
theorem t_191 : (x_mt : List xM)[191]? = some M_cX11_ticketsOfRun := (x_g16 (x_g16 (x_g16 (x_g16 (x_g16 (x_g16 (x_g16 (x_g16 (x_g16 (x_g16 (x_g16 (x_g4 (x_g4 (x_g4 (x_g1 (x_g1 (x_g1 x_g0)))))))))))))))))
theorem t_192 : (x_mt : List xM)[192]? = some M_cX11_countLots := (x_g16 (x_g16 (x_g16 (x_g16 (x_g16 (x_g16 (x_g16 (x_g16 (x_g16 (x_g16 (x_g16 (x_g16 x_g0))))))))))))
theorem t_193 : (x_mt : List xM)[193]? = some M_cX11_whyUnheard := (x_g16 (x_g16 (x_g16 (x_g16 (x_g16 (x_g16 (x_g16 (x_g16 (x_g16 (x_g16 (x_g16 (x_g16 (x_g1 x_g0)))))))))))))
theorem t_194 : (x_mt : List xM)[194]? = some M_cX11_whyNoBlows := (x_g16 (x_g16 (x_g16 (x_g16 (x_g16 (x_g16 (x_g16 (x_g16 (x_g16 (x_g16 (x_g16 (x_g16 (x_g1 (x_g1 x_g0))))))))))))))
theorem t_196 : (x_mt : List xM)[196]? = some M_cX12_in := (x_g16 (x_g16 (x_g16 (x_g16 (x_g16 (x_g16 (x_g16 (x_g16 (x_g16 (x_g16 (x_g16 (x_g16 (x_g4 x_g0)))))))))))))
theorem t_197 : (x_mt : List xM)[197]? = some M_cX12_image := (x_g16 (x_g16 (x_g16 (x_g16 (x_g16 (x_g16 (x_g16 (x_g16 (x_g16 (x_g16 (x_g16 (x_g16 (x_g4 (x_g1 x_g0))))))))))))))
theorem t_198 : (x_mt : List xM)[198]? = some M_cX12_back := (x_g16 (x_g16 (x_g16 (x_g16 (x_g16 (x_g16 (x_g16 (x_g16 (x_g16 (x_g16 (x_g16 (x_g16 (x_g4 (x_g1 (x_g1 x_g0)))))))))))))))
theorem t_199 : (x_mt : List xM)[199]? = some M_cX12_isBoard := (x_g16 (x_g16 (x_g16 (x_g16 (x_g16 (x_g16 (x_g16 (x_g16 (x_g16 (x_g16 (x_g16 (x_g16 (x_g4 (x_g1 (x_g1 (x_g1 x_g0))))))))))))))))
theorem t_200 : (x_mt : List xM)[200]? = some M_cX12_holes := (x_g16 (x_g16 (x_g16 (x_g16 (x_g16 (x_g16 (x_g16 (x_g16 (x_g16 (x_g16 (x_g16 (x_g16 (x_g4 (x_g4 x_g0))))))))))))))
theorem t_201 : (x_mt : List xM)[201]? = some M_cX12_isHole := (x_g16 (x_g16 (x_g16 (x_g16 (x_g16 (x_g16 (x_g16 (x_g16 (x_g16 (x_g16 (x_g16 (x_g16 (x_g4 (x_g4 (x_g1 x_g0)))))))))))))))
theorem t_202 : (x_mt : List xM)[202]? = some M_cX12_isShut := (x_g16 (x_g16 (x_g16 (x_g16 (x_g16 (x_g16 (x_g16 (x_g16 (x_g16 (x_g16 (x_g16 (x_g16 (x_g4 (x_g4 (x_g1 (x_g1 x_g0))))))))))))))))
theorem t_203 : (x_mt : List xM)[203]? = some M_cX12_isTick := (x_g16 (x_g16 (x_g16 (x_g16 (x_g16 (x_g16 (x_g16 (x_g16 (x_g16 (x_g16 (x_g16 (x_g16 (x_g4 (x_g4 (x_g1 (x_g1 (x_g1 x_g0)))))))))))))))))
theorem t_204 : (x_mt : List xM)[204]? = some M_cX12_isComing := (x_g16 (x_g16 (x_g16 (x_g16 (x_g16 (x_g16 (x_g16 (x_g16 (x_g16 (x_g16 (x_g16 (x_g16 (x_g4 (x_g4 (x_g4 x_g0)))))))))))))))
theorem t_205 : (x_mt : List xM)[205]? = some M_cX12_isPlayer := (x_g16 (x_g16 (x_g16 (x_g16 (x_g16 (x_g16 (x_g16 (x_g16 (x_g16 (x_g16 (x_g16 (x_g16 (x_g4 (x_g4 (x_g4 (x_g1 x_g0))))))))))))))))
theorem t_206 : (x_mt : List xM)[206]? = some M_cX12_ofComing := (x_g16 (x_g16 (x_g16 (x_g16 (x_g16 (x_g16 (x_g16 (x_g16 (x_g16 (x_g16 (x_g16 (x_g16 (x_g4 (x_g4 (x_g4 (x_g1 (x_g1 x_g0)))))))))))))))))
theorem t_207 : (x_mt : List xM)[207]? = some M_cX12_of := (x_g16 (x_g16 (x_g16 (x_g16 (x_g16 (x_g16 (x_g16 (x_g16 (x_g16 (x_g16 (x_g16 (x_g16 (x_g4 (x_g4 (x_g4 (x_g1 (x_g1 (x_g1 x_g0))))))))))))))))))
theorem t_208 : (x_mt : List xM)[208]? = some M_cX12_feed := (x_g16 (x_g16 (x_g16 (x_g16 (x_g16 (x_g16 (x_g16 (x_g16 (x_g16 (x_g16 (x_g16 (x_g16 (x_g16 x_g0)))))))))))))
theorem t_209 : (x_mt : List xM)[209]? = some M_cX12_end := (x_g16 (x_g16 (x_g16 (x_g16 (x_g16 (x_g16 (x_g16 (x_g16 (x_g16 (x_g16 (x_g16 (x_g16 (x_g16 (x_g1 x_g0))))))))))))))
theorem t_210 : (x_mt : List xM)[210]? = some M_cX12_see := (x_g16 (x_g16 (x_g16 (x_g16 (x_g16 (x_g16 (x_g16 (x_g16 (x_g16 (x_g16 (x_g16 (x_g16 (x_g16 (x_g1 (x_g1 x_g0)))))))))))))))
theorem t_211 : (x_mt : List xM)[211]? = some M_cX12_advance := (x_g16 (x_g16 (x_g16 (x_g16 (x_g16 (x_g16 (x_g16 (x_g16 (x_g16 (x_g16 (x_g16 (x_g16 (x_g16 (x_g1 (x_g1 (x_g1 x_g0))))))))))))))))
theorem t_212 : (x_mt : List xM)[212]? = some M_cX12_good := (x_g16 (x_g16 (x_g16 (x_g16 (x_g16 (x_g16 (x_g16 (x_g16 (x_g16 (x_g16 (x_g16 (x_g16 (x_g16 (x_g4 x_g0))))))))))))))
theorem t_213 : (x_mt : List xM)[213]? = some M_cX12_errs := (x_g16 (x_g16 (x_g16 (x_g16 (x_g16 (x_g16 (x_g16 (x_g16 (x_g16 (x_g16 (x_g16 (x_g16 (x_g16 (x_g4 (x_g1 x_g0)))))))))))))))
theorem t_214 : (x_mt : List xM)[214]? = some M_cX12_is := (x_g16 (x_g16 (x_g16 (x_g16 (x_g16 (x_g16 (x_g16 (x_g16 (x_g16 (x_g16 (x_g16 (x_g16 (x_g16 (x_g4 (x_g1 (x_g1 x_g0))))))))))))))))
theorem t_215 : (x_mt : List xM)[215]? = some M_cX12_takes := (x_g16 (x_g16 (x_g16 (x_g16 (x_g16 (x_g16 (x_g16 (x_g16 (x_g16 (x_g16 (x_g16 (x_g16 (x_g16 (x_g4 (x_g1 (x_g1 (x_g1 x_g0)))))))))))))))))
theorem t_216 : (x_mt : List xM)[216]? = some M_cX12_needs := (x_g16 (x_g16 (x_g16 (x_g16 (x_g16 (x_g16 (x_g16 (x_g16 (x_g16 (x_g16 (x_g16 (x_g16 (x_g16 (x_g4 (x_g4 x_g0)))))))))))))))
theorem t_217 : (x_mt : List xM)[217]? = some M_cX12_number := (x_g16 (x_g16 (x_g16 (x_g16 (x_g16 (x_g16 (x_g16 (x_g16 (x_g16 (x_g16 (x_g16 (x_g16 (x_g16 (x_g4 (x_g4 (x_g1 x_g0))))))))))))))))
theorem t_218 : (x_mt : List xM)[218]? = some M_cX12_told := (x_g16 (x_g16 (x_g16 (x_g16 (x_g16 (x_g16 (x_g16 (x_g16 (x_g16 (x_g16 (x_g16 (x_g16 (x_g16 (x_g4 (x_g4 (x_g1 (x_g1 x_g0)))))))))))))))))
theorem t_219 : (x_mt : List xM)[219]? = some M_cX12_fault := (x_g16 (x_g16 (x_g16 (x_g16 (x_g16 (x_g16 (x_g16 (x_g16 (x_g16 (x_g16 (x_g16 (x_g16 (x_g16 (x_g4 (x_g4 (x_g1 (x_g1 (x_g1 x_g0))))))))))))))))))
theorem t_220 : (x_mt : List xM)[220]? = some M_cX12_freshHoles := (x_g16 (x_g16 (x_g16 (x_g16 (x_g16 (x_g16 (x_g16 (x_g16 (x_g16 (x_g16 (x_g16 (x_g16 (x_g16 (x_g4 (x_g4 (x_g4 x_g0))))))))))))))))
theorem t_221 : (x_mt : List xM)[221]? = some M_cX12_readFirst := (x_g16 (x_g16 (x_g16 (x_g16 (x_g16 (x_g16 (x_g16 (x_g16 (x_g16 (x_g16 (x_g16 (x_g16 (x_g16 (x_g4 (x_g4 (x_g4 (x_g1 x_g0)))))))))))))))))
theorem t_222 : (x_mt : List xM)[222]? = some M_cX12_freshStay := (x_g16 (x_g16 (x_g16 (x_g16 (x_g16 (x_g16 (x_g16 (x_g16 (x_g16 (x_g16 (x_g16 (x_g16 (x_g16 (x_g4 (x_g4 (x_g4 (x_g1 (x_g1 x_g0))))))))))))))))))
theorem t_223 : (x_mt : List xM)[223]? = some M_cX12_readStay := (x_g16 (x_g16 (x_g16 (x_g16 (x_g16 (x_g16 (x_g16 (x_g16 (x_g16 (x_g16 (x_g16 (x_g16 (x_g16 (x_g4 (x_g4 (x_g4 (x_g1 (x_g1 (x_g1 x_g0)))))))))))))))))))
theorem t_224 : (x_mt : List xM)[224]? = some M_cX12_isNextHole := (x_g16 (x_g16 (x_g16 (x_g16 (x_g16 (x_g16 (x_g16 (x_g16 (x_g16 (x_g16 (x_g16 (x_g16 (x_g16 (x_g16 x_g0))))))))))))))
theorem t_225 : (x_mt : List xM)[225]? = some M_cX12_isFreshComing := (x_g16 (x_g16 (x_g16 (x_g16 (x_g16 (x_g16 (x_g16 (x_g16 (x_g16 (x_g16 (x_g16 (x_g16 (x_g16 (x_g16 (x_g1 x_g0)))))))))))))))
theorem t_226 : (x_mt : List xM)[226]? = some M_cX12_readShut := (x_g16 (x_g16 (x_g16 (x_g16 (x_g16 (x_g16 (x_g16 (x_g16 (x_g16 (x_g16 (x_g16 (x_g16 (x_g16 (x_g16 (x_g1 (x_g1 x_g0))))))))))))))))
theorem t_227 : (x_mt : List xM)[227]? = some M_cX12_readHole := (x_g16 (x_g16 (x_g16 (x_g16 (x_g16 (x_g16 (x_g16 (x_g16 (x_g16 (x_g16 (x_g16 (x_g16 (x_g16 (x_g16 (x_g1 (x_g1 (x_g1 x_g0)))))))))))))))))
theorem t_228 : (x_mt : List xM)[228]? = some M_cX12_readComing := (x_g16 (x_g16 (x_g16 (x_g16 (x_g16 (x_g16 (x_g16 (x_g16 (x_g16 (x_g16 (x_g16 (x_g16 (x_g16 (x_g16 (x_g4 x_g0)))))))))))))))
theorem t_229 : (x_mt : List xM)[229]? = some M_cX12_readPlayer := (x_g16 (x_g16 (x_g16 (x_g16 (x_g16 (x_g16 (x_g16 (x_g16 (x_g16 (x_g16 (x_g16 (x_g16 (x_g16 (x_g16 (x_g4 (x_g1 x_g0))))))))))))))))
theorem t_230 : (x_mt : List xM)[230]? = some M_cX12_readNext := (x_g16 (x_g16 (x_g16 (x_g16 (x_g16 (x_g16 (x_g16 (x_g16 (x_g16 (x_g16 (x_g16 (x_g16 (x_g16 (x_g16 (x_g4 (x_g1 (x_g1 x_g0)))))))))))))))))
theorem t_231 : (x_mt : List xM)[231]? = some M_cX12_readLine := (x_g16 (x_g16 (x_g16 (x_g16 (x_g16 (x_g16 (x_g16 (x_g16 (x_g16 (x_g16 (x_g16 (x_g16 (x_g16 (x_g16 (x_g4 (x_g1 (x_g1 (x_g1 x_g0))))))))))))))))))
theorem t_232 : (x_mt : List xM)[232]? = some M_cX12_board := (x_g16 (x_g16 (x_g16 (x_g16 (x_g16 (x_g16 (x_g16 (x_g16 (x_g16 (x_g16 (x_g16 (x_g16 (x_g16 (x_g16 (x_g4 (x_g4 x_g0))))))))))))))))
theorem t_233 : (x_mt : List xM)[233]? = some M_cX12_stayIn := (x_g16 (x_g16 (x_g16 (x_g16 (x_g16 (x_g16 (x_g16 (x_g16 (x_g16 (x_g16 (x_g16 (x_g16 (x_g16 (x_g16 (x_g4 (x_g4 (x_g1 x_g0)))))))))))))))))
theorem t_234 : (x_mt : List xM)[234]? = some M_cX12_nextTick := (x_g16 (x_g16 (x_g16 (x_g16 (x_g16 (x_g16 (x_g16 (x_g16 (x_g16 (x_g16 (x_g16 (x_g16 (x_g16 (x_g16 (x_g4 (x_g4 (x_g1 (x_g1 x_g0))))))))))))))))))
theorem t_235 : (x_mt : List xM)[235]? = some M_cX12_mayCome := (x_g16 (x_g16 (x_g16 (x_g16 (x_g16 (x_g16 (x_g16 (x_g16 (x_g16 (x_g16 (x_g16 (x_g16 (x_g16 (x_g16 (x_g4 (x_g4 (x_g1 (x_g1 (x_g1 x_g0)))))))))))))))))))
theorem t_236 : (x_mt : List xM)[236]? = some M_cX12_come := (x_g16 (x_g16 (x_g16 (x_g16 (x_g16 (x_g16 (x_g16 (x_g16 (x_g16 (x_g16 (x_g16 (x_g16 (x_g16 (x_g16 (x_g4 (x_g4 (x_g4 x_g0)))))))))))))))))
theorem t_237 : (x_mt : List xM)[237]? = some M_cX12_lay := (x_g16 (x_g16 (x_g16 (x_g16 (x_g16 (x_g16 (x_g16 (x_g16 (x_g16 (x_g16 (x_g16 (x_g16 (x_g16 (x_g16 (x_g4 (x_g4 (x_g4 (x_g1 x_g0))))))))))))))))))
theorem t_238 : (x_mt : List xM)[238]? = some M_cX12_inGame := (x_g16 (x_g16 (x_g16 (x_g16 (x_g16 (x_g16 (x_g16 (x_g16 (x_g16 (x_g16 (x_g16 (x_g16 (x_g16 (x_g16 (x_g4 (x_g4 (x_g4 (x_g1 (x_g1 x_g0)))))))))))))))))))
theorem t_239 : (x_mt : List xM)[239]? = some M_cX12_drum := (x_g16 (x_g16 (x_g16 (x_g16 (x_g16 (x_g16 (x_g16 (x_g16 (x_g16 (x_g16 (x_g16 (x_g16 (x_g16 (x_g16 (x_g4 (x_g4 (x_g4 (x_g1 (x_g1 (x_g1 x_g0))))))))))))))))))))
theorem t_240 : (x_mt : List xM)[240]? = some M_cX12_player := (x_g16 (x_g16 (x_g16 (x_g16 (x_g16 (x_g16 (x_g16 (x_g16 (x_g16 (x_g16 (x_g16 (x_g16 (x_g16 (x_g16 (x_g16 x_g0)))))))))))))))
theorem t_241 : (x_mt : List xM)[241]? = some M_cX12_stay := (x_g16 (x_g16 (x_g16 (x_g16 (x_g16 (x_g16 (x_g16 (x_g16 (x_g16 (x_g16 (x_g16 (x_g16 (x_g16 (x_g16 (x_g16 (x_g1 x_g0))))))))))))))))
theorem t_242 : (x_mt : List xM)[242]? = some M_cX12_comings := (x_g16 (x_g16 (x_g16 (x_g16 (x_g16 (x_g16 (x_g16 (x_g16 (x_g16 (x_g16 (x_g16 (x_g16 (x_g16 (x_g16 (x_g16 (x_g1 (x_g1 x_g0)))))))))))))))))
theorem t_243 : (x_mt : List xM)[243]? = some M_cX12_isInGame := (x_g16 (x_g16 (x_g16 (x_g16 (x_g16 (x_g16 (x_g16 (x_g16 (x_g16 (x_g16 (x_g16 (x_g16 (x_g16 (x_g16 (x_g16 (x_g1 (x_g1 (x_g1 x_g0))))))))))))))))))
theorem t_244 : (x_mt : List xM)[244]? = some M_cX12_comes := (x_g16 (x_g16 (x_g16 (x_g16 (x_g16 (x_g16 (x_g16 (x_g16 (x_g16 (x_g16 (x_g16 (x_g16 (x_g16 (x_g16 (x_g16 (x_g4 x_g0))))))))))))))))
theorem t_245 : (x_mt : List xM)[245]? = some M_cX12_upIn := (x_g16 (x_g16 (x_g16 (x_g16 (x_g16 (x_g16 (x_g16 (x_g16 (x_g16 (x_g16 (x_g16 (x_g16 (x_g16 (x_g16 (x_g16 (x_g4 (x_g1 x_g0)))))))))))))))))
theorem t_246 : (x_mt : List xM)[246]? = some M_cX12_up := (x_g16 (x_g16 (x_g16 (x_g16 (x_g16 (x_g16 (x_g16 (x_g16 (x_g16 (x_g16 (x_g16 (x_g16 (x_g16 (x_g16 (x_g16 (x_g4 (x_g1 (x_g1 x_g0))))))))))))))))))
theorem t_247 : (x_mt : List xM)[247]? = some M_cX12_calm := (x_g16 (x_g16 (x_g16 (x_g16 (x_g16 (x_g16 (x_g16 (x_g16 (x_g16 (x_g16 (x_g16 (x_g16 (x_g16 (x_g16 (x_g16 (x_g4 (x_g1 (x_g1 (x_g1 x_g0)))))))))))))))))))
theorem t_248 : (x_mt : List xM)[248]? = some M_cX12_stepsOf := (x_g16 (x_g16 (x_g16 (x_g16 (x_g16 (x_g16 (x_g16 (x_g16 (x_g16 (x_g16 (x_g16 (x_g16 (x_g16 (x_g16 (x_g16 (x_g4 (x_g4 x_g0)))))))))))))))))
theorem t_249 : (x_mt : List xM)[249]? = some M_cX12_steps := (x_g16 (x_g16 (x_g16 (x_g16 (x_g16 (x_g16 (x_g16 (x_g16 (x_g16 (x_g16 (x_g16 (x_g16 (x_g16 (x_g16 (x_g16 (x_g4 (x_g4 (x_g1 x_g0))))))))))))))))))
theorem t_250 : (x_mt : List xM)[250]? = some M_cX12_paceIn := (x_g16 (x_g16 (x_g16 (x_g16 (x_g16 (x_g16 (x_g16 (x_g16 (x_g16 (x_g16 (x_g16 (x_g16 (x_g16 (x_g16 (x_g16 (x_g4 (x_g4 (x_g1 (x_g1 x_g0)))))))))))))))))))
theorem t_251 : (x_mt : List xM)[251]? = some M_cX12_pace := (x_g16 (x_g16 (x_g16 (x_g16 (x_g16 (x_g16 (x_g16 (x_g16 (x_g16 (x_g16 (x_g16 (x_g16 (x_g16 (x_g16 (x_g16 (x_g4 (x_g4 (x_g1 (x_g1 (x_g1 x_g0))))))))))))))))))))
theorem t_252 : (x_mt : List xM)[252]? = some M_cX12_asTold := (x_g16 (x_g16 (x_g16 (x_g16 (x_g16 (x_g16 (x_g16 (x_g16 (x_g16 (x_g16 (x_g16 (x_g16 (x_g16 (x_g16 (x_g16 (x_g4 (x_g4 (x_g4 x_g0))))))))))))))))))
theorem t_253 : (x_mt : List xM)[253]? = some M_cX12_awareOf := (x_g16 (x_g16 (x_g16 (x_g16 (x_g16 (x_g16 (x_g16 (x_g16 (x_g16 (x_g16 (x_g16 (x_g16 (x_g16 (x_g16 (x_g16 (x_g4 (x_g4 (x_g4 (x_g1 x_g0)))))))))))))))))))
theorem t_254 : (x_mt : List xM)[254]? = some M_cX12_aware := (x_g16 (x_g16 (x_g16 (x_g16 (x_g16 (x_g16 (x_g16 (x_g16 (x_g16 (x_g16 (x_g16 (x_g16 (x_g16 (x_g16 (x_g16 (x_g4 (x_g4 (x_g4 (x_g1 (x_g1 x_g0))))))))))))))))))))
theorem t_255 : (x_mt : List xM)[255]? = some M_cX12_goes := (x_g16 (x_g16 (x_g16 (x_g16 (x_g16 (x_g16 (x_g16 (x_g16 (x_g16 (x_g16 (x_g16 (x_g16 (x_g16 (x_g16 (x_g16 (x_g4 (x_g4 (x_g4 (x_g1 (x_g1 (x_g1 x_g0)))))))))))))))))))))
theorem t_256 : (x_mt : List xM)[256]? = some M_cX12_isHis := (x_g16 (x_g16 (x_g16 (x_g16 (x_g16 (x_g16 (x_g16 (x_g16 (x_g16 (x_g16 (x_g16 (x_g16 (x_g16 (x_g16 (x_g16 (x_g16 x_g0))))))))))))))))
theorem t_257 : (x_mt : List xM)[257]? = some M_cX12_goesFor := (x_g16 (x_g16 (x_g16 (x_g16 (x_g16 (x_g16 (x_g16 (x_g16 (x_g16 (x_g16 (x_g16 (x_g16 (x_g16 (x_g16 (x_g16 (x_g16 (x_g1 x_g0)))))))))))))))))
theorem t_258 : (x_mt : List xM)[258]? = some M_cX12_run := (x_g16 (x_g16 (x_g16 (x_g16 (x_g16 (x_g16 (x_g16 (x_g16 (x_g16 (x_g16 (x_g16 (x_g16 (x_g16 (x_g16 (x_g16 (x_g16 (x_g1 (x_g1 x_g0))))))))))))))))))
theorem t_259 : (x_mt : List xM)[259]? = some M_cX12_runAsTold := (x_g16 (x_g16 (x_g16 (x_g16 (x_g16 (x_g16 (x_g16 (x_g16 (x_g16 (x_g16 (x_g16 (x_g16 (x_g16 (x_g16 (x_g16 (x_g16 (x_g1 (x_g1 (x_g1 x_g0)))))))))))))))))))
theorem t_260 : (x_mt : List xM)[260]? = some M_cX12_hits := (x_g16 (x_g16 (x_g16 (x_g16 (x_g16 (x_g16 (x_g16 (x_g16 (x_g16 (x_g16 (x_g16 (x_g16 (x_g16 (x_g16 (x_g16 (x_g16 (x_g4 x_g0)))))))))))))))))
theorem t_261 : (x_mt : List xM)[261]? = some M_cX12_hit := (x_g16 (x_g16 (x_g16 (x_g16 (x_g16 (x_g16 (x_g16 (x_g16 (x_g16 (x_g16 (x_g16 (x_g16 (x_g16 (x_g16 (x_g16 (x_g16 (x_g4 (x_g1 x_g0))))))))))))))))))
theorem t_262 : (x_mt : List xM)[262]? = some M_cX12_twice := (x_g16 (x_g16 (x_g16 (x_g16 (x_g16 (x_g16 (x_g16 (x_g16 (x_g16 (x_g16 (x_g16 (x_g16 (x_g16 (x_g16 (x_g16 (x_g16 (x_g4 (x_g1 (x_g1 x_g0)))))))))))))))))))
theorem t_263 : (x_mt : List xM)[263]? = some M_cX12_where := (x_g16 (x_g16 (x_g16 (x_g16 (x_g16 (x_g16 (x_g16 (x_g16 (x_g16 (x_g16 (x_g16 (x_g16 (x_g16 (x_g16 (x_g16 (x_g16 (x_g4 (x_g1 (x_g1 (x_g1 x_g0))))))))))))))))))))
theorem t_264 : (x_mt : List xM)[264]? = some M_cX12_missed := (x_g16 (x_g16 (x_g16 (x_g16 (x_g16 (x_g16 (x_g16 (x_g16 (x_g16 (x_g16 (x_g16 (x_g16 (x_g16 (x_g16 (x_g16 (x_g16 (x_g4 (x_g4 x_g0))))))))))))))))))
theorem t_265 : (x_mt : List xM)[265]? = some M_cX12_walked := (x_g16 (x_g16 (x_g16 (x_g16 (x_g16 (x_g16 (x_g16 (x_g16 (x_g16 (x_g16 (x_g16 (x_g16 (x_g16 (x_g16 (x_g16 (x_g16 (x_g4 (x_g4 (x_g1 x_g0)))))))))))))))))))
theorem t_266 : (x_mt : List xM)[266]? = some M_cX12_cell := (x_g16 (x_g16 (x_g16 (x_g16 (x_g16 (x_g16 (x_g16 (x_g16 (x_g16 (x_g16 (x_g16 (x_g16 (x_g16 (x_g16 (x_g16 (x_g16 (x_g4 (x_g4 (x_g1 (x_g1 x_g0))))))))))))))))))))
theorem t_267 : (x_mt : List xM)[267]? = some M_cX12_sooner := (x_g16 (x_g16 (x_g16 (x_g16 (x_g16 (x_g16 (x_g16 (x_g16 (x_g16 (x_g16 (x_g16 (x_g16 (x_g16 (x_g16 (x_g16 (x_g16 (x_g4 (x_g4 (x_g1 (x_g1 (x_g1 x_g0)))))))))))))))))))))
theorem t_268 : (x_mt : List xM)[268]? = some M_cX12_behind := (x_g16 (x_g16 (x_g16 (x_g16 (x_g16 (x_g16 (x_g16 (x_g16 (x_g16 (x_g16 (x_g16 (x_g16 (x_g16 (x_g16 (x_g16 (x_g16 (x_g4 (x_g4 (x_g4 x_g0)))))))))))))))))))
theorem t_269 : (x_mt : List xM)[269]? = some M_cX12_mayHit := (x_g16 (x_g16 (x_g16 (x_g16 (x_g16 (x_g16 (x_g16 (x_g16 (x_g16 (x_g16 (x_g16 (x_g16 (x_g16 (x_g16 (x_g16 (x_g16 (x_g4 (x_g4 (x_g4 (x_g1 x_g0))))))))))))))))))))
theorem t_270 : (x_mt : List xM)[270]? = some M_cX12_bestOf := (x_g16 (x_g16 (x_g16 (x_g16 (x_g16 (x_g16 (x_g16 (x_g16 (x_g16 (x_g16 (x_g16 (x_g16 (x_g16 (x_g16 (x_g16 (x_g16 (x_g4 (x_g4 (x_g4 (x_g1 (x_g1 x_g0)))))))))))))))))))))
theorem t_271 : (x_mt : List xM)[271]? = some M_cX12_best := (x_g16 (x_g16 (x_g16 (x_g16 (x_g16 (x_g16 (x_g16 (x_g16 (x_g16 (x_g16 (x_g16 (x_g16 (x_g16 (x_g16 (x_g16 (x_g16 (x_g4 (x_g4 (x_g4 (x_g1 (x_g1 (x_g1 x_g0))))))))))))))))))))))
theorem t_272 : (x_mt : List xM)[272]? = some M_cX12_ahead := (x_g16 (x_g16 (x_g16 (x_g16 (x_g16 (x_g16 (x_g16 (x_g16 (x_g16 (x_g16 (x_g16 (x_g16 (x_g16 (x_g16 (x_g16 (x_g16 (x_g16 x_g0)))))))))))))))))
theorem t_273 : (x_mt : List xM)[273]? = some M_cX12_learnsBy := (x_g16 (x_g16 (x_g16 (x_g16 (x_g16 (x_g16 (x_g16 (x_g16 (x_g16 (x_g16 (x_g16 (x_g16 (x_g16 (x_g16 (x_g16 (x_g16 (x_g16 (x_g1 x_g0))))))))))))))))))
theorem t_274 : (x_mt : List xM)[274]? = some M_cX12_learns := (x_g16 (x_g16 (x_g16 (x_g16 (x_g16 (x_g16 (x_g16 (x_g16 (x_g16 (x_g16 (x_g16 (x_g16 (x_g16 (x_g16 (x_g16 (x_g16 (x_g16 (x_g1 (x_g1 x_g0)))))))))))))))))))
theorem t_275 : (x_mt : List xM)[275]? = some M_cX12_enough := (x_g16 (x_g16 (x_g16 (x_g16 (x_g16 (x_g16 (x_g16 (x_g16 (x_g16 (x_g16 (x_g16 (x_g16 (x_g16 (x_g16 (x_g16 (x_g16 (x_g16 (x_g1 (x_g1 (x_g1 x_g0))))))))))))))))))))
theorem t_276 : (x_mt : List xM)[276]? = some M_cX12_waitingAt := (x_g16 (x_g16 (x_g16 (x_g16 (x_g16 (x_g16 (x_g16 (x_g16 (x_g16 (x_g16 (x_g16 (x_g16 (x_g16 (x_g16 (x_g16 (x_g16 (x_g16 (x_g4 x_g0))))))))))))))))))
theorem t_277 : (x_mt : List xM)[277]? = some M_cX12_waits := (x_g16 (x_g16 (x_g16 (x_g16 (x_g16 (x_g16 (x_g16 (x_g16 (x_g16 (x_g16 (x_g16 (x_g16 (x_g16 (x_g16 (x_g16 (x_g16 (x_g16 (x_g4 (x_g1 x_g0)))))))))))))))))))
theorem t_278 : (x_mt : List xM)[278]? = some M_cX12_openHoles := (x_g16 (x_g16 (x_g16 (x_g16 (x_g16 (x_g16 (x_g16 (x_g16 (x_g16 (x_g16 (x_g16 (x_g16 (x_g16 (x_g16 (x_g16 (x_g16 (x_g16 (x_g4 (x_g1 (x_g1 x_g0))))))))))))))))))))
theorem t_279 : (x_mt : List xM)[279]? = some M_cX12_stepsToAll := (x_g16 (x_g16 (x_g16 (x_g16 (x_g16 (x_g16 (x_g16 (x_g16 (x_g16 (x_g16 (x_g16 (x_g16 (x_g16 (x_g16 (x_g16 (x_g16 (x_g16 (x_g4 (x_g1 (x_g1 (x_g1 x_g0)))))))))))))))))))))
theorem t_280 : (x_mt : List xM)[280]? = some M_cX12_divisor := (x_g16 (x_g16 (x_g16 (x_g16 (x_g16 (x_g16 (x_g16 (x_g16 (x_g16 (x_g16 (x_g16 (x_g16 (x_g16 (x_g16 (x_g16 (x_g16 (x_g16 (x_g4 (x_g4 x_g0)))))))))))))))))))
theorem t_281 : (x_mt : List xM)[281]? = some M_cX12_mean := (x_g16 (x_g16 (x_g16 (x_g16 (x_g16 (x_g16 (x_g16 (x_g16 (x_g16 (x_g16 (x_g16 (x_g16 (x_g16 (x_g16 (x_g16 (x_g16 (x_g16 (x_g4 (x_g4 (x_g1 x_g0))))))))))))))))))))
theorem t_282 : (x_mt : List xM)[282]? = some M_cX12_middle := (x_g16 (x_g16 (x_g16 (x_g16 (x_g16 (x_g16 (x_g16 (x_g16 (x_g16 (x_g16 (x_g16 (x_g16 (x_g16 (x_g16 (x_g16 (x_g16 (x_g16 (x_g4 (x_g4 (x_g1 (x_g1 x_g0)))))))))))))))))))))
theorem t_283 : (x_mt : List xM)[283]? = some M_cX12_reachOf := (x_g16 (x_g16 (x_g16 (x_g16 (x_g16 (x_g16 (x_g16 (x_g16 (x_g16 (x_g16 (x_g16 (x_g16 (x_g16 (x_g16 (x_g16 (x_g16 (x_g16 (x_g4 (x_g4 (x_g1 (x_g1 (x_g1 x_g0))))))))))))))))))))))
theorem t_284 : (x_mt : List xM)[284]? = some M_cX12_reach := (x_g16 (x_g16 (x_g16 (x_g16 (x_g16 (x_g16 (x_g16 (x_g16 (x_g16 (x_g16 (x_g16 (x_g16 (x_g16 (x_g16 (x_g16 (x_g16 (x_g16 (x_g4 (x_g4 (x_g4 x_g0))))))))))))))))))))
theorem t_285 : (x_mt : List xM)[285]? = some M_cX12_bits := (x_g16 (x_g16 (x_g16 (x_g16 (x_g16 (x_g16 (x_g16 (x_g16 (x_g16 (x_g16 (x_g16 (x_g16 (x_g16 (x_g16 (x_g16 (x_g16 (x_g16 (x_g4 (x_g4 (x_g4 (x_g1 x_g0)))))))))))))))))))))
theorem t_286 : (x_mt : List xM)[286]? = some M_cX12_post := (x_g16 (x_g16 (x_g16 (x_g16 (x_g16 (x_g16 (x_g16 (x_g16 (x_g16 (x_g16 (x_g16 (x_g16 (x_g16 (x_g16 (x_g16 (x_g16 (x_g16 (x_g4 (x_g4 (x_g4 (x_g1 (x_g1 x_g0))))))))))))))))))))))
theorem t_287 : (x_mt : List xM)[287]? = some M_cX12_lagging := (x_g16 (x_g16 (x_g16 (x_g16 (x_g16 (x_g16 (x_g16 (x_g16 (x_g16 (x_g16 (x_g16 (x_g16 (x_g16 (x_g16 (x_g16 (x_g16 (x_g16 (x_g4 (x_g4 (x_g4 (x_g1 (x_g1 (x_g1 x_g0)))))))))))))))))))))))
theorem t_288 : (x_mt : List xM)[288]? = some M_cX12_slack := (x_g16 (x_g16 (x_g16 (x_g16 (x_g16 (x_g16 (x_g16 (x_g16 (x_g16 (x_g16 (x_g16 (x_g16 (x_g16 (x_g16 (x_g16 (x_g16 (x_g16 (x_g16 x_g0))))))))))))))))))
theorem t_289 : (x_mt : List xM)[289]? = some M_cX12_isLaw := (x_g16 (x_g16 (x_g16 (x_g16 (x_g16 (x_g16 (x_g16 (x_g16 (x_g16 (x_g16 (x_g16 (x_g16 (x_g16 (x_g16 (x_g16 (x_g16 (x_g16 (x_g16 (x_g1 x_g0)))))))))))))))))))
theorem t_290 : (x_mt : List xM)[290]? = some M_cX12_lets := (x_g16 (x_g16 (x_g16 (x_g16 (x_g16 (x_g16 (x_g16 (x_g16 (x_g16 (x_g16 (x_g16 (x_g16 (x_g16 (x_g16 (x_g16 (x_g16 (x_g16 (x_g16 (x_g1 (x_g1 x_g0))))))))))))))))))))
theorem t_291 : (x_mt : List xM)[291]? = some M_cX12_fillRows := (x_g16 (x_g16 (x_g16 (x_g16 (x_g16 (x_g16 (x_g16 (x_g16 (x_g16 (x_g16 (x_g16 (x_g16 (x_g16 (x_g16 (x_g16 (x_g16 (x_g16 (x_g16 (x_g1 (x_g1 (x_g1 x_g0)))))))))))))))))))))
theorem t_292 : (x_mt : List xM)[292]? = some M_cX12_endingIn := (x_g16 (x_g16 (x_g16 (x_g16 (x_g16 (x_g16 (x_g16 (x_g16 (x_g16 (x_g16 (x_g16 (x_g16 (x_g16 (x_g16 (x_g16 (x_g16 (x_g16 (x_g16 (x_g4 x_g0)))))))))))))))))))
theorem t_293 : (x_mt : List xM)[293]? = some M_cX12_rows := (x_g16 (x_g16 (x_g16 (x_g16 (x_g16 (x_g16 (x_g16 (x_g16 (x_g16 (x_g16 (x_g16 (x_g16 (x_g16 (x_g16 (x_g16 (x_g16 (x_g16 (x_g16 (x_g4 (x_g1 x_g0))))))))))))))))))))
theorem t_294 : (x_mt : List xM)[294]? = some M_cX12_ends := (x_g16 (x_g16 (x_g16 (x_g16 (x_g16 (x_g16 (x_g16 (x_g16 (x_g16 (x_g16 (x_g16 (x_g16 (x_g16 (x_g16 (x_g16 (x_g16 (x_g16 (x_g16 (x_g4 (x_g1 (x_g1 x_g0)))))))))))))))))))))
theorem t_295 : (x_mt : List xM)[295]? = some M_cX12_fair := (x_g16 (x_g16 (x_g16 (x_g16 (x_g16 (x_g16 (x_g16 (x_g16 (x_g16 (x_g16 (x_g16 (x_g16 (x_g16 (x_g16 (x_g16 (x_g16 (x_g16 (x_g16 (x_g4 (x_g1 (x_g1 (x_g1 x_g0))))))))))))))))))))))
theorem t_296 : (x_mt : List xM)[296]? = some M_cX12_holeAt := (x_g16 (x_g16 (x_g16 (x_g16 (x_g16 (x_g16 (x_g16 (x_g16 (x_g16 (x_g16 (x_g16 (x_g16 (x_g16 (x_g16 (x_g16 (x_g16 (x_g16 (x_g16 (x_g4 (x_g4 x_g0))))))))))))))))))))
theorem t_297 : (x_mt : List xM)[297]? = some M_cX12_breaks := (x_g16 (x_g16 (x_g16 (x_g16 (x_g16 (x_g16 (x_g16 (x_g16 (x_g16 (x_g16 (x_g16 (x_g16 (x_g16 (x_g16 (x_g16 (x_g16 (x_g16 (x_g16 (x_g4 (x_g4 (x_g1 x_g0)))))))))))))))))))))
theorem t_298 : (x_mt : List xM)[298]? = some M_cX12_numberAt := (x_g16 (x_g16 (x_g16 (x_g16 (x_g16 (x_g16 (x_g16 (x_g16 (x_g16 (x_g16 (x_g16 (x_g16 (x_g16 (x_g16 (x_g16 (x_g16 (x_g16 (x_g16 (x_g4 (x_g4 (x_g1 (x_g1 x_g0))))))))))))))))))))))
theorem t_299 : (x_mt : List xM)[299]? = some M_cX12_asksHeard := (x_g16 (x_g16 (x_g16 (x_g16 (x_g16 (x_g16 (x_g16 (x_g16 (x_g16 (x_g16 (x_g16 (x_g16 (x_g16 (x_g16 (x_g16 (x_g16 (x_g16 (x_g16 (x_g4 (x_g4 (x_g1 (x_g1 (x_g1 x_g0)))))))))))))))))))))))
theorem t_300 : (x_mt : List xM)[300]? = some M_cX12_isPeriod := (x_g16 (x_g16 (x_g16 (x_g16 (x_g16 (x_g16 (x_g16 (x_g16 (x_g16 (x_g16 (x_g16 (x_g16 (x_g16 (x_g16 (x_g16 (x_g16 (x_g16 (x_g16 (x_g4 (x_g4 (x_g4 x_g0)))))))))))))))))))))
theorem t_301 : (x_mt : List xM)[301]? = some M_cX12_leastPeriod := (x_g16 (x_g16 (x_g16 (x_g16 (x_g16 (x_g16 (x_g16 (x_g16 (x_g16 (x_g16 (x_g16 (x_g16 (x_g16 (x_g16 (x_g16 (x_g16 (x_g16 (x_g16 (x_g4 (x_g4 (x_g4 (x_g1 x_g0))))))))))))))))))))))
theorem t_302 : (x_mt : List xM)[302]? = some M_cX12_period := (x_g16 (x_g16 (x_g16 (x_g16 (x_g16 (x_g16 (x_g16 (x_g16 (x_g16 (x_g16 (x_g16 (x_g16 (x_g16 (x_g16 (x_g16 (x_g16 (x_g16 (x_g16 (x_g4 (x_g4 (x_g4 (x_g1 (x_g1 x_g0)))))))))))))))))))))))
theorem t_303 : (x_mt : List xM)[303]? = some M_cX12_periods := (x_g16 (x_g16 (x_g16 (x_g16 (x_g16 (x_g16 (x_g16 (x_g16 (x_g16 (x_g16 (x_g16 (x_g16 (x_g16 (x_g16 (x_g16 (x_g16 (x_g16 (x_g16 (x_g4 (x_g4 (x_g4 (x_g1 (x_g1 (x_g1 x_g0))))))))))))))))))))))))
theorem t_304 : (x_mt : List xM)[304]? = some M_cX12_luck := (x_g16 (x_g16 (x_g16 (x_g16 (x_g16 (x_g16 (x_g16 (x_g16 (x_g16 (x_g16 (x_g16 (x_g16 (x_g16 (x_g16 (x_g16 (x_g16 (x_g16 (x_g16 (x_g16 x_g0)))))))))))))))))))
theorem t_305 : (x_mt : List xM)[305]? = some M_cX12_fitsFrom := (x_g16 (x_g16 (x_g16 (x_g16 (x_g16 (x_g16 (x_g16 (x_g16 (x_g16 (x_g16 (x_g16 (x_g16 (x_g16 (x_g16 (x_g16 (x_g16 (x_g16 (x_g16 (x_g16 (x_g1 x_g0))))))))))))))))))))
theorem t_306 : (x_mt : List xM)[306]? = some M_cX12_fits := (x_g16 (x_g16 (x_g16 (x_g16 (x_g16 (x_g16 (x_g16 (x_g16 (x_g16 (x_g16 (x_g16 (x_g16 (x_g16 (x_g16 (x_g16 (x_g16 (x_g16 (x_g16 (x_g16 (x_g1 (x_g1 x_g0)))))))))))))))))))))
theorem t_307 : (x_mt : List xM)[307]? = some M_cX12_place := (x_g16 (x_g16 (x_g16 (x_g16 (x_g16 (x_g16 (x_g16 (x_g16 (x_g16 (x_g16 (x_g16 (x_g16 (x_g16 (x_g16 (x_g16 (x_g16 (x_g16 (x_g16 (x_g16 (x_g1 (x_g1 (x_g1 x_g0))))))))))))))))))))))
theorem t_308 : (x_mt : List xM)[308]? = some M_cX12_next := (x_g16 (x_g16 (x_g16 (x_g16 (x_g16 (x_g16 (x_g16 (x_g16 (x_g16 (x_g16 (x_g16 (x_g16 (x_g16 (x_g16 (x_g16 (x_g16 (x_g16 (x_g16 (x_g16 (x_g4 x_g0))))))))))))))))))))
theorem t_309 : (x_mt : List xM)[309]? = some M_cX12_goesAlike := (x_g16 (x_g16 (x_g16 (x_g16 (x_g16 (x_g16 (x_g16 (x_g16 (x_g16 (x_g16 (x_g16 (x_g16 (x_g16 (x_g16 (x_g16 (x_g16 (x_g16 (x_g16 (x_g16 (x_g4 (x_g1 x_g0)))))))))))))))))))))
theorem t_310 : (x_mt : List xM)[310]? = some M_cX12_neededFrom := (x_g16 (x_g16 (x_g16 (x_g16 (x_g16 (x_g16 (x_g16 (x_g16 (x_g16 (x_g16 (x_g16 (x_g16 (x_g16 (x_g16 (x_g16 (x_g16 (x_g16 (x_g16 (x_g16 (x_g4 (x_g1 (x_g1 x_g0))))))))))))))))))))))
theorem t_311 : (x_mt : List xM)[311]? = some M_cX12_needed := (x_g16 (x_g16 (x_g16 (x_g16 (x_g16 (x_g16 (x_g16 (x_g16 (x_g16 (x_g16 (x_g16 (x_g16 (x_g16 (x_g16 (x_g16 (x_g16 (x_g16 (x_g16 (x_g16 (x_g4 (x_g1 (x_g1 (x_g1 x_g0)))))))))))))))))))))))
theorem t_312 : (x_mt : List xM)[312]? = some M_cX12_known := (x_g16 (x_g16 (x_g16 (x_g16 (x_g16 (x_g16 (x_g16 (x_g16 (x_g16 (x_g16 (x_g16 (x_g16 (x_g16 (x_g16 (x_g16 (x_g16 (x_g16 (x_g16 (x_g16 (x_g4 (x_g4 x_g0)))))))))))))))))))))
theorem t_313 : (x_mt : List xM)[313]? = some M_cX12_rashOf := (x_g16 (x_g16 (x_g16 (x_g16 (x_g16 (x_g16 (x_g16 (x_g16 (x_g16 (x_g16 (x_g16 (x_g16 (x_g16 (x_g16 (x_g16 (x_g16 (x_g16 (x_g16 (x_g16 (x_g4 (x_g4 (x_g1 x_g0))))))))))))))))))))))
theorem t_314 : (x_mt : List xM)[314]? = some M_cX12_rash := (x_g16 (x_g16 (x_g16 (x_g16 (x_g16 (x_g16 (x_g16 (x_g16 (x_g16 (x_g16 (x_g16 (x_g16 (x_g16 (x_g16 (x_g16 (x_g16 (x_g16 (x_g16 (x_g16 (x_g4 (x_g4 (x_g1 (x_g1 x_g0)))))))))))))))))))))))
theorem t_315 : (x_mt : List xM)[315]? = some M_cX12_lookOf := (x_g16 (x_g16 (x_g16 (x_g16 (x_g16 (x_g16 (x_g16 (x_g16 (x_g16 (x_g16 (x_g16 (x_g16 (x_g16 (x_g16 (x_g16 (x_g16 (x_g16 (x_g16 (x_g16 (x_g4 (x_g4 (x_g1 (x_g1 (x_g1 x_g0))))))))))))))))))))))))
theorem t_316 : (x_mt : List xM)[316]? = some M_cX12_look := (x_g16 (x_g16 (x_g16 (x_g16 (x_g16 (x_g16 (x_g16 (x_g16 (x_g16 (x_g16 (x_g16 (x_g16 (x_g16 (x_g16 (x_g16 (x_g16 (x_g16 (x_g16 (x_g16 (x_g4 (x_g4 (x_g4 x_g0))))))))))))))))))))))
theorem t_317 : (x_mt : List xM)[317]? = some M_cX12_line := (x_g16 (x_g16 (x_g16 (x_g16 (x_g16 (x_g16 (x_g16 (x_g16 (x_g16 (x_g16 (x_g16 (x_g16 (x_g16 (x_g16 (x_g16 (x_g16 (x_g16 (x_g16 (x_g16 (x_g4 (x_g4 (x_g4 (x_g1 x_g0)))))))))))))))))))))))
theorem t_318 : (x_mt : List xM)[318]? = some M_cX12_hitsOn := (x_g16 (x_g16 (x_g16 (x_g16 (x_g16 (x_g16 (x_g16 (x_g16 (x_g16 (x_g16 (x_g16 (x_g16 (x_g16 (x_g16 (x_g16 (x_g16 (x_g16 (x_g16 (x_g16 (x_g4 (x_g4 (x_g4 (x_g1 (x_g1 x_g0))))))))))))))))))))))))
theorem t_319 : (x_mt : List xM)[319]? = some M_cX12_two := (x_g16 (x_g16 (x_g16 (x_g16 (x_g16 (x_g16 (x_g16 (x_g16 (x_g16 (x_g16 (x_g16 (x_g16 (x_g16 (x_g16 (x_g16 (x_g16 (x_g16 (x_g16 (x_g16 (x_g4 (x_g4 (x_g4 (x_g1 (x_g1 (x_g1 x_g0)))))))))))))))))))))))))
theorem t_320 : (x_mt : List xM)[320]? = some M_cX12_ticketsOf := (x_g16 (x_g16 (x_g16 (x_g16 (x_g16 (x_g16 (x_g16 (x_g16 (x_g16 (x_g16 (x_g16 (x_g16 (x_g16 (x_g16 (x_g16 (x_g16 (x_g16 (x_g16 (x_g16 (x_g16 x_g0))))))))))))))))))))
theorem t_321 : (x_mt : List xM)[321]? = some M_cX12_tickets := (x_g16 (x_g16 (x_g16 (x_g16 (x_g16 (x_g16 (x_g16 (x_g16 (x_g16 (x_g16 (x_g16 (x_g16 (x_g16 (x_g16 (x_g16 (x_g16 (x_g16 (x_g16 (x_g16 (x_g16 (x_g1 x_g0)))))))))))))))))))))
theorem t_322 : (x_mt : List xM)[322]? = some M_cX12_prize := (x_g16 (x_g16 (x_g16 (x_g16 (x_g16 (x_g16 (x_g16 (x_g16 (x_g16 (x_g16 (x_g16 (x_g16 (x_g16 (x_g16 (x_g16 (x_g16 (x_g16 (x_g16 (x_g16 (x_g16 (x_g1 (x_g1 x_g0))))))))))))))))))))))
theorem t_323 : (x_mt : List xM)[323]? = some M_cX12_asksBlows := (x_g16 (x_g16 (x_g16 (x_g16 (x_g16 (x_g16 (x_g16 (x_g16 (x_g16 (x_g16 (x_g16 (x_g16 (x_g16 (x_g16 (x_g16 (x_g16 (x_g16 (x_g16 (x_g16 (x_g16 (x_g1 (x_g1 (x_g1 x_g0)))))))))))))))))))))))
theorem t_324 : (x_mt : List xM)[324]? = some M_cX12_strike := (x_g16 (x_g16 (x_g16 (x_g16 (x_g16 (x_g16 (x_g16 (x_g16 (x_g16 (x_g16 (x_g16 (x_g16 (x_g16 (x_g16 (x_g16 (x_g16 (x_g16 (x_g16 (x_g16 (x_g16 (x_g4 x_g0)))))))))))))))))))))
theorem t_325 : (x_mt : List xM)[325]? = some M_cX12_layBlows := (x_g16 (x_g16 (x_g16 (x_g16 (x_g16 (x_g16 (x_g16 (x_g16 (x_g16 (x_g16 (x_g16 (x_g16 (x_g16 (x_g16 (x_g16 (x_g16 (x_g16 (x_g16 (x_g16 (x_g16 (x_g4 (x_g1 x_g0))))))))))))))))))))))
theorem t_326 : (x_mt : List xM)[326]? = some M_cX12_counted := (x_g16 (x_g16 (x_g16 (x_g16 (x_g16 (x_g16 (x_g16 (x_g16 (x_g16 (x_g16 (x_g16 (x_g16 (x_g16 (x_g16 (x_g16 (x_g16 (x_g16 (x_g16 (x_g16 (x_g16 (x_g4 (x_g1 (x_g1 x_g0)))))))))))))))))))))))
theorem t_327 : (x_mt : List xM)[327]? = some M_cX12_scored := (x_g16 (x_g16 (x_g16 (x_g16 (x_g16 (x_g16 (x_g16 (x_g16 (x_g16 (x_g16 (x_g16 (x_g16 (x_g16 (x_g16 (x_g16 (x_g16 (x_g16 (x_g16 (x_g16 (x_g16 (x_g4 (x_g1 (x_g1 (x_g1 x_g0))))))))))))))))))))))))
theorem t_328 : (x_mt : List xM)[328]? = some M_cX12_early := (x_g16 (x_g16 (x_g16 (x_g16 (x_g16 (x_g16 (x_g16 (x_g16 (x_g16 (x_g16 (x_g16 (x_g16 (x_g16 (x_g16 (x_g16 (x_g16 (x_g16 (x_g16 (x_g16 (x_g16 (x_g4 (x_g4 x_g0))))))))))))))))))))))
theorem t_329 : (x_mt : List xM)[329]? = some M_cX12_oftenOf := (x_g16 (x_g16 (x_g16 (x_g16 (x_g16 (x_g16 (x_g16 (x_g16 (x_g16 (x_g16 (x_g16 (x_g16 (x_g16 (x_g16 (x_g16 (x_g16 (x_g16 (x_g16 (x_g16 (x_g16 (x_g4 (x_g4 (x_g1 x_g0)))))))))))))))))))))))
theorem t_330 : (x_mt : List xM)[330]? = some M_cX12_often := (x_g16 (x_g16 (x_g16 (x_g16 (x_g16 (x_g16 (x_g16 (x_g16 (x_g16 (x_g16 (x_g16 (x_g16 (x_g16 (x_g16 (x_g16 (x_g16 (x_g16 (x_g16 (x_g16 (x_g16 (x_g4 (x_g4 (x_g1 (x_g1 x_g0))))))))))))))))))))))))
theorem t_331 : (x_mt : List xM)[331]? = some M_cX12_balance := (x_g16 (x_g16 (x_g16 (x_g16 (x_g16 (x_g16 (x_g16 (x_g16 (x_g16 (x_g16 (x_g16 (x_g16 (x_g16 (x_g16 (x_g16 (x_g16 (x_g16 (x_g16 (x_g16 (x_g16 (x_g4 (x_g4 (x_g1 (x_g1 (x_g1 x_g0)))))))))))))))))))))))))
theorem t_332 : (x_mt : List xM)[332]? = some M_cX12_pathOf := (x_g16 (x_g16 (x_g16 (x_g16 (x_g16 (x_g16 (x_g16 (x_g16 (x_g16 (x_g16 (x_g16 (x_g16 (x_g16 (x_g16 (x_g16 (x_g16 (x_g16 (x_g16 (x_g16 (x_g16 (x_g4 (x_g4 (x_g4 x_g0)))))))))))))))))))))))
theorem t_333 : (x_mt : List xM)[333]? = some M_cX12_path := (x_g16 (x_g16 (x_g16 (x_g16 (x_g16 (x_g16 (x_g16 (x_g16 (x_g16 (x_g16 (x_g16 (x_g16 (x_g16 (x_g16 (x_g16 (x_g16 (x_g16 (x_g16 (x_g16 (x_g16 (x_g4 (x_g4 (x_g4 (x_g1 x_g0))))))))))))))))))))))))
theorem t_334 : (x_mt : List xM)[334]? = some M_cX12_trade := (x_g16 (x_g16 (x_g16 (x_g16 (x_g16 (x_g16 (x_g16 (x_g16 (x_g16 (x_g16 (x_g16 (x_g16 (x_g16 (x_g16 (x_g16 (x_g16 (x_g16 (x_g16 (x_g16 (x_g16 (x_g4 (x_g4 (x_g4 (x_g1 (x_g1 x_g0)))))))))))))))))))))))))
theorem t_335 : (x_mt : List xM)[335]? = some M_cX12_better := (x_g16 (x_g16 (x_g16 (x_g16 (x_g16 (x_g16 (x_g16 (x_g16 (x_g16 (x_g16 (x_g16 (x_g16 (x_g16 (x_g16 (x_g16 (x_g16 (x_g16 (x_g16 (x_g16 (x_g16 (x_g4 (x_g4 (x_g4 (x_g1 (x_g1 (x_g1 x_g0))))))))))))))))))))))))))
theorem t_336 : (x_mt : List xM)[336]? = some M_cX12_swap := (x_g16 (x_g16 (x_g16 (x_g16 (x_g16 (x_g16 (x_g16 (x_g16 (x_g16 (x_g16 (x_g16 (x_g16 (x_g16 (x_g16 (x_g16 (x_g16 (x_g16 (x_g16 (x_g16 (x_g16 (x_g16 x_g0)))))))))))))))))))))
theorem t_337 : (x_mt : List xM)[337]? = some M_cX12_paint := (x_g16 (x_g16 (x_g16 (x_g16 (x_g16 (x_g16 (x_g16 (x_g16 (x_g16 (x_g16 (x_g16 (x_g16 (x_g16 (x_g16 (x_g16 (x_g16 (x_g16 (x_g16 (x_g16 (x_g16 (x_g16 (x_g1 x_g0))))))))))))))))))))))
theorem t_338 : (x_mt : List xM)[338]? = some M_cX12_turn := (x_g16 (x_g16 (x_g16 (x_g16 (x_g16 (x_g16 (x_g16 (x_g16 (x_g16 (x_g16 (x_g16 (x_g16 (x_g16 (x_g16 (x_g16 (x_g16 (x_g16 (x_g16 (x_g16 (x_g16 (x_g16 (x_g1 (x_g1 x_g0)))))))))))))))))))))))
theorem t_339 : (x_mt : List xM)[339]? = some M_cX12_lucky := (x_g16 (x_g16 (x_g16 (x_g16 (x_g16 (x_g16 (x_g16 (x_g16 (x_g16 (x_g16 (x_g16 (x_g16 (x_g16 (x_g16 (x_g16 (x_g16 (x_g16 (x_g16 (x_g16 (x_g16 (x_g16 (x_g1 (x_g1 (x_g1 x_g0))))))))))))))))))))))))
theorem t_340 : (x_mt : List xM)[340]? = some M_cX12_shut := (x_g16 (x_g16 (x_g16 (x_g16 (x_g16 (x_g16 (x_g16 (x_g16 (x_g16 (x_g16 (x_g16 (x_g16 (x_g16 (x_g16 (x_g16 (x_g16 (x_g16 (x_g16 (x_g16 (x_g16 (x_g16 (x_g4 x_g0))))))))))))))))))))))
theorem t_341 : (x_mt : List xM)[341]? = some M_cX12_train := (x_g16 (x_g16 (x_g16 (x_g16 (x_g16 (x_g16 (x_g16 (x_g16 (x_g16 (x_g16 (x_g16 (x_g16 (x_g16 (x_g16 (x_g16 (x_g16 (x_g16 (x_g16 (x_g16 (x_g16 (x_g16 (x_g4 (x_g1 x_g0)))))))))))))))))))))))
theorem t_342 : (x_mt : List xM)[342]? = some M_cX12_draw := (x_g16 (x_g16 (x_g16 (x_g16 (x_g16 (x_g16 (x_g16 (x_g16 (x_g16 (x_g16 (x_g16 (x_g16 (x_g16 (x_g16 (x_g16 (x_g16 (x_g16 (x_g16 (x_g16 (x_g16 (x_g16 (x_g4 (x_g1 (x_g1 x_g0))))))))))))))))))))))))
theorem t_343 : (x_mt : List xM)[343]? = some M_cX12_holeByLot := (x_g16 (x_g16 (x_g16 (x_g16 (x_g16 (x_g16 (x_g16 (x_g16 (x_g16 (x_g16 (x_g16 (x_g16 (x_g16 (x_g16 (x_g16 (x_g16 (x_g16 (x_g16 (x_g16 (x_g16 (x_g16 (x_g4 (x_g1 (x_g1 (x_g1 x_g0)))))))))))))))))))))))))
theorem t_344 : (x_mt : List xM)[344]? = some M_cX12_layNight := (x_g16 (x_g16 (x_g16 (x_g16 (x_g16 (x_g16 (x_g16 (x_g16 (x_g16 (x_g16 (x_g16 (x_g16 (x_g16 (x_g16 (x_g16 (x_g16 (x_g16 (x_g16 (x_g16 (x_g16 (x_g16 (x_g4 (x_g4 x_g0)))))))))))))))))))))))
theorem t_345 : (x_mt : List xM)[345]? = some M_cX12_isSeed := (x_g16 (x_g16 (x_g16 (x_g16 (x_g16 (x_g16 (x_g16 (x_g16 (x_g16 (x_g16 (x_g16 (x_g16 (x_g16 (x_g16 (x_g16 (x_g16 (x_g16 (x_g16 (x_g16 (x_g16 (x_g16 (x_g4 (x_g4 (x_g1 x_g0))))))))))))))))))))))))
theorem t_346 : (x_mt : List xM)[346]? = some M_cX12_drawn := (x_g16 (x_g16 (x_g16 (x_g16 (x_g16 (x_g16 (x_g16 (x_g16 (x_g16 (x_g16 (x_g16 (x_g16 (x_g16 (x_g16 (x_g16 (x_g16 (x_g16 (x_g16 (x_g16 (x_g16 (x_g16 (x_g4 (x_g4 (x_g1 (x_g1 x_g0)))))))))))))))))))))))))
theorem t_347 : (x_mt : List xM)[347]? = some M_cX12_nightOf := (x_g16 (x_g16 (x_g16 (x_g16 (x_g16 (x_g16 (x_g16 (x_g16 (x_g16 (x_g16 (x_g16 (x_g16 (x_g16 (x_g16 (x_g16 (x_g16 (x_g16 (x_g16 (x_g16 (x_g16 (x_g16 (x_g4 (x_g4 (x_g1 (x_g1 (x_g1 x_g0))))))))))))))))))))))))))
theorem t_348 : (x_mt : List xM)[348]? = some M_cX12_night := (x_g16 (x_g16 (x_g16 (x_g16 (x_g16 (x_g16 (x_g16 (x_g16 (x_g16 (x_g16 (x_g16 (x_g16 (x_g16 (x_g16 (x_g16 (x_g16 (x_g16 (x_g16 (x_g16 (x_g16 (x_g16 (x_g4 (x_g4 (x_g4 x_g0))))))))))))))))))))))))
theorem t_349 : (x_mt : List xM)[349]? = some M_cX12_years := (x_g16 (x_g16 (x_g16 (x_g16 (x_g16 (x_g16 (x_g16 (x_g16 (x_g16 (x_g16 (x_g16 (x_g16 (x_g16 (x_g16 (x_g16 (x_g16 (x_g16 (x_g16 (x_g16 (x_g16 (x_g16 (x_g4 (x_g4 (x_g4 (x_g1 x_g0)))))))))))))))))))))))))
theorem t_350 : (x_mt : List xM)[350]? = some M_cX12_count := (x_g16 (x_g16 (x_g16 (x_g16 (x_g16 (x_g16 (x_g16 (x_g16 (x_g16 (x_g16 (x_g16 (x_g16 (x_g16 (x_g16 (x_g16 (x_g16 (x_g16 (x_g16 (x_g16 (x_g16 (x_g16 (x_g4 (x_g4 (x_g4 (x_g1 (x_g1 x_g0))))))))))))))))))))))))))
theorem t_351 : (x_mt : List xM)[351]? = some M_cX12_isSlot := (x_g16 (x_g16 (x_g16 (x_g16 (x_g16 (x_g16 (x_g16 (x_g16 (x_g16 (x_g16 (x_g16 (x_g16 (x_g16 (x_g16 (x_g16 (x_g16 (x_g16 (x_g16 (x_g16 (x_g16 (x_g16 (x_g4 (x_g4 (x_g4 (x_g1 (x_g1 (x_g1 x_g0)))))))))))))))))))))))))))
theorem t_352 : (x_mt : List xM)[352]? = some M_cX12_cut := (x_g16 (x_g16 (x_g16 (x_g16 (x_g16 (x_g16 (x_g16 (x_g16 (x_g16 (x_g16 (x_g16 (x_g16 (x_g16 (x_g16 (x_g16 (x_g16 (x_g16 (x_g16 (x_g16 (x_g16 (x_g16 (x_g16 x_g0))))))))))))))))))))))
theorem t_353 : (x_mt : List xM)[353]? = some M_cX12_row := (x_g16 (x_g16 (x_g16 (x_g16 (x_g16 (x_g16 (x_g16 (x_g16 (x_g16 (x_g16 (x_g16 (x_g16 (x_g16 (x_g16 (x_g16 (x_g16 (x_g16 (x_g16 (x_g16 (x_g16 (x_g16 (x_g16 (x_g1 x_g0)))))))))))))))))))))))
theorem t_354 : (x_mt : List xM)[354]? = some M_cX12_write := (x_g16 (x_g16 (x_g16 (x_g16 (x_g16 (x_g16 (x_g16 (x_g16 (x_g16 (x_g16 (x_g16 (x_g16 (x_g16 (x_g16 (x_g16 (x_g16 (x_g16 (x_g16 (x_g16 (x_g16 (x_g16 (x_g16 (x_g1 (x_g1 x_g0))))))))))))))))))))))))
theorem t_355 : (x_mt : List xM)[355]? = some M_cX12_paste := (x_g16 (x_g16 (x_g16 (x_g16 (x_g16 (x_g16 (x_g16 (x_g16 (x_g16 (x_g16 (x_g16 (x_g16 (x_g16 (x_g16 (x_g16 (x_g16 (x_g16 (x_g16 (x_g16 (x_g16 (x_g16 (x_g16 (x_g1 (x_g1 (x_g1 x_g0)))))))))))))))))))))))))
theorem t_356 : (x_mt : List xM)[356]? = some M_cJ6_bitCount_0f7a4 := (x_g16 (x_g16 (x_g16 (x_g16 (x_g16 (x_g16 (x_g16 (x_g16 (x_g16 (x_g16 (x_g16 (x_g16 (x_g16 (x_g16 (x_g16 (x_g16 (x_g16 (x_g16 (x_g16 (x_g16 (x_g16 (x_g16 (x_g4 x_g0)))))))))))))))))))))))
theorem t_357 : (x_mt : List xM)[357]? = some M_cJ9_floorMod_7cf53 := (x_g16 (x_g16 (x_g16 (x_g16 (x_g16 (x_g16 (x_g16 (x_g16 (x_g16 (x_g16 (x_g16 (x_g16 (x_g16 (x_g16 (x_g16 (x_g16 (x_g16 (x_g16 (x_g16 (x_g16 (x_g16 (x_g16 (x_g4 (x_g1 x_g0))))))))))))))))))))))))
noncomputable def p_X10_put_3 (l1 : Int32) : Nat → Int32 → j_G → Option j_G
  | 0, _, _ => none
  | n + 1, l2, σ =>
    if (¬ l2 < 0) ∧ ((σ.1 19 0) < (1200 : Int32)) then (j_ix (σ.1 19 0) 1200 (
    j_lt (j_si σ 20 ((σ.1 19 0)).toNatClampNeg (vp_nar .byte ((l1 >>> (l2 &&& 31))).toInt8.toInt32)) fun σ1 =>
    j_lt (j_si σ1 19 0 ((σ1.1 19 0) + (1 : Int32))) fun σ2 =>
    p_X10_put_3 l1 n (l2 + (-8 : Int32)) σ2)) else (some σ)

noncomputable def f_X10_put (l1 : Int32) (σ : j_G) : Option j_G :=
  j_b1 (p_X10_put_3 l1 j_F (24 : Int32) σ) fun σ1 =>
  some σ1
theorem l_X10_put_3 {d : Nat} (hd : 0 ≤ d) (τ : j_G) (l1 : Int32) : ∀ (n : Nat) (l2 : Int32) (σ : j_G), j_J true τ M_cX10_put d 3 [some (.ref 19), some (.int l1), some (.int l2)] [] σ (p_X10_put_3 l1 n l2 σ) (fun r Q => j_Tr true τ M_cX10_put d 46 [none, none, none] [] r Q) := by
  intro n
  induction n with
  | zero => intro l2 σ; exact j_none
  | succ n ih =>
    intro l2 σ
    unfold p_X10_put_3
    refine j_iload_n (pc' := 4) rfl rfl rfl ?_
    refine j_two (pT := 17) (pF := 46) (L1 := [some (.ref 19), some (.int l1), some (.int l2)]) (st1 := []) (fun o kT kF => ?_) (fun h1 => ?_) (fun h1 => ?_)
    · refine j_iflt (t := 46) (pc' := 7) rfl rfl rfl (fun h2 => ?_) (fun h2 => ?_)
      · exact kF (fun z => z.1 h2)
      · refine j_aload_n (pc' := 8) rfl rfl rfl ?_
        refine j_gfi (pc' := 11) rfl rfl j_a19 rfl ?_
        refine j_sipush (pc' := 14) (x := (1200 : Int32)) rfl rfl rfl ?_
        refine j_icge (t := 46) (pc' := 17) rfl rfl rfl (fun h3 => ?_) (fun h3 => ?_)
        · exact kF (fun z => (h3) z.2)
        · exact kT (⟨h2, h3⟩)
    · refine j_aload_n (pc' := 18) rfl rfl rfl ?_
      refine j_gfr (pc' := 21) (x := 20) rfl rfl j_a19 rfl rfl ?_
      refine j_aload_n (pc' := 22) rfl rfl rfl ?_
      refine j_gfi (pc' := 25) rfl rfl j_a19 rfl ?_
      refine j_iload_n (pc' := 26) rfl rfl rfl ?_
      refine j_iload_n (pc' := 27) rfl rfl rfl ?_
      refine j_ishr (pc' := 28) rfl rfl ?_
      refine j_i2b (pc' := 29) rfl rfl ?_
      refine j_bast (pc' := 30) rfl rfl j_a20 (fun σ1 => ?_)
      refine j_aload_n (pc' := 31) rfl rfl rfl ?_
      refine j_dup (pc' := 32) rfl rfl rfl ?_
      refine j_gfi (pc' := 35) rfl rfl j_a19 rfl ?_
      refine j_iconst (pc' := 36) (x := (1 : Int32)) rfl rfl rfl ?_
      refine j_iadd (pc' := 37) rfl rfl ?_
      refine j_pfi (pc' := 40) rfl rfl j_a19 rfl rfl (fun σ2 => ?_)
      refine j_iincx (pc' := 43) (y := (-8 : Int32)) (L' := [some (.ref 19), some (.int l1), some (.int (l2 + (-8 : Int32)))]) rfl rfl rfl rfl rfl ?_
      refine j_goto (t := 3) rfl rfl ?_
      exact ih (l2 + (-8 : Int32)) σ2
    · refine j_wk [false, false, false] (L' := [none, none, none]) rfl ?_
      exact j_end (fun _ h => h)

theorem c_X10_put (l1 : Int32) (σ : j_G) : j_K true 0 109 [.ref 19, .int l1] σ (f_X10_put l1 σ) j_Rv := by
  refine j_mkK (M := M_cX10_put) (L := [some (.ref 19), some (.int l1), none]) (m := 1) t_109 rfl (j_rcvO j_a19 rfl) rfl (fun d hd τ => ?_)
  unfold f_X10_put
  refine j_bipush (pc' := 2) (x := (24 : Int32)) rfl rfl rfl ?_
  refine j_istore_n (pc' := 3) (L' := [some (.ref 19), some (.int l1), some (.int (24 : Int32))]) rfl rfl rfl ?_
  refine j_q1 (l_X10_put_3 hd τ l1 j_F (24 : Int32) σ) (fun σ1 => ?_)
  show j_J true τ M_cX10_put d 46 [none, none, none] [] σ1 _ _
  exact j_ret rfl rfl rfl (fun _ h => h)

noncomputable def f_X11_feed (l1 : Int32) (l2 : Int32) (l3 : Int32) (l4 : Int32) (l5 : Int32) (σ : j_G) : Option (Int32 × j_G) :=
  if (1200 : Int32) < ((σ.1 19 0) + (20 : Int32)) then (some ((-1 : Int32), σ)) else (j_b1 (f_X10_put l1 σ) fun σ1 =>
  j_b1 (f_X10_put l2 σ1) fun σ2 =>
  j_b1 (f_X10_put l3 σ2) fun σ3 =>
  j_b1 (f_X10_put l4 σ3) fun σ4 =>
  j_b1 (f_X10_put l5 σ4) fun σ5 =>
  some ((σ5.1 19 0), σ5))
theorem c_X11_feed (l1 : Int32) (l2 : Int32) (l3 : Int32) (l4 : Int32) (l5 : Int32) (σ : j_G) : j_K true 1 112 [.ref 0, .int l1, .int l2, .int l3, .int l4, .int l5] σ (f_X11_feed l1 l2 l3 l4 l5 σ) j_Ri := by
  refine j_mkK (M := M_cX11_feed) (L := [some (.ref 0), some (.int l1), some (.int l2), some (.int l3), some (.int l4), some (.int l5)]) (m := 0) t_112 rfl (j_rcvO j_a0 rfl) rfl (fun d hd τ => ?_)
  unfold f_X11_feed
  refine j_aload_n (pc' := 1) rfl rfl rfl ?_
  refine j_gfr (pc' := 4) (x := 10) rfl rfl j_a0 rfl rfl ?_
  refine j_gfr (pc' := 7) (x := 19) rfl rfl j_a10 rfl rfl ?_
  refine j_gfi (pc' := 10) rfl rfl j_a19 rfl ?_
  refine j_bipush (pc' := 12) (x := (20 : Int32)) rfl rfl rfl ?_
  refine j_iadd (pc' := 13) rfl rfl ?_
  refine j_sipush (pc' := 16) (x := (1200 : Int32)) rfl rfl rfl ?_
  refine j_two (pT := 19) (pF := 21) (L1 := [some (.ref 0), some (.int l1), some (.int l2), some (.int l3), some (.int l4), some (.int l5)]) (st1 := []) (fun o kT kF => ?_) (fun h1 => ?_) (fun h1 => ?_)
  · refine j_icle (t := 21) (pc' := 19) rfl rfl rfl (fun h2 => ?_) (fun h2 => ?_)
    · exact kF h2
    · exact kT h2
  · refine j_iconst (pc' := 20) (x := (-1 : Int32)) rfl rfl rfl ?_
    exact j_ret rfl rfl rfl (fun _ h => h)
  · refine j_aload_n (pc' := 22) rfl rfl rfl ?_
    refine j_gfr (pc' := 25) (x := 10) rfl rfl j_a0 rfl rfl ?_
    refine j_gfr (pc' := 28) (x := 19) rfl rfl j_a10 rfl rfl ?_
    refine j_iload_n (pc' := 29) rfl rfl rfl ?_
    refine j_callRv (pc' := 32) (ai := 109) (vs := [.ref 19, .int l1]) (rest := []) rfl rfl (fun _ _ => rfl) (c_X10_put l1 σ) (j_dd rfl hd) rfl (fun σ1 => ?_)
    refine j_aload_n (pc' := 33) rfl rfl rfl ?_
    refine j_gfr (pc' := 36) (x := 10) rfl rfl j_a0 rfl rfl ?_
    refine j_gfr (pc' := 39) (x := 19) rfl rfl j_a10 rfl rfl ?_
    refine j_iload_n (pc' := 40) rfl rfl rfl ?_
    refine j_callRv (pc' := 43) (ai := 109) (vs := [.ref 19, .int l2]) (rest := []) rfl rfl (fun _ _ => rfl) (c_X10_put l2 σ1) (j_dd rfl hd) rfl (fun σ2 => ?_)
    refine j_aload_n (pc' := 44) rfl rfl rfl ?_
    refine j_gfr (pc' := 47) (x := 10) rfl rfl j_a0 rfl rfl ?_
    refine j_gfr (pc' := 50) (x := 19) rfl rfl j_a10 rfl rfl ?_
    refine j_iload_n (pc' := 51) rfl rfl rfl ?_
    refine j_callRv (pc' := 54) (ai := 109) (vs := [.ref 19, .int l3]) (rest := []) rfl rfl (fun _ _ => rfl) (c_X10_put l3 σ2) (j_dd rfl hd) rfl (fun σ3 => ?_)
    refine j_aload_n (pc' := 55) rfl rfl rfl ?_
    refine j_gfr (pc' := 58) (x := 10) rfl rfl j_a0 rfl rfl ?_
    refine j_gfr (pc' := 61) (x := 19) rfl rfl j_a10 rfl rfl ?_
    refine j_iload (pc' := 63) rfl rfl rfl ?_
    refine j_callRv (pc' := 66) (ai := 109) (vs := [.ref 19, .int l4]) (rest := []) rfl rfl (fun _ _ => rfl) (c_X10_put l4 σ3) (j_dd rfl hd) rfl (fun σ4 => ?_)
    refine j_aload_n (pc' := 67) rfl rfl rfl ?_
    refine j_gfr (pc' := 70) (x := 10) rfl rfl j_a0 rfl rfl ?_
    refine j_gfr (pc' := 73) (x := 19) rfl rfl j_a10 rfl rfl ?_
    refine j_iload (pc' := 75) rfl rfl rfl ?_
    refine j_callRv (pc' := 78) (ai := 109) (vs := [.ref 19, .int l5]) (rest := []) rfl rfl (fun _ _ => rfl) (c_X10_put l5 σ4) (j_dd rfl hd) rfl (fun σ5 => ?_)
    refine j_aload_n (pc' := 79) rfl rfl rfl ?_
    refine j_gfr (pc' := 82) (x := 10) rfl rfl j_a0 rfl rfl ?_
    refine j_gfr (pc' := 85) (x := 19) rfl rfl j_a10 rfl rfl ?_
    refine j_gfi (pc' := 88) rfl rfl j_a19 rfl ?_
    exact j_ret rfl rfl rfl (fun _ h => h)

noncomputable def p_X12_feed_55 : Nat → Int32 → j_G → Option j_G
  | 0, _, _ => none
  | n + 1, l6, σ =>
    if l6 < (20 : Int32) then (if (4 : Int32) = 0 then none else (
    j_ix (l6 / (4 : Int32)) 5 (
    if (4 : Int32) = 0 then none else (
    j_ix ((σ.1 75 5) + l6) 1200 (
    j_lt (j_si σ 79 (((σ.1 75 5) + l6)).toNatClampNeg (vp_nar .byte (((σ.1 80 ((l6 / (4 : Int32))).toNatClampNeg) >>> (((24 : Int32) - ((8 : Int32) * (l6 - l6 / (4 : Int32) * (4 : Int32)))) &&& 31))).toInt8.toInt32)) fun σ1 =>
    p_X12_feed_55 n (l6 + (1 : Int32)) σ1))))) else (some σ)

noncomputable def f_X12_feed (l1 : Int32) (l2 : Int32) (l3 : Int32) (l4 : Int32) (l5 : Int32) (σ : j_G) : Option (Int32 × j_G) :=
  if (1200 : Int32) < ((σ.1 75 5) + (20 : Int32)) then (some ((-1 : Int32), σ)) else (j_ix (0 : Int32) 5 (
  j_lt (j_si σ 80 ((0 : Int32)).toNatClampNeg l1) fun σ1 =>
  j_ix (1 : Int32) 5 (
  j_lt (j_si σ1 80 ((1 : Int32)).toNatClampNeg l2) fun σ2 =>
  j_ix (2 : Int32) 5 (
  j_lt (j_si σ2 80 ((2 : Int32)).toNatClampNeg l3) fun σ3 =>
  j_ix (3 : Int32) 5 (
  j_lt (j_si σ3 80 ((3 : Int32)).toNatClampNeg l4) fun σ4 =>
  j_ix (4 : Int32) 5 (
  j_lt (j_si σ4 80 ((4 : Int32)).toNatClampNeg l5) fun σ5 =>
  j_b1 (p_X12_feed_55 j_F (0 : Int32) σ5) fun σ6 =>
  j_lt (j_si σ6 75 5 ((σ6.1 75 5) + (20 : Int32))) fun σ7 =>
  some ((σ7.1 75 5), σ7)))))))
theorem l_X12_feed_55 {d : Nat} (hd : 0 ≤ d) (τ : j_G) : ∀ (n : Nat) (l6 : Int32) (σ : j_G), j_J false τ M_cX12_feed d 55 [some (.ref 75), none, none, none, none, none, some (.int l6)] [] σ (p_X12_feed_55 n l6 σ) (fun r Q => j_Tr false τ M_cX12_feed d 101 [some (.ref 75), none, none, none, none, none, none] [] r Q) := by
  intro n
  induction n with
  | zero => intro l6 σ; exact j_none
  | succ n ih =>
    intro l6 σ
    unfold p_X12_feed_55
    refine j_iload (pc' := 57) rfl rfl rfl ?_
    refine j_bipush (pc' := 59) (x := (20 : Int32)) rfl rfl rfl ?_
    refine j_two (pT := 62) (pF := 101) (L1 := [some (.ref 75), none, none, none, none, none, some (.int l6)]) (st1 := []) (fun o kT kF => ?_) (fun h1 => ?_) (fun h1 => ?_)
    · refine j_icge (t := 101) (pc' := 62) rfl rfl rfl (fun h2 => ?_) (fun h2 => ?_)
      · exact kF h2
      · exact kT h2
    · refine j_aload_n (pc' := 63) rfl rfl rfl ?_
      refine j_gfr (pc' := 66) (x := 79) rfl rfl j_a75 rfl rfl ?_
      refine j_aload_n (pc' := 67) rfl rfl rfl ?_
      refine j_gfi (pc' := 70) rfl rfl j_a75 rfl ?_
      refine j_iload (pc' := 72) rfl rfl rfl ?_
      refine j_iadd (pc' := 73) rfl rfl ?_
      refine j_aload_n (pc' := 74) rfl rfl rfl ?_
      refine j_gfr (pc' := 77) (x := 80) rfl rfl j_a75 rfl rfl ?_
      refine j_iload (pc' := 79) rfl rfl rfl ?_
      refine j_iconst (pc' := 80) (x := (4 : Int32)) rfl rfl rfl ?_
      refine j_idiv (pc' := 81) rfl rfl ?_
      refine j_iald (pc' := 82) rfl rfl j_a80 ?_
      refine j_bipush (pc' := 84) (x := (24 : Int32)) rfl rfl rfl ?_
      refine j_bipush (pc' := 86) (x := (8 : Int32)) rfl rfl rfl ?_
      refine j_iload (pc' := 88) rfl rfl rfl ?_
      refine j_iconst (pc' := 89) (x := (4 : Int32)) rfl rfl rfl ?_
      refine j_irem (pc' := 90) rfl rfl ?_
      refine j_imul (pc' := 91) rfl rfl ?_
      refine j_isub (pc' := 92) rfl rfl ?_
      refine j_ishr (pc' := 93) rfl rfl ?_
      refine j_i2b (pc' := 94) rfl rfl ?_
      refine j_bast (pc' := 95) rfl rfl j_a79 (fun σ1 => ?_)
      refine j_iincx (pc' := 98) (y := (1 : Int32)) (L' := [some (.ref 75), none, none, none, none, none, some (.int (l6 + (1 : Int32)))]) rfl rfl rfl rfl rfl ?_
      refine j_goto (t := 55) rfl rfl ?_
      exact ih (l6 + (1 : Int32)) σ1
    · refine j_wk [true, true, true, true, true, true, false] (L' := [some (.ref 75), none, none, none, none, none, none]) rfl ?_
      exact j_end (fun _ h => h)

theorem c_X12_feed (l1 : Int32) (l2 : Int32) (l3 : Int32) (l4 : Int32) (l5 : Int32) (σ : j_G) : j_K false 0 208 [.ref 75, .int l1, .int l2, .int l3, .int l4, .int l5] σ (f_X12_feed l1 l2 l3 l4 l5 σ) j_Ri := by
  refine j_mkK (M := M_cX12_feed) (L := [some (.ref 75), some (.int l1), some (.int l2), some (.int l3), some (.int l4), some (.int l5), none]) (m := 1) t_208 rfl (j_rcvO j_a75 rfl) rfl (fun d hd τ => ?_)
  unfold f_X12_feed
  refine j_aload_n (pc' := 1) rfl rfl rfl ?_
  refine j_gfi (pc' := 4) rfl rfl j_a75 rfl ?_
  refine j_bipush (pc' := 6) (x := (20 : Int32)) rfl rfl rfl ?_
  refine j_iadd (pc' := 7) rfl rfl ?_
  refine j_sipush (pc' := 10) (x := (1200 : Int32)) rfl rfl rfl ?_
  refine j_two (pT := 13) (pF := 15) (L1 := [some (.ref 75), some (.int l1), some (.int l2), some (.int l3), some (.int l4), some (.int l5), none]) (st1 := []) (fun o kT kF => ?_) (fun h1 => ?_) (fun h1 => ?_)
  · refine j_icle (t := 15) (pc' := 13) rfl rfl rfl (fun h2 => ?_) (fun h2 => ?_)
    · exact kF h2
    · exact kT h2
  · refine j_iconst (pc' := 14) (x := (-1 : Int32)) rfl rfl rfl ?_
    exact j_ret rfl rfl rfl (fun _ h => h)
  · refine j_aload_n (pc' := 16) rfl rfl rfl ?_
    refine j_gfr (pc' := 19) (x := 80) rfl rfl j_a75 rfl rfl ?_
    refine j_iconst (pc' := 20) (x := (0 : Int32)) rfl rfl rfl ?_
    refine j_iload_n (pc' := 21) rfl rfl rfl ?_
    refine j_iast (pc' := 22) rfl rfl j_a80 (fun σ1 => ?_)
    refine j_aload_n (pc' := 23) rfl rfl rfl ?_
    refine j_gfr (pc' := 26) (x := 80) rfl rfl j_a75 rfl rfl ?_
    refine j_iconst (pc' := 27) (x := (1 : Int32)) rfl rfl rfl ?_
    refine j_iload_n (pc' := 28) rfl rfl rfl ?_
    refine j_iast (pc' := 29) rfl rfl j_a80 (fun σ2 => ?_)
    refine j_aload_n (pc' := 30) rfl rfl rfl ?_
    refine j_gfr (pc' := 33) (x := 80) rfl rfl j_a75 rfl rfl ?_
    refine j_iconst (pc' := 34) (x := (2 : Int32)) rfl rfl rfl ?_
    refine j_iload_n (pc' := 35) rfl rfl rfl ?_
    refine j_iast (pc' := 36) rfl rfl j_a80 (fun σ3 => ?_)
    refine j_aload_n (pc' := 37) rfl rfl rfl ?_
    refine j_gfr (pc' := 40) (x := 80) rfl rfl j_a75 rfl rfl ?_
    refine j_iconst (pc' := 41) (x := (3 : Int32)) rfl rfl rfl ?_
    refine j_iload (pc' := 43) rfl rfl rfl ?_
    refine j_iast (pc' := 44) rfl rfl j_a80 (fun σ4 => ?_)
    refine j_aload_n (pc' := 45) rfl rfl rfl ?_
    refine j_gfr (pc' := 48) (x := 80) rfl rfl j_a75 rfl rfl ?_
    refine j_iconst (pc' := 49) (x := (4 : Int32)) rfl rfl rfl ?_
    refine j_iload (pc' := 51) rfl rfl rfl ?_
    refine j_iast (pc' := 52) rfl rfl j_a80 (fun σ5 => ?_)
    refine j_iconst (pc' := 53) (x := (0 : Int32)) rfl rfl rfl ?_
    refine j_istore (pc' := 55) (L' := [some (.ref 75), some (.int l1), some (.int l2), some (.int l3), some (.int l4), some (.int l5), some (.int (0 : Int32))]) rfl rfl rfl ?_
    refine j_wk [true, false, false, false, false, false, true] (L' := [some (.ref 75), none, none, none, none, none, some (.int (0 : Int32))]) rfl ?_
    refine j_q1 (l_X12_feed_55 hd τ j_F (0 : Int32) σ5) (fun σ6 => ?_)
    show j_J false τ M_cX12_feed d 101 [some (.ref 75), none, none, none, none, none, none] [] σ6 _ _
    refine j_aload_n (pc' := 102) rfl rfl rfl ?_
    refine j_dup (pc' := 103) rfl rfl rfl ?_
    refine j_gfi (pc' := 106) rfl rfl j_a75 rfl ?_
    refine j_bipush (pc' := 108) (x := (20 : Int32)) rfl rfl rfl ?_
    refine j_iadd (pc' := 109) rfl rfl ?_
    refine j_pfi (pc' := 112) rfl rfl j_a75 rfl rfl (fun σ7 => ?_)
    refine j_aload_n (pc' := 113) rfl rfl rfl ?_
    refine j_gfi (pc' := 116) rfl rfl j_a75 rfl ?_
    exact j_ret rfl rfl rfl (fun _ h => h)

noncomputable def f_X11_end (l1 : Int32) (σ : j_G) : Option (Int32 × j_G) :=
  if (l1 < 0) ∨ ((σ.1 19 0) < l1) then (some ((-1 : Int32), σ)) else (j_lt (j_si σ 19 0 l1) fun σ1 =>
  some (l1, σ1))
theorem c_X11_end (l1 : Int32) (σ : j_G) : j_K true 0 113 [.ref 0, .int l1] σ (f_X11_end l1 σ) j_Ri := by
  refine j_mkK (M := M_cX11_end) (L := [some (.ref 0), some (.int l1)]) (m := 0) t_113 rfl (j_rcvO j_a0 rfl) rfl (fun d hd τ => ?_)
  unfold f_X11_end
  refine j_iload_n (pc' := 1) rfl rfl rfl ?_
  refine j_two (pT := 18) (pF := 20) (L1 := [some (.ref 0), some (.int l1)]) (st1 := []) (fun o kT kF => ?_) (fun h1 => ?_) (fun h1 => ?_)
  · refine j_iflt (t := 18) (pc' := 4) rfl rfl rfl (fun h2 => ?_) (fun h2 => ?_)
    · exact kT (Or.inl h2)
    · refine j_iload_n (pc' := 5) rfl rfl rfl ?_
      refine j_aload_n (pc' := 6) rfl rfl rfl ?_
      refine j_gfr (pc' := 9) (x := 10) rfl rfl j_a0 rfl rfl ?_
      refine j_gfr (pc' := 12) (x := 19) rfl rfl j_a10 rfl rfl ?_
      refine j_gfi (pc' := 15) rfl rfl j_a19 rfl ?_
      refine j_icle (t := 20) (pc' := 18) rfl rfl rfl (fun h3 => ?_) (fun h3 => ?_)
      · exact kF (fun z => z.elim h2 (h3))
      · exact kT (Or.inr (h3))
  · refine j_iconst (pc' := 19) (x := (-1 : Int32)) rfl rfl rfl ?_
    exact j_ret rfl rfl rfl (fun _ h => h)
  · refine j_aload_n (pc' := 21) rfl rfl rfl ?_
    refine j_gfr (pc' := 24) (x := 10) rfl rfl j_a0 rfl rfl ?_
    refine j_gfr (pc' := 27) (x := 19) rfl rfl j_a10 rfl rfl ?_
    refine j_iload_n (pc' := 28) rfl rfl rfl ?_
    refine j_pfi (pc' := 31) rfl rfl j_a19 rfl rfl (fun σ1 => ?_)
    refine j_iload_n (pc' := 32) rfl rfl rfl ?_
    exact j_ret rfl rfl rfl (fun _ h => h)

noncomputable def f_X12_in (l0 : Int64) (l2 : Int64) (l4 : Int64) : Int32 :=
  if (¬ l0 < l2) ∧ (¬ l4 < l0) then ((1 : Int32)) else ((0 : Int32))

theorem b_X12_in (l0 : Int64) (l2 : Int64) (l4 : Int64) : f_X12_in l0 l2 l4 = 0 ∨ f_X12_in l0 l2 l4 = 1 := by
  unfold f_X12_in
  repeat' split
  all_goals first | exact Or.inl rfl | exact Or.inr rfl
theorem c_X12_in (l0 : Int64) (l2 : Int64) (l4 : Int64) (σ : j_G) : j_K false 0 196 [.long l0, .long l2, .long l4] σ (some (f_X12_in l0 l2 l4)) (j_Pi σ) := by
  refine j_mkK (M := M_cX12_in) (L := [some (.long l0), none, some (.long l2), none, some (.long l4), none]) (m := 0) t_196 rfl (j_rcvS rfl) rfl (fun d hd τ => ?_)
  unfold f_X12_in
  refine j_lload_n (pc' := 1) rfl rfl rfl ?_
  refine j_lload_n (pc' := 2) rfl rfl rfl ?_
  refine j_lcmp (pc' := 3) rfl rfl ?_
  refine j_twoT (pT := 13) (pF := 17) (L1 := [some (.long l0), none, some (.long l2), none, some (.long l4), none]) (st1 := []) (fun o kT kF => ?_) (fun h1 => ?_) (fun h1 => ?_)
  · refine j_ifltL (t := 17) (pc' := 6) rfl rfl rfl (fun h2 => ?_) (fun h2 => ?_)
    · exact kF (fun z => z.1 h2)
    · refine j_lload_n (pc' := 7) rfl rfl rfl ?_
      refine j_lload (pc' := 9) rfl rfl rfl ?_
      refine j_lcmp (pc' := 10) rfl rfl ?_
      refine j_ifgtL (t := 17) (pc' := 13) rfl rfl rfl (fun h3 => ?_) (fun h3 => ?_)
      · exact kF (fun z => (fun z => z h3) z.2)
      · exact kT (⟨h2, h3⟩)
  · refine j_iconst (pc' := 14) (x := (1 : Int32)) rfl rfl rfl ?_
    refine j_goto (t := 18) rfl rfl ?_
    exact j_ret rfl rfl rfl (fun _ h => h)
  · refine j_iconst (pc' := 18) (x := (0 : Int32)) rfl rfl rfl ?_
    exact j_ret rfl rfl rfl (fun _ h => h)

noncomputable def f_X12_end (l1 : Int32) (σ : j_G) : Option (Int32 × j_G) :=
  if (f_X12_in (l1).toInt64 (0 : Int64) ((σ.1 75 5)).toInt64) = 0 then (some ((-1 : Int32), σ)) else (j_lt (j_si σ 75 5 l1) fun σ1 =>
  some (l1, σ1))
theorem c_X12_end (l1 : Int32) (σ : j_G) : j_K false 1 209 [.ref 75, .int l1] σ (f_X12_end l1 σ) j_Ri := by
  refine j_mkK (M := M_cX12_end) (L := [some (.ref 75), some (.int l1)]) (m := 0) t_209 rfl (j_rcvO j_a75 rfl) rfl (fun d hd τ => ?_)
  unfold f_X12_end
  refine j_iload_n (pc' := 1) rfl rfl rfl ?_
  refine j_i2l (pc' := 2) rfl rfl ?_
  refine j_lconst (pc' := 3) (x := (0 : Int64)) rfl rfl rfl ?_
  refine j_aload_n (pc' := 4) rfl rfl rfl ?_
  refine j_gfi (pc' := 7) rfl rfl j_a75 rfl ?_
  refine j_i2l (pc' := 8) rfl rfl ?_
  refine j_callTi (pc' := 11) (ai := 196) (vs := [.long (l1).toInt64, .long (0 : Int64), .long ((σ.1 75 5)).toInt64]) (rest := []) rfl rfl (fun _ _ => rfl) (c_X12_in (l1).toInt64 (0 : Int64) ((σ.1 75 5)).toInt64 σ) (j_dd rfl hd) rfl ?_
  refine j_two (pT := 14) (pF := 16) (L1 := [some (.ref 75), some (.int l1)]) (st1 := []) (fun o kT kF => ?_) (fun h1 => ?_) (fun h1 => ?_)
  · refine j_ifne (t := 16) (pc' := 14) rfl rfl rfl (fun h2 => ?_) (fun h2 => ?_)
    · exact kF h2
    · exact kT h2
  · refine j_iconst (pc' := 15) (x := (-1 : Int32)) rfl rfl rfl ?_
    exact j_ret rfl rfl rfl (fun _ h => h)
  · refine j_aload_n (pc' := 17) rfl rfl rfl ?_
    refine j_iload_n (pc' := 18) rfl rfl rfl ?_
    refine j_pfi (pc' := 21) rfl rfl j_a75 rfl rfl (fun σ1 => ?_)
    refine j_iload_n (pc' := 22) rfl rfl rfl ?_
    exact j_ret rfl rfl rfl (fun _ h => h)

noncomputable def f_X3_empty (σ : j_G) : Option j_G :=
  j_lt (j_si σ 15 0 (0 : Int32)) fun σ1 =>
  j_lt (j_si σ1 15 1 (0 : Int32)) fun σ2 =>
  some σ2
theorem c_X3_empty (σ : j_G) : j_K true 0 29 [.ref 15] σ (f_X3_empty σ) j_Rv := by
  refine j_mkK (M := M_cX3_empty) (L := [some (.ref 15)]) (m := 0) t_29 rfl (j_rcvO j_a15 rfl) rfl (fun d hd τ => ?_)
  unfold f_X3_empty
  refine j_aload_n (pc' := 1) rfl rfl rfl ?_
  refine j_iconst (pc' := 2) (x := (0 : Int32)) rfl rfl rfl ?_
  refine j_pfi (pc' := 5) rfl rfl j_a15 rfl rfl (fun σ1 => ?_)
  refine j_aload_n (pc' := 6) rfl rfl rfl ?_
  refine j_iconst (pc' := 7) (x := (0 : Int32)) rfl rfl rfl ?_
  refine j_pfi (pc' := 10) rfl rfl j_a15 rfl rfl (fun σ2 => ?_)
  exact j_ret rfl rfl rfl (fun _ h => h)

noncomputable def f_X2_empty (σ : j_G) : Option j_G :=
  j_lt (j_si σ 11 1 (0 : Int32)) fun σ1 =>
  j_lt (j_si σ1 11 2 (0 : Int32)) fun σ2 =>
  j_lt (j_si σ2 11 3 (0 : Int32)) fun σ3 =>
  j_lt (j_si σ3 11 4 (0 : Int32)) fun σ4 =>
  j_lt (j_si σ4 11 5 (0 : Int32)) fun σ5 =>
  j_lt (j_si σ5 11 6 (0 : Int32)) fun σ6 =>
  j_lt (j_si σ6 11 7 (0 : Int32)) fun σ7 =>
  j_lt (j_si σ7 11 8 (1 : Int32)) fun σ8 =>
  j_lt (j_si σ8 11 9 (100 : Int32)) fun σ9 =>
  j_lt (j_si σ9 11 10 (0 : Int32)) fun σ10 =>
  j_b1 (f_X3_empty σ10) fun σ11 =>
  some σ11
theorem c_X2_empty (σ : j_G) : j_K true 1 9 [.ref 11] σ (f_X2_empty σ) j_Rv := by
  refine j_mkK (M := M_cX2_empty) (L := [some (.ref 11)]) (m := 0) t_9 rfl (j_rcvO j_a11 rfl) rfl (fun d hd τ => ?_)
  unfold f_X2_empty
  refine j_aload_n (pc' := 1) rfl rfl rfl ?_
  refine j_iconst (pc' := 2) (x := (0 : Int32)) rfl rfl rfl ?_
  refine j_pfi (pc' := 5) rfl rfl j_a11 rfl rfl (fun σ1 => ?_)
  refine j_aload_n (pc' := 6) rfl rfl rfl ?_
  refine j_iconst (pc' := 7) (x := (0 : Int32)) rfl rfl rfl ?_
  refine j_pfi (pc' := 10) rfl rfl j_a11 rfl rfl (fun σ2 => ?_)
  refine j_aload_n (pc' := 11) rfl rfl rfl ?_
  refine j_iconst (pc' := 12) (x := (0 : Int32)) rfl rfl rfl ?_
  refine j_pfi (pc' := 15) rfl rfl j_a11 rfl rfl (fun σ3 => ?_)
  refine j_aload_n (pc' := 16) rfl rfl rfl ?_
  refine j_iconst (pc' := 17) (x := (0 : Int32)) rfl rfl rfl ?_
  refine j_pfi (pc' := 20) rfl rfl j_a11 rfl rfl (fun σ4 => ?_)
  refine j_aload_n (pc' := 21) rfl rfl rfl ?_
  refine j_iconst (pc' := 22) (x := (0 : Int32)) rfl rfl rfl ?_
  refine j_pfi (pc' := 25) rfl rfl j_a11 rfl rfl (fun σ5 => ?_)
  refine j_aload_n (pc' := 26) rfl rfl rfl ?_
  refine j_iconst (pc' := 27) (x := (0 : Int32)) rfl rfl rfl ?_
  refine j_pfi (pc' := 30) rfl rfl j_a11 rfl rfl (fun σ6 => ?_)
  refine j_aload_n (pc' := 31) rfl rfl rfl ?_
  refine j_iconst (pc' := 32) (x := (0 : Int32)) rfl rfl rfl ?_
  refine j_pfi (pc' := 35) rfl rfl j_a11 rfl rfl (fun σ7 => ?_)
  refine j_aload_n (pc' := 36) rfl rfl rfl ?_
  refine j_iconst (pc' := 37) (x := (1 : Int32)) rfl rfl rfl ?_
  refine j_pfi (pc' := 40) rfl rfl j_a11 rfl rfl (fun σ8 => ?_)
  refine j_aload_n (pc' := 41) rfl rfl rfl ?_
  refine j_bipush (pc' := 43) (x := (100 : Int32)) rfl rfl rfl ?_
  refine j_pfi (pc' := 46) rfl rfl j_a11 rfl rfl (fun σ9 => ?_)
  refine j_aload_n (pc' := 47) rfl rfl rfl ?_
  refine j_iconst (pc' := 48) (x := (0 : Int32)) rfl rfl rfl ?_
  refine j_pfi (pc' := 51) rfl rfl j_a11 rfl rfl (fun σ10 => ?_)
  refine j_aload_n (pc' := 52) rfl rfl rfl ?_
  refine j_gfr (pc' := 55) (x := 15) rfl rfl j_a11 rfl rfl ?_
  refine j_callRv (pc' := 58) (ai := 29) (vs := [.ref 15]) (rest := []) rfl rfl (fun _ _ => rfl) (c_X3_empty  σ10) (j_dd rfl hd) rfl (fun σ11 => ?_)
  exact j_ret rfl rfl rfl (fun _ h => h)

noncomputable def f_X10_at (l1 : Int32) (σ : j_G) : Option Int32 :=
  if (¬ l1 < 0) ∧ (l1 < (σ.1 19 0)) then (j_ix l1 1200 (
  some ((σ.1 20 (l1).toNatClampNeg) &&& (255 : Int32)))) else (some (-1 : Int32))
theorem c_X10_at (l1 : Int32) (σ : j_G) : j_K true 0 110 [.ref 19, .int l1] σ (f_X10_at l1 σ) (j_Pi σ) := by
  refine j_mkK (M := M_cX10_at) (L := [some (.ref 19), some (.int l1)]) (m := 0) t_110 rfl (j_rcvO j_a19 rfl) rfl (fun d hd τ => ?_)
  unfold f_X10_at
  refine j_iload_n (pc' := 1) rfl rfl rfl ?_
  refine j_two (pT := 12) (pF := 25) (L1 := [some (.ref 19), some (.int l1)]) (st1 := []) (fun o kT kF => ?_) (fun h1 => ?_) (fun h1 => ?_)
  · refine j_iflt (t := 25) (pc' := 4) rfl rfl rfl (fun h2 => ?_) (fun h2 => ?_)
    · exact kF (fun z => z.1 h2)
    · refine j_iload_n (pc' := 5) rfl rfl rfl ?_
      refine j_aload_n (pc' := 6) rfl rfl rfl ?_
      refine j_gfi (pc' := 9) rfl rfl j_a19 rfl ?_
      refine j_icge (t := 25) (pc' := 12) rfl rfl rfl (fun h3 => ?_) (fun h3 => ?_)
      · exact kF (fun z => (h3) z.2)
      · exact kT (⟨h2, h3⟩)
  · refine j_aload_n (pc' := 13) rfl rfl rfl ?_
    refine j_gfr (pc' := 16) (x := 20) rfl rfl j_a19 rfl rfl ?_
    refine j_iload_n (pc' := 17) rfl rfl rfl ?_
    refine j_bald (pc' := 18) rfl rfl j_a20 ?_
    refine j_sipush (pc' := 21) (x := (255 : Int32)) rfl rfl rfl ?_
    refine j_iand (pc' := 22) rfl rfl ?_
    refine j_goto (t := 26) rfl rfl ?_
    exact j_ret rfl rfl rfl (fun _ h => h)
  · refine j_iconst (pc' := 26) (x := (-1 : Int32)) rfl rfl rfl ?_
    exact j_ret rfl rfl rfl (fun _ h => h)

noncomputable def f_X7_isBlank (l0 : Int32) : Int32 :=
  if (l0 = (32 : Int32)) ∨ (l0 = (10 : Int32)) then ((1 : Int32)) else ((0 : Int32))

theorem b_X7_isBlank (l0 : Int32) : f_X7_isBlank l0 = 0 ∨ f_X7_isBlank l0 = 1 := by
  unfold f_X7_isBlank
  repeat' split
  all_goals first | exact Or.inl rfl | exact Or.inr rfl
theorem c_X7_isBlank (l0 : Int32) (σ : j_G) : j_K true 0 87 [.int l0] σ (some (f_X7_isBlank l0)) (j_Pi σ) := by
  refine j_mkK (M := M_cX7_isBlank) (L := [some (.int l0)]) (m := 0) t_87 rfl (j_rcvS rfl) rfl (fun d hd τ => ?_)
  unfold f_X7_isBlank
  refine j_iload_n (pc' := 1) rfl rfl rfl ?_
  refine j_bipush (pc' := 3) (x := (32 : Int32)) rfl rfl rfl ?_
  refine j_twoT (pT := 12) (pF := 16) (L1 := [some (.int l0)]) (st1 := []) (fun o kT kF => ?_) (fun h1 => ?_) (fun h1 => ?_)
  · refine j_iceq (t := 12) (pc' := 6) rfl rfl rfl (fun h2 => ?_) (fun h2 => ?_)
    · exact kT (Or.inl h2)
    · refine j_iload_n (pc' := 7) rfl rfl rfl ?_
      refine j_bipush (pc' := 9) (x := (10 : Int32)) rfl rfl rfl ?_
      refine j_icne (t := 16) (pc' := 12) rfl rfl rfl (fun h3 => ?_) (fun h3 => ?_)
      · exact kF (fun z => z.elim h2 (h3))
      · exact kT (Or.inr (h3))
  · refine j_iconst (pc' := 13) (x := (1 : Int32)) rfl rfl rfl ?_
    refine j_goto (t := 17) rfl rfl ?_
    exact j_ret rfl rfl rfl (fun _ h => h)
  · refine j_iconst (pc' := 17) (x := (0 : Int32)) rfl rfl rfl ?_
    exact j_ret rfl rfl rfl (fun _ h => h)

noncomputable def f_X7_isLetter (l0 : Int32) : Int32 :=
  if (¬ l0 < (97 : Int32)) ∧ (¬ (122 : Int32) < l0) then ((1 : Int32)) else ((0 : Int32))

theorem b_X7_isLetter (l0 : Int32) : f_X7_isLetter l0 = 0 ∨ f_X7_isLetter l0 = 1 := by
  unfold f_X7_isLetter
  repeat' split
  all_goals first | exact Or.inl rfl | exact Or.inr rfl
theorem c_X7_isLetter (l0 : Int32) (σ : j_G) : j_K true 0 88 [.int l0] σ (some (f_X7_isLetter l0)) (j_Pi σ) := by
  refine j_mkK (M := M_cX7_isLetter) (L := [some (.int l0)]) (m := 0) t_88 rfl (j_rcvS rfl) rfl (fun d hd τ => ?_)
  unfold f_X7_isLetter
  refine j_iload_n (pc' := 1) rfl rfl rfl ?_
  refine j_bipush (pc' := 3) (x := (97 : Int32)) rfl rfl rfl ?_
  refine j_twoT (pT := 12) (pF := 16) (L1 := [some (.int l0)]) (st1 := []) (fun o kT kF => ?_) (fun h1 => ?_) (fun h1 => ?_)
  · refine j_iclt (t := 16) (pc' := 6) rfl rfl rfl (fun h2 => ?_) (fun h2 => ?_)
    · exact kF (fun z => z.1 h2)
    · refine j_iload_n (pc' := 7) rfl rfl rfl ?_
      refine j_bipush (pc' := 9) (x := (122 : Int32)) rfl rfl rfl ?_
      refine j_icgt (t := 16) (pc' := 12) rfl rfl rfl (fun h3 => ?_) (fun h3 => ?_)
      · exact kF (fun z => (fun z => z h3) z.2)
      · exact kT (⟨h2, h3⟩)
  · refine j_iconst (pc' := 13) (x := (1 : Int32)) rfl rfl rfl ?_
    refine j_goto (t := 17) rfl rfl ?_
    exact j_ret rfl rfl rfl (fun _ h => h)
  · refine j_iconst (pc' := 17) (x := (0 : Int32)) rfl rfl rfl ?_
    exact j_ret rfl rfl rfl (fun _ h => h)

noncomputable def f_X7_isDigit (l0 : Int32) : Int32 :=
  if (¬ l0 < (48 : Int32)) ∧ (¬ (57 : Int32) < l0) then ((1 : Int32)) else ((0 : Int32))

theorem b_X7_isDigit (l0 : Int32) : f_X7_isDigit l0 = 0 ∨ f_X7_isDigit l0 = 1 := by
  unfold f_X7_isDigit
  repeat' split
  all_goals first | exact Or.inl rfl | exact Or.inr rfl
theorem c_X7_isDigit (l0 : Int32) (σ : j_G) : j_K true 0 89 [.int l0] σ (some (f_X7_isDigit l0)) (j_Pi σ) := by
  refine j_mkK (M := M_cX7_isDigit) (L := [some (.int l0)]) (m := 0) t_89 rfl (j_rcvS rfl) rfl (fun d hd τ => ?_)
  unfold f_X7_isDigit
  refine j_iload_n (pc' := 1) rfl rfl rfl ?_
  refine j_bipush (pc' := 3) (x := (48 : Int32)) rfl rfl rfl ?_
  refine j_twoT (pT := 12) (pF := 16) (L1 := [some (.int l0)]) (st1 := []) (fun o kT kF => ?_) (fun h1 => ?_) (fun h1 => ?_)
  · refine j_iclt (t := 16) (pc' := 6) rfl rfl rfl (fun h2 => ?_) (fun h2 => ?_)
    · exact kF (fun z => z.1 h2)
    · refine j_iload_n (pc' := 7) rfl rfl rfl ?_
      refine j_bipush (pc' := 9) (x := (57 : Int32)) rfl rfl rfl ?_
      refine j_icgt (t := 16) (pc' := 12) rfl rfl rfl (fun h3 => ?_) (fun h3 => ?_)
      · exact kF (fun z => (fun z => z h3) z.2)
      · exact kT (⟨h2, h3⟩)
  · refine j_iconst (pc' := 13) (x := (1 : Int32)) rfl rfl rfl ?_
    refine j_goto (t := 17) rfl rfl ?_
    exact j_ret rfl rfl rfl (fun _ h => h)
  · refine j_iconst (pc' := 17) (x := (0 : Int32)) rfl rfl rfl ?_
    exact j_ret rfl rfl rfl (fun _ h => h)

noncomputable def p_X7_step_8 : Nat → j_G → Option j_G
  | 0, _ => none
  | n + 1, σ =>
    if (σ.1 10 6) < (σ.1 19 0) then (j_b1 (f_X10_at (σ.1 10 6) σ) fun v1 =>
    if ¬ (f_X7_isBlank v1) = 0 then (j_lt (j_si σ 10 6 ((σ.1 10 6) + (1 : Int32))) fun σ2 =>
    p_X7_step_8 n σ2) else (some σ)) else (some σ)

noncomputable def p_X7_step_102 : Nat → j_G → Option j_G
  | 0, _ => none
  | n + 1, σ =>
    if (σ.1 10 7) < (σ.1 19 0) then (j_b1 (f_X10_at (σ.1 10 7) σ) fun v1 =>
    if ¬ (f_X7_isLetter v1) = 0 then (j_lt (j_si σ 10 7 ((σ.1 10 7) + (1 : Int32))) fun σ2 =>
    p_X7_step_102 n σ2) else (some σ)) else (some σ)

noncomputable def p_X7_step_158 : Nat → j_G → Option j_G
  | 0, _ => none
  | n + 1, σ =>
    if (σ.1 10 7) < (σ.1 19 0) then (j_b1 (f_X10_at (σ.1 10 7) σ) fun v1 =>
    if ¬ (f_X7_isDigit v1) = 0 then (j_b1 (f_X10_at (σ.1 10 7) σ) fun v2 =>
    j_lt (j_si σ 10 8 (if ((((10 : Int32) * (σ.1 10 8)) + v2) - (48 : Int32)) < (1000000 : Int32) then ((((10 : Int32) * (σ.1 10 8)) + v2) - (48 : Int32)) else (1000000 : Int32))) fun σ3 =>
    j_lt (j_si σ3 10 7 ((σ3.1 10 7) + (1 : Int32))) fun σ4 =>
    p_X7_step_158 n σ4) else (some σ)) else (some σ)

noncomputable def f_X7_step (σ : j_G) : Option j_G :=
  j_lt (j_si σ 10 6 (σ.1 10 7)) fun σ1 =>
  j_b1 (p_X7_step_8 j_F σ1) fun σ2 =>
  j_lt (j_si σ2 10 7 (σ2.1 10 6)) fun σ3 =>
  j_lt (j_si σ3 10 8 (0 : Int32)) fun σ4 =>
  j_b1 (f_X10_at (σ4.1 10 6) σ4) fun v5 =>
  if v5 = (-1 : Int32) then (j_lt (j_si σ4 10 5 (1 : Int32)) fun σ6 =>
  some σ6) else (if ¬ (f_X7_isLetter v5) = 0 then (j_lt (j_si σ4 10 5 (2 : Int32)) fun σ7 =>
  j_b1 (p_X7_step_102 j_F σ7) fun σ8 =>
  some σ8) else (if ¬ (f_X7_isDigit v5) = 0 then (j_lt (j_si σ4 10 5 (3 : Int32)) fun σ9 =>
  j_b1 (p_X7_step_158 j_F σ9) fun σ10 =>
  some σ10) else (j_lt (if v5 = (59 : Int32) then ((4 : Int32)) else ((0 : Int32))) fun v11 =>
  j_lt (j_si σ4 10 5 v11) fun σ12 =>
  j_lt (j_si σ12 10 7 ((σ12.1 10 7) + (1 : Int32))) fun σ13 =>
  some σ13)))
theorem l_X7_step_8 {d : Nat} (hd : 1 ≤ d) (τ : j_G) : ∀ (n : Nat) (σ : j_G), j_J true τ M_cX7_step d 8 [some (.ref 10), none] [] σ (p_X7_step_8 n σ) (fun r Q => j_Tr true τ M_cX7_step d 52 [some (.ref 10), none] [] r Q) := by
  intro n
  induction n with
  | zero => intro σ; exact j_none
  | succ n ih =>
    intro σ
    unfold p_X7_step_8
    refine j_aload_n (pc' := 9) rfl rfl rfl ?_
    refine j_gfi (pc' := 12) rfl rfl j_a10 rfl ?_
    refine j_aload_n (pc' := 13) rfl rfl rfl ?_
    refine j_gfr (pc' := 16) (x := 19) rfl rfl j_a10 rfl rfl ?_
    refine j_gfi (pc' := 19) rfl rfl j_a19 rfl ?_
    refine j_two (pT := 22) (pF := 52) (L1 := [some (.ref 10), none]) (st1 := []) (fun o kT kF => ?_) (fun h3 => ?_) (fun h3 => ?_)
    · refine j_icge (t := 52) (pc' := 22) rfl rfl rfl (fun h4 => ?_) (fun h4 => ?_)
      · exact kF h4
      · exact kT h4
    · refine j_aload_n (pc' := 23) rfl rfl rfl ?_
      refine j_gfr (pc' := 26) (x := 19) rfl rfl j_a10 rfl rfl ?_
      refine j_aload_n (pc' := 27) rfl rfl rfl ?_
      refine j_gfi (pc' := 30) rfl rfl j_a10 rfl ?_
      refine j_callPi (pc' := 33) (ai := 110) (vs := [.ref 19, .int (σ.1 10 6)]) (rest := []) rfl rfl (fun _ _ => rfl) (c_X10_at (σ.1 10 6) σ) (j_dd rfl hd) rfl (fun v1 => ?_)
      refine j_callTi (pc' := 36) (ai := 87) (vs := [.int v1]) (rest := []) rfl rfl (fun _ _ => rfl) (c_X7_isBlank v1 σ) (j_dd rfl hd) rfl ?_
      refine j_two (pT := 39) (pF := 52) (L1 := [some (.ref 10), none]) (st1 := []) (fun o kT kF => ?_) (fun h1 => ?_) (fun h1 => ?_)
      · refine j_ifeq (t := 52) (pc' := 39) rfl rfl rfl (fun h2 => ?_) (fun h2 => ?_)
        · exact kF (fun z => z h2)
        · exact kT h2
      · refine j_aload_n (pc' := 40) rfl rfl rfl ?_
        refine j_dup (pc' := 41) rfl rfl rfl ?_
        refine j_gfi (pc' := 44) rfl rfl j_a10 rfl ?_
        refine j_iconst (pc' := 45) (x := (1 : Int32)) rfl rfl rfl ?_
        refine j_iadd (pc' := 46) rfl rfl ?_
        refine j_pfi (pc' := 49) rfl rfl j_a10 rfl rfl (fun σ2 => ?_)
        refine j_goto (t := 8) rfl rfl ?_
        exact ih σ2
      · exact j_end (fun _ h => h)
    · exact j_end (fun _ h => h)

theorem l_X7_step_102 {d : Nat} (hd : 1 ≤ d) (τ : j_G) : ∀ (n : Nat) (σ : j_G), j_J true τ M_cX7_step d 102 [some (.ref 10), none] [] σ (p_X7_step_102 n σ) (fun r Q => j_Tr true τ M_cX7_step d 258 [none, none] [] r Q) := by
  intro n
  induction n with
  | zero => intro σ; exact j_none
  | succ n ih =>
    intro σ
    unfold p_X7_step_102
    refine j_aload_n (pc' := 103) rfl rfl rfl ?_
    refine j_gfi (pc' := 106) rfl rfl j_a10 rfl ?_
    refine j_aload_n (pc' := 107) rfl rfl rfl ?_
    refine j_gfr (pc' := 110) (x := 19) rfl rfl j_a10 rfl rfl ?_
    refine j_gfi (pc' := 113) rfl rfl j_a19 rfl ?_
    refine j_two (pT := 116) (pF := 258) (L1 := [some (.ref 10), none]) (st1 := []) (fun o kT kF => ?_) (fun h3 => ?_) (fun h3 => ?_)
    · refine j_icge (t := 258) (pc' := 116) rfl rfl rfl (fun h4 => ?_) (fun h4 => ?_)
      · exact kF h4
      · exact kT h4
    · refine j_aload_n (pc' := 117) rfl rfl rfl ?_
      refine j_gfr (pc' := 120) (x := 19) rfl rfl j_a10 rfl rfl ?_
      refine j_aload_n (pc' := 121) rfl rfl rfl ?_
      refine j_gfi (pc' := 124) rfl rfl j_a10 rfl ?_
      refine j_callPi (pc' := 127) (ai := 110) (vs := [.ref 19, .int (σ.1 10 7)]) (rest := []) rfl rfl (fun _ _ => rfl) (c_X10_at (σ.1 10 7) σ) (j_dd rfl hd) rfl (fun v1 => ?_)
      refine j_callTi (pc' := 130) (ai := 88) (vs := [.int v1]) (rest := []) rfl rfl (fun _ _ => rfl) (c_X7_isLetter v1 σ) (j_dd rfl hd) rfl ?_
      refine j_two (pT := 133) (pF := 258) (L1 := [some (.ref 10), none]) (st1 := []) (fun o kT kF => ?_) (fun h1 => ?_) (fun h1 => ?_)
      · refine j_ifeq (t := 258) (pc' := 133) rfl rfl rfl (fun h2 => ?_) (fun h2 => ?_)
        · exact kF (fun z => z h2)
        · exact kT h2
      · refine j_aload_n (pc' := 134) rfl rfl rfl ?_
        refine j_dup (pc' := 135) rfl rfl rfl ?_
        refine j_gfi (pc' := 138) rfl rfl j_a10 rfl ?_
        refine j_iconst (pc' := 139) (x := (1 : Int32)) rfl rfl rfl ?_
        refine j_iadd (pc' := 140) rfl rfl ?_
        refine j_pfi (pc' := 143) rfl rfl j_a10 rfl rfl (fun σ2 => ?_)
        refine j_goto (t := 102) rfl rfl ?_
        exact ih σ2
      · refine j_wk [false, true] (L' := [none, none]) rfl ?_
        exact j_end (fun _ h => h)
    · refine j_wk [false, true] (L' := [none, none]) rfl ?_
      exact j_end (fun _ h => h)

theorem l_X7_step_158 {d : Nat} (hd : 1 ≤ d) (τ : j_G) : ∀ (n : Nat) (σ : j_G), j_J true τ M_cX7_step d 158 [some (.ref 10), none] [] σ (p_X7_step_158 n σ) (fun r Q => j_Tr true τ M_cX7_step d 258 [none, none] [] r Q) := by
  intro n
  induction n with
  | zero => intro σ; exact j_none
  | succ n ih =>
    intro σ
    unfold p_X7_step_158
    refine j_aload_n (pc' := 159) rfl rfl rfl ?_
    refine j_gfi (pc' := 162) rfl rfl j_a10 rfl ?_
    refine j_aload_n (pc' := 163) rfl rfl rfl ?_
    refine j_gfr (pc' := 166) (x := 19) rfl rfl j_a10 rfl rfl ?_
    refine j_gfi (pc' := 169) rfl rfl j_a19 rfl ?_
    refine j_two (pT := 172) (pF := 258) (L1 := [some (.ref 10), none]) (st1 := []) (fun o kT kF => ?_) (fun h3 => ?_) (fun h3 => ?_)
    · refine j_icge (t := 258) (pc' := 172) rfl rfl rfl (fun h4 => ?_) (fun h4 => ?_)
      · exact kF h4
      · exact kT h4
    · refine j_aload_n (pc' := 173) rfl rfl rfl ?_
      refine j_gfr (pc' := 176) (x := 19) rfl rfl j_a10 rfl rfl ?_
      refine j_aload_n (pc' := 177) rfl rfl rfl ?_
      refine j_gfi (pc' := 180) rfl rfl j_a10 rfl ?_
      refine j_callPi (pc' := 183) (ai := 110) (vs := [.ref 19, .int (σ.1 10 7)]) (rest := []) rfl rfl (fun _ _ => rfl) (c_X10_at (σ.1 10 7) σ) (j_dd rfl hd) rfl (fun v1 => ?_)
      refine j_callTi (pc' := 186) (ai := 89) (vs := [.int v1]) (rest := []) rfl rfl (fun _ _ => rfl) (c_X7_isDigit v1 σ) (j_dd rfl hd) rfl ?_
      refine j_two (pT := 189) (pF := 258) (L1 := [some (.ref 10), none]) (st1 := []) (fun o kT kF => ?_) (fun h1 => ?_) (fun h1 => ?_)
      · refine j_ifeq (t := 258) (pc' := 189) rfl rfl rfl (fun h2 => ?_) (fun h2 => ?_)
        · exact kF (fun z => z h2)
        · exact kT h2
      · refine j_aload_n (pc' := 190) rfl rfl rfl ?_
        refine j_ldc (pc' := 192) (x := (1000000 : Int32)) rfl rfl rfl rfl ?_
        refine j_bipush (pc' := 194) (x := (10 : Int32)) rfl rfl rfl ?_
        refine j_aload_n (pc' := 195) rfl rfl rfl ?_
        refine j_gfi (pc' := 198) rfl rfl j_a10 rfl ?_
        refine j_imul (pc' := 199) rfl rfl ?_
        refine j_aload_n (pc' := 200) rfl rfl rfl ?_
        refine j_gfr (pc' := 203) (x := 19) rfl rfl j_a10 rfl rfl ?_
        refine j_aload_n (pc' := 204) rfl rfl rfl ?_
        refine j_gfi (pc' := 207) rfl rfl j_a10 rfl ?_
        refine j_callPi (pc' := 210) (ai := 110) (vs := [.ref 19, .int (σ.1 10 7)]) (rest := [.int ((10 : Int32) * (σ.1 10 8)), .int (1000000 : Int32), .ref 10]) rfl rfl (fun _ _ => rfl) (c_X10_at (σ.1 10 7) σ) (j_dd rfl hd) rfl (fun v2 => ?_)
        refine j_iadd (pc' := 211) rfl rfl ?_
        refine j_bipush (pc' := 213) (x := (48 : Int32)) rfl rfl rfl ?_
        refine j_isub (pc' := 214) rfl rfl ?_
        refine j_min (pc' := 217) rfl rfl rfl ?_
        refine j_pfi (pc' := 220) rfl rfl j_a10 rfl rfl (fun σ3 => ?_)
        refine j_aload_n (pc' := 221) rfl rfl rfl ?_
        refine j_dup (pc' := 222) rfl rfl rfl ?_
        refine j_gfi (pc' := 225) rfl rfl j_a10 rfl ?_
        refine j_iconst (pc' := 226) (x := (1 : Int32)) rfl rfl rfl ?_
        refine j_iadd (pc' := 227) rfl rfl ?_
        refine j_pfi (pc' := 230) rfl rfl j_a10 rfl rfl (fun σ4 => ?_)
        refine j_goto (t := 158) rfl rfl ?_
        exact ih σ4
      · refine j_wk [false, true] (L' := [none, none]) rfl ?_
        exact j_end (fun _ h => h)
    · refine j_wk [false, true] (L' := [none, none]) rfl ?_
      exact j_end (fun _ h => h)

theorem c_X7_step (σ : j_G) : j_K true 1 86 [.ref 10] σ (f_X7_step σ) j_Rv := by
  refine j_mkK (M := M_cX7_step) (L := [some (.ref 10), none]) (m := 1) t_86 rfl (j_rcvO j_a10 rfl) rfl (fun d hd τ => ?_)
  unfold f_X7_step
  refine j_aload_n (pc' := 1) rfl rfl rfl ?_
  refine j_aload_n (pc' := 2) rfl rfl rfl ?_
  refine j_gfi (pc' := 5) rfl rfl j_a10 rfl ?_
  refine j_pfi (pc' := 8) rfl rfl j_a10 rfl rfl (fun σ1 => ?_)
  refine j_q1 (l_X7_step_8 hd τ j_F σ1) (fun σ2 => ?_)
  show j_J true τ M_cX7_step d 52 [some (.ref 10), none] [] σ2 _ _
  refine j_aload_n (pc' := 53) rfl rfl rfl ?_
  refine j_aload_n (pc' := 54) rfl rfl rfl ?_
  refine j_gfi (pc' := 57) rfl rfl j_a10 rfl ?_
  refine j_pfi (pc' := 60) rfl rfl j_a10 rfl rfl (fun σ3 => ?_)
  refine j_aload_n (pc' := 61) rfl rfl rfl ?_
  refine j_iconst (pc' := 62) (x := (0 : Int32)) rfl rfl rfl ?_
  refine j_pfi (pc' := 65) rfl rfl j_a10 rfl rfl (fun σ4 => ?_)
  refine j_aload_n (pc' := 66) rfl rfl rfl ?_
  refine j_gfr (pc' := 69) (x := 19) rfl rfl j_a10 rfl rfl ?_
  refine j_aload_n (pc' := 70) rfl rfl rfl ?_
  refine j_gfi (pc' := 73) rfl rfl j_a10 rfl ?_
  refine j_callPi (pc' := 76) (ai := 110) (vs := [.ref 19, .int (σ4.1 10 6)]) (rest := []) rfl rfl (fun _ _ => rfl) (c_X10_at (σ4.1 10 6) σ4) (j_dd rfl hd) rfl (fun v5 => ?_)
  refine j_istore_n (pc' := 77) (L' := [some (.ref 10), some (.int v5)]) rfl rfl rfl ?_
  refine j_iload_n (pc' := 78) rfl rfl rfl ?_
  refine j_iconst (pc' := 79) (x := (-1 : Int32)) rfl rfl rfl ?_
  refine j_two (pT := 82) (pF := 90) (L1 := [some (.ref 10), some (.int v5)]) (st1 := []) (fun o kT kF => ?_) (fun h7 => ?_) (fun h7 => ?_)
  · refine j_icne (t := 90) (pc' := 82) rfl rfl rfl (fun h8 => ?_) (fun h8 => ?_)
    · exact kF h8
    · exact kT h8
  · refine j_aload_n (pc' := 83) rfl rfl rfl ?_
    refine j_iconst (pc' := 84) (x := (1 : Int32)) rfl rfl rfl ?_
    refine j_pfi (pc' := 87) rfl rfl j_a10 rfl rfl (fun σ6 => ?_)
    refine j_goto (t := 258) rfl rfl ?_
    exact j_ret rfl rfl rfl (fun _ h => h)
  · refine j_iload_n (pc' := 91) rfl rfl rfl ?_
    refine j_callTi (pc' := 94) (ai := 88) (vs := [.int v5]) (rest := []) rfl rfl (fun _ _ => rfl) (c_X7_isLetter v5 σ4) (j_dd rfl hd) rfl ?_
    refine j_two (pT := 97) (pF := 146) (L1 := [some (.ref 10), some (.int v5)]) (st1 := []) (fun o kT kF => ?_) (fun h5 => ?_) (fun h5 => ?_)
    · refine j_ifeq (t := 146) (pc' := 97) rfl rfl rfl (fun h6 => ?_) (fun h6 => ?_)
      · exact kF (fun z => z h6)
      · exact kT h6
    · refine j_aload_n (pc' := 98) rfl rfl rfl ?_
      refine j_iconst (pc' := 99) (x := (2 : Int32)) rfl rfl rfl ?_
      refine j_pfi (pc' := 102) rfl rfl j_a10 rfl rfl (fun σ7 => ?_)
      refine j_wk [true, false] (L' := [some (.ref 10), none]) rfl ?_
      refine j_q1 (l_X7_step_102 hd τ j_F σ7) (fun σ8 => ?_)
      show j_J true τ M_cX7_step d 258 [none, none] [] σ8 _ _
      exact j_ret rfl rfl rfl (fun _ h => h)
    · refine j_iload_n (pc' := 147) rfl rfl rfl ?_
      refine j_callTi (pc' := 150) (ai := 89) (vs := [.int v5]) (rest := []) rfl rfl (fun _ _ => rfl) (c_X7_isDigit v5 σ4) (j_dd rfl hd) rfl ?_
      refine j_two (pT := 153) (pF := 233) (L1 := [some (.ref 10), some (.int v5)]) (st1 := []) (fun o kT kF => ?_) (fun h3 => ?_) (fun h3 => ?_)
      · refine j_ifeq (t := 233) (pc' := 153) rfl rfl rfl (fun h4 => ?_) (fun h4 => ?_)
        · exact kF (fun z => z h4)
        · exact kT h4
      · refine j_aload_n (pc' := 154) rfl rfl rfl ?_
        refine j_iconst (pc' := 155) (x := (3 : Int32)) rfl rfl rfl ?_
        refine j_pfi (pc' := 158) rfl rfl j_a10 rfl rfl (fun σ9 => ?_)
        refine j_wk [true, false] (L' := [some (.ref 10), none]) rfl ?_
        refine j_q1 (l_X7_step_158 hd τ j_F σ9) (fun σ10 => ?_)
        show j_J true τ M_cX7_step d 258 [none, none] [] σ10 _ _
        exact j_ret rfl rfl rfl (fun _ h => h)
      · refine j_aload_n (pc' := 234) rfl rfl rfl ?_
        refine j_iload_n (pc' := 235) rfl rfl rfl ?_
        refine j_bipush (pc' := 237) (x := (59 : Int32)) rfl rfl rfl ?_
        refine j_ql (Φl := (fun r Q => j_Tr true τ M_cX7_step d 245 [some (.ref 10), none] [.int r, .ref 10] σ4 Q)) ?_ (fun v11 => ?_)
        · refine j_twoT (pT := 240) (pF := 244) (L1 := [some (.ref 10), some (.int v5)]) (st1 := [.ref 10]) (fun o kT kF => ?_) (fun h1 => ?_) (fun h1 => ?_)
          · refine j_icne (t := 244) (pc' := 240) rfl rfl rfl (fun h2 => ?_) (fun h2 => ?_)
            · exact kF h2
            · exact kT h2
          · refine j_iconst (pc' := 241) (x := (4 : Int32)) rfl rfl rfl ?_
            refine j_goto (t := 245) rfl rfl ?_
            refine j_wk [true, false] (L' := [some (.ref 10), none]) rfl ?_
            exact j_end (fun _ h => h)
          · refine j_iconst (pc' := 245) (x := (0 : Int32)) rfl rfl rfl ?_
            refine j_wk [true, false] (L' := [some (.ref 10), none]) rfl ?_
            exact j_end (fun _ h => h)
        show j_J true τ M_cX7_step d 245 [some (.ref 10), none] [.int v11, .ref 10] σ4 _ _
        refine j_pfi (pc' := 248) rfl rfl j_a10 rfl rfl (fun σ12 => ?_)
        refine j_aload_n (pc' := 249) rfl rfl rfl ?_
        refine j_dup (pc' := 250) rfl rfl rfl ?_
        refine j_gfi (pc' := 253) rfl rfl j_a10 rfl ?_
        refine j_iconst (pc' := 254) (x := (1 : Int32)) rfl rfl rfl ?_
        refine j_iadd (pc' := 255) rfl rfl ?_
        refine j_pfi (pc' := 258) rfl rfl j_a10 rfl rfl (fun σ13 => ?_)
        exact j_ret rfl rfl rfl (fun _ h => h)

noncomputable def f_X7_shapeOf (l0 : Int32) : Nat :=
  if l0 = 0 then (2000000) else
  if l0 = 1 then (2000001) else
  if l0 = 2 then (2000002) else
  if l0 = 3 then (2000003) else
  if l0 = 4 then (2000004) else
  if l0 = 5 then (2000005) else
  if l0 = 6 then (2000006) else
  (2000007)
theorem c_X7_shapeOf (l0 : Int32) (σ : j_G) : j_K true 0 71 [.int l0] σ (some (f_X7_shapeOf l0)) (j_Pr σ) := by
  refine j_mkK (M := M_cX7_shapeOf) (L := [some (.int l0)]) (m := 0) t_71 rfl (j_rcvS rfl) rfl (fun d hd τ => ?_)
  unfold f_X7_shapeOf
  refine j_iload_n (pc' := 1) rfl rfl rfl ?_
  refine j_splT (k := (0 : Int32)) (fun h1 => ?_) (fun h1 => ?_)
  · refine j_sw (t := 44) h1 rfl rfl (fun _ _ => rfl) ?_
    refine j_ldcs (pc' := 46) (x := 2000000) rfl rfl rfl rfl ?_
    exact j_ret rfl rfl rfl (fun _ h => h)
  refine j_splT (k := (1 : Int32)) (fun h2 => ?_) (fun h2 => ?_)
  · refine j_sw (t := 47) h2 rfl rfl (fun _ _ => rfl) ?_
    refine j_ldcs (pc' := 49) (x := 2000001) rfl rfl rfl rfl ?_
    exact j_ret rfl rfl rfl (fun _ h => h)
  refine j_splT (k := (2 : Int32)) (fun h3 => ?_) (fun h3 => ?_)
  · refine j_sw (t := 50) h3 rfl rfl (fun _ _ => rfl) ?_
    refine j_ldcs (pc' := 52) (x := 2000002) rfl rfl rfl rfl ?_
    exact j_ret rfl rfl rfl (fun _ h => h)
  refine j_splT (k := (3 : Int32)) (fun h4 => ?_) (fun h4 => ?_)
  · refine j_sw (t := 53) h4 rfl rfl (fun _ _ => rfl) ?_
    refine j_ldcs (pc' := 55) (x := 2000003) rfl rfl rfl rfl ?_
    exact j_ret rfl rfl rfl (fun _ h => h)
  refine j_splT (k := (4 : Int32)) (fun h5 => ?_) (fun h5 => ?_)
  · refine j_sw (t := 56) h5 rfl rfl (fun _ _ => rfl) ?_
    refine j_ldcs (pc' := 58) (x := 2000004) rfl rfl rfl rfl ?_
    exact j_ret rfl rfl rfl (fun _ h => h)
  refine j_splT (k := (5 : Int32)) (fun h6 => ?_) (fun h6 => ?_)
  · refine j_sw (t := 59) h6 rfl rfl (fun _ _ => rfl) ?_
    refine j_ldcs (pc' := 61) (x := 2000005) rfl rfl rfl rfl ?_
    exact j_ret rfl rfl rfl (fun _ h => h)
  refine j_splT (k := (6 : Int32)) (fun h7 => ?_) (fun h7 => ?_)
  · refine j_sw (t := 62) h7 rfl rfl (fun _ _ => rfl) ?_
    refine j_ldcs (pc' := 64) (x := 2000006) rfl rfl rfl rfl ?_
    exact j_ret rfl rfl rfl (fun _ h => h)
  have eh1 := j_ne (0) (by decide) h1
  have eh2 := j_ne (1) (by decide) h2
  have eh3 := j_ne (2) (by decide) h3
  have eh4 := j_ne (3) (by decide) h4
  have eh5 := j_ne (4) (by decide) h5
  have eh6 := j_ne (5) (by decide) h6
  have eh7 := j_ne (6) (by decide) h7
  refine j_tsd (t := 65) rfl (by omega) rfl ?_
  refine j_ldcs (pc' := 67) (x := 2000007) rfl rfl rfl rfl ?_
  exact j_ret rfl rfl rfl (fun _ h => h)

noncomputable def p_X7_isSpelled_37 (l1 : Nat) (l2 : Int32) (l3 : Int32) (σ : j_G) : Nat → Int32 → Option Int32
  | 0, _ => none
  | n + 1, l4 =>
    if l4 < l3 then (j_b1 (j_chr l1 (l2 + l4)) fun v1 =>
    j_b1 (f_X10_at ((σ.1 10 6) + l4) σ) fun v2 =>
    if ¬ v1 = v2 then (some (0 : Int32)) else (p_X7_isSpelled_37 l1 l2 l3 σ n (l4 + (1 : Int32)))) else (some (1 : Int32))

noncomputable def f_X7_isSpelled (l1 : Nat) (l2 : Int32) (σ : j_G) : Option Int32 :=
  j_lt ((σ.1 10 7) - (σ.1 10 6)) fun v1 =>
  j_b1 (j_len l1) fun v2 =>
  if (l2 + v1) < v2 then (j_b1 (j_chr l1 (l2 + v1)) fun v3 =>
  if ¬ v3 = (32 : Int32) then (some (0 : Int32)) else (p_X7_isSpelled_37 l1 l2 v1 σ j_F (0 : Int32))) else (some (0 : Int32))
theorem l_X7_isSpelled_37 {d : Nat} (hd : 1 ≤ d) (τ : j_G) (l1 : Nat) (l2 : Int32) (l3 : Int32) (σ : j_G) : ∀ (n : Nat) (l4 : Int32), j_J true τ M_cX7_isSpelled d 37 [some (.ref 10), some (.ref l1), some (.int l2), some (.int l3), some (.int l4)] [] σ (p_X7_isSpelled_37 l1 l2 l3 σ n l4) (j_Pi σ) := by
  intro n
  induction n with
  | zero => intro l4; exact j_none
  | succ n ih =>
    intro l4
    unfold p_X7_isSpelled_37
    refine j_iload (pc' := 39) rfl rfl rfl ?_
    refine j_iload_n (pc' := 40) rfl rfl rfl ?_
    refine j_two (pT := 43) (pF := 76) (L1 := [some (.ref 10), some (.ref l1), some (.int l2), some (.int l3), some (.int l4)]) (st1 := []) (fun o kT kF => ?_) (fun h3 => ?_) (fun h3 => ?_)
    · refine j_icge (t := 76) (pc' := 43) rfl rfl rfl (fun h4 => ?_) (fun h4 => ?_)
      · exact kF h4
      · exact kT h4
    · refine j_aload_n (pc' := 44) rfl rfl rfl ?_
      refine j_iload_n (pc' := 45) rfl rfl rfl ?_
      refine j_iload (pc' := 47) rfl rfl rfl ?_
      refine j_iadd (pc' := 48) rfl rfl ?_
      refine j_schr (pc' := 51) rfl rfl rfl (fun v1 => ?_)
      refine j_aload_n (pc' := 52) rfl rfl rfl ?_
      refine j_gfr (pc' := 55) (x := 19) rfl rfl j_a10 rfl rfl ?_
      refine j_aload_n (pc' := 56) rfl rfl rfl ?_
      refine j_gfi (pc' := 59) rfl rfl j_a10 rfl ?_
      refine j_iload (pc' := 61) rfl rfl rfl ?_
      refine j_iadd (pc' := 62) rfl rfl ?_
      refine j_callPi (pc' := 65) (ai := 110) (vs := [.ref 19, .int ((σ.1 10 6) + l4)]) (rest := [.int v1]) rfl rfl (fun _ _ => rfl) (c_X10_at ((σ.1 10 6) + l4) σ) (j_dd rfl hd) rfl (fun v2 => ?_)
      refine j_two (pT := 68) (pF := 70) (L1 := [some (.ref 10), some (.ref l1), some (.int l2), some (.int l3), some (.int l4)]) (st1 := []) (fun o kT kF => ?_) (fun h1 => ?_) (fun h1 => ?_)
      · refine j_iceq (t := 70) (pc' := 68) rfl rfl rfl (fun h2 => ?_) (fun h2 => ?_)
        · exact kF (fun z => z h2)
        · exact kT h2
      · refine j_iconst (pc' := 69) (x := (0 : Int32)) rfl rfl rfl ?_
        exact j_ret rfl rfl rfl (fun _ h => h)
      · refine j_iincx (pc' := 73) (y := (1 : Int32)) (L' := [some (.ref 10), some (.ref l1), some (.int l2), some (.int l3), some (.int (l4 + (1 : Int32)))]) rfl rfl rfl rfl rfl ?_
        refine j_goto (t := 37) rfl rfl ?_
        exact ih (l4 + (1 : Int32))
    · refine j_iconst (pc' := 77) (x := (1 : Int32)) rfl rfl rfl ?_
      exact j_ret rfl rfl rfl (fun _ h => h)

theorem c_X7_isSpelled (l1 : Nat) (l2 : Int32) (σ : j_G) : j_K true 1 77 [.ref 10, .ref l1, .int l2] σ (f_X7_isSpelled l1 l2 σ) (j_Pi σ) := by
  refine j_mkK (M := M_cX7_isSpelled) (L := [some (.ref 10), some (.ref l1), some (.int l2), none, none]) (m := 2) t_77 rfl (j_rcvO j_a10 rfl) rfl (fun d hd τ => ?_)
  unfold f_X7_isSpelled
  refine j_aload_n (pc' := 1) rfl rfl rfl ?_
  refine j_gfi (pc' := 4) rfl rfl j_a10 rfl ?_
  refine j_aload_n (pc' := 5) rfl rfl rfl ?_
  refine j_gfi (pc' := 8) rfl rfl j_a10 rfl ?_
  refine j_isub (pc' := 9) rfl rfl ?_
  refine j_leti (fun v1 => ?_)
  refine j_istore_n (pc' := 10) (L' := [some (.ref 10), some (.ref l1), some (.int l2), some (.int v1), none]) rfl rfl rfl ?_
  refine j_iload_n (pc' := 11) rfl rfl rfl ?_
  refine j_iload_n (pc' := 12) rfl rfl rfl ?_
  refine j_iadd (pc' := 13) rfl rfl ?_
  refine j_aload_n (pc' := 14) rfl rfl rfl ?_
  refine j_slen (pc' := 17) rfl rfl rfl (fun v2 => ?_)
  refine j_two (pT := 20) (pF := 32) (L1 := [some (.ref 10), some (.ref l1), some (.int l2), some (.int v1), none]) (st1 := []) (fun o kT kF => ?_) (fun h3 => ?_) (fun h3 => ?_)
  · refine j_icge (t := 32) (pc' := 20) rfl rfl rfl (fun h4 => ?_) (fun h4 => ?_)
    · exact kF h4
    · exact kT h4
  · refine j_aload_n (pc' := 21) rfl rfl rfl ?_
    refine j_iload_n (pc' := 22) rfl rfl rfl ?_
    refine j_iload_n (pc' := 23) rfl rfl rfl ?_
    refine j_iadd (pc' := 24) rfl rfl ?_
    refine j_schr (pc' := 27) rfl rfl rfl (fun v3 => ?_)
    refine j_bipush (pc' := 29) (x := (32 : Int32)) rfl rfl rfl ?_
    refine j_two (pT := 32) (pF := 34) (L1 := [some (.ref 10), some (.ref l1), some (.int l2), some (.int v1), none]) (st1 := []) (fun o kT kF => ?_) (fun h1 => ?_) (fun h1 => ?_)
    · refine j_iceq (t := 34) (pc' := 32) rfl rfl rfl (fun h2 => ?_) (fun h2 => ?_)
      · exact kF (fun z => z h2)
      · exact kT h2
    · refine j_iconst (pc' := 33) (x := (0 : Int32)) rfl rfl rfl ?_
      exact j_ret rfl rfl rfl (fun _ h => h)
    · refine j_iconst (pc' := 35) (x := (0 : Int32)) rfl rfl rfl ?_
      refine j_istore (pc' := 37) (L' := [some (.ref 10), some (.ref l1), some (.int l2), some (.int v1), some (.int (0 : Int32))]) rfl rfl rfl ?_
      exact (l_X7_isSpelled_37 hd τ l1 l2 v1 σ j_F (0 : Int32))
  · refine j_iconst (pc' := 33) (x := (0 : Int32)) rfl rfl rfl ?_
    exact j_ret rfl rfl rfl (fun _ h => h)

noncomputable def f_X7_standsAt (l1 : Nat) (l2 : Int32) (σ : j_G) : Option Int32 :=
  if ¬ l2 < 0 then (j_b1 (j_len l1) fun v1 =>
  if ¬ l2 < v1 then (some (0 : Int32)) else (j_b1 (j_chr l1 l2) fun v2 =>
  if v2 = 35 then (if (σ.1 10 5) = (3 : Int32) then (some (1 : Int32)) else (some (0 : Int32))) else
  if v2 = 59 then (if (σ.1 10 5) = (4 : Int32) then (some (1 : Int32)) else (some (0 : Int32))) else
  (if (σ.1 10 5) = (2 : Int32) then (j_b1 (f_X7_isSpelled l1 l2 σ) fun v3 =>
  if ¬ v3 = 0 then (some (1 : Int32)) else (some (0 : Int32))) else (some (0 : Int32))))) else (some (0 : Int32))
theorem c_X7_standsAt (l1 : Nat) (l2 : Int32) (σ : j_G) : j_K true 2 76 [.ref 10, .ref l1, .int l2] σ (f_X7_standsAt l1 l2 σ) (j_Pi σ) := by
  refine j_mkK (M := M_cX7_standsAt) (L := [some (.ref 10), some (.ref l1), some (.int l2)]) (m := 0) t_76 rfl (j_rcvO j_a10 rfl) rfl (fun d hd τ => ?_)
  unfold f_X7_standsAt
  refine j_iload_n (pc' := 1) rfl rfl rfl ?_
  refine j_two (pT := 4) (pF := 12) (L1 := [some (.ref 10), some (.ref l1), some (.int l2)]) (st1 := []) (fun o kT kF => ?_) (fun h13 => ?_) (fun h13 => ?_)
  · refine j_iflt (t := 12) (pc' := 4) rfl rfl rfl (fun h14 => ?_) (fun h14 => ?_)
    · exact kF (fun z => z h14)
    · exact kT h14
  · refine j_iload_n (pc' := 5) rfl rfl rfl ?_
    refine j_aload_n (pc' := 6) rfl rfl rfl ?_
    refine j_slen (pc' := 9) rfl rfl rfl (fun v1 => ?_)
    refine j_two (pT := 12) (pF := 14) (L1 := [some (.ref 10), some (.ref l1), some (.int l2)]) (st1 := []) (fun o kT kF => ?_) (fun h11 => ?_) (fun h11 => ?_)
    · refine j_iclt (t := 14) (pc' := 12) rfl rfl rfl (fun h12 => ?_) (fun h12 => ?_)
      · exact kF (fun z => z h12)
      · exact kT h12
    · refine j_iconst (pc' := 13) (x := (0 : Int32)) rfl rfl rfl ?_
      exact j_ret rfl rfl rfl (fun _ h => h)
    · refine j_aload_n (pc' := 15) rfl rfl rfl ?_
      refine j_iload_n (pc' := 16) rfl rfl rfl ?_
      refine j_schr (pc' := 19) rfl rfl rfl (fun v2 => ?_)
      refine j_spl (k := (35 : Int32)) (fun h1 => ?_) (fun h1 => ?_)
      · refine j_sw (t := 44) h1 rfl rfl (fun _ _ => rfl) ?_
        refine j_aload_n (pc' := 45) rfl rfl rfl ?_
        refine j_gfi (pc' := 48) rfl rfl j_a10 rfl ?_
        refine j_iconst (pc' := 49) (x := (3 : Int32)) rfl rfl rfl ?_
        refine j_two (pT := 52) (pF := 56) (L1 := [some (.ref 10), some (.ref l1), some (.int l2)]) (st1 := []) (fun o kT kF => ?_) (fun h2 => ?_) (fun h2 => ?_)
        · refine j_icne (t := 56) (pc' := 52) rfl rfl rfl (fun h3 => ?_) (fun h3 => ?_)
          · exact kF h3
          · exact kT h3
        · refine j_iconst (pc' := 53) (x := (1 : Int32)) rfl rfl rfl ?_
          refine j_goto (t := 57) rfl rfl ?_
          exact j_ret rfl rfl rfl (fun _ h => h)
        · refine j_iconst (pc' := 57) (x := (0 : Int32)) rfl rfl rfl ?_
          exact j_ret rfl rfl rfl (fun _ h => h)
      refine j_spl (k := (59 : Int32)) (fun h4 => ?_) (fun h4 => ?_)
      · refine j_sw (t := 58) h4 rfl rfl (fun _ _ => rfl) ?_
        refine j_aload_n (pc' := 59) rfl rfl rfl ?_
        refine j_gfi (pc' := 62) rfl rfl j_a10 rfl ?_
        refine j_iconst (pc' := 63) (x := (4 : Int32)) rfl rfl rfl ?_
        refine j_two (pT := 66) (pF := 70) (L1 := [some (.ref 10), some (.ref l1), some (.int l2)]) (st1 := []) (fun o kT kF => ?_) (fun h5 => ?_) (fun h5 => ?_)
        · refine j_icne (t := 70) (pc' := 66) rfl rfl rfl (fun h6 => ?_) (fun h6 => ?_)
          · exact kF h6
          · exact kT h6
        · refine j_iconst (pc' := 67) (x := (1 : Int32)) rfl rfl rfl ?_
          refine j_goto (t := 71) rfl rfl ?_
          exact j_ret rfl rfl rfl (fun _ h => h)
        · refine j_iconst (pc' := 71) (x := (0 : Int32)) rfl rfl rfl ?_
          exact j_ret rfl rfl rfl (fun _ h => h)
      refine j_lsd (t := 72) rfl (by decide) (by simp [Op.lookupswitch.offset, j_ne (35) (by decide) h1, (j_ne (35) (by decide) h1).symm, j_ne (59) (by decide) h4, (j_ne (59) (by decide) h4).symm]) rfl ?_
      refine j_aload_n (pc' := 73) rfl rfl rfl ?_
      refine j_gfi (pc' := 76) rfl rfl j_a10 rfl ?_
      refine j_iconst (pc' := 77) (x := (2 : Int32)) rfl rfl rfl ?_
      refine j_two (pT := 80) (pF := 93) (L1 := [some (.ref 10), some (.ref l1), some (.int l2)]) (st1 := []) (fun o kT kF => ?_) (fun h9 => ?_) (fun h9 => ?_)
      · refine j_icne (t := 93) (pc' := 80) rfl rfl rfl (fun h10 => ?_) (fun h10 => ?_)
        · exact kF h10
        · exact kT h10
      · refine j_aload_n (pc' := 81) rfl rfl rfl ?_
        refine j_aload_n (pc' := 82) rfl rfl rfl ?_
        refine j_iload_n (pc' := 83) rfl rfl rfl ?_
        refine j_callPi (pc' := 86) (ai := 77) (vs := [.ref 10, .ref l1, .int l2]) (rest := []) rfl rfl (fun _ _ => rfl) (c_X7_isSpelled l1 l2 σ) (j_dd rfl hd) rfl (fun v3 => ?_)
        refine j_two (pT := 89) (pF := 93) (L1 := [some (.ref 10), some (.ref l1), some (.int l2)]) (st1 := []) (fun o kT kF => ?_) (fun h7 => ?_) (fun h7 => ?_)
        · refine j_ifeq (t := 93) (pc' := 89) rfl rfl rfl (fun h8 => ?_) (fun h8 => ?_)
          · exact kF (fun z => z h8)
          · exact kT h8
        · refine j_iconst (pc' := 90) (x := (1 : Int32)) rfl rfl rfl ?_
          refine j_goto (t := 94) rfl rfl ?_
          exact j_ret rfl rfl rfl (fun _ h => h)
        · refine j_iconst (pc' := 94) (x := (0 : Int32)) rfl rfl rfl ?_
          exact j_ret rfl rfl rfl (fun _ h => h)
      · refine j_iconst (pc' := 94) (x := (0 : Int32)) rfl rfl rfl ?_
        exact j_ret rfl rfl rfl (fun _ h => h)
  · refine j_iconst (pc' := 13) (x := (0 : Int32)) rfl rfl rfl ?_
    exact j_ret rfl rfl rfl (fun _ h => h)

noncomputable def p_X7_kindOfLine_2 (σ : j_G) : Nat → Int32 → Option Int32
  | 0, _ => none
  | n + 1, l1 =>
    if l1 < (8 : Int32) then (j_b1 (f_X7_standsAt (f_X7_shapeOf l1) (0 : Int32) σ) fun v1 =>
    if ¬ v1 = 0 then (j_lt (if l1 = 0 then ((1 : Int32)) else ((0 : Int32))) fun v2 =>
    j_lt (if (σ.1 11 1) = 0 then ((1 : Int32)) else ((0 : Int32))) fun v3 =>
    if v2 = v3 then (some l1) else (some (-1 : Int32))) else (p_X7_kindOfLine_2 σ n (l1 + (1 : Int32)))) else (some (-1 : Int32))

noncomputable def f_X7_kindOfLine (σ : j_G) : Option Int32 :=
  p_X7_kindOfLine_2 σ j_F (0 : Int32)
theorem l_X7_kindOfLine_2 {d : Nat} (hd : 3 ≤ d) (τ : j_G) (σ : j_G) : ∀ (n : Nat) (l1 : Int32), j_J true τ M_cX7_kindOfLine d 2 [some (.ref 10), some (.int l1)] [] σ (p_X7_kindOfLine_2 σ n l1) (j_Pi σ) := by
  intro n
  induction n with
  | zero => intro l1; exact j_none
  | succ n ih =>
    intro l1
    unfold p_X7_kindOfLine_2
    refine j_iload_n (pc' := 3) rfl rfl rfl ?_
    refine j_bipush (pc' := 5) (x := (8 : Int32)) rfl rfl rfl ?_
    refine j_two (pT := 8) (pF := 59) (L1 := [some (.ref 10), some (.int l1)]) (st1 := []) (fun o kT kF => ?_) (fun h9 => ?_) (fun h9 => ?_)
    · refine j_icge (t := 59) (pc' := 8) rfl rfl rfl (fun h10 => ?_) (fun h10 => ?_)
      · exact kF h10
      · exact kT h10
    · refine j_aload_n (pc' := 9) rfl rfl rfl ?_
      refine j_iload_n (pc' := 10) rfl rfl rfl ?_
      refine j_callTr (pc' := 13) (ai := 71) (vs := [.int l1]) (rest := [.ref 10]) rfl rfl (fun _ _ => rfl) (c_X7_shapeOf l1 σ) (j_dd rfl hd) rfl ?_
      refine j_iconst (pc' := 14) (x := (0 : Int32)) rfl rfl rfl ?_
      refine j_callPi (pc' := 17) (ai := 76) (vs := [.ref 10, .ref (f_X7_shapeOf l1), .int (0 : Int32)]) (rest := []) rfl rfl (fun _ _ => rfl) (c_X7_standsAt (f_X7_shapeOf l1) (0 : Int32) σ) (j_dd rfl hd) rfl (fun v1 => ?_)
      refine j_two (pT := 20) (pF := 53) (L1 := [some (.ref 10), some (.int l1)]) (st1 := []) (fun o kT kF => ?_) (fun h7 => ?_) (fun h7 => ?_)
      · refine j_ifeq (t := 53) (pc' := 20) rfl rfl rfl (fun h8 => ?_) (fun h8 => ?_)
        · exact kF (fun z => z h8)
        · exact kT h8
      · refine j_iload_n (pc' := 21) rfl rfl rfl ?_
        refine j_ql (Φl := (fun r Q => j_Tr true τ M_cX7_kindOfLine d 29 [some (.ref 10), some (.int l1)] [.int r] σ Q)) ?_ (fun v2 => ?_)
        · refine j_twoT (pT := 24) (pF := 28) (L1 := [some (.ref 10), some (.int l1)]) (st1 := []) (fun o kT kF => ?_) (fun h1 => ?_) (fun h1 => ?_)
          · refine j_ifne (t := 28) (pc' := 24) rfl rfl rfl (fun h2 => ?_) (fun h2 => ?_)
            · exact kF h2
            · exact kT h2
          · refine j_iconst (pc' := 25) (x := (1 : Int32)) rfl rfl rfl ?_
            refine j_goto (t := 29) rfl rfl ?_
            exact j_end (fun _ h => h)
          · refine j_iconst (pc' := 29) (x := (0 : Int32)) rfl rfl rfl ?_
            exact j_end (fun _ h => h)
        show j_J true τ M_cX7_kindOfLine d 29 [some (.ref 10), some (.int l1)] [.int v2] σ _ _
        refine j_aload_n (pc' := 30) rfl rfl rfl ?_
        refine j_gfr (pc' := 33) (x := 11) rfl rfl j_a10 rfl rfl ?_
        refine j_gfi (pc' := 36) rfl rfl j_a11 rfl ?_
        refine j_ql (Φl := (fun r Q => j_Tr true τ M_cX7_kindOfLine d 44 [none, some (.int l1)] [.int r, .int v2] σ Q)) ?_ (fun v3 => ?_)
        · refine j_twoT (pT := 39) (pF := 43) (L1 := [some (.ref 10), some (.int l1)]) (st1 := [.int v2]) (fun o kT kF => ?_) (fun h3 => ?_) (fun h3 => ?_)
          · refine j_ifne (t := 43) (pc' := 39) rfl rfl rfl (fun h4 => ?_) (fun h4 => ?_)
            · exact kF h4
            · exact kT h4
          · refine j_iconst (pc' := 40) (x := (1 : Int32)) rfl rfl rfl ?_
            refine j_goto (t := 44) rfl rfl ?_
            refine j_wk [false, true] (L' := [none, some (.int l1)]) rfl ?_
            exact j_end (fun _ h => h)
          · refine j_iconst (pc' := 44) (x := (0 : Int32)) rfl rfl rfl ?_
            refine j_wk [false, true] (L' := [none, some (.int l1)]) rfl ?_
            exact j_end (fun _ h => h)
        show j_J true τ M_cX7_kindOfLine d 44 [none, some (.int l1)] [.int v3, .int v2] σ _ _
        refine j_two (pT := 47) (pF := 51) (L1 := [none, some (.int l1)]) (st1 := []) (fun o kT kF => ?_) (fun h5 => ?_) (fun h5 => ?_)
        · refine j_icne (t := 51) (pc' := 47) rfl rfl rfl (fun h6 => ?_) (fun h6 => ?_)
          · exact kF h6
          · exact kT h6
        · refine j_iload_n (pc' := 48) rfl rfl rfl ?_
          refine j_goto (t := 52) rfl rfl ?_
          exact j_ret rfl rfl rfl (fun _ h => h)
        · refine j_iconst (pc' := 52) (x := (-1 : Int32)) rfl rfl rfl ?_
          exact j_ret rfl rfl rfl (fun _ h => h)
      · refine j_iincx (pc' := 56) (y := (1 : Int32)) (L' := [some (.ref 10), some (.int (l1 + (1 : Int32)))]) rfl rfl rfl rfl rfl ?_
        refine j_goto (t := 2) rfl rfl ?_
        exact ih (l1 + (1 : Int32))
    · refine j_iconst (pc' := 60) (x := (-1 : Int32)) rfl rfl rfl ?_
      exact j_ret rfl rfl rfl (fun _ h => h)

theorem c_X7_kindOfLine (σ : j_G) : j_K true 3 75 [.ref 10] σ (f_X7_kindOfLine σ) (j_Pi σ) := by
  refine j_mkK (M := M_cX7_kindOfLine) (L := [some (.ref 10), none]) (m := 1) t_75 rfl (j_rcvO j_a10 rfl) rfl (fun d hd τ => ?_)
  unfold f_X7_kindOfLine
  refine j_iconst (pc' := 1) (x := (0 : Int32)) rfl rfl rfl ?_
  refine j_istore_n (pc' := 2) (L' := [some (.ref 10), some (.int (0 : Int32))]) rfl rfl rfl ?_
  exact (l_X7_kindOfLine_2 hd τ σ j_F (0 : Int32))

noncomputable def f_X7_blame (l1 : Int32) (σ : j_G) : Option j_G :=
  j_lt (j_si σ 10 1 l1) fun σ1 =>
  j_lt (j_si σ1 10 2 (σ1.1 10 6)) fun σ2 =>
  some σ2
theorem c_X7_blame (l1 : Int32) (σ : j_G) : j_K true 0 73 [.ref 10, .int l1] σ (f_X7_blame l1 σ) j_Rv := by
  refine j_mkK (M := M_cX7_blame) (L := [some (.ref 10), some (.int l1)]) (m := 0) t_73 rfl (j_rcvO j_a10 rfl) rfl (fun d hd τ => ?_)
  unfold f_X7_blame
  refine j_aload_n (pc' := 1) rfl rfl rfl ?_
  refine j_iload_n (pc' := 2) rfl rfl rfl ?_
  refine j_pfi (pc' := 5) rfl rfl j_a10 rfl rfl (fun σ1 => ?_)
  refine j_aload_n (pc' := 6) rfl rfl rfl ?_
  refine j_aload_n (pc' := 7) rfl rfl rfl ?_
  refine j_gfi (pc' := 10) rfl rfl j_a10 rfl ?_
  refine j_pfi (pc' := 13) rfl rfl j_a10 rfl rfl (fun σ2 => ?_)
  exact j_ret rfl rfl rfl (fun _ h => h)

noncomputable def f_X7_isFull (l1 : Int32) (σ : j_G) : Int32 :=
  if l1 = 3 then (if ¬ (σ.1 15 0) < (24 : Int32) then ((1 : Int32)) else ((0 : Int32))) else
  if l1 = 4 then (if ¬ (σ.1 15 0) < (24 : Int32) then ((1 : Int32)) else ((0 : Int32))) else
  if l1 = 5 then (if ¬ (σ.1 15 0) < (24 : Int32) then ((1 : Int32)) else ((0 : Int32))) else
  if l1 = 6 then (if ¬ (σ.1 11 7) < (4 : Int32) then ((1 : Int32)) else ((0 : Int32))) else
  ((0 : Int32))

theorem b_X7_isFull (l1 : Int32) (σ : j_G) : f_X7_isFull l1 σ = 0 ∨ f_X7_isFull l1 σ = 1 := by
  unfold f_X7_isFull
  repeat' split
  all_goals first | exact Or.inl rfl | exact Or.inr rfl
theorem c_X7_isFull (l1 : Int32) (σ : j_G) : j_K true 0 78 [.ref 10, .int l1] σ (some (f_X7_isFull l1 σ)) (j_Pi σ) := by
  refine j_mkK (M := M_cX7_isFull) (L := [some (.ref 10), some (.int l1)]) (m := 0) t_78 rfl (j_rcvO j_a10 rfl) rfl (fun d hd τ => ?_)
  unfold f_X7_isFull
  refine j_iload_n (pc' := 1) rfl rfl rfl ?_
  refine j_splT (k := (3 : Int32)) (fun h1 => ?_) (fun h1 => ?_)
  · refine j_sw (t := 32) h1 rfl rfl (fun _ _ => rfl) ?_
    refine j_aload_n (pc' := 33) rfl rfl rfl ?_
    refine j_gfr (pc' := 36) (x := 11) rfl rfl j_a10 rfl rfl ?_
    refine j_gfr (pc' := 39) (x := 15) rfl rfl j_a11 rfl rfl ?_
    refine j_gfi (pc' := 42) rfl rfl j_a15 rfl ?_
    refine j_bipush (pc' := 44) (x := (24 : Int32)) rfl rfl rfl ?_
    refine j_twoT (pT := 47) (pF := 51) (L1 := [some (.ref 10), some (.int l1)]) (st1 := []) (fun o kT kF => ?_) (fun h2 => ?_) (fun h2 => ?_)
    · refine j_iclt (t := 51) (pc' := 47) rfl rfl rfl (fun h3 => ?_) (fun h3 => ?_)
      · exact kF (fun z => z h3)
      · exact kT h3
    · refine j_iconst (pc' := 48) (x := (1 : Int32)) rfl rfl rfl ?_
      refine j_goto (t := 52) rfl rfl ?_
      exact j_ret rfl rfl rfl (fun _ h => h)
    · refine j_iconst (pc' := 52) (x := (0 : Int32)) rfl rfl rfl ?_
      exact j_ret rfl rfl rfl (fun _ h => h)
  refine j_splT (k := (4 : Int32)) (fun h4 => ?_) (fun h4 => ?_)
  · refine j_sw (t := 32) h4 rfl rfl (fun _ _ => rfl) ?_
    refine j_aload_n (pc' := 33) rfl rfl rfl ?_
    refine j_gfr (pc' := 36) (x := 11) rfl rfl j_a10 rfl rfl ?_
    refine j_gfr (pc' := 39) (x := 15) rfl rfl j_a11 rfl rfl ?_
    refine j_gfi (pc' := 42) rfl rfl j_a15 rfl ?_
    refine j_bipush (pc' := 44) (x := (24 : Int32)) rfl rfl rfl ?_
    refine j_twoT (pT := 47) (pF := 51) (L1 := [some (.ref 10), some (.int l1)]) (st1 := []) (fun o kT kF => ?_) (fun h5 => ?_) (fun h5 => ?_)
    · refine j_iclt (t := 51) (pc' := 47) rfl rfl rfl (fun h6 => ?_) (fun h6 => ?_)
      · exact kF (fun z => z h6)
      · exact kT h6
    · refine j_iconst (pc' := 48) (x := (1 : Int32)) rfl rfl rfl ?_
      refine j_goto (t := 52) rfl rfl ?_
      exact j_ret rfl rfl rfl (fun _ h => h)
    · refine j_iconst (pc' := 52) (x := (0 : Int32)) rfl rfl rfl ?_
      exact j_ret rfl rfl rfl (fun _ h => h)
  refine j_splT (k := (5 : Int32)) (fun h7 => ?_) (fun h7 => ?_)
  · refine j_sw (t := 32) h7 rfl rfl (fun _ _ => rfl) ?_
    refine j_aload_n (pc' := 33) rfl rfl rfl ?_
    refine j_gfr (pc' := 36) (x := 11) rfl rfl j_a10 rfl rfl ?_
    refine j_gfr (pc' := 39) (x := 15) rfl rfl j_a11 rfl rfl ?_
    refine j_gfi (pc' := 42) rfl rfl j_a15 rfl ?_
    refine j_bipush (pc' := 44) (x := (24 : Int32)) rfl rfl rfl ?_
    refine j_twoT (pT := 47) (pF := 51) (L1 := [some (.ref 10), some (.int l1)]) (st1 := []) (fun o kT kF => ?_) (fun h8 => ?_) (fun h8 => ?_)
    · refine j_iclt (t := 51) (pc' := 47) rfl rfl rfl (fun h9 => ?_) (fun h9 => ?_)
      · exact kF (fun z => z h9)
      · exact kT h9
    · refine j_iconst (pc' := 48) (x := (1 : Int32)) rfl rfl rfl ?_
      refine j_goto (t := 52) rfl rfl ?_
      exact j_ret rfl rfl rfl (fun _ h => h)
    · refine j_iconst (pc' := 52) (x := (0 : Int32)) rfl rfl rfl ?_
      exact j_ret rfl rfl rfl (fun _ h => h)
  refine j_splT (k := (6 : Int32)) (fun h10 => ?_) (fun h10 => ?_)
  · refine j_sw (t := 53) h10 rfl rfl (fun _ _ => rfl) ?_
    refine j_aload_n (pc' := 54) rfl rfl rfl ?_
    refine j_gfr (pc' := 57) (x := 11) rfl rfl j_a10 rfl rfl ?_
    refine j_gfi (pc' := 60) rfl rfl j_a11 rfl ?_
    refine j_iconst (pc' := 61) (x := (4 : Int32)) rfl rfl rfl ?_
    refine j_twoT (pT := 64) (pF := 68) (L1 := [some (.ref 10), some (.int l1)]) (st1 := []) (fun o kT kF => ?_) (fun h11 => ?_) (fun h11 => ?_)
    · refine j_iclt (t := 68) (pc' := 64) rfl rfl rfl (fun h12 => ?_) (fun h12 => ?_)
      · exact kF (fun z => z h12)
      · exact kT h12
    · refine j_iconst (pc' := 65) (x := (1 : Int32)) rfl rfl rfl ?_
      refine j_goto (t := 69) rfl rfl ?_
      exact j_ret rfl rfl rfl (fun _ h => h)
    · refine j_iconst (pc' := 69) (x := (0 : Int32)) rfl rfl rfl ?_
      exact j_ret rfl rfl rfl (fun _ h => h)
  have eh1 := j_ne (3) (by decide) h1
  have eh4 := j_ne (4) (by decide) h4
  have eh7 := j_ne (5) (by decide) h7
  have eh10 := j_ne (6) (by decide) h10
  refine j_tsd (t := 70) rfl (by omega) rfl ?_
  refine j_iconst (pc' := 71) (x := (0 : Int32)) rfl rfl rfl ?_
  exact j_ret rfl rfl rfl (fun _ h => h)

noncomputable def p_X7_behindBlank_2 (l0 : Nat) : Nat → Int32 → Option Int32
  | 0, _ => none
  | n + 1, l2 =>
    j_b1 (j_len l0) fun v1 =>
    if l2 < v1 then (j_b1 (j_chr l0 l2) fun v2 =>
    if ¬ v2 = (32 : Int32) then (p_X7_behindBlank_2 l0 n (l2 + (1 : Int32))) else (some l2)) else (some l2)

noncomputable def f_X7_behindBlank (l0 : Nat) (l1 : Int32) : Option Int32 :=
  j_b1 (p_X7_behindBlank_2 l0 j_F l1) fun v1 =>
  some (v1 + (1 : Int32))
theorem l_X7_behindBlank_2 {d : Nat} (hd : 0 ≤ d) (τ : j_G) (l0 : Nat) (σ : j_G) : ∀ (n : Nat) (l2 : Int32), j_J true τ M_cX7_behindBlank d 2 [some (.ref l0), none, some (.int l2)] [] σ (p_X7_behindBlank_2 l0 n l2) (fun r Q => j_Tr true τ M_cX7_behindBlank d 26 [none, none, some (.int r)] [] σ Q) := by
  intro n
  induction n with
  | zero => intro l2; exact j_none
  | succ n ih =>
    intro l2
    unfold p_X7_behindBlank_2
    refine j_iload_n (pc' := 3) rfl rfl rfl ?_
    refine j_aload_n (pc' := 4) rfl rfl rfl ?_
    refine j_slen (pc' := 7) rfl rfl rfl (fun v1 => ?_)
    refine j_two (pT := 10) (pF := 26) (L1 := [some (.ref l0), none, some (.int l2)]) (st1 := []) (fun o kT kF => ?_) (fun h3 => ?_) (fun h3 => ?_)
    · refine j_icge (t := 26) (pc' := 10) rfl rfl rfl (fun h4 => ?_) (fun h4 => ?_)
      · exact kF h4
      · exact kT h4
    · refine j_aload_n (pc' := 11) rfl rfl rfl ?_
      refine j_iload_n (pc' := 12) rfl rfl rfl ?_
      refine j_schr (pc' := 15) rfl rfl rfl (fun v2 => ?_)
      refine j_bipush (pc' := 17) (x := (32 : Int32)) rfl rfl rfl ?_
      refine j_two (pT := 20) (pF := 26) (L1 := [some (.ref l0), none, some (.int l2)]) (st1 := []) (fun o kT kF => ?_) (fun h1 => ?_) (fun h1 => ?_)
      · refine j_iceq (t := 26) (pc' := 20) rfl rfl rfl (fun h2 => ?_) (fun h2 => ?_)
        · exact kF (fun z => z h2)
        · exact kT h2
      · refine j_iincx (pc' := 23) (y := (1 : Int32)) (L' := [some (.ref l0), none, some (.int (l2 + (1 : Int32)))]) rfl rfl rfl rfl rfl ?_
        refine j_goto (t := 2) rfl rfl ?_
        exact ih (l2 + (1 : Int32))
      · refine j_wk [false, true, true] (L' := [none, none, some (.int l2)]) rfl ?_
        exact j_end (fun _ h => h)
    · refine j_wk [false, true, true] (L' := [none, none, some (.int l2)]) rfl ?_
      exact j_end (fun _ h => h)

theorem c_X7_behindBlank (l0 : Nat) (l1 : Int32) (σ : j_G) : j_K true 0 74 [.ref l0, .int l1] σ (f_X7_behindBlank l0 l1) (j_Pi σ) := by
  refine j_mkK (M := M_cX7_behindBlank) (L := [some (.ref l0), some (.int l1), none]) (m := 1) t_74 rfl (j_rcvS rfl) rfl (fun d hd τ => ?_)
  unfold f_X7_behindBlank
  refine j_iload_n (pc' := 1) rfl rfl rfl ?_
  refine j_istore_n (pc' := 2) (L' := [some (.ref l0), some (.int l1), some (.int l1)]) rfl rfl rfl ?_
  refine j_wk [true, false, true] (L' := [some (.ref l0), none, some (.int l1)]) rfl ?_
  refine j_q1 (l_X7_behindBlank_2 hd τ l0 σ j_F l1) (fun v1 => ?_)
  show j_J true τ M_cX7_behindBlank d 26 [none, none, some (.int v1)] [] σ _ _
  refine j_iload_n (pc' := 27) rfl rfl rfl ?_
  refine j_iconst (pc' := 28) (x := (1 : Int32)) rfl rfl rfl ?_
  refine j_iadd (pc' := 29) rfl rfl ?_
  exact j_ret rfl rfl rfl (fun _ h => h)

noncomputable def f_X7_within (l1 : Int32) (l2 : Int32) (σ : j_G) : Int32 :=
  if (¬ (σ.1 10 8) < l1) ∧ (¬ l2 < (σ.1 10 8)) then ((0 : Int32)) else ((2 : Int32))
theorem c_X7_within (l1 : Int32) (l2 : Int32) (σ : j_G) : j_K true 0 80 [.ref 10, .int l1, .int l2] σ (some (f_X7_within l1 l2 σ)) (j_Pi σ) := by
  refine j_mkK (M := M_cX7_within) (L := [some (.ref 10), some (.int l1), some (.int l2)]) (m := 0) t_80 rfl (j_rcvO j_a10 rfl) rfl (fun d hd τ => ?_)
  unfold f_X7_within
  refine j_aload_n (pc' := 1) rfl rfl rfl ?_
  refine j_gfi (pc' := 4) rfl rfl j_a10 rfl ?_
  refine j_iload_n (pc' := 5) rfl rfl rfl ?_
  refine j_twoT (pT := 16) (pF := 20) (L1 := [some (.ref 10), some (.int l1), some (.int l2)]) (st1 := []) (fun o kT kF => ?_) (fun h1 => ?_) (fun h1 => ?_)
  · refine j_iclt (t := 20) (pc' := 8) rfl rfl rfl (fun h2 => ?_) (fun h2 => ?_)
    · exact kF (fun z => z.1 h2)
    · refine j_aload_n (pc' := 9) rfl rfl rfl ?_
      refine j_gfi (pc' := 12) rfl rfl j_a10 rfl ?_
      refine j_iload_n (pc' := 13) rfl rfl rfl ?_
      refine j_icgt (t := 20) (pc' := 16) rfl rfl rfl (fun h3 => ?_) (fun h3 => ?_)
      · exact kF (fun z => (fun z => z h3) z.2)
      · exact kT (⟨h2, h3⟩)
  · refine j_iconst (pc' := 17) (x := (0 : Int32)) rfl rfl rfl ?_
    refine j_goto (t := 21) rfl rfl ?_
    exact j_ret rfl rfl rfl (fun _ h => h)
  · refine j_iconst (pc' := 21) (x := (2 : Int32)) rfl rfl rfl ?_
    exact j_ret rfl rfl rfl (fun _ h => h)

noncomputable def f_X7_fitsBoard (l1 : Int32) (σ : j_G) : Int32 :=
  if l1 = 0 then (if (f_X7_within (1 : Int32) (4 : Int32) σ) = 0 then ((1 : Int32)) else ((0 : Int32))) else
  if l1 = 1 then (if (f_X7_within (1 : Int32) (3 : Int32) σ) = 0 then ((1 : Int32)) else ((0 : Int32))) else
  if l1 = 2 then (if (f_X7_within (1 : Int32) (200 : Int32) σ) = 0 then ((1 : Int32)) else ((0 : Int32))) else
  (if (f_X7_within (0 : Int32) (9 : Int32) σ) = 0 then ((1 : Int32)) else ((0 : Int32)))

theorem b_X7_fitsBoard (l1 : Int32) (σ : j_G) : f_X7_fitsBoard l1 σ = 0 ∨ f_X7_fitsBoard l1 σ = 1 := by
  unfold f_X7_fitsBoard
  repeat' split
  all_goals first | exact Or.inl rfl | exact Or.inr rfl
theorem c_X7_fitsBoard (l1 : Int32) (σ : j_G) : j_K true 1 81 [.ref 10, .int l1] σ (some (f_X7_fitsBoard l1 σ)) (j_Pi σ) := by
  refine j_mkK (M := M_cX7_fitsBoard) (L := [some (.ref 10), some (.int l1)]) (m := 0) t_81 rfl (j_rcvO j_a10 rfl) rfl (fun d hd τ => ?_)
  unfold f_X7_fitsBoard
  refine j_iload_n (pc' := 1) rfl rfl rfl ?_
  refine j_splT (k := (0 : Int32)) (fun h1 => ?_) (fun h1 => ?_)
  · refine j_sw (t := 28) h1 rfl rfl (fun _ _ => rfl) ?_
    refine j_aload_n (pc' := 29) rfl rfl rfl ?_
    refine j_iconst (pc' := 30) (x := (1 : Int32)) rfl rfl rfl ?_
    refine j_iconst (pc' := 31) (x := (4 : Int32)) rfl rfl rfl ?_
    refine j_callTi (pc' := 34) (ai := 80) (vs := [.ref 10, .int (1 : Int32), .int (4 : Int32)]) (rest := []) rfl rfl (fun _ _ => rfl) (c_X7_within (1 : Int32) (4 : Int32) σ) (j_dd rfl hd) rfl ?_
    refine j_twoT (pT := 37) (pF := 41) (L1 := [some (.ref 10), some (.int l1)]) (st1 := []) (fun o kT kF => ?_) (fun h2 => ?_) (fun h2 => ?_)
    · refine j_ifne (t := 41) (pc' := 37) rfl rfl rfl (fun h3 => ?_) (fun h3 => ?_)
      · exact kF h3
      · exact kT h3
    · refine j_iconst (pc' := 38) (x := (1 : Int32)) rfl rfl rfl ?_
      refine j_goto (t := 42) rfl rfl ?_
      exact j_ret rfl rfl rfl (fun _ h => h)
    · refine j_iconst (pc' := 42) (x := (0 : Int32)) rfl rfl rfl ?_
      exact j_ret rfl rfl rfl (fun _ h => h)
  refine j_splT (k := (1 : Int32)) (fun h4 => ?_) (fun h4 => ?_)
  · refine j_sw (t := 43) h4 rfl rfl (fun _ _ => rfl) ?_
    refine j_aload_n (pc' := 44) rfl rfl rfl ?_
    refine j_iconst (pc' := 45) (x := (1 : Int32)) rfl rfl rfl ?_
    refine j_iconst (pc' := 46) (x := (3 : Int32)) rfl rfl rfl ?_
    refine j_callTi (pc' := 49) (ai := 80) (vs := [.ref 10, .int (1 : Int32), .int (3 : Int32)]) (rest := []) rfl rfl (fun _ _ => rfl) (c_X7_within (1 : Int32) (3 : Int32) σ) (j_dd rfl hd) rfl ?_
    refine j_twoT (pT := 52) (pF := 56) (L1 := [some (.ref 10), some (.int l1)]) (st1 := []) (fun o kT kF => ?_) (fun h5 => ?_) (fun h5 => ?_)
    · refine j_ifne (t := 56) (pc' := 52) rfl rfl rfl (fun h6 => ?_) (fun h6 => ?_)
      · exact kF h6
      · exact kT h6
    · refine j_iconst (pc' := 53) (x := (1 : Int32)) rfl rfl rfl ?_
      refine j_goto (t := 57) rfl rfl ?_
      exact j_ret rfl rfl rfl (fun _ h => h)
    · refine j_iconst (pc' := 57) (x := (0 : Int32)) rfl rfl rfl ?_
      exact j_ret rfl rfl rfl (fun _ h => h)
  refine j_splT (k := (2 : Int32)) (fun h7 => ?_) (fun h7 => ?_)
  · refine j_sw (t := 58) h7 rfl rfl (fun _ _ => rfl) ?_
    refine j_aload_n (pc' := 59) rfl rfl rfl ?_
    refine j_iconst (pc' := 60) (x := (1 : Int32)) rfl rfl rfl ?_
    refine j_sipush (pc' := 63) (x := (200 : Int32)) rfl rfl rfl ?_
    refine j_callTi (pc' := 66) (ai := 80) (vs := [.ref 10, .int (1 : Int32), .int (200 : Int32)]) (rest := []) rfl rfl (fun _ _ => rfl) (c_X7_within (1 : Int32) (200 : Int32) σ) (j_dd rfl hd) rfl ?_
    refine j_twoT (pT := 69) (pF := 73) (L1 := [some (.ref 10), some (.int l1)]) (st1 := []) (fun o kT kF => ?_) (fun h8 => ?_) (fun h8 => ?_)
    · refine j_ifne (t := 73) (pc' := 69) rfl rfl rfl (fun h9 => ?_) (fun h9 => ?_)
      · exact kF h9
      · exact kT h9
    · refine j_iconst (pc' := 70) (x := (1 : Int32)) rfl rfl rfl ?_
      refine j_goto (t := 74) rfl rfl ?_
      exact j_ret rfl rfl rfl (fun _ h => h)
    · refine j_iconst (pc' := 74) (x := (0 : Int32)) rfl rfl rfl ?_
      exact j_ret rfl rfl rfl (fun _ h => h)
  have eh1 := j_ne (0) (by decide) h1
  have eh4 := j_ne (1) (by decide) h4
  have eh7 := j_ne (2) (by decide) h7
  refine j_tsd (t := 75) rfl (by omega) rfl ?_
  refine j_aload_n (pc' := 76) rfl rfl rfl ?_
  refine j_iconst (pc' := 77) (x := (0 : Int32)) rfl rfl rfl ?_
  refine j_bipush (pc' := 79) (x := (9 : Int32)) rfl rfl rfl ?_
  refine j_callTi (pc' := 82) (ai := 80) (vs := [.ref 10, .int (0 : Int32), .int (9 : Int32)]) (rest := []) rfl rfl (fun _ _ => rfl) (c_X7_within (0 : Int32) (9 : Int32) σ) (j_dd rfl hd) rfl ?_
  refine j_twoT (pT := 85) (pF := 89) (L1 := [some (.ref 10), some (.int l1)]) (st1 := []) (fun o kT kF => ?_) (fun h10 => ?_) (fun h10 => ?_)
  · refine j_ifne (t := 89) (pc' := 85) rfl rfl rfl (fun h11 => ?_) (fun h11 => ?_)
    · exact kF h11
    · exact kT h11
  · refine j_iconst (pc' := 86) (x := (1 : Int32)) rfl rfl rfl ?_
    refine j_goto (t := 90) rfl rfl ?_
    exact j_ret rfl rfl rfl (fun _ h => h)
  · refine j_iconst (pc' := 90) (x := (0 : Int32)) rfl rfl rfl ?_
    exact j_ret rfl rfl rfl (fun _ h => h)

noncomputable def f_X2_isTick (a0 : Nat) (l1 : Int32) (σ : j_G) : Int32 :=
  if (¬ l1 < 0) ∧ (l1 < (σ.1 a0 4)) then ((1 : Int32)) else ((0 : Int32))

theorem b_X2_isTick (a0 : Nat) (l1 : Int32) (σ : j_G) : f_X2_isTick a0 l1 σ = 0 ∨ f_X2_isTick a0 l1 σ = 1 := by
  unfold f_X2_isTick
  repeat' split
  all_goals first | exact Or.inl rfl | exact Or.inr rfl
theorem c_X2_isTick_11 (l1 : Int32) (σ : j_G) : j_K true 0 14 [.ref 11, .int l1] σ (some (f_X2_isTick 11 l1 σ)) (j_Pi σ) := by
  refine j_mkK (M := M_cX2_isTick) (L := [some (.ref 11), some (.int l1)]) (m := 0) t_14 rfl (j_rcvO j_a11 rfl) rfl (fun d hd τ => ?_)
  unfold f_X2_isTick
  refine j_iload_n (pc' := 1) rfl rfl rfl ?_
  refine j_twoT (pT := 12) (pF := 16) (L1 := [some (.ref 11), some (.int l1)]) (st1 := []) (fun o kT kF => ?_) (fun h1 => ?_) (fun h1 => ?_)
  · refine j_iflt (t := 16) (pc' := 4) rfl rfl rfl (fun h2 => ?_) (fun h2 => ?_)
    · exact kF (fun z => z.1 h2)
    · refine j_iload_n (pc' := 5) rfl rfl rfl ?_
      refine j_aload_n (pc' := 6) rfl rfl rfl ?_
      refine j_gfi (pc' := 9) rfl rfl j_a11 rfl ?_
      refine j_icge (t := 16) (pc' := 12) rfl rfl rfl (fun h3 => ?_) (fun h3 => ?_)
      · exact kF (fun z => (h3) z.2)
      · exact kT (⟨h2, h3⟩)
  · refine j_iconst (pc' := 13) (x := (1 : Int32)) rfl rfl rfl ?_
    refine j_goto (t := 17) rfl rfl ?_
    exact j_ret rfl rfl rfl (fun _ h => h)
  · refine j_iconst (pc' := 17) (x := (0 : Int32)) rfl rfl rfl ?_
    exact j_ret rfl rfl rfl (fun _ h => h)

noncomputable def p_X2_hasStayFrom_2 (l1 : Int32) (σ : j_G) : Nat → Int32 → Option Int32
  | 0, _ => none
  | n + 1, l2 =>
    if l2 < (σ.1 11 10) then (j_ix l2 6 (
    if (σ.1 12 (l2).toNatClampNeg) = l1 then (some (1 : Int32)) else (p_X2_hasStayFrom_2 l1 σ n (l2 + (1 : Int32))))) else (some (0 : Int32))

noncomputable def f_X2_hasStayFrom (l1 : Int32) (σ : j_G) : Option Int32 :=
  p_X2_hasStayFrom_2 l1 σ j_F (0 : Int32)
theorem l_X2_hasStayFrom_2 {d : Nat} (hd : 0 ≤ d) (τ : j_G) (l1 : Int32) (σ : j_G) : ∀ (n : Nat) (l2 : Int32), j_J true τ M_cX2_hasStayFrom d 2 [some (.ref 11), some (.int l1), some (.int l2)] [] σ (p_X2_hasStayFrom_2 l1 σ n l2) (j_Pi σ) := by
  intro n
  induction n with
  | zero => intro l2; exact j_none
  | succ n ih =>
    intro l2
    unfold p_X2_hasStayFrom_2
    refine j_iload_n (pc' := 3) rfl rfl rfl ?_
    refine j_aload_n (pc' := 4) rfl rfl rfl ?_
    refine j_gfi (pc' := 7) rfl rfl j_a11 rfl ?_
    refine j_two (pT := 10) (pF := 28) (L1 := [some (.ref 11), some (.int l1), some (.int l2)]) (st1 := []) (fun o kT kF => ?_) (fun h3 => ?_) (fun h3 => ?_)
    · refine j_icge (t := 28) (pc' := 10) rfl rfl rfl (fun h4 => ?_) (fun h4 => ?_)
      · exact kF h4
      · exact kT h4
    · refine j_aload_n (pc' := 11) rfl rfl rfl ?_
      refine j_gfr (pc' := 14) (x := 12) rfl rfl j_a11 rfl rfl ?_
      refine j_iload_n (pc' := 15) rfl rfl rfl ?_
      refine j_iald (pc' := 16) rfl rfl j_a12 ?_
      refine j_iload_n (pc' := 17) rfl rfl rfl ?_
      refine j_two (pT := 20) (pF := 22) (L1 := [some (.ref 11), some (.int l1), some (.int l2)]) (st1 := []) (fun o kT kF => ?_) (fun h1 => ?_) (fun h1 => ?_)
      · refine j_icne (t := 22) (pc' := 20) rfl rfl rfl (fun h2 => ?_) (fun h2 => ?_)
        · exact kF h2
        · exact kT h2
      · refine j_iconst (pc' := 21) (x := (1 : Int32)) rfl rfl rfl ?_
        exact j_ret rfl rfl rfl (fun _ h => h)
      · refine j_iincx (pc' := 25) (y := (1 : Int32)) (L' := [some (.ref 11), some (.int l1), some (.int (l2 + (1 : Int32)))]) rfl rfl rfl rfl rfl ?_
        refine j_goto (t := 2) rfl rfl ?_
        exact ih (l2 + (1 : Int32))
    · refine j_iconst (pc' := 29) (x := (0 : Int32)) rfl rfl rfl ?_
      exact j_ret rfl rfl rfl (fun _ h => h)

theorem c_X2_hasStayFrom (l1 : Int32) (σ : j_G) : j_K true 0 22 [.ref 11, .int l1] σ (f_X2_hasStayFrom l1 σ) (j_Pi σ) := by
  refine j_mkK (M := M_cX2_hasStayFrom) (L := [some (.ref 11), some (.int l1), none]) (m := 1) t_22 rfl (j_rcvO j_a11 rfl) rfl (fun d hd τ => ?_)
  unfold f_X2_hasStayFrom
  refine j_iconst (pc' := 1) (x := (0 : Int32)) rfl rfl rfl ?_
  refine j_istore_n (pc' := 2) (L' := [some (.ref 11), some (.int l1), some (.int (0 : Int32))]) rfl rfl rfl ?_
  exact (l_X2_hasStayFrom_2 hd τ l1 σ j_F (0 : Int32))

noncomputable def f_X7_judgeFrom (σ : j_G) : Option Int32 :=
  if (f_X2_isTick 11 (σ.1 10 8) σ) = 0 then (some (2 : Int32)) else (if ¬ (σ.1 11 10) < (6 : Int32) then (j_b1 (f_X2_hasStayFrom (σ.1 10 8) σ) fun v1 =>
  if v1 = 0 then (some (3 : Int32)) else (some (0 : Int32))) else (some (0 : Int32)))
theorem c_X7_judgeFrom (σ : j_G) : j_K true 1 82 [.ref 10] σ (f_X7_judgeFrom σ) (j_Pi σ) := by
  refine j_mkK (M := M_cX7_judgeFrom) (L := [some (.ref 10)]) (m := 0) t_82 rfl (j_rcvO j_a10 rfl) rfl (fun d hd τ => ?_)
  unfold f_X7_judgeFrom
  refine j_aload_n (pc' := 1) rfl rfl rfl ?_
  refine j_gfr (pc' := 4) (x := 11) rfl rfl j_a10 rfl rfl ?_
  refine j_aload_n (pc' := 5) rfl rfl rfl ?_
  refine j_gfi (pc' := 8) rfl rfl j_a10 rfl ?_
  refine j_callTi (pc' := 11) (ai := 14) (vs := [.ref 11, .int (σ.1 10 8)]) (rest := []) rfl rfl (fun _ _ => rfl) (c_X2_isTick_11 (σ.1 10 8) σ) (j_dd rfl hd) rfl ?_
  refine j_two (pT := 14) (pF := 16) (L1 := [some (.ref 10)]) (st1 := []) (fun o kT kF => ?_) (fun h5 => ?_) (fun h5 => ?_)
  · refine j_ifne (t := 16) (pc' := 14) rfl rfl rfl (fun h6 => ?_) (fun h6 => ?_)
    · exact kF h6
    · exact kT h6
  · refine j_iconst (pc' := 15) (x := (2 : Int32)) rfl rfl rfl ?_
    exact j_ret rfl rfl rfl (fun _ h => h)
  · refine j_aload_n (pc' := 17) rfl rfl rfl ?_
    refine j_gfr (pc' := 20) (x := 11) rfl rfl j_a10 rfl rfl ?_
    refine j_gfi (pc' := 23) rfl rfl j_a11 rfl ?_
    refine j_bipush (pc' := 25) (x := (6 : Int32)) rfl rfl rfl ?_
    refine j_two (pT := 28) (pF := 46) (L1 := [some (.ref 10)]) (st1 := []) (fun o kT kF => ?_) (fun h3 => ?_) (fun h3 => ?_)
    · refine j_iclt (t := 46) (pc' := 28) rfl rfl rfl (fun h4 => ?_) (fun h4 => ?_)
      · exact kF (fun z => z h4)
      · exact kT h4
    · refine j_aload_n (pc' := 29) rfl rfl rfl ?_
      refine j_gfr (pc' := 32) (x := 11) rfl rfl j_a10 rfl rfl ?_
      refine j_aload_n (pc' := 33) rfl rfl rfl ?_
      refine j_gfi (pc' := 36) rfl rfl j_a10 rfl ?_
      refine j_callPi (pc' := 39) (ai := 22) (vs := [.ref 11, .int (σ.1 10 8)]) (rest := []) rfl rfl (fun _ _ => rfl) (c_X2_hasStayFrom (σ.1 10 8) σ) (j_dd rfl hd) rfl (fun v1 => ?_)
      refine j_two (pT := 42) (pF := 46) (L1 := [some (.ref 10)]) (st1 := []) (fun o kT kF => ?_) (fun h1 => ?_) (fun h1 => ?_)
      · refine j_ifne (t := 46) (pc' := 42) rfl rfl rfl (fun h2 => ?_) (fun h2 => ?_)
        · exact kF h2
        · exact kT h2
      · refine j_iconst (pc' := 43) (x := (3 : Int32)) rfl rfl rfl ?_
        refine j_goto (t := 47) rfl rfl ?_
        exact j_ret rfl rfl rfl (fun _ h => h)
      · refine j_iconst (pc' := 47) (x := (0 : Int32)) rfl rfl rfl ?_
        exact j_ret rfl rfl rfl (fun _ h => h)
    · refine j_iconst (pc' := 47) (x := (0 : Int32)) rfl rfl rfl ?_
      exact j_ret rfl rfl rfl (fun _ h => h)

noncomputable def f_X2_holes (a0 : Nat) (σ : j_G) : Int32 :=
  ((σ.1 a0 2) * (σ.1 a0 3))
theorem c_X2_holes_11 (σ : j_G) : j_K true 0 12 [.ref 11] σ (some (f_X2_holes 11 σ)) (j_Pi σ) := by
  refine j_mkK (M := M_cX2_holes) (L := [some (.ref 11)]) (m := 0) t_12 rfl (j_rcvO j_a11 rfl) rfl (fun d hd τ => ?_)
  unfold f_X2_holes
  refine j_aload_n (pc' := 1) rfl rfl rfl ?_
  refine j_gfi (pc' := 4) rfl rfl j_a11 rfl ?_
  refine j_aload_n (pc' := 5) rfl rfl rfl ?_
  refine j_gfi (pc' := 8) rfl rfl j_a11 rfl ?_
  refine j_imul (pc' := 9) rfl rfl ?_
  exact j_ret rfl rfl rfl (fun _ h => h)

noncomputable def f_X2_isHole (a0 : Nat) (l1 : Int32) (σ : j_G) : Int32 :=
  if (¬ l1 < 0) ∧ (l1 < (f_X2_holes a0 σ)) then ((1 : Int32)) else ((0 : Int32))

theorem b_X2_isHole (a0 : Nat) (l1 : Int32) (σ : j_G) : f_X2_isHole a0 l1 σ = 0 ∨ f_X2_isHole a0 l1 σ = 1 := by
  unfold f_X2_isHole
  repeat' split
  all_goals first | exact Or.inl rfl | exact Or.inr rfl
theorem c_X2_isHole_11 (l1 : Int32) (σ : j_G) : j_K true 1 13 [.ref 11, .int l1] σ (some (f_X2_isHole 11 l1 σ)) (j_Pi σ) := by
  refine j_mkK (M := M_cX2_isHole) (L := [some (.ref 11), some (.int l1)]) (m := 0) t_13 rfl (j_rcvO j_a11 rfl) rfl (fun d hd τ => ?_)
  unfold f_X2_isHole
  refine j_iload_n (pc' := 1) rfl rfl rfl ?_
  refine j_twoT (pT := 12) (pF := 16) (L1 := [some (.ref 11), some (.int l1)]) (st1 := []) (fun o kT kF => ?_) (fun h1 => ?_) (fun h1 => ?_)
  · refine j_iflt (t := 16) (pc' := 4) rfl rfl rfl (fun h2 => ?_) (fun h2 => ?_)
    · exact kF (fun z => z.1 h2)
    · refine j_iload_n (pc' := 5) rfl rfl rfl ?_
      refine j_aload_n (pc' := 6) rfl rfl rfl ?_
      refine j_callTi (pc' := 9) (ai := 12) (vs := [.ref 11]) (rest := [.int l1]) rfl rfl (fun _ _ => rfl) (c_X2_holes_11  σ) (j_dd rfl hd) rfl ?_
      refine j_icge (t := 16) (pc' := 12) rfl rfl rfl (fun h3 => ?_) (fun h3 => ?_)
      · exact kF (fun z => (h3) z.2)
      · exact kT (⟨h2, h3⟩)
  · refine j_iconst (pc' := 13) (x := (1 : Int32)) rfl rfl rfl ?_
    refine j_goto (t := 17) rfl rfl ?_
    exact j_ret rfl rfl rfl (fun _ h => h)
  · refine j_iconst (pc' := 17) (x := (0 : Int32)) rfl rfl rfl ?_
    exact j_ret rfl rfl rfl (fun _ h => h)

noncomputable def f_X2_isShut (a0 : Nat) (l1 : Int32) (σ : j_G) : Int32 :=
  if ¬ (((σ.1 a0 6) >>> (l1 &&& 31)) &&& (1 : Int32)) = 0 then ((1 : Int32)) else ((0 : Int32))

theorem b_X2_isShut (a0 : Nat) (l1 : Int32) (σ : j_G) : f_X2_isShut a0 l1 σ = 0 ∨ f_X2_isShut a0 l1 σ = 1 := by
  unfold f_X2_isShut
  repeat' split
  all_goals first | exact Or.inl rfl | exact Or.inr rfl
theorem c_X2_isShut_11 (l1 : Int32) (σ : j_G) : j_K true 0 16 [.ref 11, .int l1] σ (some (f_X2_isShut 11 l1 σ)) (j_Pi σ) := by
  refine j_mkK (M := M_cX2_isShut) (L := [some (.ref 11), some (.int l1)]) (m := 0) t_16 rfl (j_rcvO j_a11 rfl) rfl (fun d hd τ => ?_)
  unfold f_X2_isShut
  refine j_aload_n (pc' := 1) rfl rfl rfl ?_
  refine j_gfi (pc' := 4) rfl rfl j_a11 rfl ?_
  refine j_iload_n (pc' := 5) rfl rfl rfl ?_
  refine j_ishr (pc' := 6) rfl rfl ?_
  refine j_iconst (pc' := 7) (x := (1 : Int32)) rfl rfl rfl ?_
  refine j_iand (pc' := 8) rfl rfl ?_
  refine j_twoT (pT := 11) (pF := 15) (L1 := [some (.ref 11), some (.int l1)]) (st1 := []) (fun o kT kF => ?_) (fun h1 => ?_) (fun h1 => ?_)
  · refine j_ifeq (t := 15) (pc' := 11) rfl rfl rfl (fun h2 => ?_) (fun h2 => ?_)
    · exact kF (fun z => z h2)
    · exact kT h2
  · refine j_iconst (pc' := 12) (x := (1 : Int32)) rfl rfl rfl ?_
    refine j_goto (t := 16) rfl rfl ?_
    exact j_ret rfl rfl rfl (fun _ h => h)
  · refine j_iconst (pc' := 16) (x := (0 : Int32)) rfl rfl rfl ?_
    exact j_ret rfl rfl rfl (fun _ h => h)

noncomputable def f_X7_isOpen (σ : j_G) : Int32 :=
  if (¬ (f_X2_isHole 11 (σ.1 10 8) σ) = 0) ∧ ((f_X2_isShut 11 (σ.1 10 8) σ) = 0) then ((1 : Int32)) else ((0 : Int32))

theorem b_X7_isOpen (σ : j_G) : f_X7_isOpen σ = 0 ∨ f_X7_isOpen σ = 1 := by
  unfold f_X7_isOpen
  repeat' split
  all_goals first | exact Or.inl rfl | exact Or.inr rfl | apply b_X2_isHole | apply b_X2_isShut
theorem c_X7_isOpen (σ : j_G) : j_K true 2 83 [.ref 10] σ (some (f_X7_isOpen σ)) (j_Pi σ) := by
  refine j_mkK (M := M_cX7_isOpen) (L := [some (.ref 10)]) (m := 0) t_83 rfl (j_rcvO j_a10 rfl) rfl (fun d hd τ => ?_)
  unfold f_X7_isOpen
  refine j_aload_n (pc' := 1) rfl rfl rfl ?_
  refine j_gfr (pc' := 4) (x := 11) rfl rfl j_a10 rfl rfl ?_
  refine j_aload_n (pc' := 5) rfl rfl rfl ?_
  refine j_gfi (pc' := 8) rfl rfl j_a10 rfl ?_
  refine j_callTi (pc' := 11) (ai := 13) (vs := [.ref 11, .int (σ.1 10 8)]) (rest := []) rfl rfl (fun _ _ => rfl) (c_X2_isHole_11 (σ.1 10 8) σ) (j_dd rfl hd) rfl ?_
  refine j_twoT (pT := 28) (pF := 32) (L1 := [some (.ref 10)]) (st1 := []) (fun o kT kF => ?_) (fun h1 => ?_) (fun h1 => ?_)
  · refine j_ifeq (t := 32) (pc' := 14) rfl rfl rfl (fun h2 => ?_) (fun h2 => ?_)
    · exact kF (fun z => z.1 h2)
    · refine j_aload_n (pc' := 15) rfl rfl rfl ?_
      refine j_gfr (pc' := 18) (x := 11) rfl rfl j_a10 rfl rfl ?_
      refine j_aload_n (pc' := 19) rfl rfl rfl ?_
      refine j_gfi (pc' := 22) rfl rfl j_a10 rfl ?_
      refine j_callTi (pc' := 25) (ai := 16) (vs := [.ref 11, .int (σ.1 10 8)]) (rest := []) rfl rfl (fun _ _ => rfl) (c_X2_isShut_11 (σ.1 10 8) σ) (j_dd rfl hd) rfl ?_
      refine j_ifne (t := 32) (pc' := 28) rfl rfl rfl (fun h3 => ?_) (fun h3 => ?_)
      · exact kF (fun z => (h3) z.2)
      · exact kT (⟨h2, h3⟩)
  · refine j_iconst (pc' := 29) (x := (1 : Int32)) rfl rfl rfl ?_
    refine j_goto (t := 33) rfl rfl ?_
    exact j_ret rfl rfl rfl (fun _ h => h)
  · refine j_iconst (pc' := 33) (x := (0 : Int32)) rfl rfl rfl ?_
    exact j_ret rfl rfl rfl (fun _ h => h)

noncomputable def p_X3_oftenAt_4 (a0 : Nat) (a0_2 : Nat) (a0_3 : Nat) (l1 : Int32) (σ : j_G) : Nat → Int32 → Int32 → Option Int32
  | 0, _, _ => none
  | n + 1, l2, l3 =>
    if l3 < (σ.1 a0 0) then (j_ix l3 24 (
    j_b1 (if ¬ (σ.1 a0_2 (l3).toNatClampNeg) = l1 then (j_ix l3 24 (
    if (σ.1 a0_3 (l3).toNatClampNeg) = l1 then (some (l2 + (1 : Int32))) else (some l2))) else (some (l2 + (1 : Int32)))) fun v1 =>
    p_X3_oftenAt_4 a0 a0_2 a0_3 l1 σ n v1 (l3 + (1 : Int32)))) else (some l2)

noncomputable def f_X3_oftenAt (a0 : Nat) (a0_2 : Nat) (a0_3 : Nat) (l1 : Int32) (σ : j_G) : Option Int32 :=
  j_b1 (p_X3_oftenAt_4 a0 a0_2 a0_3 l1 σ j_F (0 : Int32) (0 : Int32)) fun v1 =>
  some v1
theorem l_X3_oftenAt_4_15 {d : Nat} (hd : 0 ≤ d) (τ : j_G) (l1 : Int32) (σ : j_G) : ∀ (n : Nat) (l2 : Int32) (l3 : Int32), j_J true τ M_cX3_oftenAt d 4 [some (.ref 15), some (.int l1), some (.int l2), some (.int l3)] [] σ (p_X3_oftenAt_4 15 16 17 l1 σ n l2 l3) (fun r Q => j_Tr true τ M_cX3_oftenAt d 41 [none, none, some (.int r), none] [] σ Q) := by
  intro n
  induction n with
  | zero => intro l2 l3; exact j_none
  | succ n ih =>
    intro l2 l3
    unfold p_X3_oftenAt_4
    refine j_iload_n (pc' := 5) rfl rfl rfl ?_
    refine j_aload_n (pc' := 6) rfl rfl rfl ?_
    refine j_gfi (pc' := 9) rfl rfl j_a15 rfl ?_
    refine j_two (pT := 12) (pF := 41) (L1 := [some (.ref 15), some (.int l1), some (.int l2), some (.int l3)]) (st1 := []) (fun o kT kF => ?_) (fun h5 => ?_) (fun h5 => ?_)
    · refine j_icge (t := 41) (pc' := 12) rfl rfl rfl (fun h6 => ?_) (fun h6 => ?_)
      · exact kF h6
      · exact kT h6
    · refine j_aload_n (pc' := 13) rfl rfl rfl ?_
      refine j_gfr (pc' := 16) (x := 16) rfl rfl j_a15 rfl rfl ?_
      refine j_iload_n (pc' := 17) rfl rfl rfl ?_
      refine j_iald (pc' := 18) rfl rfl j_a16 ?_
      refine j_iload_n (pc' := 19) rfl rfl rfl ?_
      refine j_q1 (Φl := (fun r Q => j_Tr true τ M_cX3_oftenAt d 35 [some (.ref 15), some (.int l1), some (.int r), some (.int l3)] [] σ Q)) ?_ (fun v1 => ?_)
      · refine j_two (pT := 22) (pF := 32) (L1 := [some (.ref 15), some (.int l1), some (.int l2), some (.int l3)]) (st1 := []) (fun o kT kF => ?_) (fun h3 => ?_) (fun h3 => ?_)
        · refine j_iceq (t := 32) (pc' := 22) rfl rfl rfl (fun h4 => ?_) (fun h4 => ?_)
          · exact kF (fun z => z h4)
          · exact kT h4
        · refine j_aload_n (pc' := 23) rfl rfl rfl ?_
          refine j_gfr (pc' := 26) (x := 17) rfl rfl j_a15 rfl rfl ?_
          refine j_iload_n (pc' := 27) rfl rfl rfl ?_
          refine j_iald (pc' := 28) rfl rfl j_a17 ?_
          refine j_iload_n (pc' := 29) rfl rfl rfl ?_
          refine j_two (pT := 32) (pF := 35) (L1 := [some (.ref 15), some (.int l1), some (.int l2), some (.int l3)]) (st1 := []) (fun o kT kF => ?_) (fun h1 => ?_) (fun h1 => ?_)
          · refine j_icne (t := 35) (pc' := 32) rfl rfl rfl (fun h2 => ?_) (fun h2 => ?_)
            · exact kF h2
            · exact kT h2
          · refine j_iincx (pc' := 35) (y := (1 : Int32)) (L' := [some (.ref 15), some (.int l1), some (.int (l2 + (1 : Int32))), some (.int l3)]) rfl rfl rfl rfl rfl ?_
            exact j_end (fun _ h => h)
          · exact j_end (fun _ h => h)
        · refine j_iincx (pc' := 35) (y := (1 : Int32)) (L' := [some (.ref 15), some (.int l1), some (.int (l2 + (1 : Int32))), some (.int l3)]) rfl rfl rfl rfl rfl ?_
          exact j_end (fun _ h => h)
      show j_J true τ M_cX3_oftenAt d 35 [some (.ref 15), some (.int l1), some (.int v1), some (.int l3)] [] σ _ _
      refine j_iincx (pc' := 38) (y := (1 : Int32)) (L' := [some (.ref 15), some (.int l1), some (.int v1), some (.int (l3 + (1 : Int32)))]) rfl rfl rfl rfl rfl ?_
      refine j_goto (t := 4) rfl rfl ?_
      exact ih v1 (l3 + (1 : Int32))
    · refine j_wk [false, false, true, false] (L' := [none, none, some (.int l2), none]) rfl ?_
      exact j_end (fun _ h => h)

theorem c_X3_oftenAt_15 (l1 : Int32) (σ : j_G) : j_K true 0 36 [.ref 15, .int l1] σ (f_X3_oftenAt 15 16 17 l1 σ) (j_Pi σ) := by
  refine j_mkK (M := M_cX3_oftenAt) (L := [some (.ref 15), some (.int l1), none, none]) (m := 2) t_36 rfl (j_rcvO j_a15 rfl) rfl (fun d hd τ => ?_)
  unfold f_X3_oftenAt
  refine j_iconst (pc' := 1) (x := (0 : Int32)) rfl rfl rfl ?_
  refine j_istore_n (pc' := 2) (L' := [some (.ref 15), some (.int l1), some (.int (0 : Int32)), none]) rfl rfl rfl ?_
  refine j_iconst (pc' := 3) (x := (0 : Int32)) rfl rfl rfl ?_
  refine j_istore_n (pc' := 4) (L' := [some (.ref 15), some (.int l1), some (.int (0 : Int32)), some (.int (0 : Int32))]) rfl rfl rfl ?_
  refine j_q1 (l_X3_oftenAt_4_15 hd τ l1 σ j_F (0 : Int32) (0 : Int32)) (fun v1 => ?_)
  show j_J true τ M_cX3_oftenAt d 41 [none, none, some (.int v1), none] [] σ _ _
  refine j_iload_n (pc' := 42) rfl rfl rfl ?_
  exact j_ret rfl rfl rfl (fun _ h => h)

noncomputable def f_X2_isTrait (a0 : Nat) (l1 : Int32) (l2 : Int32) (σ : j_G) : Int32 :=
  if l1 = 0 then (if (¬ l2 < (1 : Int32)) ∧ (¬ (9 : Int32) < l2) then ((1 : Int32)) else ((0 : Int32))) else
  if l1 = 1 then (if (¬ l2 < 0) ∧ (¬ (20 : Int32) < l2) then ((1 : Int32)) else ((0 : Int32))) else
  if l1 = 2 then (if (¬ l2 < 0) ∧ (¬ (99 : Int32) < l2) then ((1 : Int32)) else ((0 : Int32))) else
  if l1 = 3 then (if (¬ l2 < 0) ∧ (¬ (9 : Int32) < l2) then ((1 : Int32)) else ((0 : Int32))) else
  if l1 = 4 then ((f_X2_isHole a0 l2 σ)) else
  ((0 : Int32))

theorem b_X2_isTrait (a0 : Nat) (l1 : Int32) (l2 : Int32) (σ : j_G) : f_X2_isTrait a0 l1 l2 σ = 0 ∨ f_X2_isTrait a0 l1 l2 σ = 1 := by
  unfold f_X2_isTrait
  repeat' split
  all_goals first | exact Or.inl rfl | exact Or.inr rfl | apply b_X2_isHole
theorem c_X2_isTrait_11 (l1 : Int32) (l2 : Int32) (σ : j_G) : j_K true 2 26 [.ref 11, .int l1, .int l2] σ (some (f_X2_isTrait 11 l1 l2 σ)) (j_Pi σ) := by
  refine j_mkK (M := M_cX2_isTrait) (L := [some (.ref 11), some (.int l1), some (.int l2)]) (m := 0) t_26 rfl (j_rcvO j_a11 rfl) rfl (fun d hd τ => ?_)
  unfold f_X2_isTrait
  refine j_iload_n (pc' := 1) rfl rfl rfl ?_
  refine j_splT (k := (0 : Int32)) (fun h1 => ?_) (fun h1 => ?_)
  · refine j_sw (t := 36) h1 rfl rfl (fun _ _ => rfl) ?_
    refine j_iload_n (pc' := 37) rfl rfl rfl ?_
    refine j_iconst (pc' := 38) (x := (1 : Int32)) rfl rfl rfl ?_
    refine j_twoT (pT := 47) (pF := 51) (L1 := [some (.ref 11), some (.int l1), some (.int l2)]) (st1 := []) (fun o kT kF => ?_) (fun h2 => ?_) (fun h2 => ?_)
    · refine j_iclt (t := 51) (pc' := 41) rfl rfl rfl (fun h3 => ?_) (fun h3 => ?_)
      · exact kF (fun z => z.1 h3)
      · refine j_iload_n (pc' := 42) rfl rfl rfl ?_
        refine j_bipush (pc' := 44) (x := (9 : Int32)) rfl rfl rfl ?_
        refine j_icgt (t := 51) (pc' := 47) rfl rfl rfl (fun h4 => ?_) (fun h4 => ?_)
        · exact kF (fun z => (fun z => z h4) z.2)
        · exact kT (⟨h3, h4⟩)
    · refine j_iconst (pc' := 48) (x := (1 : Int32)) rfl rfl rfl ?_
      refine j_goto (t := 52) rfl rfl ?_
      exact j_ret rfl rfl rfl (fun _ h => h)
    · refine j_iconst (pc' := 52) (x := (0 : Int32)) rfl rfl rfl ?_
      exact j_ret rfl rfl rfl (fun _ h => h)
  refine j_splT (k := (1 : Int32)) (fun h5 => ?_) (fun h5 => ?_)
  · refine j_sw (t := 53) h5 rfl rfl (fun _ _ => rfl) ?_
    refine j_iload_n (pc' := 54) rfl rfl rfl ?_
    refine j_twoT (pT := 63) (pF := 67) (L1 := [some (.ref 11), some (.int l1), some (.int l2)]) (st1 := []) (fun o kT kF => ?_) (fun h6 => ?_) (fun h6 => ?_)
    · refine j_iflt (t := 67) (pc' := 57) rfl rfl rfl (fun h7 => ?_) (fun h7 => ?_)
      · exact kF (fun z => z.1 h7)
      · refine j_iload_n (pc' := 58) rfl rfl rfl ?_
        refine j_bipush (pc' := 60) (x := (20 : Int32)) rfl rfl rfl ?_
        refine j_icgt (t := 67) (pc' := 63) rfl rfl rfl (fun h8 => ?_) (fun h8 => ?_)
        · exact kF (fun z => (fun z => z h8) z.2)
        · exact kT (⟨h7, h8⟩)
    · refine j_iconst (pc' := 64) (x := (1 : Int32)) rfl rfl rfl ?_
      refine j_goto (t := 68) rfl rfl ?_
      exact j_ret rfl rfl rfl (fun _ h => h)
    · refine j_iconst (pc' := 68) (x := (0 : Int32)) rfl rfl rfl ?_
      exact j_ret rfl rfl rfl (fun _ h => h)
  refine j_splT (k := (2 : Int32)) (fun h9 => ?_) (fun h9 => ?_)
  · refine j_sw (t := 69) h9 rfl rfl (fun _ _ => rfl) ?_
    refine j_iload_n (pc' := 70) rfl rfl rfl ?_
    refine j_twoT (pT := 79) (pF := 83) (L1 := [some (.ref 11), some (.int l1), some (.int l2)]) (st1 := []) (fun o kT kF => ?_) (fun h10 => ?_) (fun h10 => ?_)
    · refine j_iflt (t := 83) (pc' := 73) rfl rfl rfl (fun h11 => ?_) (fun h11 => ?_)
      · exact kF (fun z => z.1 h11)
      · refine j_iload_n (pc' := 74) rfl rfl rfl ?_
        refine j_bipush (pc' := 76) (x := (99 : Int32)) rfl rfl rfl ?_
        refine j_icgt (t := 83) (pc' := 79) rfl rfl rfl (fun h12 => ?_) (fun h12 => ?_)
        · exact kF (fun z => (fun z => z h12) z.2)
        · exact kT (⟨h11, h12⟩)
    · refine j_iconst (pc' := 80) (x := (1 : Int32)) rfl rfl rfl ?_
      refine j_goto (t := 84) rfl rfl ?_
      exact j_ret rfl rfl rfl (fun _ h => h)
    · refine j_iconst (pc' := 84) (x := (0 : Int32)) rfl rfl rfl ?_
      exact j_ret rfl rfl rfl (fun _ h => h)
  refine j_splT (k := (3 : Int32)) (fun h13 => ?_) (fun h13 => ?_)
  · refine j_sw (t := 85) h13 rfl rfl (fun _ _ => rfl) ?_
    refine j_iload_n (pc' := 86) rfl rfl rfl ?_
    refine j_twoT (pT := 95) (pF := 99) (L1 := [some (.ref 11), some (.int l1), some (.int l2)]) (st1 := []) (fun o kT kF => ?_) (fun h14 => ?_) (fun h14 => ?_)
    · refine j_iflt (t := 99) (pc' := 89) rfl rfl rfl (fun h15 => ?_) (fun h15 => ?_)
      · exact kF (fun z => z.1 h15)
      · refine j_iload_n (pc' := 90) rfl rfl rfl ?_
        refine j_bipush (pc' := 92) (x := (9 : Int32)) rfl rfl rfl ?_
        refine j_icgt (t := 99) (pc' := 95) rfl rfl rfl (fun h16 => ?_) (fun h16 => ?_)
        · exact kF (fun z => (fun z => z h16) z.2)
        · exact kT (⟨h15, h16⟩)
    · refine j_iconst (pc' := 96) (x := (1 : Int32)) rfl rfl rfl ?_
      refine j_goto (t := 100) rfl rfl ?_
      exact j_ret rfl rfl rfl (fun _ h => h)
    · refine j_iconst (pc' := 100) (x := (0 : Int32)) rfl rfl rfl ?_
      exact j_ret rfl rfl rfl (fun _ h => h)
  refine j_splT (k := (4 : Int32)) (fun h17 => ?_) (fun h17 => ?_)
  · refine j_sw (t := 101) h17 rfl rfl (fun _ _ => rfl) ?_
    refine j_aload_n (pc' := 102) rfl rfl rfl ?_
    refine j_iload_n (pc' := 103) rfl rfl rfl ?_
    refine j_callTi (pc' := 106) (ai := 13) (vs := [.ref 11, .int l2]) (rest := []) rfl rfl (fun _ _ => rfl) (c_X2_isHole_11 l2 σ) (j_dd rfl hd) rfl ?_
    exact j_retb rfl rfl (b_X2_isHole 11 l2 σ) (fun _ h => h)
  have eh1 := j_ne (0) (by decide) h1
  have eh5 := j_ne (1) (by decide) h5
  have eh9 := j_ne (2) (by decide) h9
  have eh13 := j_ne (3) (by decide) h13
  have eh17 := j_ne (4) (by decide) h17
  refine j_tsd (t := 107) rfl (by omega) rfl ?_
  refine j_iconst (pc' := 108) (x := (0 : Int32)) rfl rfl rfl ?_
  exact j_ret rfl rfl rfl (fun _ h => h)

noncomputable def f_X7_judge (l1 : Int32) (l2 : Int32) (σ : j_G) : Option Int32 :=
  if l1 = 0 then (if ¬ (f_X7_fitsBoard l2 σ) = 0 then (some (0 : Int32)) else (some (2 : Int32))) else
  if l1 = 1 then (if l2 = 0 then (some (f_X7_within (1 : Int32) (40 : Int32) σ)) else (j_b1 (f_X7_judgeFrom σ) fun v1 =>
  some v1)) else
  if l1 = 2 then (if ¬ (f_X7_isOpen σ) = 0 then (j_b1 (f_X3_oftenAt 15 16 17 (σ.1 10 8) σ) fun v2 =>
  if v2 = 0 then (some (0 : Int32)) else (some (2 : Int32))) else (some (2 : Int32))) else
  if l1 = 3 then (if ¬ (f_X7_isOpen σ) = 0 then (some (0 : Int32)) else (some (2 : Int32))) else
  if l1 = 4 then (if ¬ (f_X7_isOpen σ) = 0 then (some (0 : Int32)) else (some (2 : Int32))) else
  if l1 = 5 then (if ¬ (f_X7_isOpen σ) = 0 then (if ¬ l2 = 0 then (j_ix (0 : Int32) 5 (
  if ¬ (σ.1 10 8) = (σ.1 21 ((0 : Int32)).toNatClampNeg) then (some (0 : Int32)) else (some (2 : Int32)))) else (some (0 : Int32))) else (some (2 : Int32))) else
  if l1 = 6 then (if ¬ (f_X2_isTrait 11 l2 (σ.1 10 8) σ) = 0 then (some (0 : Int32)) else (some (2 : Int32))) else
  (if l2 = 0 then (some (f_X7_within (1 : Int32) (99 : Int32) σ)) else (some (f_X7_within (1 : Int32) (500 : Int32) σ)))
theorem c_X7_judge (l1 : Int32) (l2 : Int32) (σ : j_G) : j_K true 3 79 [.ref 10, .int l1, .int l2] σ (f_X7_judge l1 l2 σ) (j_Pi σ) := by
  refine j_mkK (M := M_cX7_judge) (L := [some (.ref 10), some (.int l1), some (.int l2)]) (m := 0) t_79 rfl (j_rcvO j_a10 rfl) rfl (fun d hd τ => ?_)
  unfold f_X7_judge
  refine j_iload_n (pc' := 1) rfl rfl rfl ?_
  refine j_spl (k := (0 : Int32)) (fun h1 => ?_) (fun h1 => ?_)
  · refine j_sw (t := 44) h1 rfl rfl (fun _ _ => rfl) ?_
    refine j_aload_n (pc' := 45) rfl rfl rfl ?_
    refine j_iload_n (pc' := 46) rfl rfl rfl ?_
    refine j_callTi (pc' := 49) (ai := 81) (vs := [.ref 10, .int l2]) (rest := []) rfl rfl (fun _ _ => rfl) (c_X7_fitsBoard l2 σ) (j_dd rfl hd) rfl ?_
    refine j_two (pT := 52) (pF := 56) (L1 := [some (.ref 10), some (.int l1), some (.int l2)]) (st1 := []) (fun o kT kF => ?_) (fun h2 => ?_) (fun h2 => ?_)
    · refine j_ifeq (t := 56) (pc' := 52) rfl rfl rfl (fun h3 => ?_) (fun h3 => ?_)
      · exact kF (fun z => z h3)
      · exact kT h3
    · refine j_iconst (pc' := 53) (x := (0 : Int32)) rfl rfl rfl ?_
      refine j_goto (t := 57) rfl rfl ?_
      exact j_ret rfl rfl rfl (fun _ h => h)
    · refine j_iconst (pc' := 57) (x := (2 : Int32)) rfl rfl rfl ?_
      exact j_ret rfl rfl rfl (fun _ h => h)
  refine j_spl (k := (1 : Int32)) (fun h4 => ?_) (fun h4 => ?_)
  · refine j_sw (t := 58) h4 rfl rfl (fun _ _ => rfl) ?_
    refine j_iload_n (pc' := 59) rfl rfl rfl ?_
    refine j_two (pT := 62) (pF := 72) (L1 := [some (.ref 10), some (.int l1), some (.int l2)]) (st1 := []) (fun o kT kF => ?_) (fun h5 => ?_) (fun h5 => ?_)
    · refine j_ifne (t := 72) (pc' := 62) rfl rfl rfl (fun h6 => ?_) (fun h6 => ?_)
      · exact kF h6
      · exact kT h6
    · refine j_aload_n (pc' := 63) rfl rfl rfl ?_
      refine j_iconst (pc' := 64) (x := (1 : Int32)) rfl rfl rfl ?_
      refine j_bipush (pc' := 66) (x := (40 : Int32)) rfl rfl rfl ?_
      refine j_callTi (pc' := 69) (ai := 80) (vs := [.ref 10, .int (1 : Int32), .int (40 : Int32)]) (rest := []) rfl rfl (fun _ _ => rfl) (c_X7_within (1 : Int32) (40 : Int32) σ) (j_dd rfl hd) rfl ?_
      refine j_goto (t := 76) rfl rfl ?_
      exact j_ret rfl rfl rfl (fun _ h => h)
    · refine j_aload_n (pc' := 73) rfl rfl rfl ?_
      refine j_callPi (pc' := 76) (ai := 82) (vs := [.ref 10]) (rest := []) rfl rfl (fun _ _ => rfl) (c_X7_judgeFrom  σ) (j_dd rfl hd) rfl (fun v1 => ?_)
      exact j_ret rfl rfl rfl (fun _ h => h)
  refine j_spl (k := (2 : Int32)) (fun h7 => ?_) (fun h7 => ?_)
  · refine j_sw (t := 77) h7 rfl rfl (fun _ _ => rfl) ?_
    refine j_aload_n (pc' := 78) rfl rfl rfl ?_
    refine j_callTi (pc' := 81) (ai := 83) (vs := [.ref 10]) (rest := []) rfl rfl (fun _ _ => rfl) (c_X7_isOpen  σ) (j_dd rfl hd) rfl ?_
    refine j_two (pT := 84) (pF := 105) (L1 := [some (.ref 10), some (.int l1), some (.int l2)]) (st1 := []) (fun o kT kF => ?_) (fun h10 => ?_) (fun h10 => ?_)
    · refine j_ifeq (t := 105) (pc' := 84) rfl rfl rfl (fun h11 => ?_) (fun h11 => ?_)
      · exact kF (fun z => z h11)
      · exact kT h11
    · refine j_aload_n (pc' := 85) rfl rfl rfl ?_
      refine j_gfr (pc' := 88) (x := 11) rfl rfl j_a10 rfl rfl ?_
      refine j_gfr (pc' := 91) (x := 15) rfl rfl j_a11 rfl rfl ?_
      refine j_aload_n (pc' := 92) rfl rfl rfl ?_
      refine j_gfi (pc' := 95) rfl rfl j_a10 rfl ?_
      refine j_callPi (pc' := 98) (ai := 36) (vs := [.ref 15, .int (σ.1 10 8)]) (rest := []) rfl rfl (fun _ _ => rfl) (c_X3_oftenAt_15 (σ.1 10 8) σ) (j_dd rfl hd) rfl (fun v2 => ?_)
      refine j_two (pT := 101) (pF := 105) (L1 := [some (.ref 10), some (.int l1), some (.int l2)]) (st1 := []) (fun o kT kF => ?_) (fun h8 => ?_) (fun h8 => ?_)
      · refine j_ifne (t := 105) (pc' := 101) rfl rfl rfl (fun h9 => ?_) (fun h9 => ?_)
        · exact kF h9
        · exact kT h9
      · refine j_iconst (pc' := 102) (x := (0 : Int32)) rfl rfl rfl ?_
        refine j_goto (t := 106) rfl rfl ?_
        exact j_ret rfl rfl rfl (fun _ h => h)
      · refine j_iconst (pc' := 106) (x := (2 : Int32)) rfl rfl rfl ?_
        exact j_ret rfl rfl rfl (fun _ h => h)
    · refine j_iconst (pc' := 106) (x := (2 : Int32)) rfl rfl rfl ?_
      exact j_ret rfl rfl rfl (fun _ h => h)
  refine j_spl (k := (3 : Int32)) (fun h12 => ?_) (fun h12 => ?_)
  · refine j_sw (t := 107) h12 rfl rfl (fun _ _ => rfl) ?_
    refine j_aload_n (pc' := 108) rfl rfl rfl ?_
    refine j_callTi (pc' := 111) (ai := 83) (vs := [.ref 10]) (rest := []) rfl rfl (fun _ _ => rfl) (c_X7_isOpen  σ) (j_dd rfl hd) rfl ?_
    refine j_two (pT := 114) (pF := 118) (L1 := [some (.ref 10), some (.int l1), some (.int l2)]) (st1 := []) (fun o kT kF => ?_) (fun h13 => ?_) (fun h13 => ?_)
    · refine j_ifeq (t := 118) (pc' := 114) rfl rfl rfl (fun h14 => ?_) (fun h14 => ?_)
      · exact kF (fun z => z h14)
      · exact kT h14
    · refine j_iconst (pc' := 115) (x := (0 : Int32)) rfl rfl rfl ?_
      refine j_goto (t := 119) rfl rfl ?_
      exact j_ret rfl rfl rfl (fun _ h => h)
    · refine j_iconst (pc' := 119) (x := (2 : Int32)) rfl rfl rfl ?_
      exact j_ret rfl rfl rfl (fun _ h => h)
  refine j_spl (k := (4 : Int32)) (fun h15 => ?_) (fun h15 => ?_)
  · refine j_sw (t := 107) h15 rfl rfl (fun _ _ => rfl) ?_
    refine j_aload_n (pc' := 108) rfl rfl rfl ?_
    refine j_callTi (pc' := 111) (ai := 83) (vs := [.ref 10]) (rest := []) rfl rfl (fun _ _ => rfl) (c_X7_isOpen  σ) (j_dd rfl hd) rfl ?_
    refine j_two (pT := 114) (pF := 118) (L1 := [some (.ref 10), some (.int l1), some (.int l2)]) (st1 := []) (fun o kT kF => ?_) (fun h16 => ?_) (fun h16 => ?_)
    · refine j_ifeq (t := 118) (pc' := 114) rfl rfl rfl (fun h17 => ?_) (fun h17 => ?_)
      · exact kF (fun z => z h17)
      · exact kT h17
    · refine j_iconst (pc' := 115) (x := (0 : Int32)) rfl rfl rfl ?_
      refine j_goto (t := 119) rfl rfl ?_
      exact j_ret rfl rfl rfl (fun _ h => h)
    · refine j_iconst (pc' := 119) (x := (2 : Int32)) rfl rfl rfl ?_
      exact j_ret rfl rfl rfl (fun _ h => h)
  refine j_spl (k := (5 : Int32)) (fun h18 => ?_) (fun h18 => ?_)
  · refine j_sw (t := 120) h18 rfl rfl (fun _ _ => rfl) ?_
    refine j_aload_n (pc' := 121) rfl rfl rfl ?_
    refine j_callTi (pc' := 124) (ai := 83) (vs := [.ref 10]) (rest := []) rfl rfl (fun _ _ => rfl) (c_X7_isOpen  σ) (j_dd rfl hd) rfl ?_
    refine j_two (pT := 127) (pF := 148) (L1 := [some (.ref 10), some (.int l1), some (.int l2)]) (st1 := []) (fun o kT kF => ?_) (fun h23 => ?_) (fun h23 => ?_)
    · refine j_ifeq (t := 148) (pc' := 127) rfl rfl rfl (fun h24 => ?_) (fun h24 => ?_)
      · exact kF (fun z => z h24)
      · exact kT h24
    · refine j_iload_n (pc' := 128) rfl rfl rfl ?_
      refine j_two (pT := 131) (pF := 144) (L1 := [some (.ref 10), some (.int l1), some (.int l2)]) (st1 := []) (fun o kT kF => ?_) (fun h21 => ?_) (fun h21 => ?_)
      · refine j_ifeq (t := 144) (pc' := 131) rfl rfl rfl (fun h22 => ?_) (fun h22 => ?_)
        · exact kF (fun z => z h22)
        · exact kT h22
      · refine j_aload_n (pc' := 132) rfl rfl rfl ?_
        refine j_gfi (pc' := 135) rfl rfl j_a10 rfl ?_
        refine j_aload_n (pc' := 136) rfl rfl rfl ?_
        refine j_gfr (pc' := 139) (x := 21) rfl rfl j_a10 rfl rfl ?_
        refine j_iconst (pc' := 140) (x := (0 : Int32)) rfl rfl rfl ?_
        refine j_iald (pc' := 141) rfl rfl j_a21 ?_
        refine j_two (pT := 144) (pF := 148) (L1 := [some (.ref 10), some (.int l1), some (.int l2)]) (st1 := []) (fun o kT kF => ?_) (fun h19 => ?_) (fun h19 => ?_)
        · refine j_iceq (t := 148) (pc' := 144) rfl rfl rfl (fun h20 => ?_) (fun h20 => ?_)
          · exact kF (fun z => z h20)
          · exact kT h20
        · refine j_iconst (pc' := 145) (x := (0 : Int32)) rfl rfl rfl ?_
          refine j_goto (t := 149) rfl rfl ?_
          exact j_ret rfl rfl rfl (fun _ h => h)
        · refine j_iconst (pc' := 149) (x := (2 : Int32)) rfl rfl rfl ?_
          exact j_ret rfl rfl rfl (fun _ h => h)
      · refine j_iconst (pc' := 145) (x := (0 : Int32)) rfl rfl rfl ?_
        refine j_goto (t := 149) rfl rfl ?_
        exact j_ret rfl rfl rfl (fun _ h => h)
    · refine j_iconst (pc' := 149) (x := (2 : Int32)) rfl rfl rfl ?_
      exact j_ret rfl rfl rfl (fun _ h => h)
  refine j_spl (k := (6 : Int32)) (fun h25 => ?_) (fun h25 => ?_)
  · refine j_sw (t := 150) h25 rfl rfl (fun _ _ => rfl) ?_
    refine j_aload_n (pc' := 151) rfl rfl rfl ?_
    refine j_gfr (pc' := 154) (x := 11) rfl rfl j_a10 rfl rfl ?_
    refine j_iload_n (pc' := 155) rfl rfl rfl ?_
    refine j_aload_n (pc' := 156) rfl rfl rfl ?_
    refine j_gfi (pc' := 159) rfl rfl j_a10 rfl ?_
    refine j_callTi (pc' := 162) (ai := 26) (vs := [.ref 11, .int l2, .int (σ.1 10 8)]) (rest := []) rfl rfl (fun _ _ => rfl) (c_X2_isTrait_11 l2 (σ.1 10 8) σ) (j_dd rfl hd) rfl ?_
    refine j_two (pT := 165) (pF := 169) (L1 := [some (.ref 10), some (.int l1), some (.int l2)]) (st1 := []) (fun o kT kF => ?_) (fun h26 => ?_) (fun h26 => ?_)
    · refine j_ifeq (t := 169) (pc' := 165) rfl rfl rfl (fun h27 => ?_) (fun h27 => ?_)
      · exact kF (fun z => z h27)
      · exact kT h27
    · refine j_iconst (pc' := 166) (x := (0 : Int32)) rfl rfl rfl ?_
      refine j_goto (t := 170) rfl rfl ?_
      exact j_ret rfl rfl rfl (fun _ h => h)
    · refine j_iconst (pc' := 170) (x := (2 : Int32)) rfl rfl rfl ?_
      exact j_ret rfl rfl rfl (fun _ h => h)
  have eh1 := j_ne (0) (by decide) h1
  have eh4 := j_ne (1) (by decide) h4
  have eh7 := j_ne (2) (by decide) h7
  have eh12 := j_ne (3) (by decide) h12
  have eh15 := j_ne (4) (by decide) h15
  have eh18 := j_ne (5) (by decide) h18
  have eh25 := j_ne (6) (by decide) h25
  refine j_tsd (t := 171) rfl (by omega) rfl ?_
  refine j_iload_n (pc' := 172) rfl rfl rfl ?_
  refine j_two (pT := 175) (pF := 185) (L1 := [some (.ref 10), some (.int l1), some (.int l2)]) (st1 := []) (fun o kT kF => ?_) (fun h28 => ?_) (fun h28 => ?_)
  · refine j_ifne (t := 185) (pc' := 175) rfl rfl rfl (fun h29 => ?_) (fun h29 => ?_)
    · exact kF h29
    · exact kT h29
  · refine j_aload_n (pc' := 176) rfl rfl rfl ?_
    refine j_iconst (pc' := 177) (x := (1 : Int32)) rfl rfl rfl ?_
    refine j_bipush (pc' := 179) (x := (99 : Int32)) rfl rfl rfl ?_
    refine j_callTi (pc' := 182) (ai := 80) (vs := [.ref 10, .int (1 : Int32), .int (99 : Int32)]) (rest := []) rfl rfl (fun _ _ => rfl) (c_X7_within (1 : Int32) (99 : Int32) σ) (j_dd rfl hd) rfl ?_
    refine j_goto (t := 193) rfl rfl ?_
    exact j_ret rfl rfl rfl (fun _ h => h)
  · refine j_aload_n (pc' := 186) rfl rfl rfl ?_
    refine j_iconst (pc' := 187) (x := (1 : Int32)) rfl rfl rfl ?_
    refine j_sipush (pc' := 190) (x := (500 : Int32)) rfl rfl rfl ?_
    refine j_callTi (pc' := 193) (ai := 80) (vs := [.ref 10, .int (1 : Int32), .int (500 : Int32)]) (rest := []) rfl rfl (fun _ _ => rfl) (c_X7_within (1 : Int32) (500 : Int32) σ) (j_dd rfl hd) rfl ?_
    exact j_ret rfl rfl rfl (fun _ h => h)

noncomputable def p_X2_setStay_2 (l1 : Int32) (l2 : Int32) (σ : j_G) : Nat → Int32 → Option j_G
  | 0, _ => none
  | n + 1, l3 =>
    if l3 < (σ.1 11 10) then (j_ix l3 6 (
    if (σ.1 12 (l3).toNatClampNeg) = l2 then (j_ix l3 6 (
    j_lt (j_si σ 13 (l3).toNatClampNeg l1) fun σ1 =>
    some σ1)) else (p_X2_setStay_2 l1 l2 σ n (l3 + (1 : Int32))))) else (if (σ.1 11 10) < (6 : Int32) then (j_ix (σ.1 11 10) 6 (
    j_lt (j_si σ 12 ((σ.1 11 10)).toNatClampNeg l2) fun σ2 =>
    j_ix (σ2.1 11 10) 6 (
    j_lt (j_si σ2 13 ((σ2.1 11 10)).toNatClampNeg l1) fun σ3 =>
    j_lt (j_si σ3 11 10 ((σ3.1 11 10) + (1 : Int32))) fun σ4 =>
    some σ4))) else (some σ))

noncomputable def f_X2_setStay (l1 : Int32) (l2 : Int32) (σ : j_G) : Option j_G :=
  p_X2_setStay_2 l1 l2 σ j_F (0 : Int32)
theorem l_X2_setStay_2 {d : Nat} (hd : 0 ≤ d) (τ : j_G) (l1 : Int32) (l2 : Int32) (σ : j_G) : ∀ (n : Nat) (l3 : Int32), j_J true τ M_cX2_setStay d 2 [some (.ref 11), some (.int l1), some (.int l2), some (.int l3)] [] σ (p_X2_setStay_2 l1 l2 σ n l3) j_Rv := by
  intro n
  induction n with
  | zero => intro l3; exact j_none
  | succ n ih =>
    intro l3
    unfold p_X2_setStay_2
    refine j_iload_n (pc' := 3) rfl rfl rfl ?_
    refine j_aload_n (pc' := 4) rfl rfl rfl ?_
    refine j_gfi (pc' := 7) rfl rfl j_a11 rfl ?_
    refine j_two (pT := 10) (pF := 34) (L1 := [some (.ref 11), some (.int l1), some (.int l2), some (.int l3)]) (st1 := []) (fun o kT kF => ?_) (fun h5 => ?_) (fun h5 => ?_)
    · refine j_icge (t := 34) (pc' := 10) rfl rfl rfl (fun h6 => ?_) (fun h6 => ?_)
      · exact kF h6
      · exact kT h6
    · refine j_aload_n (pc' := 11) rfl rfl rfl ?_
      refine j_gfr (pc' := 14) (x := 12) rfl rfl j_a11 rfl rfl ?_
      refine j_iload_n (pc' := 15) rfl rfl rfl ?_
      refine j_iald (pc' := 16) rfl rfl j_a12 ?_
      refine j_iload_n (pc' := 17) rfl rfl rfl ?_
      refine j_two (pT := 20) (pF := 28) (L1 := [some (.ref 11), some (.int l1), some (.int l2), some (.int l3)]) (st1 := []) (fun o kT kF => ?_) (fun h1 => ?_) (fun h1 => ?_)
      · refine j_icne (t := 28) (pc' := 20) rfl rfl rfl (fun h2 => ?_) (fun h2 => ?_)
        · exact kF h2
        · exact kT h2
      · refine j_aload_n (pc' := 21) rfl rfl rfl ?_
        refine j_gfr (pc' := 24) (x := 13) rfl rfl j_a11 rfl rfl ?_
        refine j_iload_n (pc' := 25) rfl rfl rfl ?_
        refine j_iload_n (pc' := 26) rfl rfl rfl ?_
        refine j_iast (pc' := 27) rfl rfl j_a13 (fun σ1 => ?_)
        exact j_ret rfl rfl rfl (fun _ h => h)
      · refine j_iincx (pc' := 31) (y := (1 : Int32)) (L' := [some (.ref 11), some (.int l1), some (.int l2), some (.int (l3 + (1 : Int32)))]) rfl rfl rfl rfl rfl ?_
        refine j_goto (t := 2) rfl rfl ?_
        exact ih (l3 + (1 : Int32))
    · refine j_aload_n (pc' := 35) rfl rfl rfl ?_
      refine j_gfi (pc' := 38) rfl rfl j_a11 rfl ?_
      refine j_bipush (pc' := 40) (x := (6 : Int32)) rfl rfl rfl ?_
      refine j_two (pT := 43) (pF := 73) (L1 := [some (.ref 11), some (.int l1), some (.int l2), some (.int l3)]) (st1 := []) (fun o kT kF => ?_) (fun h3 => ?_) (fun h3 => ?_)
      · refine j_icge (t := 73) (pc' := 43) rfl rfl rfl (fun h4 => ?_) (fun h4 => ?_)
        · exact kF h4
        · exact kT h4
      · refine j_aload_n (pc' := 44) rfl rfl rfl ?_
        refine j_gfr (pc' := 47) (x := 12) rfl rfl j_a11 rfl rfl ?_
        refine j_aload_n (pc' := 48) rfl rfl rfl ?_
        refine j_gfi (pc' := 51) rfl rfl j_a11 rfl ?_
        refine j_iload_n (pc' := 52) rfl rfl rfl ?_
        refine j_iast (pc' := 53) rfl rfl j_a12 (fun σ2 => ?_)
        refine j_aload_n (pc' := 54) rfl rfl rfl ?_
        refine j_gfr (pc' := 57) (x := 13) rfl rfl j_a11 rfl rfl ?_
        refine j_aload_n (pc' := 58) rfl rfl rfl ?_
        refine j_gfi (pc' := 61) rfl rfl j_a11 rfl ?_
        refine j_iload_n (pc' := 62) rfl rfl rfl ?_
        refine j_iast (pc' := 63) rfl rfl j_a13 (fun σ3 => ?_)
        refine j_aload_n (pc' := 64) rfl rfl rfl ?_
        refine j_dup (pc' := 65) rfl rfl rfl ?_
        refine j_gfi (pc' := 68) rfl rfl j_a11 rfl ?_
        refine j_iconst (pc' := 69) (x := (1 : Int32)) rfl rfl rfl ?_
        refine j_iadd (pc' := 70) rfl rfl ?_
        refine j_pfi (pc' := 73) rfl rfl j_a11 rfl rfl (fun σ4 => ?_)
        exact j_ret rfl rfl rfl (fun _ h => h)
      · exact j_ret rfl rfl rfl (fun _ h => h)

theorem c_X2_setStay (l1 : Int32) (l2 : Int32) (σ : j_G) : j_K true 0 23 [.ref 11, .int l1, .int l2] σ (f_X2_setStay l1 l2 σ) j_Rv := by
  refine j_mkK (M := M_cX2_setStay) (L := [some (.ref 11), some (.int l1), some (.int l2), none]) (m := 1) t_23 rfl (j_rcvO j_a11 rfl) rfl (fun d hd τ => ?_)
  unfold f_X2_setStay
  refine j_iconst (pc' := 1) (x := (0 : Int32)) rfl rfl rfl ?_
  refine j_istore_n (pc' := 2) (L' := [some (.ref 11), some (.int l1), some (.int l2), some (.int (0 : Int32))]) rfl rfl rfl ?_
  exact (l_X2_setStay_2 hd τ l1 l2 σ j_F (0 : Int32))

noncomputable def f_X3_add (l1 : Int32) (l2 : Int32) (l3 : Int32) (σ : j_G) : Option j_G :=
  if (σ.1 15 0) < (24 : Int32) then (j_ix (σ.1 15 0) 24 (
  j_lt (j_si σ 16 ((σ.1 15 0)).toNatClampNeg l1) fun σ1 =>
  j_ix (σ1.1 15 0) 24 (
  j_lt (j_si σ1 17 ((σ1.1 15 0)).toNatClampNeg l2) fun σ2 =>
  j_ix (σ2.1 15 0) 24 (
  j_lt (j_si σ2 18 ((σ2.1 15 0)).toNatClampNeg l3) fun σ3 =>
  j_lt (j_si σ3 15 0 ((σ3.1 15 0) + (1 : Int32))) fun σ4 =>
  some σ4)))) else (some σ)
theorem c_X3_add (l1 : Int32) (l2 : Int32) (l3 : Int32) (σ : j_G) : j_K true 0 32 [.ref 15, .int l1, .int l2, .int l3] σ (f_X3_add l1 l2 l3 σ) j_Rv := by
  refine j_mkK (M := M_cX3_add) (L := [some (.ref 15), some (.int l1), some (.int l2), some (.int l3)]) (m := 0) t_32 rfl (j_rcvO j_a15 rfl) rfl (fun d hd τ => ?_)
  unfold f_X3_add
  refine j_aload_n (pc' := 1) rfl rfl rfl ?_
  refine j_gfi (pc' := 4) rfl rfl j_a15 rfl ?_
  refine j_bipush (pc' := 6) (x := (24 : Int32)) rfl rfl rfl ?_
  refine j_two (pT := 9) (pF := 49) (L1 := [some (.ref 15), some (.int l1), some (.int l2), some (.int l3)]) (st1 := []) (fun o kT kF => ?_) (fun h1 => ?_) (fun h1 => ?_)
  · refine j_icge (t := 49) (pc' := 9) rfl rfl rfl (fun h2 => ?_) (fun h2 => ?_)
    · exact kF h2
    · exact kT h2
  · refine j_aload_n (pc' := 10) rfl rfl rfl ?_
    refine j_gfr (pc' := 13) (x := 16) rfl rfl j_a15 rfl rfl ?_
    refine j_aload_n (pc' := 14) rfl rfl rfl ?_
    refine j_gfi (pc' := 17) rfl rfl j_a15 rfl ?_
    refine j_iload_n (pc' := 18) rfl rfl rfl ?_
    refine j_iast (pc' := 19) rfl rfl j_a16 (fun σ1 => ?_)
    refine j_aload_n (pc' := 20) rfl rfl rfl ?_
    refine j_gfr (pc' := 23) (x := 17) rfl rfl j_a15 rfl rfl ?_
    refine j_aload_n (pc' := 24) rfl rfl rfl ?_
    refine j_gfi (pc' := 27) rfl rfl j_a15 rfl ?_
    refine j_iload_n (pc' := 28) rfl rfl rfl ?_
    refine j_iast (pc' := 29) rfl rfl j_a17 (fun σ2 => ?_)
    refine j_aload_n (pc' := 30) rfl rfl rfl ?_
    refine j_gfr (pc' := 33) (x := 18) rfl rfl j_a15 rfl rfl ?_
    refine j_aload_n (pc' := 34) rfl rfl rfl ?_
    refine j_gfi (pc' := 37) rfl rfl j_a15 rfl ?_
    refine j_iload_n (pc' := 38) rfl rfl rfl ?_
    refine j_iast (pc' := 39) rfl rfl j_a18 (fun σ3 => ?_)
    refine j_aload_n (pc' := 40) rfl rfl rfl ?_
    refine j_dup (pc' := 41) rfl rfl rfl ?_
    refine j_gfi (pc' := 44) rfl rfl j_a15 rfl ?_
    refine j_iconst (pc' := 45) (x := (1 : Int32)) rfl rfl rfl ?_
    refine j_iadd (pc' := 46) rfl rfl ?_
    refine j_pfi (pc' := 49) rfl rfl j_a15 rfl rfl (fun σ4 => ?_)
    exact j_ret rfl rfl rfl (fun _ h => h)
  · exact j_ret rfl rfl rfl (fun _ h => h)

noncomputable def f_X2_setTrait (a0_13 : Nat) (l1 : Int32) (l2 : Int32) (l3 : Int32) (σ : j_G) : Option j_G :=
  j_lt ((l1 * (5 : Int32)) + l2) fun v1 =>
  if (¬ v1 < 0) ∧ (v1 < (20 : Int32)) then (j_ix v1 20 (
  j_lt (j_si σ a0_13 (v1).toNatClampNeg l3) fun σ2 =>
  some σ2)) else (some σ)
theorem c_X2_setTrait_11 (l1 : Int32) (l2 : Int32) (l3 : Int32) (σ : j_G) : j_K true 0 25 [.ref 11, .int l1, .int l2, .int l3] σ (f_X2_setTrait 14 l1 l2 l3 σ) j_Rv := by
  refine j_mkK (M := M_cX2_setTrait) (L := [some (.ref 11), some (.int l1), some (.int l2), some (.int l3), none]) (m := 1) t_25 rfl (j_rcvO j_a11 rfl) rfl (fun d hd τ => ?_)
  unfold f_X2_setTrait
  refine j_iload_n (pc' := 1) rfl rfl rfl ?_
  refine j_iconst (pc' := 2) (x := (5 : Int32)) rfl rfl rfl ?_
  refine j_imul (pc' := 3) rfl rfl ?_
  refine j_iload_n (pc' := 4) rfl rfl rfl ?_
  refine j_iadd (pc' := 5) rfl rfl ?_
  refine j_leti (fun v1 => ?_)
  refine j_istore (pc' := 7) (L' := [some (.ref 11), some (.int l1), some (.int l2), some (.int l3), some (.int v1)]) rfl rfl rfl ?_
  refine j_iload (pc' := 9) rfl rfl rfl ?_
  refine j_two (pT := 22) (pF := 30) (L1 := [some (.ref 11), some (.int l1), some (.int l2), some (.int l3), some (.int v1)]) (st1 := []) (fun o kT kF => ?_) (fun h1 => ?_) (fun h1 => ?_)
  · refine j_iflt (t := 30) (pc' := 12) rfl rfl rfl (fun h2 => ?_) (fun h2 => ?_)
    · exact kF (fun z => z.1 h2)
    · refine j_iload (pc' := 14) rfl rfl rfl ?_
      refine j_aload_n (pc' := 15) rfl rfl rfl ?_
      refine j_gfr (pc' := 18) (x := 14) rfl rfl j_a11 rfl rfl ?_
      refine j_alen (pc' := 19) (v := (20 : Int32)) rfl rfl j_a14 rfl ?_
      refine j_icge (t := 30) (pc' := 22) rfl rfl rfl (fun h3 => ?_) (fun h3 => ?_)
      · exact kF (fun z => (h3) z.2)
      · exact kT (⟨h2, h3⟩)
  · refine j_aload_n (pc' := 23) rfl rfl rfl ?_
    refine j_gfr (pc' := 26) (x := 14) rfl rfl j_a11 rfl rfl ?_
    refine j_iload (pc' := 28) rfl rfl rfl ?_
    refine j_iload_n (pc' := 29) rfl rfl rfl ?_
    refine j_iast (pc' := 30) rfl rfl j_a14 (fun σ2 => ?_)
    exact j_ret rfl rfl rfl (fun _ h => h)
  · exact j_ret rfl rfl rfl (fun _ h => h)

noncomputable def p_X7_addPlayer_2 : Nat → Int32 → j_G → Option j_G
  | 0, _, _ => none
  | n + 1, l1, σ =>
    if l1 < (5 : Int32) then (j_ix l1 5 (
    j_b1 (f_X2_setTrait 14 (σ.1 11 7) l1 (σ.1 21 (l1).toNatClampNeg) σ) fun σ1 =>
    p_X7_addPlayer_2 n (l1 + (1 : Int32)) σ1)) else (some σ)

noncomputable def f_X7_addPlayer (σ : j_G) : Option j_G :=
  j_b1 (p_X7_addPlayer_2 j_F (0 : Int32) σ) fun σ1 =>
  j_lt (j_si σ1 11 7 ((σ1.1 11 7) + (1 : Int32))) fun σ2 =>
  some σ2
theorem l_X7_addPlayer_2 {d : Nat} (hd : 1 ≤ d) (τ : j_G) : ∀ (n : Nat) (l1 : Int32) (σ : j_G), j_J true τ M_cX7_addPlayer d 2 [some (.ref 10), some (.int l1)] [] σ (p_X7_addPlayer_2 n l1 σ) (fun r Q => j_Tr true τ M_cX7_addPlayer d 34 [some (.ref 10), none] [] r Q) := by
  intro n
  induction n with
  | zero => intro l1 σ; exact j_none
  | succ n ih =>
    intro l1 σ
    unfold p_X7_addPlayer_2
    refine j_iload_n (pc' := 3) rfl rfl rfl ?_
    refine j_iconst (pc' := 4) (x := (5 : Int32)) rfl rfl rfl ?_
    refine j_two (pT := 7) (pF := 34) (L1 := [some (.ref 10), some (.int l1)]) (st1 := []) (fun o kT kF => ?_) (fun h1 => ?_) (fun h1 => ?_)
    · refine j_icge (t := 34) (pc' := 7) rfl rfl rfl (fun h2 => ?_) (fun h2 => ?_)
      · exact kF h2
      · exact kT h2
    · refine j_aload_n (pc' := 8) rfl rfl rfl ?_
      refine j_gfr (pc' := 11) (x := 11) rfl rfl j_a10 rfl rfl ?_
      refine j_aload_n (pc' := 12) rfl rfl rfl ?_
      refine j_gfr (pc' := 15) (x := 11) rfl rfl j_a10 rfl rfl ?_
      refine j_gfi (pc' := 18) rfl rfl j_a11 rfl ?_
      refine j_iload_n (pc' := 19) rfl rfl rfl ?_
      refine j_aload_n (pc' := 20) rfl rfl rfl ?_
      refine j_gfr (pc' := 23) (x := 21) rfl rfl j_a10 rfl rfl ?_
      refine j_iload_n (pc' := 24) rfl rfl rfl ?_
      refine j_iald (pc' := 25) rfl rfl j_a21 ?_
      refine j_callRv (pc' := 28) (ai := 25) (vs := [.ref 11, .int (σ.1 11 7), .int l1, .int (σ.1 21 (l1).toNatClampNeg)]) (rest := []) rfl rfl (fun _ _ => rfl) (c_X2_setTrait_11 (σ.1 11 7) l1 (σ.1 21 (l1).toNatClampNeg) σ) (j_dd rfl hd) rfl (fun σ1 => ?_)
      refine j_iincx (pc' := 31) (y := (1 : Int32)) (L' := [some (.ref 10), some (.int (l1 + (1 : Int32)))]) rfl rfl rfl rfl rfl ?_
      refine j_goto (t := 2) rfl rfl ?_
      exact ih (l1 + (1 : Int32)) σ1
    · refine j_wk [true, false] (L' := [some (.ref 10), none]) rfl ?_
      exact j_end (fun _ h => h)

theorem c_X7_addPlayer (σ : j_G) : j_K true 1 85 [.ref 10] σ (f_X7_addPlayer σ) j_Rv := by
  refine j_mkK (M := M_cX7_addPlayer) (L := [some (.ref 10), none]) (m := 1) t_85 rfl (j_rcvO j_a10 rfl) rfl (fun d hd τ => ?_)
  unfold f_X7_addPlayer
  refine j_iconst (pc' := 1) (x := (0 : Int32)) rfl rfl rfl ?_
  refine j_istore_n (pc' := 2) (L' := [some (.ref 10), some (.int (0 : Int32))]) rfl rfl rfl ?_
  refine j_q1 (l_X7_addPlayer_2 hd τ j_F (0 : Int32) σ) (fun σ1 => ?_)
  show j_J true τ M_cX7_addPlayer d 34 [some (.ref 10), none] [] σ1 _ _
  refine j_aload_n (pc' := 35) rfl rfl rfl ?_
  refine j_gfr (pc' := 38) (x := 11) rfl rfl j_a10 rfl rfl ?_
  refine j_dup (pc' := 39) rfl rfl rfl ?_
  refine j_gfi (pc' := 42) rfl rfl j_a11 rfl ?_
  refine j_iconst (pc' := 43) (x := (1 : Int32)) rfl rfl rfl ?_
  refine j_iadd (pc' := 44) rfl rfl ?_
  refine j_pfi (pc' := 47) rfl rfl j_a11 rfl rfl (fun σ2 => ?_)
  exact j_ret rfl rfl rfl (fun _ h => h)

noncomputable def f_X7_apply (l1 : Int32) (σ : j_G) : Option j_G :=
  if l1 = 0 then (j_ix (0 : Int32) 5 (
  j_lt (j_si σ 11 2 (σ.1 21 ((0 : Int32)).toNatClampNeg)) fun σ1 =>
  j_ix (1 : Int32) 5 (
  j_lt (j_si σ1 11 3 (σ1.1 21 ((1 : Int32)).toNatClampNeg)) fun σ2 =>
  j_ix (2 : Int32) 5 (
  j_lt (j_si σ2 11 4 (σ2.1 21 ((2 : Int32)).toNatClampNeg)) fun σ3 =>
  j_ix (3 : Int32) 5 (
  j_lt (j_si σ3 11 5 (σ3.1 21 ((3 : Int32)).toNatClampNeg)) fun σ4 =>
  some σ4))))) else
  if l1 = 1 then (j_ix (0 : Int32) 5 (
  j_ix (1 : Int32) 5 (
  j_b1 (f_X2_setStay (σ.1 21 ((0 : Int32)).toNatClampNeg) (σ.1 21 ((1 : Int32)).toNatClampNeg) σ) fun σ5 =>
  some σ5))) else
  if l1 = 2 then (j_ix (0 : Int32) 5 (
  j_lt (j_si σ 11 6 ((σ.1 11 6) ||| ((1 : Int32) <<< ((σ.1 21 ((0 : Int32)).toNatClampNeg) &&& 31)))) fun σ6 =>
  some σ6)) else
  if l1 = 3 then (j_ix (0 : Int32) 5 (
  j_b1 (f_X3_add (σ.1 21 ((0 : Int32)).toNatClampNeg) (-1 : Int32) (0 : Int32) σ) fun σ7 =>
  some σ7)) else
  if l1 = 4 then (j_ix (0 : Int32) 5 (
  j_b1 (f_X3_add (σ.1 21 ((0 : Int32)).toNatClampNeg) (-1 : Int32) (1 : Int32) σ) fun σ8 =>
  some σ8)) else
  if l1 = 5 then (j_ix (0 : Int32) 5 (
  j_ix (1 : Int32) 5 (
  j_b1 (f_X3_add (σ.1 21 ((0 : Int32)).toNatClampNeg) (σ.1 21 ((1 : Int32)).toNatClampNeg) (0 : Int32) σ) fun σ9 =>
  some σ9))) else
  if l1 = 6 then (j_b1 (f_X7_addPlayer σ) fun σ10 =>
  some σ10) else
  (j_ix (0 : Int32) 5 (
  j_lt (j_si σ 11 8 (σ.1 21 ((0 : Int32)).toNatClampNeg)) fun σ11 =>
  j_ix (1 : Int32) 5 (
  j_lt (j_si σ11 11 9 (σ11.1 21 ((1 : Int32)).toNatClampNeg)) fun σ12 =>
  some σ12)))
theorem c_X7_apply (l1 : Int32) (σ : j_G) : j_K true 2 84 [.ref 10, .int l1] σ (f_X7_apply l1 σ) j_Rv := by
  refine j_mkK (M := M_cX7_apply) (L := [some (.ref 10), some (.int l1)]) (m := 0) t_84 rfl (j_rcvO j_a10 rfl) rfl (fun d hd τ => ?_)
  unfold f_X7_apply
  refine j_iload_n (pc' := 1) rfl rfl rfl ?_
  refine j_spl (k := (0 : Int32)) (fun h1 => ?_) (fun h1 => ?_)
  · refine j_sw (t := 44) h1 rfl rfl (fun _ _ => rfl) ?_
    refine j_aload_n (pc' := 45) rfl rfl rfl ?_
    refine j_gfr (pc' := 48) (x := 11) rfl rfl j_a10 rfl rfl ?_
    refine j_aload_n (pc' := 49) rfl rfl rfl ?_
    refine j_gfr (pc' := 52) (x := 21) rfl rfl j_a10 rfl rfl ?_
    refine j_iconst (pc' := 53) (x := (0 : Int32)) rfl rfl rfl ?_
    refine j_iald (pc' := 54) rfl rfl j_a21 ?_
    refine j_pfi (pc' := 57) rfl rfl j_a11 rfl rfl (fun σ1 => ?_)
    refine j_aload_n (pc' := 58) rfl rfl rfl ?_
    refine j_gfr (pc' := 61) (x := 11) rfl rfl j_a10 rfl rfl ?_
    refine j_aload_n (pc' := 62) rfl rfl rfl ?_
    refine j_gfr (pc' := 65) (x := 21) rfl rfl j_a10 rfl rfl ?_
    refine j_iconst (pc' := 66) (x := (1 : Int32)) rfl rfl rfl ?_
    refine j_iald (pc' := 67) rfl rfl j_a21 ?_
    refine j_pfi (pc' := 70) rfl rfl j_a11 rfl rfl (fun σ2 => ?_)
    refine j_aload_n (pc' := 71) rfl rfl rfl ?_
    refine j_gfr (pc' := 74) (x := 11) rfl rfl j_a10 rfl rfl ?_
    refine j_aload_n (pc' := 75) rfl rfl rfl ?_
    refine j_gfr (pc' := 78) (x := 21) rfl rfl j_a10 rfl rfl ?_
    refine j_iconst (pc' := 79) (x := (2 : Int32)) rfl rfl rfl ?_
    refine j_iald (pc' := 80) rfl rfl j_a21 ?_
    refine j_pfi (pc' := 83) rfl rfl j_a11 rfl rfl (fun σ3 => ?_)
    refine j_aload_n (pc' := 84) rfl rfl rfl ?_
    refine j_gfr (pc' := 87) (x := 11) rfl rfl j_a10 rfl rfl ?_
    refine j_aload_n (pc' := 88) rfl rfl rfl ?_
    refine j_gfr (pc' := 91) (x := 21) rfl rfl j_a10 rfl rfl ?_
    refine j_iconst (pc' := 92) (x := (3 : Int32)) rfl rfl rfl ?_
    refine j_iald (pc' := 93) rfl rfl j_a21 ?_
    refine j_pfi (pc' := 96) rfl rfl j_a11 rfl rfl (fun σ4 => ?_)
    refine j_goto (t := 245) rfl rfl ?_
    exact j_ret rfl rfl rfl (fun _ h => h)
  refine j_spl (k := (1 : Int32)) (fun h2 => ?_) (fun h2 => ?_)
  · refine j_sw (t := 99) h2 rfl rfl (fun _ _ => rfl) ?_
    refine j_aload_n (pc' := 100) rfl rfl rfl ?_
    refine j_gfr (pc' := 103) (x := 11) rfl rfl j_a10 rfl rfl ?_
    refine j_aload_n (pc' := 104) rfl rfl rfl ?_
    refine j_gfr (pc' := 107) (x := 21) rfl rfl j_a10 rfl rfl ?_
    refine j_iconst (pc' := 108) (x := (0 : Int32)) rfl rfl rfl ?_
    refine j_iald (pc' := 109) rfl rfl j_a21 ?_
    refine j_aload_n (pc' := 110) rfl rfl rfl ?_
    refine j_gfr (pc' := 113) (x := 21) rfl rfl j_a10 rfl rfl ?_
    refine j_iconst (pc' := 114) (x := (1 : Int32)) rfl rfl rfl ?_
    refine j_iald (pc' := 115) rfl rfl j_a21 ?_
    refine j_callRv (pc' := 118) (ai := 23) (vs := [.ref 11, .int (σ.1 21 ((0 : Int32)).toNatClampNeg), .int (σ.1 21 ((1 : Int32)).toNatClampNeg)]) (rest := []) rfl rfl (fun _ _ => rfl) (c_X2_setStay (σ.1 21 ((0 : Int32)).toNatClampNeg) (σ.1 21 ((1 : Int32)).toNatClampNeg) σ) (j_dd rfl hd) rfl (fun σ5 => ?_)
    refine j_goto (t := 245) rfl rfl ?_
    exact j_ret rfl rfl rfl (fun _ h => h)
  refine j_spl (k := (2 : Int32)) (fun h3 => ?_) (fun h3 => ?_)
  · refine j_sw (t := 121) h3 rfl rfl (fun _ _ => rfl) ?_
    refine j_aload_n (pc' := 122) rfl rfl rfl ?_
    refine j_gfr (pc' := 125) (x := 11) rfl rfl j_a10 rfl rfl ?_
    refine j_dup (pc' := 126) rfl rfl rfl ?_
    refine j_gfi (pc' := 129) rfl rfl j_a11 rfl ?_
    refine j_iconst (pc' := 130) (x := (1 : Int32)) rfl rfl rfl ?_
    refine j_aload_n (pc' := 131) rfl rfl rfl ?_
    refine j_gfr (pc' := 134) (x := 21) rfl rfl j_a10 rfl rfl ?_
    refine j_iconst (pc' := 135) (x := (0 : Int32)) rfl rfl rfl ?_
    refine j_iald (pc' := 136) rfl rfl j_a21 ?_
    refine j_ishl (pc' := 137) rfl rfl ?_
    refine j_ior (pc' := 138) rfl rfl ?_
    refine j_pfi (pc' := 141) rfl rfl j_a11 rfl rfl (fun σ6 => ?_)
    refine j_goto (t := 245) rfl rfl ?_
    exact j_ret rfl rfl rfl (fun _ h => h)
  refine j_spl (k := (3 : Int32)) (fun h4 => ?_) (fun h4 => ?_)
  · refine j_sw (t := 144) h4 rfl rfl (fun _ _ => rfl) ?_
    refine j_aload_n (pc' := 145) rfl rfl rfl ?_
    refine j_gfr (pc' := 148) (x := 11) rfl rfl j_a10 rfl rfl ?_
    refine j_gfr (pc' := 151) (x := 15) rfl rfl j_a11 rfl rfl ?_
    refine j_aload_n (pc' := 152) rfl rfl rfl ?_
    refine j_gfr (pc' := 155) (x := 21) rfl rfl j_a10 rfl rfl ?_
    refine j_iconst (pc' := 156) (x := (0 : Int32)) rfl rfl rfl ?_
    refine j_iald (pc' := 157) rfl rfl j_a21 ?_
    refine j_iconst (pc' := 158) (x := (-1 : Int32)) rfl rfl rfl ?_
    refine j_iconst (pc' := 159) (x := (0 : Int32)) rfl rfl rfl ?_
    refine j_callRv (pc' := 162) (ai := 32) (vs := [.ref 15, .int (σ.1 21 ((0 : Int32)).toNatClampNeg), .int (-1 : Int32), .int (0 : Int32)]) (rest := []) rfl rfl (fun _ _ => rfl) (c_X3_add (σ.1 21 ((0 : Int32)).toNatClampNeg) (-1 : Int32) (0 : Int32) σ) (j_dd rfl hd) rfl (fun σ7 => ?_)
    refine j_goto (t := 245) rfl rfl ?_
    exact j_ret rfl rfl rfl (fun _ h => h)
  refine j_spl (k := (4 : Int32)) (fun h5 => ?_) (fun h5 => ?_)
  · refine j_sw (t := 165) h5 rfl rfl (fun _ _ => rfl) ?_
    refine j_aload_n (pc' := 166) rfl rfl rfl ?_
    refine j_gfr (pc' := 169) (x := 11) rfl rfl j_a10 rfl rfl ?_
    refine j_gfr (pc' := 172) (x := 15) rfl rfl j_a11 rfl rfl ?_
    refine j_aload_n (pc' := 173) rfl rfl rfl ?_
    refine j_gfr (pc' := 176) (x := 21) rfl rfl j_a10 rfl rfl ?_
    refine j_iconst (pc' := 177) (x := (0 : Int32)) rfl rfl rfl ?_
    refine j_iald (pc' := 178) rfl rfl j_a21 ?_
    refine j_iconst (pc' := 179) (x := (-1 : Int32)) rfl rfl rfl ?_
    refine j_iconst (pc' := 180) (x := (1 : Int32)) rfl rfl rfl ?_
    refine j_callRv (pc' := 183) (ai := 32) (vs := [.ref 15, .int (σ.1 21 ((0 : Int32)).toNatClampNeg), .int (-1 : Int32), .int (1 : Int32)]) (rest := []) rfl rfl (fun _ _ => rfl) (c_X3_add (σ.1 21 ((0 : Int32)).toNatClampNeg) (-1 : Int32) (1 : Int32) σ) (j_dd rfl hd) rfl (fun σ8 => ?_)
    refine j_goto (t := 245) rfl rfl ?_
    exact j_ret rfl rfl rfl (fun _ h => h)
  refine j_spl (k := (5 : Int32)) (fun h6 => ?_) (fun h6 => ?_)
  · refine j_sw (t := 186) h6 rfl rfl (fun _ _ => rfl) ?_
    refine j_aload_n (pc' := 187) rfl rfl rfl ?_
    refine j_gfr (pc' := 190) (x := 11) rfl rfl j_a10 rfl rfl ?_
    refine j_gfr (pc' := 193) (x := 15) rfl rfl j_a11 rfl rfl ?_
    refine j_aload_n (pc' := 194) rfl rfl rfl ?_
    refine j_gfr (pc' := 197) (x := 21) rfl rfl j_a10 rfl rfl ?_
    refine j_iconst (pc' := 198) (x := (0 : Int32)) rfl rfl rfl ?_
    refine j_iald (pc' := 199) rfl rfl j_a21 ?_
    refine j_aload_n (pc' := 200) rfl rfl rfl ?_
    refine j_gfr (pc' := 203) (x := 21) rfl rfl j_a10 rfl rfl ?_
    refine j_iconst (pc' := 204) (x := (1 : Int32)) rfl rfl rfl ?_
    refine j_iald (pc' := 205) rfl rfl j_a21 ?_
    refine j_iconst (pc' := 206) (x := (0 : Int32)) rfl rfl rfl ?_
    refine j_callRv (pc' := 209) (ai := 32) (vs := [.ref 15, .int (σ.1 21 ((0 : Int32)).toNatClampNeg), .int (σ.1 21 ((1 : Int32)).toNatClampNeg), .int (0 : Int32)]) (rest := []) rfl rfl (fun _ _ => rfl) (c_X3_add (σ.1 21 ((0 : Int32)).toNatClampNeg) (σ.1 21 ((1 : Int32)).toNatClampNeg) (0 : Int32) σ) (j_dd rfl hd) rfl (fun σ9 => ?_)
    refine j_goto (t := 245) rfl rfl ?_
    exact j_ret rfl rfl rfl (fun _ h => h)
  refine j_spl (k := (6 : Int32)) (fun h7 => ?_) (fun h7 => ?_)
  · refine j_sw (t := 212) h7 rfl rfl (fun _ _ => rfl) ?_
    refine j_aload_n (pc' := 213) rfl rfl rfl ?_
    refine j_callRv (pc' := 216) (ai := 85) (vs := [.ref 10]) (rest := []) rfl rfl (fun _ _ => rfl) (c_X7_addPlayer  σ) (j_dd rfl hd) rfl (fun σ10 => ?_)
    refine j_goto (t := 245) rfl rfl ?_
    exact j_ret rfl rfl rfl (fun _ h => h)
  have eh1 := j_ne (0) (by decide) h1
  have eh2 := j_ne (1) (by decide) h2
  have eh3 := j_ne (2) (by decide) h3
  have eh4 := j_ne (3) (by decide) h4
  have eh5 := j_ne (4) (by decide) h5
  have eh6 := j_ne (5) (by decide) h6
  have eh7 := j_ne (6) (by decide) h7
  refine j_tsd (t := 219) rfl (by omega) rfl ?_
  refine j_aload_n (pc' := 220) rfl rfl rfl ?_
  refine j_gfr (pc' := 223) (x := 11) rfl rfl j_a10 rfl rfl ?_
  refine j_aload_n (pc' := 224) rfl rfl rfl ?_
  refine j_gfr (pc' := 227) (x := 21) rfl rfl j_a10 rfl rfl ?_
  refine j_iconst (pc' := 228) (x := (0 : Int32)) rfl rfl rfl ?_
  refine j_iald (pc' := 229) rfl rfl j_a21 ?_
  refine j_pfi (pc' := 232) rfl rfl j_a11 rfl rfl (fun σ11 => ?_)
  refine j_aload_n (pc' := 233) rfl rfl rfl ?_
  refine j_gfr (pc' := 236) (x := 11) rfl rfl j_a10 rfl rfl ?_
  refine j_aload_n (pc' := 237) rfl rfl rfl ?_
  refine j_gfr (pc' := 240) (x := 21) rfl rfl j_a10 rfl rfl ?_
  refine j_iconst (pc' := 241) (x := (1 : Int32)) rfl rfl rfl ?_
  refine j_iald (pc' := 242) rfl rfl j_a21 ?_
  refine j_pfi (pc' := 245) rfl rfl j_a11 rfl rfl (fun σ12 => ?_)
  exact j_ret rfl rfl rfl (fun _ h => h)

noncomputable def p_X7_readLine_47 (l1 : Int32) (l2 : Nat) : Nat → Int32 → Int32 → Int32 → j_G → Option j_G
  | 0, _, _, _, _ => none
  | n + 1, l3, l4, l5, σ =>
    j_b1 (j_len l2) fun v1 =>
    j_lt (j_b1 (f_X7_apply l1 σ) fun σ14 =>
    j_lt (j_si σ14 11 1 ((σ14.1 11 1) + (1 : Int32))) fun σ15 =>
    some σ15) fun (k2 : Option j_G) =>
    if l5 < v1 then (j_b1 (j_len l2) fun v3 =>
    if l4 < v3 then (j_b1 (f_X7_step σ) fun σ4 =>
    j_b1 (f_X7_standsAt l2 l4 σ4) fun v5 =>
    if v5 = 0 then (j_b1 (f_X7_blame (1 : Int32) σ4) fun σ6 =>
    some σ6) else (j_lt (fun (v11 : Int32) (σ12 : j_G) => (j_b1 (f_X7_behindBlank l2 l4) fun v13 =>
    p_X7_readLine_47 l1 l2 n v11 v13 (l5 + (1 : Int32)) σ12)) fun (k7 : Int32 → j_G → Option j_G) =>
    if ((σ4.1 10 5) = (3 : Int32)) ∧ (l3 < (5 : Int32)) then (j_b1 (f_X7_judge l1 l3 σ4) fun v8 =>
    if ¬ v8 = 0 then (j_b1 (f_X7_blame v8 σ4) fun σ9 =>
    some σ9) else (j_ix l3 5 (
    j_lt (j_si σ4 21 (l3).toNatClampNeg (σ4.1 10 8)) fun σ10 =>
    k7 (l3 + (1 : Int32)) σ10))) else (k7 l3 σ4))) else (k2)) else (k2)

noncomputable def f_X7_readLine (σ : j_G) : Option j_G :=
  j_b1 (f_X7_kindOfLine σ) fun v1 =>
  if v1 = (-1 : Int32) then (j_b1 (f_X7_blame (1 : Int32) σ) fun σ2 =>
  some σ2) else (if ¬ (f_X7_isFull v1 σ) = 0 then (j_b1 (f_X7_blame (3 : Int32) σ) fun σ3 =>
  some σ3) else (j_b1 (f_X7_behindBlank (f_X7_shapeOf v1) (0 : Int32)) fun v4 =>
  p_X7_readLine_47 v1 (f_X7_shapeOf v1) j_F (0 : Int32) v4 (1 : Int32) σ))
theorem l_X7_readLine_47 {d : Nat} (hd : 4 ≤ d) (τ : j_G) (l1 : Int32) (l2 : Nat) : ∀ (n : Nat) (l3 : Int32) (l4 : Int32) (l5 : Int32) (σ : j_G), j_J true τ M_cX7_readLine d 47 [some (.ref 10), some (.int l1), some (.ref l2), some (.int l3), some (.int l4), some (.int l5), none] [] σ (p_X7_readLine_47 l1 l2 n l3 l4 l5 σ) j_Rv := by
  intro n
  induction n with
  | zero => intro l3 l4 l5 σ; exact j_none
  | succ n ih =>
    intro l3 l4 l5 σ
    unfold p_X7_readLine_47
    refine j_iload (pc' := 49) rfl rfl rfl ?_
    refine j_aload_n (pc' := 50) rfl rfl rfl ?_
    refine j_slen (pc' := 53) rfl rfl rfl (fun v1 => ?_)
    refine j_jn (P := (fun k => j_J true τ M_cX7_readLine d 149 [some (.ref 10), some (.int l1), none, none, none, none, none] [] σ (k ) j_Rv)) ?_ (fun k2 k2_h => ?_)
    · refine j_aload_n (pc' := 150) rfl rfl rfl ?_
      refine j_iload_n (pc' := 151) rfl rfl rfl ?_
      refine j_callRv (pc' := 154) (ai := 84) (vs := [.ref 10, .int l1]) (rest := []) rfl rfl (fun _ _ => rfl) (c_X7_apply l1 σ) (j_dd rfl hd) rfl (fun σ14 => ?_)
      refine j_aload_n (pc' := 155) rfl rfl rfl ?_
      refine j_gfr (pc' := 158) (x := 11) rfl rfl j_a10 rfl rfl ?_
      refine j_dup (pc' := 159) rfl rfl rfl ?_
      refine j_gfi (pc' := 162) rfl rfl j_a11 rfl ?_
      refine j_iconst (pc' := 163) (x := (1 : Int32)) rfl rfl rfl ?_
      refine j_iadd (pc' := 164) rfl rfl ?_
      refine j_pfi (pc' := 167) rfl rfl j_a11 rfl rfl (fun σ15 => ?_)
      exact j_ret rfl rfl rfl (fun _ h => h)
    · refine j_two (pT := 56) (pF := 149) (L1 := [some (.ref 10), some (.int l1), some (.ref l2), some (.int l3), some (.int l4), some (.int l5), none]) (st1 := []) (fun o kT kF => ?_) (fun h10 => ?_) (fun h10 => ?_)
      · refine j_icge (t := 149) (pc' := 56) rfl rfl rfl (fun h11 => ?_) (fun h11 => ?_)
        · exact kF h11
        · exact kT h11
      · refine j_iload (pc' := 58) rfl rfl rfl ?_
        refine j_aload_n (pc' := 59) rfl rfl rfl ?_
        refine j_slen (pc' := 62) rfl rfl rfl (fun v3 => ?_)
        refine j_two (pT := 65) (pF := 149) (L1 := [some (.ref 10), some (.int l1), some (.ref l2), some (.int l3), some (.int l4), some (.int l5), none]) (st1 := []) (fun o kT kF => ?_) (fun h8 => ?_) (fun h8 => ?_)
        · refine j_icge (t := 149) (pc' := 65) rfl rfl rfl (fun h9 => ?_) (fun h9 => ?_)
          · exact kF h9
          · exact kT h9
        · refine j_aload_n (pc' := 66) rfl rfl rfl ?_
          refine j_callRv (pc' := 69) (ai := 86) (vs := [.ref 10]) (rest := []) rfl rfl (fun _ _ => rfl) (c_X7_step  σ) (j_dd rfl hd) rfl (fun σ4 => ?_)
          refine j_aload_n (pc' := 70) rfl rfl rfl ?_
          refine j_aload_n (pc' := 71) rfl rfl rfl ?_
          refine j_iload (pc' := 73) rfl rfl rfl ?_
          refine j_callPi (pc' := 76) (ai := 76) (vs := [.ref 10, .ref l2, .int l4]) (rest := []) rfl rfl (fun _ _ => rfl) (c_X7_standsAt l2 l4 σ4) (j_dd rfl hd) rfl (fun v5 => ?_)
          refine j_two (pT := 79) (pF := 85) (L1 := [some (.ref 10), some (.int l1), some (.ref l2), some (.int l3), some (.int l4), some (.int l5), none]) (st1 := []) (fun o kT kF => ?_) (fun h6 => ?_) (fun h6 => ?_)
          · refine j_ifne (t := 85) (pc' := 79) rfl rfl rfl (fun h7 => ?_) (fun h7 => ?_)
            · exact kF h7
            · exact kT h7
          · refine j_aload_n (pc' := 80) rfl rfl rfl ?_
            refine j_iconst (pc' := 81) (x := (1 : Int32)) rfl rfl rfl ?_
            refine j_callRv (pc' := 84) (ai := 73) (vs := [.ref 10, .int (1 : Int32)]) (rest := []) rfl rfl (fun _ _ => rfl) (c_X7_blame (1 : Int32) σ4) (j_dd rfl hd) rfl (fun σ6 => ?_)
            exact j_ret rfl rfl rfl (fun _ h => h)
          · refine j_aload_n (pc' := 86) rfl rfl rfl ?_
            refine j_gfi (pc' := 89) rfl rfl j_a10 rfl ?_
            refine j_iconst (pc' := 90) (x := (3 : Int32)) rfl rfl rfl ?_
            refine j_jn (P := (fun k => ∀ (v11 : Int32) (σ12 : j_G), j_J true τ M_cX7_readLine d 135 [some (.ref 10), some (.int l1), some (.ref l2), some (.int v11), some (.int l4), some (.int l5), none] [] σ12 (k v11 σ12) j_Rv)) ?_ (fun k7 k7_h => ?_)
            · intro v11 σ12
              refine j_aload_n (pc' := 136) rfl rfl rfl ?_
              refine j_iload (pc' := 138) rfl rfl rfl ?_
              refine j_callPi (pc' := 141) (ai := 74) (vs := [.ref l2, .int l4]) (rest := []) rfl rfl (fun _ _ => rfl) (c_X7_behindBlank l2 l4 σ12) (j_dd rfl hd) rfl (fun v13 => ?_)
              refine j_istore (pc' := 143) (L' := [some (.ref 10), some (.int l1), some (.ref l2), some (.int v11), some (.int v13), some (.int l5), none]) rfl rfl rfl ?_
              refine j_iincx (pc' := 146) (y := (1 : Int32)) (L' := [some (.ref 10), some (.int l1), some (.ref l2), some (.int v11), some (.int v13), some (.int (l5 + (1 : Int32))), none]) rfl rfl rfl rfl rfl ?_
              refine j_goto (t := 47) rfl rfl ?_
              exact ih v11 v13 (l5 + (1 : Int32)) σ12
            · refine j_two (pT := 102) (pF := 135) (L1 := [some (.ref 10), some (.int l1), some (.ref l2), some (.int l3), some (.int l4), some (.int l5), none]) (st1 := []) (fun o kT kF => ?_) (fun h3 => ?_) (fun h3 => ?_)
              · refine j_icne (t := 135) (pc' := 93) rfl rfl rfl (fun h4 => ?_) (fun h4 => ?_)
                · exact kF (fun z => h4 z.1)
                · refine j_iload_n (pc' := 94) rfl rfl rfl ?_
                  refine j_aload_n (pc' := 95) rfl rfl rfl ?_
                  refine j_gfr (pc' := 98) (x := 21) rfl rfl j_a10 rfl rfl ?_
                  refine j_alen (pc' := 99) (v := (5 : Int32)) rfl rfl j_a21 rfl ?_
                  refine j_icge (t := 135) (pc' := 102) rfl rfl rfl (fun h5 => ?_) (fun h5 => ?_)
                  · exact kF (fun z => (h5) z.2)
                  · exact kT (⟨h4, h5⟩)
              · refine j_aload_n (pc' := 103) rfl rfl rfl ?_
                refine j_iload_n (pc' := 104) rfl rfl rfl ?_
                refine j_iload_n (pc' := 105) rfl rfl rfl ?_
                refine j_callPi (pc' := 108) (ai := 79) (vs := [.ref 10, .int l1, .int l3]) (rest := []) rfl rfl (fun _ _ => rfl) (c_X7_judge l1 l3 σ4) (j_dd rfl hd) rfl (fun v8 => ?_)
                refine j_istore (pc' := 110) (L' := [some (.ref 10), some (.int l1), some (.ref l2), some (.int l3), some (.int l4), some (.int l5), some (.int v8)]) rfl rfl rfl ?_
                refine j_iload (pc' := 112) rfl rfl rfl ?_
                refine j_two (pT := 115) (pF := 122) (L1 := [some (.ref 10), some (.int l1), some (.ref l2), some (.int l3), some (.int l4), some (.int l5), some (.int v8)]) (st1 := []) (fun o kT kF => ?_) (fun h1 => ?_) (fun h1 => ?_)
                · refine j_ifeq (t := 122) (pc' := 115) rfl rfl rfl (fun h2 => ?_) (fun h2 => ?_)
                  · exact kF (fun z => z h2)
                  · exact kT h2
                · refine j_aload_n (pc' := 116) rfl rfl rfl ?_
                  refine j_iload (pc' := 118) rfl rfl rfl ?_
                  refine j_callRv (pc' := 121) (ai := 73) (vs := [.ref 10, .int v8]) (rest := []) rfl rfl (fun _ _ => rfl) (c_X7_blame v8 σ4) (j_dd rfl hd) rfl (fun σ9 => ?_)
                  exact j_ret rfl rfl rfl (fun _ h => h)
                · refine j_aload_n (pc' := 123) rfl rfl rfl ?_
                  refine j_gfr (pc' := 126) (x := 21) rfl rfl j_a10 rfl rfl ?_
                  refine j_iload_n (pc' := 127) rfl rfl rfl ?_
                  refine j_aload_n (pc' := 128) rfl rfl rfl ?_
                  refine j_gfi (pc' := 131) rfl rfl j_a10 rfl ?_
                  refine j_iast (pc' := 132) rfl rfl j_a21 (fun σ10 => ?_)
                  refine j_iincx (pc' := 135) (y := (1 : Int32)) (L' := [some (.ref 10), some (.int l1), some (.ref l2), some (.int (l3 + (1 : Int32))), some (.int l4), some (.int l5), some (.int v8)]) rfl rfl rfl rfl rfl ?_
                  refine j_wk [true, true, true, true, true, true, false] (L' := [some (.ref 10), some (.int l1), some (.ref l2), some (.int (l3 + (1 : Int32))), some (.int l4), some (.int l5), none]) rfl ?_
                  exact k7_h (l3 + (1 : Int32)) σ10
              · exact k7_h l3 σ4
        · refine j_wk [true, true, false, false, false, false, true] (L' := [some (.ref 10), some (.int l1), none, none, none, none, none]) rfl ?_
          exact k2_h 
      · refine j_wk [true, true, false, false, false, false, true] (L' := [some (.ref 10), some (.int l1), none, none, none, none, none]) rfl ?_
        exact k2_h 

theorem c_X7_readLine (σ : j_G) : j_K true 4 72 [.ref 10] σ (f_X7_readLine σ) j_Rv := by
  refine j_mkK (M := M_cX7_readLine) (L := [some (.ref 10), none, none, none, none, none, none]) (m := 6) t_72 rfl (j_rcvO j_a10 rfl) rfl (fun d hd τ => ?_)
  unfold f_X7_readLine
  refine j_aload_n (pc' := 1) rfl rfl rfl ?_
  refine j_callPi (pc' := 4) (ai := 75) (vs := [.ref 10]) (rest := []) rfl rfl (fun _ _ => rfl) (c_X7_kindOfLine  σ) (j_dd rfl hd) rfl (fun v1 => ?_)
  refine j_istore_n (pc' := 5) (L' := [some (.ref 10), some (.int v1), none, none, none, none, none]) rfl rfl rfl ?_
  refine j_iload_n (pc' := 6) rfl rfl rfl ?_
  refine j_iconst (pc' := 7) (x := (-1 : Int32)) rfl rfl rfl ?_
  refine j_two (pT := 10) (pF := 16) (L1 := [some (.ref 10), some (.int v1), none, none, none, none, none]) (st1 := []) (fun o kT kF => ?_) (fun h3 => ?_) (fun h3 => ?_)
  · refine j_icne (t := 16) (pc' := 10) rfl rfl rfl (fun h4 => ?_) (fun h4 => ?_)
    · exact kF h4
    · exact kT h4
  · refine j_aload_n (pc' := 11) rfl rfl rfl ?_
    refine j_iconst (pc' := 12) (x := (1 : Int32)) rfl rfl rfl ?_
    refine j_callRv (pc' := 15) (ai := 73) (vs := [.ref 10, .int (1 : Int32)]) (rest := []) rfl rfl (fun _ _ => rfl) (c_X7_blame (1 : Int32) σ) (j_dd rfl hd) rfl (fun σ2 => ?_)
    exact j_ret rfl rfl rfl (fun _ h => h)
  · refine j_aload_n (pc' := 17) rfl rfl rfl ?_
    refine j_iload_n (pc' := 18) rfl rfl rfl ?_
    refine j_callTi (pc' := 21) (ai := 78) (vs := [.ref 10, .int v1]) (rest := []) rfl rfl (fun _ _ => rfl) (c_X7_isFull v1 σ) (j_dd rfl hd) rfl ?_
    refine j_two (pT := 24) (pF := 30) (L1 := [some (.ref 10), some (.int v1), none, none, none, none, none]) (st1 := []) (fun o kT kF => ?_) (fun h1 => ?_) (fun h1 => ?_)
    · refine j_ifeq (t := 30) (pc' := 24) rfl rfl rfl (fun h2 => ?_) (fun h2 => ?_)
      · exact kF (fun z => z h2)
      · exact kT h2
    · refine j_aload_n (pc' := 25) rfl rfl rfl ?_
      refine j_iconst (pc' := 26) (x := (3 : Int32)) rfl rfl rfl ?_
      refine j_callRv (pc' := 29) (ai := 73) (vs := [.ref 10, .int (3 : Int32)]) (rest := []) rfl rfl (fun _ _ => rfl) (c_X7_blame (3 : Int32) σ) (j_dd rfl hd) rfl (fun σ3 => ?_)
      exact j_ret rfl rfl rfl (fun _ h => h)
    · refine j_iload_n (pc' := 31) rfl rfl rfl ?_
      refine j_callTr (pc' := 34) (ai := 71) (vs := [.int v1]) (rest := []) rfl rfl (fun _ _ => rfl) (c_X7_shapeOf v1 σ) (j_dd rfl hd) rfl ?_
      refine j_astore_n (pc' := 35) (L' := [some (.ref 10), some (.int v1), some (.ref (f_X7_shapeOf v1)), none, none, none, none]) rfl rfl rfl ?_
      refine j_iconst (pc' := 36) (x := (0 : Int32)) rfl rfl rfl ?_
      refine j_istore_n (pc' := 37) (L' := [some (.ref 10), some (.int v1), some (.ref (f_X7_shapeOf v1)), some (.int (0 : Int32)), none, none, none]) rfl rfl rfl ?_
      refine j_aload_n (pc' := 38) rfl rfl rfl ?_
      refine j_iconst (pc' := 39) (x := (0 : Int32)) rfl rfl rfl ?_
      refine j_callPi (pc' := 42) (ai := 74) (vs := [.ref (f_X7_shapeOf v1), .int (0 : Int32)]) (rest := []) rfl rfl (fun _ _ => rfl) (c_X7_behindBlank (f_X7_shapeOf v1) (0 : Int32) σ) (j_dd rfl hd) rfl (fun v4 => ?_)
      refine j_istore (pc' := 44) (L' := [some (.ref 10), some (.int v1), some (.ref (f_X7_shapeOf v1)), some (.int (0 : Int32)), some (.int v4), none, none]) rfl rfl rfl ?_
      refine j_iconst (pc' := 45) (x := (1 : Int32)) rfl rfl rfl ?_
      refine j_istore (pc' := 47) (L' := [some (.ref 10), some (.int v1), some (.ref (f_X7_shapeOf v1)), some (.int (0 : Int32)), some (.int v4), some (.int (1 : Int32)), none]) rfl rfl rfl ?_
      exact (l_X7_readLine_47 hd τ v1 (f_X7_shapeOf v1) j_F (0 : Int32) v4 (1 : Int32) σ)

noncomputable def p_X7_readAll_28 : Nat → Int32 → j_G → Option j_G
  | 0, _, _ => none
  | n + 1, l1, σ =>
    if (¬ (1200 : Int32) < l1) ∧ (((σ.1 10 1) = 0) ∧ (¬ (σ.1 10 5) = (1 : Int32))) then (j_b1 (f_X7_readLine σ) fun σ1 =>
    j_b1 (f_X7_step σ1) fun σ2 =>
    p_X7_readAll_28 n (l1 + (1 : Int32)) σ2) else (some σ)

noncomputable def f_X7_readAll (σ : j_G) : Option (Int32 × j_G) :=
  j_b1 (f_X2_empty σ) fun σ1 =>
  j_lt (j_si σ1 10 7 (0 : Int32)) fun σ2 =>
  j_lt (j_si σ2 10 1 (0 : Int32)) fun σ3 =>
  j_lt (j_si σ3 10 2 (-1 : Int32)) fun σ4 =>
  j_b1 (f_X7_step σ4) fun σ5 =>
  j_b1 (p_X7_readAll_28 j_F (0 : Int32) σ5) fun σ6 =>
  if (σ6.1 10 1) = 0 then (some ((1 : Int32), σ6)) else (some ((0 : Int32), σ6))
theorem l_X7_readAll_28 {d : Nat} (hd : 5 ≤ d) (τ : j_G) : ∀ (n : Nat) (l1 : Int32) (σ : j_G), j_J true τ M_cX7_readAll d 28 [some (.ref 10), some (.int l1)] [] σ (p_X7_readAll_28 n l1 σ) (fun r Q => j_Tr true τ M_cX7_readAll d 64 [some (.ref 10), none] [] r Q) := by
  intro n
  induction n with
  | zero => intro l1 σ; exact j_none
  | succ n ih =>
    intro l1 σ
    unfold p_X7_readAll_28
    refine j_iload_n (pc' := 29) rfl rfl rfl ?_
    refine j_sipush (pc' := 32) (x := (1200 : Int32)) rfl rfl rfl ?_
    refine j_two (pT := 50) (pF := 64) (L1 := [some (.ref 10), some (.int l1)]) (st1 := []) (fun o kT kF => ?_) (fun h1 => ?_) (fun h1 => ?_)
    · refine j_icgt (t := 64) (pc' := 35) rfl rfl rfl (fun h2 => ?_) (fun h2 => ?_)
      · exact kF (fun z => z.1 h2)
      · refine j_aload_n (pc' := 36) rfl rfl rfl ?_
        refine j_gfi (pc' := 39) rfl rfl j_a10 rfl ?_
        refine j_ifne (t := 64) (pc' := 42) rfl rfl rfl (fun h3 => ?_) (fun h3 => ?_)
        · exact kF (fun z => (fun z => h3 z.1) z.2)
        · refine j_aload_n (pc' := 43) rfl rfl rfl ?_
          refine j_gfi (pc' := 46) rfl rfl j_a10 rfl ?_
          refine j_iconst (pc' := 47) (x := (1 : Int32)) rfl rfl rfl ?_
          refine j_iceq (t := 64) (pc' := 50) rfl rfl rfl (fun h4 => ?_) (fun h4 => ?_)
          · exact kF (fun z => (fun z => (fun z => z h4) z.2) z.2)
          · exact kT (⟨h2, ⟨h3, h4⟩⟩)
    · refine j_aload_n (pc' := 51) rfl rfl rfl ?_
      refine j_callRv (pc' := 54) (ai := 72) (vs := [.ref 10]) (rest := []) rfl rfl (fun _ _ => rfl) (c_X7_readLine  σ) (j_dd rfl hd) rfl (fun σ1 => ?_)
      refine j_aload_n (pc' := 55) rfl rfl rfl ?_
      refine j_callRv (pc' := 58) (ai := 86) (vs := [.ref 10]) (rest := []) rfl rfl (fun _ _ => rfl) (c_X7_step  σ1) (j_dd rfl hd) rfl (fun σ2 => ?_)
      refine j_iincx (pc' := 61) (y := (1 : Int32)) (L' := [some (.ref 10), some (.int (l1 + (1 : Int32)))]) rfl rfl rfl rfl rfl ?_
      refine j_goto (t := 28) rfl rfl ?_
      exact ih (l1 + (1 : Int32)) σ2
    · refine j_wk [true, false] (L' := [some (.ref 10), none]) rfl ?_
      exact j_end (fun _ h => h)

theorem c_X7_readAll (σ : j_G) : j_K true 5 70 [.ref 10] σ (f_X7_readAll σ) j_Ri := by
  refine j_mkK (M := M_cX7_readAll) (L := [some (.ref 10), none]) (m := 1) t_70 rfl (j_rcvO j_a10 rfl) rfl (fun d hd τ => ?_)
  unfold f_X7_readAll
  refine j_aload_n (pc' := 1) rfl rfl rfl ?_
  refine j_gfr (pc' := 4) (x := 11) rfl rfl j_a10 rfl rfl ?_
  refine j_callRv (pc' := 7) (ai := 9) (vs := [.ref 11]) (rest := []) rfl rfl (fun _ _ => rfl) (c_X2_empty  σ) (j_dd rfl hd) rfl (fun σ1 => ?_)
  refine j_aload_n (pc' := 8) rfl rfl rfl ?_
  refine j_iconst (pc' := 9) (x := (0 : Int32)) rfl rfl rfl ?_
  refine j_pfi (pc' := 12) rfl rfl j_a10 rfl rfl (fun σ2 => ?_)
  refine j_aload_n (pc' := 13) rfl rfl rfl ?_
  refine j_iconst (pc' := 14) (x := (0 : Int32)) rfl rfl rfl ?_
  refine j_pfi (pc' := 17) rfl rfl j_a10 rfl rfl (fun σ3 => ?_)
  refine j_aload_n (pc' := 18) rfl rfl rfl ?_
  refine j_iconst (pc' := 19) (x := (-1 : Int32)) rfl rfl rfl ?_
  refine j_pfi (pc' := 22) rfl rfl j_a10 rfl rfl (fun σ4 => ?_)
  refine j_aload_n (pc' := 23) rfl rfl rfl ?_
  refine j_callRv (pc' := 26) (ai := 86) (vs := [.ref 10]) (rest := []) rfl rfl (fun _ _ => rfl) (c_X7_step  σ4) (j_dd rfl hd) rfl (fun σ5 => ?_)
  refine j_iconst (pc' := 27) (x := (0 : Int32)) rfl rfl rfl ?_
  refine j_istore_n (pc' := 28) (L' := [some (.ref 10), some (.int (0 : Int32))]) rfl rfl rfl ?_
  refine j_q1 (l_X7_readAll_28 hd τ j_F (0 : Int32) σ5) (fun σ6 => ?_)
  show j_J true τ M_cX7_readAll d 64 [some (.ref 10), none] [] σ6 _ _
  refine j_aload_n (pc' := 65) rfl rfl rfl ?_
  refine j_gfi (pc' := 68) rfl rfl j_a10 rfl ?_
  refine j_two (pT := 71) (pF := 75) (L1 := [some (.ref 10), none]) (st1 := []) (fun o kT kF => ?_) (fun h1 => ?_) (fun h1 => ?_)
  · refine j_ifne (t := 75) (pc' := 71) rfl rfl rfl (fun h2 => ?_) (fun h2 => ?_)
    · exact kF h2
    · exact kT h2
  · refine j_iconst (pc' := 72) (x := (1 : Int32)) rfl rfl rfl ?_
    refine j_goto (t := 76) rfl rfl ?_
    exact j_ret rfl rfl rfl (fun _ h => h)
  · refine j_iconst (pc' := 76) (x := (0 : Int32)) rfl rfl rfl ?_
    exact j_ret rfl rfl rfl (fun _ h => h)

noncomputable def f_X3_copy (a1 : Nat) (a0 : Nat) (a1_2 : Nat) (a0_2 : Nat) (a1_3 : Nat) (a0_3 : Nat) (a1_4 : Nat) (a0_4 : Nat) (σ : j_G) : Option j_G :=
  j_lt (j_si σ a0 0 (σ.1 a1 0)) fun σ1 =>
  j_lt (j_si σ1 a0 1 (σ1.1 a1 1)) fun σ2 =>
  j_cg (0 : Int32) (0 : Int32) (24 : Int32) 24 24 (
  j_lt (j_ci σ2 a1_2 ((0 : Int32)).toNatClampNeg a0_2 ((0 : Int32)).toNatClampNeg ((24 : Int32)).toNatClampNeg) fun σ3 =>
  j_cg (0 : Int32) (0 : Int32) (24 : Int32) 24 24 (
  j_lt (j_ci σ3 a1_3 ((0 : Int32)).toNatClampNeg a0_3 ((0 : Int32)).toNatClampNeg ((24 : Int32)).toNatClampNeg) fun σ4 =>
  j_cg (0 : Int32) (0 : Int32) (24 : Int32) 24 24 (
  j_lt (j_ci σ4 a1_4 ((0 : Int32)).toNatClampNeg a0_4 ((0 : Int32)).toNatClampNeg ((24 : Int32)).toNatClampNeg) fun σ5 =>
  some σ5)))
theorem c_X3_copy_5_15 (σ : j_G) : j_K true 0 30 [.ref 5, .ref 15] σ (f_X3_copy 15 5 16 6 17 7 18 8 σ) j_Rv := by
  refine j_mkK (M := M_cX3_copy) (L := [some (.ref 5), some (.ref 15)]) (m := 0) t_30 rfl (j_rcvO j_a5 rfl) rfl (fun d hd τ => ?_)
  unfold f_X3_copy
  refine j_aload_n (pc' := 1) rfl rfl rfl ?_
  refine j_aload_n (pc' := 2) rfl rfl rfl ?_
  refine j_gfi (pc' := 5) rfl rfl j_a15 rfl ?_
  refine j_pfi (pc' := 8) rfl rfl j_a5 rfl rfl (fun σ1 => ?_)
  refine j_aload_n (pc' := 9) rfl rfl rfl ?_
  refine j_aload_n (pc' := 10) rfl rfl rfl ?_
  refine j_gfi (pc' := 13) rfl rfl j_a15 rfl ?_
  refine j_pfi (pc' := 16) rfl rfl j_a5 rfl rfl (fun σ2 => ?_)
  refine j_aload_n (pc' := 17) rfl rfl rfl ?_
  refine j_gfr (pc' := 20) (x := 16) rfl rfl j_a15 rfl rfl ?_
  refine j_iconst (pc' := 21) (x := (0 : Int32)) rfl rfl rfl ?_
  refine j_aload_n (pc' := 22) rfl rfl rfl ?_
  refine j_gfr (pc' := 25) (x := 6) rfl rfl j_a5 rfl rfl ?_
  refine j_iconst (pc' := 26) (x := (0 : Int32)) rfl rfl rfl ?_
  refine j_bipush (pc' := 28) (x := (24 : Int32)) rfl rfl rfl ?_
  refine j_cpi (pc' := 31) rfl rfl rfl j_a16 j_a6 (fun σ3 => ?_)
  refine j_aload_n (pc' := 32) rfl rfl rfl ?_
  refine j_gfr (pc' := 35) (x := 17) rfl rfl j_a15 rfl rfl ?_
  refine j_iconst (pc' := 36) (x := (0 : Int32)) rfl rfl rfl ?_
  refine j_aload_n (pc' := 37) rfl rfl rfl ?_
  refine j_gfr (pc' := 40) (x := 7) rfl rfl j_a5 rfl rfl ?_
  refine j_iconst (pc' := 41) (x := (0 : Int32)) rfl rfl rfl ?_
  refine j_bipush (pc' := 43) (x := (24 : Int32)) rfl rfl rfl ?_
  refine j_cpi (pc' := 46) rfl rfl rfl j_a17 j_a7 (fun σ4 => ?_)
  refine j_aload_n (pc' := 47) rfl rfl rfl ?_
  refine j_gfr (pc' := 50) (x := 18) rfl rfl j_a15 rfl rfl ?_
  refine j_iconst (pc' := 51) (x := (0 : Int32)) rfl rfl rfl ?_
  refine j_aload_n (pc' := 52) rfl rfl rfl ?_
  refine j_gfr (pc' := 55) (x := 8) rfl rfl j_a5 rfl rfl ?_
  refine j_iconst (pc' := 56) (x := (0 : Int32)) rfl rfl rfl ?_
  refine j_bipush (pc' := 58) (x := (24 : Int32)) rfl rfl rfl ?_
  refine j_cpi (pc' := 61) rfl rfl rfl j_a18 j_a8 (fun σ5 => ?_)
  exact j_ret rfl rfl rfl (fun _ h => h)

noncomputable def f_X2_copy (a1 : Nat) (a0 : Nat) (a1_11 : Nat) (a0_11 : Nat) (a1_12 : Nat) (a0_12 : Nat) (a1_13 : Nat) (a0_13 : Nat) (a1_14 : Nat) (a0_14 : Nat) (a1_14_2 : Nat) (a0_14_2 : Nat) (a1_14_3 : Nat) (a0_14_3 : Nat) (a1_14_4 : Nat) (a0_14_4 : Nat) (σ : j_G) : Option j_G :=
  j_lt (j_si σ a0 1 (σ.1 a1 1)) fun σ1 =>
  j_lt (j_si σ1 a0 2 (σ1.1 a1 2)) fun σ2 =>
  j_lt (j_si σ2 a0 3 (σ2.1 a1 3)) fun σ3 =>
  j_lt (j_si σ3 a0 4 (σ3.1 a1 4)) fun σ4 =>
  j_lt (j_si σ4 a0 5 (σ4.1 a1 5)) fun σ5 =>
  j_lt (j_si σ5 a0 6 (σ5.1 a1 6)) fun σ6 =>
  j_lt (j_si σ6 a0 7 (σ6.1 a1 7)) fun σ7 =>
  j_lt (j_si σ7 a0 8 (σ7.1 a1 8)) fun σ8 =>
  j_lt (j_si σ8 a0 9 (σ8.1 a1 9)) fun σ9 =>
  j_lt (j_si σ9 a0 10 (σ9.1 a1 10)) fun σ10 =>
  j_cg (0 : Int32) (0 : Int32) (6 : Int32) 6 6 (
  j_lt (j_ci σ10 a1_11 ((0 : Int32)).toNatClampNeg a0_11 ((0 : Int32)).toNatClampNeg ((6 : Int32)).toNatClampNeg) fun σ11 =>
  j_cg (0 : Int32) (0 : Int32) (6 : Int32) 6 6 (
  j_lt (j_ci σ11 a1_12 ((0 : Int32)).toNatClampNeg a0_12 ((0 : Int32)).toNatClampNeg ((6 : Int32)).toNatClampNeg) fun σ12 =>
  j_cg (0 : Int32) (0 : Int32) (20 : Int32) 20 20 (
  j_lt (j_ci σ12 a1_13 ((0 : Int32)).toNatClampNeg a0_13 ((0 : Int32)).toNatClampNeg ((20 : Int32)).toNatClampNeg) fun σ13 =>
  j_b1 (f_X3_copy a1_14 a0_14 a1_14_2 a0_14_2 a1_14_3 a0_14_3 a1_14_4 a0_14_4 σ13) fun σ14 =>
  some σ14)))
theorem c_X2_copy_1_11 (σ : j_G) : j_K true 1 10 [.ref 1, .ref 11] σ (f_X2_copy 11 1 12 2 13 3 14 4 15 5 16 6 17 7 18 8 σ) j_Rv := by
  refine j_mkK (M := M_cX2_copy) (L := [some (.ref 1), some (.ref 11)]) (m := 0) t_10 rfl (j_rcvO j_a1 rfl) rfl (fun d hd τ => ?_)
  unfold f_X2_copy
  refine j_aload_n (pc' := 1) rfl rfl rfl ?_
  refine j_aload_n (pc' := 2) rfl rfl rfl ?_
  refine j_gfi (pc' := 5) rfl rfl j_a11 rfl ?_
  refine j_pfi (pc' := 8) rfl rfl j_a1 rfl rfl (fun σ1 => ?_)
  refine j_aload_n (pc' := 9) rfl rfl rfl ?_
  refine j_aload_n (pc' := 10) rfl rfl rfl ?_
  refine j_gfi (pc' := 13) rfl rfl j_a11 rfl ?_
  refine j_pfi (pc' := 16) rfl rfl j_a1 rfl rfl (fun σ2 => ?_)
  refine j_aload_n (pc' := 17) rfl rfl rfl ?_
  refine j_aload_n (pc' := 18) rfl rfl rfl ?_
  refine j_gfi (pc' := 21) rfl rfl j_a11 rfl ?_
  refine j_pfi (pc' := 24) rfl rfl j_a1 rfl rfl (fun σ3 => ?_)
  refine j_aload_n (pc' := 25) rfl rfl rfl ?_
  refine j_aload_n (pc' := 26) rfl rfl rfl ?_
  refine j_gfi (pc' := 29) rfl rfl j_a11 rfl ?_
  refine j_pfi (pc' := 32) rfl rfl j_a1 rfl rfl (fun σ4 => ?_)
  refine j_aload_n (pc' := 33) rfl rfl rfl ?_
  refine j_aload_n (pc' := 34) rfl rfl rfl ?_
  refine j_gfi (pc' := 37) rfl rfl j_a11 rfl ?_
  refine j_pfi (pc' := 40) rfl rfl j_a1 rfl rfl (fun σ5 => ?_)
  refine j_aload_n (pc' := 41) rfl rfl rfl ?_
  refine j_aload_n (pc' := 42) rfl rfl rfl ?_
  refine j_gfi (pc' := 45) rfl rfl j_a11 rfl ?_
  refine j_pfi (pc' := 48) rfl rfl j_a1 rfl rfl (fun σ6 => ?_)
  refine j_aload_n (pc' := 49) rfl rfl rfl ?_
  refine j_aload_n (pc' := 50) rfl rfl rfl ?_
  refine j_gfi (pc' := 53) rfl rfl j_a11 rfl ?_
  refine j_pfi (pc' := 56) rfl rfl j_a1 rfl rfl (fun σ7 => ?_)
  refine j_aload_n (pc' := 57) rfl rfl rfl ?_
  refine j_aload_n (pc' := 58) rfl rfl rfl ?_
  refine j_gfi (pc' := 61) rfl rfl j_a11 rfl ?_
  refine j_pfi (pc' := 64) rfl rfl j_a1 rfl rfl (fun σ8 => ?_)
  refine j_aload_n (pc' := 65) rfl rfl rfl ?_
  refine j_aload_n (pc' := 66) rfl rfl rfl ?_
  refine j_gfi (pc' := 69) rfl rfl j_a11 rfl ?_
  refine j_pfi (pc' := 72) rfl rfl j_a1 rfl rfl (fun σ9 => ?_)
  refine j_aload_n (pc' := 73) rfl rfl rfl ?_
  refine j_aload_n (pc' := 74) rfl rfl rfl ?_
  refine j_gfi (pc' := 77) rfl rfl j_a11 rfl ?_
  refine j_pfi (pc' := 80) rfl rfl j_a1 rfl rfl (fun σ10 => ?_)
  refine j_aload_n (pc' := 81) rfl rfl rfl ?_
  refine j_gfr (pc' := 84) (x := 12) rfl rfl j_a11 rfl rfl ?_
  refine j_iconst (pc' := 85) (x := (0 : Int32)) rfl rfl rfl ?_
  refine j_aload_n (pc' := 86) rfl rfl rfl ?_
  refine j_gfr (pc' := 89) (x := 2) rfl rfl j_a1 rfl rfl ?_
  refine j_iconst (pc' := 90) (x := (0 : Int32)) rfl rfl rfl ?_
  refine j_bipush (pc' := 92) (x := (6 : Int32)) rfl rfl rfl ?_
  refine j_cpi (pc' := 95) rfl rfl rfl j_a12 j_a2 (fun σ11 => ?_)
  refine j_aload_n (pc' := 96) rfl rfl rfl ?_
  refine j_gfr (pc' := 99) (x := 13) rfl rfl j_a11 rfl rfl ?_
  refine j_iconst (pc' := 100) (x := (0 : Int32)) rfl rfl rfl ?_
  refine j_aload_n (pc' := 101) rfl rfl rfl ?_
  refine j_gfr (pc' := 104) (x := 3) rfl rfl j_a1 rfl rfl ?_
  refine j_iconst (pc' := 105) (x := (0 : Int32)) rfl rfl rfl ?_
  refine j_bipush (pc' := 107) (x := (6 : Int32)) rfl rfl rfl ?_
  refine j_cpi (pc' := 110) rfl rfl rfl j_a13 j_a3 (fun σ12 => ?_)
  refine j_aload_n (pc' := 111) rfl rfl rfl ?_
  refine j_gfr (pc' := 114) (x := 14) rfl rfl j_a11 rfl rfl ?_
  refine j_iconst (pc' := 115) (x := (0 : Int32)) rfl rfl rfl ?_
  refine j_aload_n (pc' := 116) rfl rfl rfl ?_
  refine j_gfr (pc' := 119) (x := 4) rfl rfl j_a1 rfl rfl ?_
  refine j_iconst (pc' := 120) (x := (0 : Int32)) rfl rfl rfl ?_
  refine j_bipush (pc' := 122) (x := (20 : Int32)) rfl rfl rfl ?_
  refine j_cpi (pc' := 125) rfl rfl rfl j_a14 j_a4 (fun σ13 => ?_)
  refine j_aload_n (pc' := 126) rfl rfl rfl ?_
  refine j_gfr (pc' := 129) (x := 5) rfl rfl j_a1 rfl rfl ?_
  refine j_aload_n (pc' := 130) rfl rfl rfl ?_
  refine j_gfr (pc' := 133) (x := 15) rfl rfl j_a11 rfl rfl ?_
  refine j_callRv (pc' := 136) (ai := 30) (vs := [.ref 5, .ref 15]) (rest := []) rfl rfl (fun _ _ => rfl) (c_X3_copy_5_15  σ13) (j_dd rfl hd) rfl (fun σ14 => ?_)
  exact j_ret rfl rfl rfl (fun _ h => h)

noncomputable def f_X11_board (σ : j_G) : Option (Int32 × j_G) :=
  j_b2 (f_X7_readAll σ) fun v2 σ1 =>
  j_lt (j_si σ1 19 0 (0 : Int32)) fun σ3 =>
  if v2 = 0 then (some ((-4 : Int32), σ3)) else (j_b1 (f_X2_copy 11 1 12 2 13 3 14 4 15 5 16 6 17 7 18 8 σ3) fun σ4 =>
  some ((σ4.1 1 1), σ4))
theorem c_X11_board (σ : j_G) : j_K true 6 114 [.ref 0] σ (f_X11_board σ) j_Ri := by
  refine j_mkK (M := M_cX11_board) (L := [some (.ref 0), none]) (m := 1) t_114 rfl (j_rcvO j_a0 rfl) rfl (fun d hd τ => ?_)
  unfold f_X11_board
  refine j_aload_n (pc' := 1) rfl rfl rfl ?_
  refine j_gfr (pc' := 4) (x := 10) rfl rfl j_a0 rfl rfl ?_
  refine j_callRi (pc' := 7) (ai := 70) (vs := [.ref 10]) (rest := []) rfl rfl (fun _ _ => rfl) (c_X7_readAll  σ) (j_dd rfl hd) rfl (fun v2 σ1 => ?_)
  refine j_istore_n (pc' := 8) (L' := [some (.ref 0), some (.int v2)]) rfl rfl rfl ?_
  refine j_aload_n (pc' := 9) rfl rfl rfl ?_
  refine j_gfr (pc' := 12) (x := 10) rfl rfl j_a0 rfl rfl ?_
  refine j_gfr (pc' := 15) (x := 19) rfl rfl j_a10 rfl rfl ?_
  refine j_iconst (pc' := 16) (x := (0 : Int32)) rfl rfl rfl ?_
  refine j_pfi (pc' := 19) rfl rfl j_a19 rfl rfl (fun σ3 => ?_)
  refine j_iload_n (pc' := 20) rfl rfl rfl ?_
  refine j_two (pT := 23) (pF := 26) (L1 := [some (.ref 0), some (.int v2)]) (st1 := []) (fun o kT kF => ?_) (fun h1 => ?_) (fun h1 => ?_)
  · refine j_ifne (t := 26) (pc' := 23) rfl rfl rfl (fun h2 => ?_) (fun h2 => ?_)
    · exact kF h2
    · exact kT h2
  · refine j_bipush (pc' := 25) (x := (-4 : Int32)) rfl rfl rfl ?_
    exact j_ret rfl rfl rfl (fun _ h => h)
  · refine j_aload_n (pc' := 27) rfl rfl rfl ?_
    refine j_gfr (pc' := 30) (x := 1) rfl rfl j_a0 rfl rfl ?_
    refine j_aload_n (pc' := 31) rfl rfl rfl ?_
    refine j_gfr (pc' := 34) (x := 10) rfl rfl j_a0 rfl rfl ?_
    refine j_gfr (pc' := 37) (x := 11) rfl rfl j_a10 rfl rfl ?_
    refine j_callRv (pc' := 40) (ai := 10) (vs := [.ref 1, .ref 11]) (rest := []) rfl rfl (fun _ _ => rfl) (c_X2_copy_1_11  σ3) (j_dd rfl hd) rfl (fun σ4 => ?_)
    refine j_aload_n (pc' := 41) rfl rfl rfl ?_
    refine j_gfr (pc' := 44) (x := 1) rfl rfl j_a0 rfl rfl ?_
    refine j_gfi (pc' := 47) rfl rfl j_a1 rfl ?_
    exact j_ret rfl rfl rfl (fun _ h => h)

noncomputable def f_X12_see (l1 : Int32) (σ : j_G) : Option Int32 :=
  if l1 < (σ.1 75 7) then (j_ix l1 1200 (
  some ((σ.1 79 (l1).toNatClampNeg) &&& (255 : Int32)))) else (some (-1 : Int32))
theorem c_X12_see (l1 : Int32) (σ : j_G) : j_K false 0 210 [.ref 75, .int l1] σ (f_X12_see l1 σ) (j_Pi σ) := by
  refine j_mkK (M := M_cX12_see) (L := [some (.ref 75), some (.int l1)]) (m := 0) t_210 rfl (j_rcvO j_a75 rfl) rfl (fun d hd τ => ?_)
  unfold f_X12_see
  refine j_iload_n (pc' := 1) rfl rfl rfl ?_
  refine j_aload_n (pc' := 2) rfl rfl rfl ?_
  refine j_gfi (pc' := 5) rfl rfl j_a75 rfl ?_
  refine j_two (pT := 8) (pF := 21) (L1 := [some (.ref 75), some (.int l1)]) (st1 := []) (fun o kT kF => ?_) (fun h1 => ?_) (fun h1 => ?_)
  · refine j_icge (t := 21) (pc' := 8) rfl rfl rfl (fun h2 => ?_) (fun h2 => ?_)
    · exact kF h2
    · exact kT h2
  · refine j_aload_n (pc' := 9) rfl rfl rfl ?_
    refine j_gfr (pc' := 12) (x := 79) rfl rfl j_a75 rfl rfl ?_
    refine j_iload_n (pc' := 13) rfl rfl rfl ?_
    refine j_bald (pc' := 14) rfl rfl j_a79 ?_
    refine j_sipush (pc' := 17) (x := (255 : Int32)) rfl rfl rfl ?_
    refine j_iand (pc' := 18) rfl rfl ?_
    refine j_goto (t := 22) rfl rfl ?_
    exact j_ret rfl rfl rfl (fun _ h => h)
  · refine j_iconst (pc' := 22) (x := (-1 : Int32)) rfl rfl rfl ?_
    exact j_ret rfl rfl rfl (fun _ h => h)

noncomputable def p_X12_advance_0 : Nat → j_G → Option j_G
  | 0, _ => none
  | n + 1, σ =>
    j_b1 (f_X12_see (σ.1 75 8) σ) fun v1 =>
    j_lt (j_lt (j_si σ 75 8 ((σ.1 75 8) + (1 : Int32))) fun σ4 =>
    p_X12_advance_0 n σ4) fun (k2 : Option j_G) =>
    if ¬ v1 = (32 : Int32) then (j_b1 (f_X12_see (σ.1 75 8) σ) fun v3 =>
    if v3 = (10 : Int32) then (k2) else (some σ)) else (k2)

noncomputable def p_X12_advance_83 : Nat → j_G → Option j_G
  | 0, _ => none
  | n + 1, σ =>
    j_b1 (f_X12_see (σ.1 75 8) σ) fun v1 =>
    if ¬ (f_X12_in (v1).toInt64 (97 : Int64) (122 : Int64)) = 0 then (j_lt (j_si σ 75 8 ((σ.1 75 8) + (1 : Int32))) fun σ2 =>
    p_X12_advance_83 n σ2) else (some σ)

noncomputable def p_X12_advance_144 : Nat → j_G → Option j_G
  | 0, _ => none
  | n + 1, σ =>
    j_b1 (f_X12_see (σ.1 75 8) σ) fun v1 =>
    if ¬ (f_X12_in (v1).toInt64 (48 : Int64) (57 : Int64)) = 0 then (j_b1 (f_X12_see (σ.1 75 8) σ) fun v2 =>
    j_lt (j_si σ 75 11 (if ((((10 : Int32) * (σ.1 75 11)) + v2) - (48 : Int32)) < (99999 : Int32) then ((((10 : Int32) * (σ.1 75 11)) + v2) - (48 : Int32)) else (99999 : Int32))) fun σ3 =>
    j_lt (j_si σ3 75 8 ((σ3.1 75 8) + (1 : Int32))) fun σ4 =>
    p_X12_advance_144 n σ4) else (some σ)

noncomputable def f_X12_advance (σ : j_G) : Option j_G :=
  j_b1 (p_X12_advance_0 j_F σ) fun σ1 =>
  j_lt (j_si σ1 75 9 (σ1.1 75 8)) fun σ2 =>
  j_b1 (f_X12_see (σ2.1 75 8) σ2) fun v3 =>
  if v3 = (-1 : Int32) then (j_lt (j_si σ2 75 10 (0 : Int32)) fun σ4 =>
  some σ4) else (if ¬ (f_X12_in (v3).toInt64 (97 : Int64) (122 : Int64)) = 0 then (j_b1 (p_X12_advance_83 j_F σ2) fun σ5 =>
  j_lt (j_si σ5 75 10 (1 : Int32)) fun σ6 =>
  some σ6) else (if ¬ (f_X12_in (v3).toInt64 (48 : Int64) (57 : Int64)) = 0 then (j_lt (j_si σ2 75 11 (0 : Int32)) fun σ7 =>
  j_b1 (p_X12_advance_144 j_F σ7) fun σ8 =>
  j_lt (j_si σ8 75 10 (2 : Int32)) fun σ9 =>
  some σ9) else (j_lt (if v3 = (59 : Int32) then ((3 : Int32)) else ((4 : Int32))) fun v10 =>
  j_lt (j_si σ2 75 10 v10) fun σ11 =>
  j_lt (j_si σ11 75 8 ((σ11.1 75 8) + (1 : Int32))) fun σ12 =>
  some σ12)))
theorem l_X12_advance_0 {d : Nat} (hd : 1 ≤ d) (τ : j_G) : ∀ (n : Nat) (σ : j_G), j_J false τ M_cX12_advance d 0 [some (.ref 75), none] [] σ (p_X12_advance_0 n σ) (fun r Q => j_Tr false τ M_cX12_advance d 39 [some (.ref 75), none] [] r Q) := by
  intro n
  induction n with
  | zero => intro σ; exact j_none
  | succ n ih =>
    intro σ
    unfold p_X12_advance_0
    refine j_aload_n (pc' := 1) rfl rfl rfl ?_
    refine j_aload_n (pc' := 2) rfl rfl rfl ?_
    refine j_gfi (pc' := 5) rfl rfl j_a75 rfl ?_
    refine j_callPi (pc' := 8) (ai := 210) (vs := [.ref 75, .int (σ.1 75 8)]) (rest := []) rfl rfl (fun _ _ => rfl) (c_X12_see (σ.1 75 8) σ) (j_dd rfl hd) rfl (fun v1 => ?_)
    refine j_bipush (pc' := 10) (x := (32 : Int32)) rfl rfl rfl ?_
    refine j_jn (P := (fun k => j_J false τ M_cX12_advance d 26 [some (.ref 75), none] [] σ (k ) (fun r Q => j_Tr false τ M_cX12_advance d 39 [some (.ref 75), none] [] r Q))) ?_ (fun k2 k2_h => ?_)
    · refine j_aload_n (pc' := 27) rfl rfl rfl ?_
      refine j_dup (pc' := 28) rfl rfl rfl ?_
      refine j_gfi (pc' := 31) rfl rfl j_a75 rfl ?_
      refine j_iconst (pc' := 32) (x := (1 : Int32)) rfl rfl rfl ?_
      refine j_iadd (pc' := 33) rfl rfl ?_
      refine j_pfi (pc' := 36) rfl rfl j_a75 rfl rfl (fun σ4 => ?_)
      refine j_goto (t := 0) rfl rfl ?_
      exact ih σ4
    · refine j_two (pT := 13) (pF := 26) (L1 := [some (.ref 75), none]) (st1 := []) (fun o kT kF => ?_) (fun h3 => ?_) (fun h3 => ?_)
      · refine j_iceq (t := 26) (pc' := 13) rfl rfl rfl (fun h4 => ?_) (fun h4 => ?_)
        · exact kF (fun z => z h4)
        · exact kT h4
      · refine j_aload_n (pc' := 14) rfl rfl rfl ?_
        refine j_aload_n (pc' := 15) rfl rfl rfl ?_
        refine j_gfi (pc' := 18) rfl rfl j_a75 rfl ?_
        refine j_callPi (pc' := 21) (ai := 210) (vs := [.ref 75, .int (σ.1 75 8)]) (rest := []) rfl rfl (fun _ _ => rfl) (c_X12_see (σ.1 75 8) σ) (j_dd rfl hd) rfl (fun v3 => ?_)
        refine j_bipush (pc' := 23) (x := (10 : Int32)) rfl rfl rfl ?_
        refine j_two (pT := 26) (pF := 39) (L1 := [some (.ref 75), none]) (st1 := []) (fun o kT kF => ?_) (fun h1 => ?_) (fun h1 => ?_)
        · refine j_icne (t := 39) (pc' := 26) rfl rfl rfl (fun h2 => ?_) (fun h2 => ?_)
          · exact kF h2
          · exact kT h2
        · exact k2_h 
        · exact j_end (fun _ h => h)
      · exact k2_h 

theorem l_X12_advance_83 {d : Nat} (hd : 1 ≤ d) (τ : j_G) : ∀ (n : Nat) (σ : j_G), j_J false τ M_cX12_advance d 83 [some (.ref 75), none] [] σ (p_X12_advance_83 n σ) (fun r Q => j_Tr false τ M_cX12_advance d 117 [some (.ref 75), none] [] r Q) := by
  intro n
  induction n with
  | zero => intro σ; exact j_none
  | succ n ih =>
    intro σ
    unfold p_X12_advance_83
    refine j_aload_n (pc' := 84) rfl rfl rfl ?_
    refine j_aload_n (pc' := 85) rfl rfl rfl ?_
    refine j_gfi (pc' := 88) rfl rfl j_a75 rfl ?_
    refine j_callPi (pc' := 91) (ai := 210) (vs := [.ref 75, .int (σ.1 75 8)]) (rest := []) rfl rfl (fun _ _ => rfl) (c_X12_see (σ.1 75 8) σ) (j_dd rfl hd) rfl (fun v1 => ?_)
    refine j_i2l (pc' := 92) rfl rfl ?_
    refine j_ldc2_w (pc' := 95) (x := (97 : Int64)) rfl rfl rfl ?_
    refine j_ldc2_w (pc' := 98) (x := (122 : Int64)) rfl rfl rfl ?_
    refine j_callTi (pc' := 101) (ai := 196) (vs := [.long (v1).toInt64, .long (97 : Int64), .long (122 : Int64)]) (rest := []) rfl rfl (fun _ _ => rfl) (c_X12_in (v1).toInt64 (97 : Int64) (122 : Int64) σ) (j_dd rfl hd) rfl ?_
    refine j_two (pT := 104) (pF := 117) (L1 := [some (.ref 75), none]) (st1 := []) (fun o kT kF => ?_) (fun h1 => ?_) (fun h1 => ?_)
    · refine j_ifeq (t := 117) (pc' := 104) rfl rfl rfl (fun h2 => ?_) (fun h2 => ?_)
      · exact kF (fun z => z h2)
      · exact kT h2
    · refine j_aload_n (pc' := 105) rfl rfl rfl ?_
      refine j_dup (pc' := 106) rfl rfl rfl ?_
      refine j_gfi (pc' := 109) rfl rfl j_a75 rfl ?_
      refine j_iconst (pc' := 110) (x := (1 : Int32)) rfl rfl rfl ?_
      refine j_iadd (pc' := 111) rfl rfl ?_
      refine j_pfi (pc' := 114) rfl rfl j_a75 rfl rfl (fun σ2 => ?_)
      refine j_goto (t := 83) rfl rfl ?_
      exact ih σ2
    · exact j_end (fun _ h => h)

theorem l_X12_advance_144 {d : Nat} (hd : 1 ≤ d) (τ : j_G) : ∀ (n : Nat) (σ : j_G), j_J false τ M_cX12_advance d 144 [some (.ref 75), none] [] σ (p_X12_advance_144 n σ) (fun r Q => j_Tr false τ M_cX12_advance d 206 [some (.ref 75), none] [] r Q) := by
  intro n
  induction n with
  | zero => intro σ; exact j_none
  | succ n ih =>
    intro σ
    unfold p_X12_advance_144
    refine j_aload_n (pc' := 145) rfl rfl rfl ?_
    refine j_aload_n (pc' := 146) rfl rfl rfl ?_
    refine j_gfi (pc' := 149) rfl rfl j_a75 rfl ?_
    refine j_callPi (pc' := 152) (ai := 210) (vs := [.ref 75, .int (σ.1 75 8)]) (rest := []) rfl rfl (fun _ _ => rfl) (c_X12_see (σ.1 75 8) σ) (j_dd rfl hd) rfl (fun v1 => ?_)
    refine j_i2l (pc' := 153) rfl rfl ?_
    refine j_ldc2_w (pc' := 156) (x := (48 : Int64)) rfl rfl rfl ?_
    refine j_ldc2_w (pc' := 159) (x := (57 : Int64)) rfl rfl rfl ?_
    refine j_callTi (pc' := 162) (ai := 196) (vs := [.long (v1).toInt64, .long (48 : Int64), .long (57 : Int64)]) (rest := []) rfl rfl (fun _ _ => rfl) (c_X12_in (v1).toInt64 (48 : Int64) (57 : Int64) σ) (j_dd rfl hd) rfl ?_
    refine j_two (pT := 165) (pF := 206) (L1 := [some (.ref 75), none]) (st1 := []) (fun o kT kF => ?_) (fun h1 => ?_) (fun h1 => ?_)
    · refine j_ifeq (t := 206) (pc' := 165) rfl rfl rfl (fun h2 => ?_) (fun h2 => ?_)
      · exact kF (fun z => z h2)
      · exact kT h2
    · refine j_aload_n (pc' := 166) rfl rfl rfl ?_
      refine j_ldc (pc' := 168) (x := (99999 : Int32)) rfl rfl rfl rfl ?_
      refine j_bipush (pc' := 170) (x := (10 : Int32)) rfl rfl rfl ?_
      refine j_aload_n (pc' := 171) rfl rfl rfl ?_
      refine j_gfi (pc' := 174) rfl rfl j_a75 rfl ?_
      refine j_imul (pc' := 175) rfl rfl ?_
      refine j_aload_n (pc' := 176) rfl rfl rfl ?_
      refine j_aload_n (pc' := 177) rfl rfl rfl ?_
      refine j_gfi (pc' := 180) rfl rfl j_a75 rfl ?_
      refine j_callPi (pc' := 183) (ai := 210) (vs := [.ref 75, .int (σ.1 75 8)]) (rest := [.int ((10 : Int32) * (σ.1 75 11)), .int (99999 : Int32), .ref 75]) rfl rfl (fun _ _ => rfl) (c_X12_see (σ.1 75 8) σ) (j_dd rfl hd) rfl (fun v2 => ?_)
      refine j_iadd (pc' := 184) rfl rfl ?_
      refine j_bipush (pc' := 186) (x := (48 : Int32)) rfl rfl rfl ?_
      refine j_isub (pc' := 187) rfl rfl ?_
      refine j_min (pc' := 190) rfl rfl rfl ?_
      refine j_pfi (pc' := 193) rfl rfl j_a75 rfl rfl (fun σ3 => ?_)
      refine j_aload_n (pc' := 194) rfl rfl rfl ?_
      refine j_dup (pc' := 195) rfl rfl rfl ?_
      refine j_gfi (pc' := 198) rfl rfl j_a75 rfl ?_
      refine j_iconst (pc' := 199) (x := (1 : Int32)) rfl rfl rfl ?_
      refine j_iadd (pc' := 200) rfl rfl ?_
      refine j_pfi (pc' := 203) rfl rfl j_a75 rfl rfl (fun σ4 => ?_)
      refine j_goto (t := 144) rfl rfl ?_
      exact ih σ4
    · exact j_end (fun _ h => h)

theorem c_X12_advance (σ : j_G) : j_K false 1 211 [.ref 75] σ (f_X12_advance σ) j_Rv := by
  refine j_mkK (M := M_cX12_advance) (L := [some (.ref 75), none]) (m := 1) t_211 rfl (j_rcvO j_a75 rfl) rfl (fun d hd τ => ?_)
  unfold f_X12_advance
  refine j_q1 (l_X12_advance_0 hd τ j_F σ) (fun σ1 => ?_)
  show j_J false τ M_cX12_advance d 39 [some (.ref 75), none] [] σ1 _ _
  refine j_aload_n (pc' := 40) rfl rfl rfl ?_
  refine j_aload_n (pc' := 41) rfl rfl rfl ?_
  refine j_gfi (pc' := 44) rfl rfl j_a75 rfl ?_
  refine j_pfi (pc' := 47) rfl rfl j_a75 rfl rfl (fun σ2 => ?_)
  refine j_aload_n (pc' := 48) rfl rfl rfl ?_
  refine j_aload_n (pc' := 49) rfl rfl rfl ?_
  refine j_gfi (pc' := 52) rfl rfl j_a75 rfl ?_
  refine j_callPi (pc' := 55) (ai := 210) (vs := [.ref 75, .int (σ2.1 75 8)]) (rest := []) rfl rfl (fun _ _ => rfl) (c_X12_see (σ2.1 75 8) σ2) (j_dd rfl hd) rfl (fun v3 => ?_)
  refine j_istore_n (pc' := 56) (L' := [some (.ref 75), some (.int v3)]) rfl rfl rfl ?_
  refine j_iload_n (pc' := 57) rfl rfl rfl ?_
  refine j_iconst (pc' := 58) (x := (-1 : Int32)) rfl rfl rfl ?_
  refine j_two (pT := 61) (pF := 69) (L1 := [some (.ref 75), some (.int v3)]) (st1 := []) (fun o kT kF => ?_) (fun h7 => ?_) (fun h7 => ?_)
  · refine j_icne (t := 69) (pc' := 61) rfl rfl rfl (fun h8 => ?_) (fun h8 => ?_)
    · exact kF h8
    · exact kT h8
  · refine j_aload_n (pc' := 62) rfl rfl rfl ?_
    refine j_iconst (pc' := 63) (x := (0 : Int32)) rfl rfl rfl ?_
    refine j_pfi (pc' := 66) rfl rfl j_a75 rfl rfl (fun σ4 => ?_)
    refine j_goto (t := 239) rfl rfl ?_
    exact j_ret rfl rfl rfl (fun _ h => h)
  · refine j_iload_n (pc' := 70) rfl rfl rfl ?_
    refine j_i2l (pc' := 71) rfl rfl ?_
    refine j_ldc2_w (pc' := 74) (x := (97 : Int64)) rfl rfl rfl ?_
    refine j_ldc2_w (pc' := 77) (x := (122 : Int64)) rfl rfl rfl ?_
    refine j_callTi (pc' := 80) (ai := 196) (vs := [.long (v3).toInt64, .long (97 : Int64), .long (122 : Int64)]) (rest := []) rfl rfl (fun _ _ => rfl) (c_X12_in (v3).toInt64 (97 : Int64) (122 : Int64) σ2) (j_dd rfl hd) rfl ?_
    refine j_two (pT := 83) (pF := 125) (L1 := [some (.ref 75), some (.int v3)]) (st1 := []) (fun o kT kF => ?_) (fun h5 => ?_) (fun h5 => ?_)
    · refine j_ifeq (t := 125) (pc' := 83) rfl rfl rfl (fun h6 => ?_) (fun h6 => ?_)
      · exact kF (fun z => z h6)
      · exact kT h6
    · refine j_wk [true, false] (L' := [some (.ref 75), none]) rfl ?_
      refine j_q1 (l_X12_advance_83 hd τ j_F σ2) (fun σ5 => ?_)
      show j_J false τ M_cX12_advance d 117 [some (.ref 75), none] [] σ5 _ _
      refine j_aload_n (pc' := 118) rfl rfl rfl ?_
      refine j_iconst (pc' := 119) (x := (1 : Int32)) rfl rfl rfl ?_
      refine j_pfi (pc' := 122) rfl rfl j_a75 rfl rfl (fun σ6 => ?_)
      refine j_goto (t := 239) rfl rfl ?_
      exact j_ret rfl rfl rfl (fun _ h => h)
    · refine j_iload_n (pc' := 126) rfl rfl rfl ?_
      refine j_i2l (pc' := 127) rfl rfl ?_
      refine j_ldc2_w (pc' := 130) (x := (48 : Int64)) rfl rfl rfl ?_
      refine j_ldc2_w (pc' := 133) (x := (57 : Int64)) rfl rfl rfl ?_
      refine j_callTi (pc' := 136) (ai := 196) (vs := [.long (v3).toInt64, .long (48 : Int64), .long (57 : Int64)]) (rest := []) rfl rfl (fun _ _ => rfl) (c_X12_in (v3).toInt64 (48 : Int64) (57 : Int64) σ2) (j_dd rfl hd) rfl ?_
      refine j_two (pT := 139) (pF := 214) (L1 := [some (.ref 75), some (.int v3)]) (st1 := []) (fun o kT kF => ?_) (fun h3 => ?_) (fun h3 => ?_)
      · refine j_ifeq (t := 214) (pc' := 139) rfl rfl rfl (fun h4 => ?_) (fun h4 => ?_)
        · exact kF (fun z => z h4)
        · exact kT h4
      · refine j_aload_n (pc' := 140) rfl rfl rfl ?_
        refine j_iconst (pc' := 141) (x := (0 : Int32)) rfl rfl rfl ?_
        refine j_pfi (pc' := 144) rfl rfl j_a75 rfl rfl (fun σ7 => ?_)
        refine j_wk [true, false] (L' := [some (.ref 75), none]) rfl ?_
        refine j_q1 (l_X12_advance_144 hd τ j_F σ7) (fun σ8 => ?_)
        show j_J false τ M_cX12_advance d 206 [some (.ref 75), none] [] σ8 _ _
        refine j_aload_n (pc' := 207) rfl rfl rfl ?_
        refine j_iconst (pc' := 208) (x := (2 : Int32)) rfl rfl rfl ?_
        refine j_pfi (pc' := 211) rfl rfl j_a75 rfl rfl (fun σ9 => ?_)
        refine j_goto (t := 239) rfl rfl ?_
        exact j_ret rfl rfl rfl (fun _ h => h)
      · refine j_aload_n (pc' := 215) rfl rfl rfl ?_
        refine j_iload_n (pc' := 216) rfl rfl rfl ?_
        refine j_bipush (pc' := 218) (x := (59 : Int32)) rfl rfl rfl ?_
        refine j_ql (Φl := (fun r Q => j_Tr false τ M_cX12_advance d 226 [some (.ref 75), none] [.int r, .ref 75] σ2 Q)) ?_ (fun v10 => ?_)
        · refine j_twoT (pT := 221) (pF := 225) (L1 := [some (.ref 75), some (.int v3)]) (st1 := [.ref 75]) (fun o kT kF => ?_) (fun h1 => ?_) (fun h1 => ?_)
          · refine j_icne (t := 225) (pc' := 221) rfl rfl rfl (fun h2 => ?_) (fun h2 => ?_)
            · exact kF h2
            · exact kT h2
          · refine j_iconst (pc' := 222) (x := (3 : Int32)) rfl rfl rfl ?_
            refine j_goto (t := 226) rfl rfl ?_
            refine j_wk [true, false] (L' := [some (.ref 75), none]) rfl ?_
            exact j_end (fun _ h => h)
          · refine j_iconst (pc' := 226) (x := (4 : Int32)) rfl rfl rfl ?_
            refine j_wk [true, false] (L' := [some (.ref 75), none]) rfl ?_
            exact j_end (fun _ h => h)
        show j_J false τ M_cX12_advance d 226 [some (.ref 75), none] [.int v10, .ref 75] σ2 _ _
        refine j_pfi (pc' := 229) rfl rfl j_a75 rfl rfl (fun σ11 => ?_)
        refine j_aload_n (pc' := 230) rfl rfl rfl ?_
        refine j_dup (pc' := 231) rfl rfl rfl ?_
        refine j_gfi (pc' := 234) rfl rfl j_a75 rfl ?_
        refine j_iconst (pc' := 235) (x := (1 : Int32)) rfl rfl rfl ?_
        refine j_iadd (pc' := 236) rfl rfl ?_
        refine j_pfi (pc' := 239) rfl rfl j_a75 rfl rfl (fun σ12 => ?_)
        exact j_ret rfl rfl rfl (fun _ h => h)

noncomputable def f_X12_good (σ : j_G) : Int32 :=
  if (σ.1 75 12) = 0 then ((1 : Int32)) else ((0 : Int32))

theorem b_X12_good (σ : j_G) : f_X12_good σ = 0 ∨ f_X12_good σ = 1 := by
  unfold f_X12_good
  repeat' split
  all_goals first | exact Or.inl rfl | exact Or.inr rfl
theorem c_X12_good (σ : j_G) : j_K false 0 212 [.ref 75] σ (some (f_X12_good σ)) (j_Pi σ) := by
  refine j_mkK (M := M_cX12_good) (L := [some (.ref 75)]) (m := 0) t_212 rfl (j_rcvO j_a75 rfl) rfl (fun d hd τ => ?_)
  unfold f_X12_good
  refine j_aload_n (pc' := 1) rfl rfl rfl ?_
  refine j_gfi (pc' := 4) rfl rfl j_a75 rfl ?_
  refine j_twoT (pT := 7) (pF := 11) (L1 := [some (.ref 75)]) (st1 := []) (fun o kT kF => ?_) (fun h1 => ?_) (fun h1 => ?_)
  · refine j_ifne (t := 11) (pc' := 7) rfl rfl rfl (fun h2 => ?_) (fun h2 => ?_)
    · exact kF h2
    · exact kT h2
  · refine j_iconst (pc' := 8) (x := (1 : Int32)) rfl rfl rfl ?_
    refine j_goto (t := 12) rfl rfl ?_
    exact j_ret rfl rfl rfl (fun _ h => h)
  · refine j_iconst (pc' := 12) (x := (0 : Int32)) rfl rfl rfl ?_
    exact j_ret rfl rfl rfl (fun _ h => h)

noncomputable def p_X12_is_39 (l1 : Nat) (σ : j_G) : Nat → Int32 → Int32 → Option Int32
  | 0, _, _ => none
  | n + 1, l2, l3 =>
    j_b1 (j_len l1) fun v1 =>
    if (l3 < v1) ∧ (¬ l2 = 0) then (j_ix ((σ.1 75 9) + l3) 1200 (
    j_b1 (j_chr l1 l3) fun v2 =>
    j_lt (if (σ.1 79 (((σ.1 75 9) + l3)).toNatClampNeg) = v2 then ((1 : Int32)) else ((0 : Int32))) fun v3 =>
    p_X12_is_39 l1 σ n v3 (l3 + (1 : Int32)))) else (some l2)

noncomputable def f_X12_is (l1 : Nat) (σ : j_G) : Option Int32 :=
  j_b1 (if (¬ (f_X12_good σ) = 0) ∧ ((σ.1 75 10) = (1 : Int32)) then (j_b1 (j_len l1) fun v2 =>
  if ((σ.1 75 8) - (σ.1 75 9)) = v2 then (some (1 : Int32)) else (some (0 : Int32))) else (some (0 : Int32))) fun v1 =>
  j_b1 (p_X12_is_39 l1 σ j_F v1 (0 : Int32)) fun v3 =>
  j_bo v3 (
  some v3)
theorem l_X12_is_39 {d : Nat} (hd : 1 ≤ d) (τ : j_G) (l1 : Nat) (σ : j_G) : ∀ (n : Nat) (l2 : Int32) (l3 : Int32), j_J false τ M_cX12_is d 39 [some (.ref 75), some (.ref l1), some (.int l2), some (.int l3)] [] σ (p_X12_is_39 l1 σ n l2 l3) (fun r Q => j_Tr false τ M_cX12_is d 82 [none, none, some (.int r), none] [] σ Q) := by
  intro n
  induction n with
  | zero => intro l2 l3; exact j_none
  | succ n ih =>
    intro l2 l3
    unfold p_X12_is_39
    refine j_iload_n (pc' := 40) rfl rfl rfl ?_
    refine j_aload_n (pc' := 41) rfl rfl rfl ?_
    refine j_slen (pc' := 44) rfl rfl rfl (fun v1 => ?_)
    refine j_two (pT := 51) (pF := 82) (L1 := [some (.ref 75), some (.ref l1), some (.int l2), some (.int l3)]) (st1 := []) (fun o kT kF => ?_) (fun h3 => ?_) (fun h3 => ?_)
    · refine j_icge (t := 82) (pc' := 47) rfl rfl rfl (fun h4 => ?_) (fun h4 => ?_)
      · exact kF (fun z => h4 z.1)
      · refine j_iload_n (pc' := 48) rfl rfl rfl ?_
        refine j_ifeq (t := 82) (pc' := 51) rfl rfl rfl (fun h5 => ?_) (fun h5 => ?_)
        · exact kF (fun z => (fun z => z h5) z.2)
        · exact kT (⟨h4, h5⟩)
    · refine j_aload_n (pc' := 52) rfl rfl rfl ?_
      refine j_gfr (pc' := 55) (x := 79) rfl rfl j_a75 rfl rfl ?_
      refine j_aload_n (pc' := 56) rfl rfl rfl ?_
      refine j_gfi (pc' := 59) rfl rfl j_a75 rfl ?_
      refine j_iload_n (pc' := 60) rfl rfl rfl ?_
      refine j_iadd (pc' := 61) rfl rfl ?_
      refine j_bald (pc' := 62) rfl rfl j_a79 ?_
      refine j_aload_n (pc' := 63) rfl rfl rfl ?_
      refine j_iload_n (pc' := 64) rfl rfl rfl ?_
      refine j_schr (pc' := 67) rfl rfl rfl (fun v2 => ?_)
      refine j_ql (Φl := (fun r Q => j_Tr false τ M_cX12_is d 75 [some (.ref 75), some (.ref l1), none, some (.int l3)] [.int r] σ Q)) ?_ (fun v3 => ?_)
      · refine j_twoT (pT := 70) (pF := 74) (L1 := [some (.ref 75), some (.ref l1), some (.int l2), some (.int l3)]) (st1 := []) (fun o kT kF => ?_) (fun h1 => ?_) (fun h1 => ?_)
        · refine j_icne (t := 74) (pc' := 70) rfl rfl rfl (fun h2 => ?_) (fun h2 => ?_)
          · exact kF h2
          · exact kT h2
        · refine j_iconst (pc' := 71) (x := (1 : Int32)) rfl rfl rfl ?_
          refine j_goto (t := 75) rfl rfl ?_
          refine j_wk [true, true, false, true] (L' := [some (.ref 75), some (.ref l1), none, some (.int l3)]) rfl ?_
          exact j_end (fun _ h => h)
        · refine j_iconst (pc' := 75) (x := (0 : Int32)) rfl rfl rfl ?_
          refine j_wk [true, true, false, true] (L' := [some (.ref 75), some (.ref l1), none, some (.int l3)]) rfl ?_
          exact j_end (fun _ h => h)
      show j_J false τ M_cX12_is d 75 [some (.ref 75), some (.ref l1), none, some (.int l3)] [.int v3] σ _ _
      refine j_istore_n (pc' := 76) (L' := [some (.ref 75), some (.ref l1), some (.int v3), some (.int l3)]) rfl rfl rfl ?_
      refine j_iincx (pc' := 79) (y := (1 : Int32)) (L' := [some (.ref 75), some (.ref l1), some (.int v3), some (.int (l3 + (1 : Int32)))]) rfl rfl rfl rfl rfl ?_
      refine j_goto (t := 39) rfl rfl ?_
      exact ih v3 (l3 + (1 : Int32))
    · refine j_wk [false, false, true, false] (L' := [none, none, some (.int l2), none]) rfl ?_
      exact j_end (fun _ h => h)

theorem c_X12_is (l1 : Nat) (σ : j_G) : j_K false 1 214 [.ref 75, .ref l1] σ (f_X12_is l1 σ) (j_Pi σ) := by
  refine j_mkK (M := M_cX12_is) (L := [some (.ref 75), some (.ref l1), none, none]) (m := 2) t_214 rfl (j_rcvO j_a75 rfl) rfl (fun d hd τ => ?_)
  unfold f_X12_is
  refine j_aload_n (pc' := 1) rfl rfl rfl ?_
  refine j_callTi (pc' := 4) (ai := 212) (vs := [.ref 75]) (rest := []) rfl rfl (fun _ _ => rfl) (c_X12_good  σ) (j_dd rfl hd) rfl ?_
  refine j_q1 (Φl := (fun r Q => j_Tr false τ M_cX12_is d 36 [some (.ref 75), some (.ref l1), none, none] [.int r] σ Q)) ?_ (fun v1 => ?_)
  · refine j_two (pT := 15) (pF := 35) (L1 := [some (.ref 75), some (.ref l1), none, none]) (st1 := []) (fun o kT kF => ?_) (fun h3 => ?_) (fun h3 => ?_)
    · refine j_ifeq (t := 35) (pc' := 7) rfl rfl rfl (fun h4 => ?_) (fun h4 => ?_)
      · exact kF (fun z => z.1 h4)
      · refine j_aload_n (pc' := 8) rfl rfl rfl ?_
        refine j_gfi (pc' := 11) rfl rfl j_a75 rfl ?_
        refine j_iconst (pc' := 12) (x := (1 : Int32)) rfl rfl rfl ?_
        refine j_icne (t := 35) (pc' := 15) rfl rfl rfl (fun h5 => ?_) (fun h5 => ?_)
        · exact kF (fun z => (h5) z.2)
        · exact kT (⟨h4, h5⟩)
    · refine j_aload_n (pc' := 16) rfl rfl rfl ?_
      refine j_gfi (pc' := 19) rfl rfl j_a75 rfl ?_
      refine j_aload_n (pc' := 20) rfl rfl rfl ?_
      refine j_gfi (pc' := 23) rfl rfl j_a75 rfl ?_
      refine j_isub (pc' := 24) rfl rfl ?_
      refine j_aload_n (pc' := 25) rfl rfl rfl ?_
      refine j_slen (pc' := 28) rfl rfl rfl (fun v2 => ?_)
      refine j_two (pT := 31) (pF := 35) (L1 := [some (.ref 75), some (.ref l1), none, none]) (st1 := []) (fun o kT kF => ?_) (fun h1 => ?_) (fun h1 => ?_)
      · refine j_icne (t := 35) (pc' := 31) rfl rfl rfl (fun h2 => ?_) (fun h2 => ?_)
        · exact kF h2
        · exact kT h2
      · refine j_iconst (pc' := 32) (x := (1 : Int32)) rfl rfl rfl ?_
        refine j_goto (t := 36) rfl rfl ?_
        exact j_end (fun _ h => h)
      · refine j_iconst (pc' := 36) (x := (0 : Int32)) rfl rfl rfl ?_
        exact j_end (fun _ h => h)
    · refine j_iconst (pc' := 36) (x := (0 : Int32)) rfl rfl rfl ?_
      exact j_end (fun _ h => h)
  show j_J false τ M_cX12_is d 36 [some (.ref 75), some (.ref l1), none, none] [.int v1] σ _ _
  refine j_istore_n (pc' := 37) (L' := [some (.ref 75), some (.ref l1), some (.int v1), none]) rfl rfl rfl ?_
  refine j_iconst (pc' := 38) (x := (0 : Int32)) rfl rfl rfl ?_
  refine j_istore_n (pc' := 39) (L' := [some (.ref 75), some (.ref l1), some (.int v1), some (.int (0 : Int32))]) rfl rfl rfl ?_
  refine j_q1 (l_X12_is_39 hd τ l1 σ j_F v1 (0 : Int32)) (fun v3 => ?_)
  show j_J false τ M_cX12_is d 82 [none, none, some (.int v3), none] [] σ _ _
  refine j_iload_n (pc' := 83) rfl rfl rfl ?_
  refine j_boJ (fun h6 => ?_)
  exact j_retb rfl rfl h6 (fun _ h => h)

noncomputable def f_X12_takes (l1 : Nat) (σ : j_G) : Option (Int32 × j_G) :=
  j_b1 (f_X12_is l1 σ) fun v1 =>
  if ¬ v1 = 0 then (j_b1 (f_X12_advance σ) fun σ2 =>
  j_bo v1 (
  some (v1, σ2))) else (j_bo v1 (
  some (v1, σ)))
theorem c_X12_takes (l1 : Nat) (σ : j_G) : j_K false 2 215 [.ref 75, .ref l1] σ (f_X12_takes l1 σ) j_Ri := by
  refine j_mkK (M := M_cX12_takes) (L := [some (.ref 75), some (.ref l1), none]) (m := 1) t_215 rfl (j_rcvO j_a75 rfl) rfl (fun d hd τ => ?_)
  unfold f_X12_takes
  refine j_aload_n (pc' := 1) rfl rfl rfl ?_
  refine j_aload_n (pc' := 2) rfl rfl rfl ?_
  refine j_callPi (pc' := 5) (ai := 214) (vs := [.ref 75, .ref l1]) (rest := []) rfl rfl (fun _ _ => rfl) (c_X12_is l1 σ) (j_dd rfl hd) rfl (fun v1 => ?_)
  refine j_istore_n (pc' := 6) (L' := [some (.ref 75), some (.ref l1), some (.int v1)]) rfl rfl rfl ?_
  refine j_iload_n (pc' := 7) rfl rfl rfl ?_
  refine j_two (pT := 10) (pF := 14) (L1 := [some (.ref 75), some (.ref l1), some (.int v1)]) (st1 := []) (fun o kT kF => ?_) (fun h3 => ?_) (fun h3 => ?_)
  · refine j_ifeq (t := 14) (pc' := 10) rfl rfl rfl (fun h4 => ?_) (fun h4 => ?_)
    · exact kF (fun z => z h4)
    · exact kT h4
  · refine j_aload_n (pc' := 11) rfl rfl rfl ?_
    refine j_callRv (pc' := 14) (ai := 211) (vs := [.ref 75]) (rest := []) rfl rfl (fun _ _ => rfl) (c_X12_advance  σ) (j_dd rfl hd) rfl (fun σ2 => ?_)
    refine j_iload_n (pc' := 15) rfl rfl rfl ?_
    refine j_boJ (fun h1 => ?_)
    exact j_retb rfl rfl h1 (fun _ h => h)
  · refine j_iload_n (pc' := 15) rfl rfl rfl ?_
    refine j_boJ (fun h2 => ?_)
    exact j_retb rfl rfl h2 (fun _ h => h)

noncomputable def f_X12_errs (l1 : Int32) (σ : j_G) : Option j_G :=
  if (f_X12_good σ) = 0 then (some σ) else (j_lt (j_si σ 75 12 l1) fun σ1 =>
  j_lt (j_si σ1 75 13 (σ1.1 75 9)) fun σ2 =>
  some σ2)
theorem c_X12_errs (l1 : Int32) (σ : j_G) : j_K false 1 213 [.ref 75, .int l1] σ (f_X12_errs l1 σ) j_Rv := by
  refine j_mkK (M := M_cX12_errs) (L := [some (.ref 75), some (.int l1)]) (m := 0) t_213 rfl (j_rcvO j_a75 rfl) rfl (fun d hd τ => ?_)
  unfold f_X12_errs
  refine j_aload_n (pc' := 1) rfl rfl rfl ?_
  refine j_callTi (pc' := 4) (ai := 212) (vs := [.ref 75]) (rest := []) rfl rfl (fun _ _ => rfl) (c_X12_good  σ) (j_dd rfl hd) rfl ?_
  refine j_two (pT := 7) (pF := 8) (L1 := [some (.ref 75), some (.int l1)]) (st1 := []) (fun o kT kF => ?_) (fun h1 => ?_) (fun h1 => ?_)
  · refine j_ifne (t := 8) (pc' := 7) rfl rfl rfl (fun h2 => ?_) (fun h2 => ?_)
    · exact kF h2
    · exact kT h2
  · exact j_ret rfl rfl rfl (fun _ h => h)
  · refine j_aload_n (pc' := 9) rfl rfl rfl ?_
    refine j_iload_n (pc' := 10) rfl rfl rfl ?_
    refine j_pfi (pc' := 13) rfl rfl j_a75 rfl rfl (fun σ1 => ?_)
    refine j_aload_n (pc' := 14) rfl rfl rfl ?_
    refine j_aload_n (pc' := 15) rfl rfl rfl ?_
    refine j_gfi (pc' := 18) rfl rfl j_a75 rfl ?_
    refine j_pfi (pc' := 21) rfl rfl j_a75 rfl rfl (fun σ2 => ?_)
    exact j_ret rfl rfl rfl (fun _ h => h)

noncomputable def f_X12_needs (l1 : Nat) (σ : j_G) : Option j_G :=
  j_b2 (f_X12_takes l1 σ) fun v2 σ1 =>
  if v2 = 0 then (j_b1 (f_X12_errs (1 : Int32) σ1) fun σ3 =>
  some σ3) else (some σ1)
theorem c_X12_needs (l1 : Nat) (σ : j_G) : j_K false 3 216 [.ref 75, .ref l1] σ (f_X12_needs l1 σ) j_Rv := by
  refine j_mkK (M := M_cX12_needs) (L := [some (.ref 75), some (.ref l1)]) (m := 0) t_216 rfl (j_rcvO j_a75 rfl) rfl (fun d hd τ => ?_)
  unfold f_X12_needs
  refine j_aload_n (pc' := 1) rfl rfl rfl ?_
  refine j_aload_n (pc' := 2) rfl rfl rfl ?_
  refine j_callRi (pc' := 5) (ai := 215) (vs := [.ref 75, .ref l1]) (rest := []) rfl rfl (fun _ _ => rfl) (c_X12_takes l1 σ) (j_dd rfl hd) rfl (fun v2 σ1 => ?_)
  refine j_two (pT := 8) (pF := 13) (L1 := [some (.ref 75), some (.ref l1)]) (st1 := []) (fun o kT kF => ?_) (fun h1 => ?_) (fun h1 => ?_)
  · refine j_ifne (t := 13) (pc' := 8) rfl rfl rfl (fun h2 => ?_) (fun h2 => ?_)
    · exact kF h2
    · exact kT h2
  · refine j_aload_n (pc' := 9) rfl rfl rfl ?_
    refine j_iconst (pc' := 10) (x := (1 : Int32)) rfl rfl rfl ?_
    refine j_callRv (pc' := 13) (ai := 213) (vs := [.ref 75, .int (1 : Int32)]) (rest := []) rfl rfl (fun _ _ => rfl) (c_X12_errs (1 : Int32) σ1) (j_dd rfl hd) rfl (fun σ3 => ?_)
    exact j_ret rfl rfl rfl (fun _ h => h)
  · exact j_ret rfl rfl rfl (fun _ h => h)

noncomputable def f_X12_number (l1 : Int32) (l2 : Int32) (σ : j_G) : Option (Int32 × j_G) :=
  j_b1 (if (¬ (f_X12_good σ) = 0) ∧ (¬ (σ.1 75 10) = (2 : Int32)) then (j_b1 (f_X12_errs (1 : Int32) σ) fun σ2 =>
  some σ2) else (some σ)) fun σ1 =>
  j_b1 (if (¬ (f_X12_good σ1) = 0) ∧ ((f_X12_in ((σ1.1 75 11)).toInt64 (l1).toInt64 (l2).toInt64) = 0) then (j_b1 (f_X12_errs (2 : Int32) σ1) fun σ4 =>
  some σ4) else (some σ1)) fun σ3 =>
  if (f_X12_good σ3) = 0 then (some ((0 : Int32), σ3)) else (j_lt (σ3.1 75 11) fun v5 =>
  j_b1 (f_X12_advance σ3) fun σ6 =>
  some (v5, σ6))
theorem c_X12_number (l1 : Int32) (l2 : Int32) (σ : j_G) : j_K false 2 217 [.ref 75, .int l1, .int l2] σ (f_X12_number l1 l2 σ) j_Ri := by
  refine j_mkK (M := M_cX12_number) (L := [some (.ref 75), some (.int l1), some (.int l2), none]) (m := 1) t_217 rfl (j_rcvO j_a75 rfl) rfl (fun d hd τ => ?_)
  unfold f_X12_number
  refine j_aload_n (pc' := 1) rfl rfl rfl ?_
  refine j_callTi (pc' := 4) (ai := 212) (vs := [.ref 75]) (rest := []) rfl rfl (fun _ _ => rfl) (c_X12_good  σ) (j_dd rfl hd) rfl ?_
  refine j_q1 (Φl := (fun r Q => j_Tr false τ M_cX12_number d 20 [some (.ref 75), some (.int l1), some (.int l2), none] [] r Q)) ?_ (fun σ1 => ?_)
  · refine j_two (pT := 15) (pF := 20) (L1 := [some (.ref 75), some (.int l1), some (.int l2), none]) (st1 := []) (fun o kT kF => ?_) (fun h1 => ?_) (fun h1 => ?_)
    · refine j_ifeq (t := 20) (pc' := 7) rfl rfl rfl (fun h2 => ?_) (fun h2 => ?_)
      · exact kF (fun z => z.1 h2)
      · refine j_aload_n (pc' := 8) rfl rfl rfl ?_
        refine j_gfi (pc' := 11) rfl rfl j_a75 rfl ?_
        refine j_iconst (pc' := 12) (x := (2 : Int32)) rfl rfl rfl ?_
        refine j_iceq (t := 20) (pc' := 15) rfl rfl rfl (fun h3 => ?_) (fun h3 => ?_)
        · exact kF (fun z => (fun z => z h3) z.2)
        · exact kT (⟨h2, h3⟩)
    · refine j_aload_n (pc' := 16) rfl rfl rfl ?_
      refine j_iconst (pc' := 17) (x := (1 : Int32)) rfl rfl rfl ?_
      refine j_callRv (pc' := 20) (ai := 213) (vs := [.ref 75, .int (1 : Int32)]) (rest := []) rfl rfl (fun _ _ => rfl) (c_X12_errs (1 : Int32) σ) (j_dd rfl hd) rfl (fun σ2 => ?_)
      exact j_end (fun _ h => h)
    · exact j_end (fun _ h => h)
  show j_J false τ M_cX12_number d 20 [some (.ref 75), some (.int l1), some (.int l2), none] [] σ1 _ _
  refine j_aload_n (pc' := 21) rfl rfl rfl ?_
  refine j_callTi (pc' := 24) (ai := 212) (vs := [.ref 75]) (rest := []) rfl rfl (fun _ _ => rfl) (c_X12_good  σ1) (j_dd rfl hd) rfl ?_
  refine j_q1 (Φl := (fun r Q => j_Tr false τ M_cX12_number d 47 [some (.ref 75), none, none, none] [] r Q)) ?_ (fun σ3 => ?_)
  · refine j_two (pT := 42) (pF := 47) (L1 := [some (.ref 75), some (.int l1), some (.int l2), none]) (st1 := []) (fun o kT kF => ?_) (fun h4 => ?_) (fun h4 => ?_)
    · refine j_ifeq (t := 47) (pc' := 27) rfl rfl rfl (fun h5 => ?_) (fun h5 => ?_)
      · exact kF (fun z => z.1 h5)
      · refine j_aload_n (pc' := 28) rfl rfl rfl ?_
        refine j_gfi (pc' := 31) rfl rfl j_a75 rfl ?_
        refine j_i2l (pc' := 32) rfl rfl ?_
        refine j_iload_n (pc' := 33) rfl rfl rfl ?_
        refine j_i2l (pc' := 34) rfl rfl ?_
        refine j_iload_n (pc' := 35) rfl rfl rfl ?_
        refine j_i2l (pc' := 36) rfl rfl ?_
        refine j_callTi (pc' := 39) (ai := 196) (vs := [.long ((σ1.1 75 11)).toInt64, .long (l1).toInt64, .long (l2).toInt64]) (rest := []) rfl rfl (fun _ _ => rfl) (c_X12_in ((σ1.1 75 11)).toInt64 (l1).toInt64 (l2).toInt64 σ1) (j_dd rfl hd) rfl ?_
        refine j_ifne (t := 47) (pc' := 42) rfl rfl rfl (fun h6 => ?_) (fun h6 => ?_)
        · exact kF (fun z => (h6) z.2)
        · exact kT (⟨h5, h6⟩)
    · refine j_aload_n (pc' := 43) rfl rfl rfl ?_
      refine j_iconst (pc' := 44) (x := (2 : Int32)) rfl rfl rfl ?_
      refine j_callRv (pc' := 47) (ai := 213) (vs := [.ref 75, .int (2 : Int32)]) (rest := []) rfl rfl (fun _ _ => rfl) (c_X12_errs (2 : Int32) σ1) (j_dd rfl hd) rfl (fun σ4 => ?_)
      refine j_wk [true, false, false, true] (L' := [some (.ref 75), none, none, none]) rfl ?_
      exact j_end (fun _ h => h)
    · refine j_wk [true, false, false, true] (L' := [some (.ref 75), none, none, none]) rfl ?_
      exact j_end (fun _ h => h)
  show j_J false τ M_cX12_number d 47 [some (.ref 75), none, none, none] [] σ3 _ _
  refine j_aload_n (pc' := 48) rfl rfl rfl ?_
  refine j_callTi (pc' := 51) (ai := 212) (vs := [.ref 75]) (rest := []) rfl rfl (fun _ _ => rfl) (c_X12_good  σ3) (j_dd rfl hd) rfl ?_
  refine j_two (pT := 54) (pF := 56) (L1 := [some (.ref 75), none, none, none]) (st1 := []) (fun o kT kF => ?_) (fun h7 => ?_) (fun h7 => ?_)
  · refine j_ifne (t := 56) (pc' := 54) rfl rfl rfl (fun h8 => ?_) (fun h8 => ?_)
    · exact kF h8
    · exact kT h8
  · refine j_iconst (pc' := 55) (x := (0 : Int32)) rfl rfl rfl ?_
    exact j_ret rfl rfl rfl (fun _ h => h)
  · refine j_aload_n (pc' := 57) rfl rfl rfl ?_
    refine j_gfi (pc' := 60) rfl rfl j_a75 rfl ?_
    refine j_leti (fun v5 => ?_)
    refine j_istore_n (pc' := 61) (L' := [some (.ref 75), none, none, some (.int v5)]) rfl rfl rfl ?_
    refine j_aload_n (pc' := 62) rfl rfl rfl ?_
    refine j_callRv (pc' := 65) (ai := 211) (vs := [.ref 75]) (rest := []) rfl rfl (fun _ _ => rfl) (c_X12_advance  σ3) (j_dd rfl hd) rfl (fun σ6 => ?_)
    refine j_iload_n (pc' := 66) rfl rfl rfl ?_
    exact j_ret rfl rfl rfl (fun _ h => h)

noncomputable def f_X12_told (l1 : Nat) (l2 : Int32) (l3 : Int32) (σ : j_G) : Option (Int32 × j_G) :=
  j_b1 (f_X12_needs l1 σ) fun σ1 =>
  j_b2 (f_X12_number l2 l3 σ1) fun v3 σ2 =>
  some (v3, σ2)
theorem c_X12_told (l1 : Nat) (l2 : Int32) (l3 : Int32) (σ : j_G) : j_K false 4 218 [.ref 75, .ref l1, .int l2, .int l3] σ (f_X12_told l1 l2 l3 σ) j_Ri := by
  refine j_mkK (M := M_cX12_told) (L := [some (.ref 75), some (.ref l1), some (.int l2), some (.int l3)]) (m := 0) t_218 rfl (j_rcvO j_a75 rfl) rfl (fun d hd τ => ?_)
  unfold f_X12_told
  refine j_aload_n (pc' := 1) rfl rfl rfl ?_
  refine j_aload_n (pc' := 2) rfl rfl rfl ?_
  refine j_callRv (pc' := 5) (ai := 216) (vs := [.ref 75, .ref l1]) (rest := []) rfl rfl (fun _ _ => rfl) (c_X12_needs l1 σ) (j_dd rfl hd) rfl (fun σ1 => ?_)
  refine j_aload_n (pc' := 6) rfl rfl rfl ?_
  refine j_iload_n (pc' := 7) rfl rfl rfl ?_
  refine j_iload_n (pc' := 8) rfl rfl rfl ?_
  refine j_callRi (pc' := 11) (ai := 217) (vs := [.ref 75, .int l2, .int l3]) (rest := []) rfl rfl (fun _ _ => rfl) (c_X12_number l2 l3 σ1) (j_dd rfl hd) rfl (fun v3 σ2 => ?_)
  exact j_ret rfl rfl rfl (fun _ h => h)

noncomputable def f_X12_readFirst (σ : j_G) : Option j_G :=
  j_b1 (f_X12_needs 2000008 σ) fun σ1 =>
  j_b2 (f_X12_told 2000009 (1 : Int32) (4 : Int32) σ1) fun v3 σ2 =>
  j_ix (0 : Int32) 116 (
  j_lt (j_si σ2 81 ((0 : Int32)).toNatClampNeg v3) fun σ4 =>
  j_b2 (f_X12_told 2000010 (1 : Int32) (3 : Int32) σ4) fun v6 σ5 =>
  j_ix (1 : Int32) 116 (
  j_lt (j_si σ5 81 ((1 : Int32)).toNatClampNeg v6) fun σ7 =>
  j_b2 (f_X12_told 2000011 (1 : Int32) (200 : Int32) σ7) fun v9 σ8 =>
  j_ix (2 : Int32) 116 (
  j_lt (j_si σ8 81 ((2 : Int32)).toNatClampNeg v9) fun σ10 =>
  j_b2 (f_X12_told 2000012 (0 : Int32) (9 : Int32) σ10) fun v12 σ11 =>
  j_ix (3 : Int32) 116 (
  j_lt (j_si σ11 81 ((3 : Int32)).toNatClampNeg v12) fun σ13 =>
  j_ix (10 : Int32) 116 (
  j_lt (j_si σ13 81 ((10 : Int32)).toNatClampNeg (1 : Int32)) fun σ14 =>
  j_ix (11 : Int32) 116 (
  j_lt (j_si σ14 81 ((11 : Int32)).toNatClampNeg (100 : Int32)) fun σ15 =>
  some σ15))))))
theorem c_X12_readFirst (σ : j_G) : j_K false 5 221 [.ref 75] σ (f_X12_readFirst σ) j_Rv := by
  refine j_mkK (M := M_cX12_readFirst) (L := [some (.ref 75)]) (m := 0) t_221 rfl (j_rcvO j_a75 rfl) rfl (fun d hd τ => ?_)
  unfold f_X12_readFirst
  refine j_aload_n (pc' := 1) rfl rfl rfl ?_
  refine j_ldcs (pc' := 3) (x := 2000008) rfl rfl rfl rfl ?_
  refine j_callRv (pc' := 6) (ai := 216) (vs := [.ref 75, .ref 2000008]) (rest := []) rfl rfl (fun _ _ => rfl) (c_X12_needs 2000008 σ) (j_dd rfl hd) rfl (fun σ1 => ?_)
  refine j_aload_n (pc' := 7) rfl rfl rfl ?_
  refine j_gfr (pc' := 10) (x := 81) rfl rfl j_a75 rfl rfl ?_
  refine j_iconst (pc' := 11) (x := (0 : Int32)) rfl rfl rfl ?_
  refine j_aload_n (pc' := 12) rfl rfl rfl ?_
  refine j_ldcs (pc' := 14) (x := 2000009) rfl rfl rfl rfl ?_
  refine j_iconst (pc' := 15) (x := (1 : Int32)) rfl rfl rfl ?_
  refine j_iconst (pc' := 16) (x := (4 : Int32)) rfl rfl rfl ?_
  refine j_callRi (pc' := 19) (ai := 218) (vs := [.ref 75, .ref 2000009, .int (1 : Int32), .int (4 : Int32)]) (rest := [.int (0 : Int32), .ref 81]) rfl rfl (fun _ _ => rfl) (c_X12_told 2000009 (1 : Int32) (4 : Int32) σ1) (j_dd rfl hd) rfl (fun v3 σ2 => ?_)
  refine j_iast (pc' := 20) rfl rfl j_a81 (fun σ4 => ?_)
  refine j_aload_n (pc' := 21) rfl rfl rfl ?_
  refine j_gfr (pc' := 24) (x := 81) rfl rfl j_a75 rfl rfl ?_
  refine j_iconst (pc' := 25) (x := (1 : Int32)) rfl rfl rfl ?_
  refine j_aload_n (pc' := 26) rfl rfl rfl ?_
  refine j_ldcs (pc' := 28) (x := 2000010) rfl rfl rfl rfl ?_
  refine j_iconst (pc' := 29) (x := (1 : Int32)) rfl rfl rfl ?_
  refine j_iconst (pc' := 30) (x := (3 : Int32)) rfl rfl rfl ?_
  refine j_callRi (pc' := 33) (ai := 218) (vs := [.ref 75, .ref 2000010, .int (1 : Int32), .int (3 : Int32)]) (rest := [.int (1 : Int32), .ref 81]) rfl rfl (fun _ _ => rfl) (c_X12_told 2000010 (1 : Int32) (3 : Int32) σ4) (j_dd rfl hd) rfl (fun v6 σ5 => ?_)
  refine j_iast (pc' := 34) rfl rfl j_a81 (fun σ7 => ?_)
  refine j_aload_n (pc' := 35) rfl rfl rfl ?_
  refine j_gfr (pc' := 38) (x := 81) rfl rfl j_a75 rfl rfl ?_
  refine j_iconst (pc' := 39) (x := (2 : Int32)) rfl rfl rfl ?_
  refine j_aload_n (pc' := 40) rfl rfl rfl ?_
  refine j_ldcs (pc' := 42) (x := 2000011) rfl rfl rfl rfl ?_
  refine j_iconst (pc' := 43) (x := (1 : Int32)) rfl rfl rfl ?_
  refine j_sipush (pc' := 46) (x := (200 : Int32)) rfl rfl rfl ?_
  refine j_callRi (pc' := 49) (ai := 218) (vs := [.ref 75, .ref 2000011, .int (1 : Int32), .int (200 : Int32)]) (rest := [.int (2 : Int32), .ref 81]) rfl rfl (fun _ _ => rfl) (c_X12_told 2000011 (1 : Int32) (200 : Int32) σ7) (j_dd rfl hd) rfl (fun v9 σ8 => ?_)
  refine j_iast (pc' := 50) rfl rfl j_a81 (fun σ10 => ?_)
  refine j_aload_n (pc' := 51) rfl rfl rfl ?_
  refine j_gfr (pc' := 54) (x := 81) rfl rfl j_a75 rfl rfl ?_
  refine j_iconst (pc' := 55) (x := (3 : Int32)) rfl rfl rfl ?_
  refine j_aload_n (pc' := 56) rfl rfl rfl ?_
  refine j_ldcs (pc' := 58) (x := 2000012) rfl rfl rfl rfl ?_
  refine j_iconst (pc' := 59) (x := (0 : Int32)) rfl rfl rfl ?_
  refine j_bipush (pc' := 61) (x := (9 : Int32)) rfl rfl rfl ?_
  refine j_callRi (pc' := 64) (ai := 218) (vs := [.ref 75, .ref 2000012, .int (0 : Int32), .int (9 : Int32)]) (rest := [.int (3 : Int32), .ref 81]) rfl rfl (fun _ _ => rfl) (c_X12_told 2000012 (0 : Int32) (9 : Int32) σ10) (j_dd rfl hd) rfl (fun v12 σ11 => ?_)
  refine j_iast (pc' := 65) rfl rfl j_a81 (fun σ13 => ?_)
  refine j_aload_n (pc' := 66) rfl rfl rfl ?_
  refine j_gfr (pc' := 69) (x := 81) rfl rfl j_a75 rfl rfl ?_
  refine j_bipush (pc' := 71) (x := (10 : Int32)) rfl rfl rfl ?_
  refine j_iconst (pc' := 72) (x := (1 : Int32)) rfl rfl rfl ?_
  refine j_iast (pc' := 73) rfl rfl j_a81 (fun σ14 => ?_)
  refine j_aload_n (pc' := 74) rfl rfl rfl ?_
  refine j_gfr (pc' := 77) (x := 81) rfl rfl j_a75 rfl rfl ?_
  refine j_bipush (pc' := 79) (x := (11 : Int32)) rfl rfl rfl ?_
  refine j_bipush (pc' := 81) (x := (100 : Int32)) rfl rfl rfl ?_
  refine j_iast (pc' := 82) rfl rfl j_a81 (fun σ15 => ?_)
  exact j_ret rfl rfl rfl (fun _ h => h)

noncomputable def p_X12_freshStay_2 (l1 : Int32) (σ : j_G) : Nat → Int32 → Option Int32
  | 0, _ => none
  | n + 1, l2 =>
    j_ix (4 : Int32) 116 (
    if l2 < (σ.1 81 ((4 : Int32)).toNatClampNeg) then (j_ix ((12 : Int32) + ((2 : Int32) * l2)) 116 (
    if (σ.1 81 (((12 : Int32) + ((2 : Int32) * l2))).toNatClampNeg) = l1 then (some l2) else (p_X12_freshStay_2 l1 σ n (l2 + (1 : Int32))))) else (some (-1 : Int32)))

noncomputable def f_X12_freshStay (l1 : Int32) (σ : j_G) : Option Int32 :=
  p_X12_freshStay_2 l1 σ j_F (0 : Int32)
theorem l_X12_freshStay_2 {d : Nat} (hd : 0 ≤ d) (τ : j_G) (l1 : Int32) (σ : j_G) : ∀ (n : Nat) (l2 : Int32), j_J false τ M_cX12_freshStay d 2 [some (.ref 75), some (.int l1), some (.int l2)] [] σ (p_X12_freshStay_2 l1 σ n l2) (j_Pi σ) := by
  intro n
  induction n with
  | zero => intro l2; exact j_none
  | succ n ih =>
    intro l2
    unfold p_X12_freshStay_2
    refine j_iload_n (pc' := 3) rfl rfl rfl ?_
    refine j_aload_n (pc' := 4) rfl rfl rfl ?_
    refine j_gfr (pc' := 7) (x := 81) rfl rfl j_a75 rfl rfl ?_
    refine j_iconst (pc' := 8) (x := (4 : Int32)) rfl rfl rfl ?_
    refine j_iald (pc' := 9) rfl rfl j_a81 ?_
    refine j_two (pT := 12) (pF := 35) (L1 := [some (.ref 75), some (.int l1), some (.int l2)]) (st1 := []) (fun o kT kF => ?_) (fun h3 => ?_) (fun h3 => ?_)
    · refine j_icge (t := 35) (pc' := 12) rfl rfl rfl (fun h4 => ?_) (fun h4 => ?_)
      · exact kF h4
      · exact kT h4
    · refine j_aload_n (pc' := 13) rfl rfl rfl ?_
      refine j_gfr (pc' := 16) (x := 81) rfl rfl j_a75 rfl rfl ?_
      refine j_bipush (pc' := 18) (x := (12 : Int32)) rfl rfl rfl ?_
      refine j_iconst (pc' := 19) (x := (2 : Int32)) rfl rfl rfl ?_
      refine j_iload_n (pc' := 20) rfl rfl rfl ?_
      refine j_imul (pc' := 21) rfl rfl ?_
      refine j_iadd (pc' := 22) rfl rfl ?_
      refine j_iald (pc' := 23) rfl rfl j_a81 ?_
      refine j_iload_n (pc' := 24) rfl rfl rfl ?_
      refine j_two (pT := 27) (pF := 29) (L1 := [some (.ref 75), some (.int l1), some (.int l2)]) (st1 := []) (fun o kT kF => ?_) (fun h1 => ?_) (fun h1 => ?_)
      · refine j_icne (t := 29) (pc' := 27) rfl rfl rfl (fun h2 => ?_) (fun h2 => ?_)
        · exact kF h2
        · exact kT h2
      · refine j_iload_n (pc' := 28) rfl rfl rfl ?_
        exact j_ret rfl rfl rfl (fun _ h => h)
      · refine j_iincx (pc' := 32) (y := (1 : Int32)) (L' := [some (.ref 75), some (.int l1), some (.int (l2 + (1 : Int32)))]) rfl rfl rfl rfl rfl ?_
        refine j_goto (t := 2) rfl rfl ?_
        exact ih (l2 + (1 : Int32))
    · refine j_iconst (pc' := 36) (x := (-1 : Int32)) rfl rfl rfl ?_
      exact j_ret rfl rfl rfl (fun _ h => h)

theorem c_X12_freshStay (l1 : Int32) (σ : j_G) : j_K false 0 222 [.ref 75, .int l1] σ (f_X12_freshStay l1 σ) (j_Pi σ) := by
  refine j_mkK (M := M_cX12_freshStay) (L := [some (.ref 75), some (.int l1), none]) (m := 1) t_222 rfl (j_rcvO j_a75 rfl) rfl (fun d hd τ => ?_)
  unfold f_X12_freshStay
  refine j_iconst (pc' := 1) (x := (0 : Int32)) rfl rfl rfl ?_
  refine j_istore_n (pc' := 2) (L' := [some (.ref 75), some (.int l1), some (.int (0 : Int32))]) rfl rfl rfl ?_
  exact (l_X12_freshStay_2 hd τ l1 σ j_F (0 : Int32))

noncomputable def f_X12_readStay (σ : j_G) : Option j_G :=
  j_b2 (f_X12_number (1 : Int32) (40 : Int32) σ) fun v2 σ1 =>
  j_b1 (f_X12_needs 2000020 σ1) fun σ3 =>
  j_b1 (if (¬ (f_X12_good σ3) = 0) ∧ ((σ3.1 75 10) = (2 : Int32)) then (j_ix (2 : Int32) 116 (
  if (σ3.1 75 11) < (σ3.1 81 ((2 : Int32)).toNatClampNeg) then (some (1 : Int32)) else (some (0 : Int32)))) else (some (0 : Int32))) fun v4 =>
  j_b1 (if ¬ v4 = 0 then (j_ix (4 : Int32) 116 (
  if (σ3.1 81 ((4 : Int32)).toNatClampNeg) = (6 : Int32) then (j_b1 (f_X12_freshStay (σ3.1 75 11) σ3) fun v6 =>
  if v6 = (-1 : Int32) then (j_b1 (f_X12_errs (3 : Int32) σ3) fun σ7 =>
  some σ7) else (some σ3)) else (some σ3))) else (some σ3)) fun σ5 =>
  j_ix (2 : Int32) 116 (
  j_b2 (f_X12_number (0 : Int32) ((σ5.1 81 ((2 : Int32)).toNatClampNeg) - (1 : Int32)) σ5) fun v9 σ8 =>
  if (f_X12_good σ8) = 0 then (some σ8) else (j_b1 (f_X12_freshStay v9 σ8) fun v10 =>
  j_b2 (if v10 = (-1 : Int32) then (j_ix (4 : Int32) 116 (
  j_lt (σ8.1 81 ((4 : Int32)).toNatClampNeg) fun v13 =>
  j_ix (4 : Int32) 116 (
  j_ix (4 : Int32) 116 (
  j_lt (j_si σ8 81 ((4 : Int32)).toNatClampNeg ((σ8.1 81 ((4 : Int32)).toNatClampNeg) + (1 : Int32))) fun σ14 =>
  some (v13, σ14))))) else (some (v10, σ8))) fun v11 σ12 =>
  j_ix ((12 : Int32) + ((2 : Int32) * v11)) 116 (
  j_lt (j_si σ12 81 (((12 : Int32) + ((2 : Int32) * v11))).toNatClampNeg v9) fun σ15 =>
  j_ix (((12 : Int32) + ((2 : Int32) * v11)) + (1 : Int32)) 116 (
  j_lt (j_si σ15 81 ((((12 : Int32) + ((2 : Int32) * v11)) + (1 : Int32))).toNatClampNeg v2) fun σ16 =>
  some σ16))))
theorem c_X12_readStay (σ : j_G) : j_K false 4 223 [.ref 75] σ (f_X12_readStay σ) j_Rv := by
  refine j_mkK (M := M_cX12_readStay) (L := [some (.ref 75), none, none, none, none]) (m := 4) t_223 rfl (j_rcvO j_a75 rfl) rfl (fun d hd τ => ?_)
  unfold f_X12_readStay
  refine j_aload_n (pc' := 1) rfl rfl rfl ?_
  refine j_iconst (pc' := 2) (x := (1 : Int32)) rfl rfl rfl ?_
  refine j_bipush (pc' := 4) (x := (40 : Int32)) rfl rfl rfl ?_
  refine j_callRi (pc' := 7) (ai := 217) (vs := [.ref 75, .int (1 : Int32), .int (40 : Int32)]) (rest := []) rfl rfl (fun _ _ => rfl) (c_X12_number (1 : Int32) (40 : Int32) σ) (j_dd rfl hd) rfl (fun v2 σ1 => ?_)
  refine j_istore_n (pc' := 8) (L' := [some (.ref 75), some (.int v2), none, none, none]) rfl rfl rfl ?_
  refine j_aload_n (pc' := 9) rfl rfl rfl ?_
  refine j_ldcs (pc' := 11) (x := 2000020) rfl rfl rfl rfl ?_
  refine j_callRv (pc' := 14) (ai := 216) (vs := [.ref 75, .ref 2000020]) (rest := []) rfl rfl (fun _ _ => rfl) (c_X12_needs 2000020 σ1) (j_dd rfl hd) rfl (fun σ3 => ?_)
  refine j_aload_n (pc' := 15) rfl rfl rfl ?_
  refine j_callTi (pc' := 18) (ai := 212) (vs := [.ref 75]) (rest := []) rfl rfl (fun _ _ => rfl) (c_X12_good  σ3) (j_dd rfl hd) rfl ?_
  refine j_q1 (Φl := (fun r Q => j_Tr false τ M_cX12_readStay d 47 [some (.ref 75), some (.int v2), none, none, none] [.int r] σ3 Q)) ?_ (fun v4 => ?_)
  · refine j_two (pT := 29) (pF := 46) (L1 := [some (.ref 75), some (.int v2), none, none, none]) (st1 := []) (fun o kT kF => ?_) (fun h3 => ?_) (fun h3 => ?_)
    · refine j_ifeq (t := 46) (pc' := 21) rfl rfl rfl (fun h4 => ?_) (fun h4 => ?_)
      · exact kF (fun z => z.1 h4)
      · refine j_aload_n (pc' := 22) rfl rfl rfl ?_
        refine j_gfi (pc' := 25) rfl rfl j_a75 rfl ?_
        refine j_iconst (pc' := 26) (x := (2 : Int32)) rfl rfl rfl ?_
        refine j_icne (t := 46) (pc' := 29) rfl rfl rfl (fun h5 => ?_) (fun h5 => ?_)
        · exact kF (fun z => (h5) z.2)
        · exact kT (⟨h4, h5⟩)
    · refine j_aload_n (pc' := 30) rfl rfl rfl ?_
      refine j_gfi (pc' := 33) rfl rfl j_a75 rfl ?_
      refine j_aload_n (pc' := 34) rfl rfl rfl ?_
      refine j_gfr (pc' := 37) (x := 81) rfl rfl j_a75 rfl rfl ?_
      refine j_iconst (pc' := 38) (x := (2 : Int32)) rfl rfl rfl ?_
      refine j_iald (pc' := 39) rfl rfl j_a81 ?_
      refine j_two (pT := 42) (pF := 46) (L1 := [some (.ref 75), some (.int v2), none, none, none]) (st1 := []) (fun o kT kF => ?_) (fun h1 => ?_) (fun h1 => ?_)
      · refine j_icge (t := 46) (pc' := 42) rfl rfl rfl (fun h2 => ?_) (fun h2 => ?_)
        · exact kF h2
        · exact kT h2
      · refine j_iconst (pc' := 43) (x := (1 : Int32)) rfl rfl rfl ?_
        refine j_goto (t := 47) rfl rfl ?_
        exact j_end (fun _ h => h)
      · refine j_iconst (pc' := 47) (x := (0 : Int32)) rfl rfl rfl ?_
        exact j_end (fun _ h => h)
    · refine j_iconst (pc' := 47) (x := (0 : Int32)) rfl rfl rfl ?_
      exact j_end (fun _ h => h)
  show j_J false τ M_cX12_readStay d 47 [some (.ref 75), some (.int v2), none, none, none] [.int v4] σ3 _ _
  refine j_istore_n (pc' := 48) (L' := [some (.ref 75), some (.int v2), some (.int v4), none, none]) rfl rfl rfl ?_
  refine j_iload_n (pc' := 49) rfl rfl rfl ?_
  refine j_q1 (Φl := (fun r Q => j_Tr false τ M_cX12_readStay d 80 [some (.ref 75), some (.int v2), none, none, none] [] r Q)) ?_ (fun σ5 => ?_)
  · refine j_two (pT := 52) (pF := 80) (L1 := [some (.ref 75), some (.int v2), some (.int v4), none, none]) (st1 := []) (fun o kT kF => ?_) (fun h10 => ?_) (fun h10 => ?_)
    · refine j_ifeq (t := 80) (pc' := 52) rfl rfl rfl (fun h11 => ?_) (fun h11 => ?_)
      · exact kF (fun z => z h11)
      · exact kT h11
    · refine j_aload_n (pc' := 53) rfl rfl rfl ?_
      refine j_gfr (pc' := 56) (x := 81) rfl rfl j_a75 rfl rfl ?_
      refine j_iconst (pc' := 57) (x := (4 : Int32)) rfl rfl rfl ?_
      refine j_iald (pc' := 58) rfl rfl j_a81 ?_
      refine j_bipush (pc' := 60) (x := (6 : Int32)) rfl rfl rfl ?_
      refine j_two (pT := 63) (pF := 80) (L1 := [some (.ref 75), some (.int v2), some (.int v4), none, none]) (st1 := []) (fun o kT kF => ?_) (fun h8 => ?_) (fun h8 => ?_)
      · refine j_icne (t := 80) (pc' := 63) rfl rfl rfl (fun h9 => ?_) (fun h9 => ?_)
        · exact kF h9
        · exact kT h9
      · refine j_aload_n (pc' := 64) rfl rfl rfl ?_
        refine j_aload_n (pc' := 65) rfl rfl rfl ?_
        refine j_gfi (pc' := 68) rfl rfl j_a75 rfl ?_
        refine j_callPi (pc' := 71) (ai := 222) (vs := [.ref 75, .int (σ3.1 75 11)]) (rest := []) rfl rfl (fun _ _ => rfl) (c_X12_freshStay (σ3.1 75 11) σ3) (j_dd rfl hd) rfl (fun v6 => ?_)
        refine j_iconst (pc' := 72) (x := (-1 : Int32)) rfl rfl rfl ?_
        refine j_two (pT := 75) (pF := 80) (L1 := [some (.ref 75), some (.int v2), some (.int v4), none, none]) (st1 := []) (fun o kT kF => ?_) (fun h6 => ?_) (fun h6 => ?_)
        · refine j_icne (t := 80) (pc' := 75) rfl rfl rfl (fun h7 => ?_) (fun h7 => ?_)
          · exact kF h7
          · exact kT h7
        · refine j_aload_n (pc' := 76) rfl rfl rfl ?_
          refine j_iconst (pc' := 77) (x := (3 : Int32)) rfl rfl rfl ?_
          refine j_callRv (pc' := 80) (ai := 213) (vs := [.ref 75, .int (3 : Int32)]) (rest := []) rfl rfl (fun _ _ => rfl) (c_X12_errs (3 : Int32) σ3) (j_dd rfl hd) rfl (fun σ7 => ?_)
          refine j_wk [true, true, false, true, true] (L' := [some (.ref 75), some (.int v2), none, none, none]) rfl ?_
          exact j_end (fun _ h => h)
        · refine j_wk [true, true, false, true, true] (L' := [some (.ref 75), some (.int v2), none, none, none]) rfl ?_
          exact j_end (fun _ h => h)
      · refine j_wk [true, true, false, true, true] (L' := [some (.ref 75), some (.int v2), none, none, none]) rfl ?_
        exact j_end (fun _ h => h)
    · refine j_wk [true, true, false, true, true] (L' := [some (.ref 75), some (.int v2), none, none, none]) rfl ?_
      exact j_end (fun _ h => h)
  show j_J false τ M_cX12_readStay d 80 [some (.ref 75), some (.int v2), none, none, none] [] σ5 _ _
  refine j_aload_n (pc' := 81) rfl rfl rfl ?_
  refine j_iconst (pc' := 82) (x := (0 : Int32)) rfl rfl rfl ?_
  refine j_aload_n (pc' := 83) rfl rfl rfl ?_
  refine j_gfr (pc' := 86) (x := 81) rfl rfl j_a75 rfl rfl ?_
  refine j_iconst (pc' := 87) (x := (2 : Int32)) rfl rfl rfl ?_
  refine j_iald (pc' := 88) rfl rfl j_a81 ?_
  refine j_iconst (pc' := 89) (x := (1 : Int32)) rfl rfl rfl ?_
  refine j_isub (pc' := 90) rfl rfl ?_
  refine j_callRi (pc' := 93) (ai := 217) (vs := [.ref 75, .int (0 : Int32), .int ((σ5.1 81 ((2 : Int32)).toNatClampNeg) - (1 : Int32))]) (rest := []) rfl rfl (fun _ _ => rfl) (c_X12_number (0 : Int32) ((σ5.1 81 ((2 : Int32)).toNatClampNeg) - (1 : Int32)) σ5) (j_dd rfl hd) rfl (fun v9 σ8 => ?_)
  refine j_istore_n (pc' := 94) (L' := [some (.ref 75), some (.int v2), none, some (.int v9), none]) rfl rfl rfl ?_
  refine j_aload_n (pc' := 95) rfl rfl rfl ?_
  refine j_callTi (pc' := 98) (ai := 212) (vs := [.ref 75]) (rest := []) rfl rfl (fun _ _ => rfl) (c_X12_good  σ8) (j_dd rfl hd) rfl ?_
  refine j_two (pT := 101) (pF := 102) (L1 := [some (.ref 75), some (.int v2), none, some (.int v9), none]) (st1 := []) (fun o kT kF => ?_) (fun h14 => ?_) (fun h14 => ?_)
  · refine j_ifne (t := 102) (pc' := 101) rfl rfl rfl (fun h15 => ?_) (fun h15 => ?_)
    · exact kF h15
    · exact kT h15
  · exact j_ret rfl rfl rfl (fun _ h => h)
  · refine j_aload_n (pc' := 103) rfl rfl rfl ?_
    refine j_iload_n (pc' := 104) rfl rfl rfl ?_
    refine j_callPi (pc' := 107) (ai := 222) (vs := [.ref 75, .int v9]) (rest := []) rfl rfl (fun _ _ => rfl) (c_X12_freshStay v9 σ8) (j_dd rfl hd) rfl (fun v10 => ?_)
    refine j_istore (pc' := 109) (L' := [some (.ref 75), some (.int v2), none, some (.int v9), some (.int v10)]) rfl rfl rfl ?_
    refine j_iload (pc' := 111) rfl rfl rfl ?_
    refine j_iconst (pc' := 112) (x := (-1 : Int32)) rfl rfl rfl ?_
    refine j_q2 (Φl := (fun r Q => j_Tr false τ M_cX12_readStay d 133 [some (.ref 75), some (.int v2), none, some (.int v9), some (.int r.1)] [] r.2 Q)) ?_ (fun v11 σ12 => ?_)
    · refine j_two (pT := 115) (pF := 133) (L1 := [some (.ref 75), some (.int v2), none, some (.int v9), some (.int v10)]) (st1 := []) (fun o kT kF => ?_) (fun h12 => ?_) (fun h12 => ?_)
      · refine j_icne (t := 133) (pc' := 115) rfl rfl rfl (fun h13 => ?_) (fun h13 => ?_)
        · exact kF h13
        · exact kT h13
      · refine j_aload_n (pc' := 116) rfl rfl rfl ?_
        refine j_gfr (pc' := 119) (x := 81) rfl rfl j_a75 rfl rfl ?_
        refine j_iconst (pc' := 120) (x := (4 : Int32)) rfl rfl rfl ?_
        refine j_iald (pc' := 121) rfl rfl j_a81 ?_
        refine j_leti (fun v13 => ?_)
        refine j_istore (pc' := 123) (L' := [some (.ref 75), some (.int v2), none, some (.int v9), some (.int v13)]) rfl rfl rfl ?_
        refine j_aload_n (pc' := 124) rfl rfl rfl ?_
        refine j_gfr (pc' := 127) (x := 81) rfl rfl j_a75 rfl rfl ?_
        refine j_iconst (pc' := 128) (x := (4 : Int32)) rfl rfl rfl ?_
        refine j_dup2 (pc' := 129) rfl rfl rfl rfl ?_
        refine j_iald (pc' := 130) rfl rfl j_a81 ?_
        refine j_iconst (pc' := 131) (x := (1 : Int32)) rfl rfl rfl ?_
        refine j_iadd (pc' := 132) rfl rfl ?_
        refine j_iast (pc' := 133) rfl rfl j_a81 (fun σ14 => ?_)
        exact j_end (fun _ h => h)
      · exact j_end (fun _ h => h)
    show j_J false τ M_cX12_readStay d 133 [some (.ref 75), some (.int v2), none, some (.int v9), some (.int v11)] [] σ12 _ _
    refine j_aload_n (pc' := 134) rfl rfl rfl ?_
    refine j_gfr (pc' := 137) (x := 81) rfl rfl j_a75 rfl rfl ?_
    refine j_bipush (pc' := 139) (x := (12 : Int32)) rfl rfl rfl ?_
    refine j_iconst (pc' := 140) (x := (2 : Int32)) rfl rfl rfl ?_
    refine j_iload (pc' := 142) rfl rfl rfl ?_
    refine j_imul (pc' := 143) rfl rfl ?_
    refine j_iadd (pc' := 144) rfl rfl ?_
    refine j_iload_n (pc' := 145) rfl rfl rfl ?_
    refine j_iast (pc' := 146) rfl rfl j_a81 (fun σ15 => ?_)
    refine j_aload_n (pc' := 147) rfl rfl rfl ?_
    refine j_gfr (pc' := 150) (x := 81) rfl rfl j_a75 rfl rfl ?_
    refine j_bipush (pc' := 152) (x := (12 : Int32)) rfl rfl rfl ?_
    refine j_iconst (pc' := 153) (x := (2 : Int32)) rfl rfl rfl ?_
    refine j_iload (pc' := 155) rfl rfl rfl ?_
    refine j_imul (pc' := 156) rfl rfl ?_
    refine j_iadd (pc' := 157) rfl rfl ?_
    refine j_iconst (pc' := 158) (x := (1 : Int32)) rfl rfl rfl ?_
    refine j_iadd (pc' := 159) rfl rfl ?_
    refine j_iload_n (pc' := 160) rfl rfl rfl ?_
    refine j_iast (pc' := 161) rfl rfl j_a81 (fun σ16 => ?_)
    exact j_ret rfl rfl rfl (fun _ h => h)

noncomputable def f_X12_freshHoles (σ : j_G) : Option Int32 :=
  j_ix (0 : Int32) 116 (
  j_ix (1 : Int32) 116 (
  some ((σ.1 81 ((0 : Int32)).toNatClampNeg) * (σ.1 81 ((1 : Int32)).toNatClampNeg))))
theorem c_X12_freshHoles (σ : j_G) : j_K false 0 220 [.ref 75] σ (f_X12_freshHoles σ) (j_Pi σ) := by
  refine j_mkK (M := M_cX12_freshHoles) (L := [some (.ref 75)]) (m := 0) t_220 rfl (j_rcvO j_a75 rfl) rfl (fun d hd τ => ?_)
  unfold f_X12_freshHoles
  refine j_aload_n (pc' := 1) rfl rfl rfl ?_
  refine j_gfr (pc' := 4) (x := 81) rfl rfl j_a75 rfl rfl ?_
  refine j_iconst (pc' := 5) (x := (0 : Int32)) rfl rfl rfl ?_
  refine j_iald (pc' := 6) rfl rfl j_a81 ?_
  refine j_aload_n (pc' := 7) rfl rfl rfl ?_
  refine j_gfr (pc' := 10) (x := 81) rfl rfl j_a75 rfl rfl ?_
  refine j_iconst (pc' := 11) (x := (1 : Int32)) rfl rfl rfl ?_
  refine j_iald (pc' := 12) rfl rfl j_a81 ?_
  refine j_imul (pc' := 13) rfl rfl ?_
  exact j_ret rfl rfl rfl (fun _ h => h)

noncomputable def f_X12_isNextHole (σ : j_G) : Option Int32 :=
  if (¬ (f_X12_good σ) = 0) ∧ ((σ.1 75 10) = (2 : Int32)) then (j_b1 (f_X12_freshHoles σ) fun v1 =>
  if (σ.1 75 11) < v1 then (some (1 : Int32)) else (some (0 : Int32))) else (some (0 : Int32))
theorem c_X12_isNextHole (σ : j_G) : j_K false 1 224 [.ref 75] σ (f_X12_isNextHole σ) (j_Pi σ) := by
  refine j_mkK (M := M_cX12_isNextHole) (L := [some (.ref 75)]) (m := 0) t_224 rfl (j_rcvO j_a75 rfl) rfl (fun d hd τ => ?_)
  unfold f_X12_isNextHole
  refine j_aload_n (pc' := 1) rfl rfl rfl ?_
  refine j_callTi (pc' := 4) (ai := 212) (vs := [.ref 75]) (rest := []) rfl rfl (fun _ _ => rfl) (c_X12_good  σ) (j_dd rfl hd) rfl ?_
  refine j_two (pT := 15) (pF := 30) (L1 := [some (.ref 75)]) (st1 := []) (fun o kT kF => ?_) (fun h3 => ?_) (fun h3 => ?_)
  · refine j_ifeq (t := 30) (pc' := 7) rfl rfl rfl (fun h4 => ?_) (fun h4 => ?_)
    · exact kF (fun z => z.1 h4)
    · refine j_aload_n (pc' := 8) rfl rfl rfl ?_
      refine j_gfi (pc' := 11) rfl rfl j_a75 rfl ?_
      refine j_iconst (pc' := 12) (x := (2 : Int32)) rfl rfl rfl ?_
      refine j_icne (t := 30) (pc' := 15) rfl rfl rfl (fun h5 => ?_) (fun h5 => ?_)
      · exact kF (fun z => (h5) z.2)
      · exact kT (⟨h4, h5⟩)
  · refine j_aload_n (pc' := 16) rfl rfl rfl ?_
    refine j_gfi (pc' := 19) rfl rfl j_a75 rfl ?_
    refine j_aload_n (pc' := 20) rfl rfl rfl ?_
    refine j_callPi (pc' := 23) (ai := 220) (vs := [.ref 75]) (rest := [.int (σ.1 75 11)]) rfl rfl (fun _ _ => rfl) (c_X12_freshHoles  σ) (j_dd rfl hd) rfl (fun v1 => ?_)
    refine j_two (pT := 26) (pF := 30) (L1 := [some (.ref 75)]) (st1 := []) (fun o kT kF => ?_) (fun h1 => ?_) (fun h1 => ?_)
    · refine j_icge (t := 30) (pc' := 26) rfl rfl rfl (fun h2 => ?_) (fun h2 => ?_)
      · exact kF h2
      · exact kT h2
    · refine j_iconst (pc' := 27) (x := (1 : Int32)) rfl rfl rfl ?_
      refine j_goto (t := 31) rfl rfl ?_
      exact j_ret rfl rfl rfl (fun _ h => h)
    · refine j_iconst (pc' := 31) (x := (0 : Int32)) rfl rfl rfl ?_
      exact j_ret rfl rfl rfl (fun _ h => h)
  · refine j_iconst (pc' := 31) (x := (0 : Int32)) rfl rfl rfl ?_
    exact j_ret rfl rfl rfl (fun _ h => h)

noncomputable def p_X12_isFreshComing_2 (l1 : Int32) (σ : j_G) : Nat → Int32 → Option Int32
  | 0, _ => none
  | n + 1, l2 =>
    j_ix (5 : Int32) 116 (
    if l2 < (σ.1 81 ((5 : Int32)).toNatClampNeg) then (j_ix (((24 : Int32) + ((3 : Int32) * l2)) + (0 : Int32)) 116 (
    if ¬ (σ.1 81 ((((24 : Int32) + ((3 : Int32) * l2)) + (0 : Int32))).toNatClampNeg) = l1 then (j_ix (((24 : Int32) + ((3 : Int32) * l2)) + (1 : Int32)) 116 (
    if (σ.1 81 ((((24 : Int32) + ((3 : Int32) * l2)) + (1 : Int32))).toNatClampNeg) = l1 then (some (1 : Int32)) else (p_X12_isFreshComing_2 l1 σ n (l2 + (1 : Int32))))) else (some (1 : Int32)))) else (some (0 : Int32)))

noncomputable def f_X12_isFreshComing (l1 : Int32) (σ : j_G) : Option Int32 :=
  p_X12_isFreshComing_2 l1 σ j_F (0 : Int32)
theorem l_X12_isFreshComing_2 {d : Nat} (hd : 0 ≤ d) (τ : j_G) (l1 : Int32) (σ : j_G) : ∀ (n : Nat) (l2 : Int32), j_J false τ M_cX12_isFreshComing d 2 [some (.ref 75), some (.int l1), some (.int l2)] [] σ (p_X12_isFreshComing_2 l1 σ n l2) (j_Pi σ) := by
  intro n
  induction n with
  | zero => intro l2; exact j_none
  | succ n ih =>
    intro l2
    unfold p_X12_isFreshComing_2
    refine j_iload_n (pc' := 3) rfl rfl rfl ?_
    refine j_aload_n (pc' := 4) rfl rfl rfl ?_
    refine j_gfr (pc' := 7) (x := 81) rfl rfl j_a75 rfl rfl ?_
    refine j_iconst (pc' := 8) (x := (5 : Int32)) rfl rfl rfl ?_
    refine j_iald (pc' := 9) rfl rfl j_a81 ?_
    refine j_two (pT := 12) (pF := 54) (L1 := [some (.ref 75), some (.int l1), some (.int l2)]) (st1 := []) (fun o kT kF => ?_) (fun h5 => ?_) (fun h5 => ?_)
    · refine j_icge (t := 54) (pc' := 12) rfl rfl rfl (fun h6 => ?_) (fun h6 => ?_)
      · exact kF h6
      · exact kT h6
    · refine j_aload_n (pc' := 13) rfl rfl rfl ?_
      refine j_gfr (pc' := 16) (x := 81) rfl rfl j_a75 rfl rfl ?_
      refine j_bipush (pc' := 18) (x := (24 : Int32)) rfl rfl rfl ?_
      refine j_iconst (pc' := 19) (x := (3 : Int32)) rfl rfl rfl ?_
      refine j_iload_n (pc' := 20) rfl rfl rfl ?_
      refine j_imul (pc' := 21) rfl rfl ?_
      refine j_iadd (pc' := 22) rfl rfl ?_
      refine j_iconst (pc' := 23) (x := (0 : Int32)) rfl rfl rfl ?_
      refine j_iadd (pc' := 24) rfl rfl ?_
      refine j_iald (pc' := 25) rfl rfl j_a81 ?_
      refine j_iload_n (pc' := 26) rfl rfl rfl ?_
      refine j_two (pT := 29) (pF := 46) (L1 := [some (.ref 75), some (.int l1), some (.int l2)]) (st1 := []) (fun o kT kF => ?_) (fun h3 => ?_) (fun h3 => ?_)
      · refine j_iceq (t := 46) (pc' := 29) rfl rfl rfl (fun h4 => ?_) (fun h4 => ?_)
        · exact kF (fun z => z h4)
        · exact kT h4
      · refine j_aload_n (pc' := 30) rfl rfl rfl ?_
        refine j_gfr (pc' := 33) (x := 81) rfl rfl j_a75 rfl rfl ?_
        refine j_bipush (pc' := 35) (x := (24 : Int32)) rfl rfl rfl ?_
        refine j_iconst (pc' := 36) (x := (3 : Int32)) rfl rfl rfl ?_
        refine j_iload_n (pc' := 37) rfl rfl rfl ?_
        refine j_imul (pc' := 38) rfl rfl ?_
        refine j_iadd (pc' := 39) rfl rfl ?_
        refine j_iconst (pc' := 40) (x := (1 : Int32)) rfl rfl rfl ?_
        refine j_iadd (pc' := 41) rfl rfl ?_
        refine j_iald (pc' := 42) rfl rfl j_a81 ?_
        refine j_iload_n (pc' := 43) rfl rfl rfl ?_
        refine j_two (pT := 46) (pF := 48) (L1 := [some (.ref 75), some (.int l1), some (.int l2)]) (st1 := []) (fun o kT kF => ?_) (fun h1 => ?_) (fun h1 => ?_)
        · refine j_icne (t := 48) (pc' := 46) rfl rfl rfl (fun h2 => ?_) (fun h2 => ?_)
          · exact kF h2
          · exact kT h2
        · refine j_iconst (pc' := 47) (x := (1 : Int32)) rfl rfl rfl ?_
          exact j_ret rfl rfl rfl (fun _ h => h)
        · refine j_iincx (pc' := 51) (y := (1 : Int32)) (L' := [some (.ref 75), some (.int l1), some (.int (l2 + (1 : Int32)))]) rfl rfl rfl rfl rfl ?_
          refine j_goto (t := 2) rfl rfl ?_
          exact ih (l2 + (1 : Int32))
      · refine j_iconst (pc' := 47) (x := (1 : Int32)) rfl rfl rfl ?_
        exact j_ret rfl rfl rfl (fun _ h => h)
    · refine j_iconst (pc' := 55) (x := (0 : Int32)) rfl rfl rfl ?_
      exact j_ret rfl rfl rfl (fun _ h => h)

theorem c_X12_isFreshComing (l1 : Int32) (σ : j_G) : j_K false 0 225 [.ref 75, .int l1] σ (f_X12_isFreshComing l1 σ) (j_Pi σ) := by
  refine j_mkK (M := M_cX12_isFreshComing) (L := [some (.ref 75), some (.int l1), none]) (m := 1) t_225 rfl (j_rcvO j_a75 rfl) rfl (fun d hd τ => ?_)
  unfold f_X12_isFreshComing
  refine j_iconst (pc' := 1) (x := (0 : Int32)) rfl rfl rfl ?_
  refine j_istore_n (pc' := 2) (L' := [some (.ref 75), some (.int l1), some (.int (0 : Int32))]) rfl rfl rfl ?_
  exact (l_X12_isFreshComing_2 hd τ l1 σ j_F (0 : Int32))

noncomputable def f_X12_readShut (σ : j_G) : Option j_G :=
  j_b1 (f_X12_isNextHole σ) fun v1 =>
  j_b1 (if ¬ v1 = 0 then (j_ix (7 : Int32) 116 (
  j_lt (j_b1 (f_X12_errs (2 : Int32) σ) fun σ5 =>
  some σ5) fun (k3 : Option j_G) =>
  if ¬ (((σ.1 81 ((7 : Int32)).toNatClampNeg) >>> ((σ.1 75 11) &&& 31)) &&& (1 : Int32)) = (1 : Int32) then (j_b1 (f_X12_isFreshComing (σ.1 75 11) σ) fun v4 =>
  if ¬ v4 = 0 then (k3) else (some σ)) else (k3))) else (some σ)) fun σ2 =>
  j_b1 (f_X12_freshHoles σ2) fun v6 =>
  j_b2 (f_X12_number (0 : Int32) (v6 - (1 : Int32)) σ2) fun v8 σ7 =>
  if ¬ (f_X12_good σ7) = 0 then (j_ix (7 : Int32) 116 (
  j_ix (7 : Int32) 116 (
  j_lt (j_si σ7 81 ((7 : Int32)).toNatClampNeg ((σ7.1 81 ((7 : Int32)).toNatClampNeg) ||| ((1 : Int32) <<< (v8 &&& 31)))) fun σ9 =>
  some σ9))) else (some σ7)
theorem c_X12_readShut (σ : j_G) : j_K false 3 226 [.ref 75] σ (f_X12_readShut σ) j_Rv := by
  refine j_mkK (M := M_cX12_readShut) (L := [some (.ref 75), none]) (m := 1) t_226 rfl (j_rcvO j_a75 rfl) rfl (fun d hd τ => ?_)
  unfold f_X12_readShut
  refine j_aload_n (pc' := 1) rfl rfl rfl ?_
  refine j_callPi (pc' := 4) (ai := 224) (vs := [.ref 75]) (rest := []) rfl rfl (fun _ _ => rfl) (c_X12_isNextHole  σ) (j_dd rfl hd) rfl (fun v1 => ?_)
  refine j_q1 (Φl := (fun r Q => j_Tr false τ M_cX12_readShut d 41 [some (.ref 75), none] [] r Q)) ?_ (fun σ2 => ?_)
  · refine j_two (pT := 7) (pF := 41) (L1 := [some (.ref 75), none]) (st1 := []) (fun o kT kF => ?_) (fun h5 => ?_) (fun h5 => ?_)
    · refine j_ifeq (t := 41) (pc' := 7) rfl rfl rfl (fun h6 => ?_) (fun h6 => ?_)
      · exact kF (fun z => z h6)
      · exact kT h6
    · refine j_aload_n (pc' := 8) rfl rfl rfl ?_
      refine j_gfr (pc' := 11) (x := 81) rfl rfl j_a75 rfl rfl ?_
      refine j_bipush (pc' := 13) (x := (7 : Int32)) rfl rfl rfl ?_
      refine j_iald (pc' := 14) rfl rfl j_a81 ?_
      refine j_aload_n (pc' := 15) rfl rfl rfl ?_
      refine j_gfi (pc' := 18) rfl rfl j_a75 rfl ?_
      refine j_ishr (pc' := 19) rfl rfl ?_
      refine j_iconst (pc' := 20) (x := (1 : Int32)) rfl rfl rfl ?_
      refine j_iand (pc' := 21) rfl rfl ?_
      refine j_iconst (pc' := 22) (x := (1 : Int32)) rfl rfl rfl ?_
      refine j_jn (P := (fun k => j_J false τ M_cX12_readShut d 36 [some (.ref 75), none] [] σ (k ) (fun r Q => j_Tr false τ M_cX12_readShut d 41 [some (.ref 75), none] [] r Q))) ?_ (fun k3 k3_h => ?_)
      · refine j_aload_n (pc' := 37) rfl rfl rfl ?_
        refine j_iconst (pc' := 38) (x := (2 : Int32)) rfl rfl rfl ?_
        refine j_callRv (pc' := 41) (ai := 213) (vs := [.ref 75, .int (2 : Int32)]) (rest := []) rfl rfl (fun _ _ => rfl) (c_X12_errs (2 : Int32) σ) (j_dd rfl hd) rfl (fun σ5 => ?_)
        exact j_end (fun _ h => h)
      · refine j_two (pT := 25) (pF := 36) (L1 := [some (.ref 75), none]) (st1 := []) (fun o kT kF => ?_) (fun h3 => ?_) (fun h3 => ?_)
        · refine j_iceq (t := 36) (pc' := 25) rfl rfl rfl (fun h4 => ?_) (fun h4 => ?_)
          · exact kF (fun z => z h4)
          · exact kT h4
        · refine j_aload_n (pc' := 26) rfl rfl rfl ?_
          refine j_aload_n (pc' := 27) rfl rfl rfl ?_
          refine j_gfi (pc' := 30) rfl rfl j_a75 rfl ?_
          refine j_callPi (pc' := 33) (ai := 225) (vs := [.ref 75, .int (σ.1 75 11)]) (rest := []) rfl rfl (fun _ _ => rfl) (c_X12_isFreshComing (σ.1 75 11) σ) (j_dd rfl hd) rfl (fun v4 => ?_)
          refine j_two (pT := 36) (pF := 41) (L1 := [some (.ref 75), none]) (st1 := []) (fun o kT kF => ?_) (fun h1 => ?_) (fun h1 => ?_)
          · refine j_ifeq (t := 41) (pc' := 36) rfl rfl rfl (fun h2 => ?_) (fun h2 => ?_)
            · exact kF (fun z => z h2)
            · exact kT h2
          · exact k3_h 
          · exact j_end (fun _ h => h)
        · exact k3_h 
    · exact j_end (fun _ h => h)
  show j_J false τ M_cX12_readShut d 41 [some (.ref 75), none] [] σ2 _ _
  refine j_aload_n (pc' := 42) rfl rfl rfl ?_
  refine j_iconst (pc' := 43) (x := (0 : Int32)) rfl rfl rfl ?_
  refine j_aload_n (pc' := 44) rfl rfl rfl ?_
  refine j_callPi (pc' := 47) (ai := 220) (vs := [.ref 75]) (rest := [.int (0 : Int32), .ref 75]) rfl rfl (fun _ _ => rfl) (c_X12_freshHoles  σ2) (j_dd rfl hd) rfl (fun v6 => ?_)
  refine j_iconst (pc' := 48) (x := (1 : Int32)) rfl rfl rfl ?_
  refine j_isub (pc' := 49) rfl rfl ?_
  refine j_callRi (pc' := 52) (ai := 217) (vs := [.ref 75, .int (0 : Int32), .int (v6 - (1 : Int32))]) (rest := []) rfl rfl (fun _ _ => rfl) (c_X12_number (0 : Int32) (v6 - (1 : Int32)) σ2) (j_dd rfl hd) rfl (fun v8 σ7 => ?_)
  refine j_istore_n (pc' := 53) (L' := [some (.ref 75), some (.int v8)]) rfl rfl rfl ?_
  refine j_aload_n (pc' := 54) rfl rfl rfl ?_
  refine j_callTi (pc' := 57) (ai := 212) (vs := [.ref 75]) (rest := []) rfl rfl (fun _ _ => rfl) (c_X12_good  σ7) (j_dd rfl hd) rfl ?_
  refine j_two (pT := 60) (pF := 73) (L1 := [some (.ref 75), some (.int v8)]) (st1 := []) (fun o kT kF => ?_) (fun h7 => ?_) (fun h7 => ?_)
  · refine j_ifeq (t := 73) (pc' := 60) rfl rfl rfl (fun h8 => ?_) (fun h8 => ?_)
    · exact kF (fun z => z h8)
    · exact kT h8
  · refine j_aload_n (pc' := 61) rfl rfl rfl ?_
    refine j_gfr (pc' := 64) (x := 81) rfl rfl j_a75 rfl rfl ?_
    refine j_bipush (pc' := 66) (x := (7 : Int32)) rfl rfl rfl ?_
    refine j_dup2 (pc' := 67) rfl rfl rfl rfl ?_
    refine j_iald (pc' := 68) rfl rfl j_a81 ?_
    refine j_iconst (pc' := 69) (x := (1 : Int32)) rfl rfl rfl ?_
    refine j_iload_n (pc' := 70) rfl rfl rfl ?_
    refine j_ishl (pc' := 71) rfl rfl ?_
    refine j_ior (pc' := 72) rfl rfl ?_
    refine j_iast (pc' := 73) rfl rfl j_a81 (fun σ9 => ?_)
    exact j_ret rfl rfl rfl (fun _ h => h)
  · exact j_ret rfl rfl rfl (fun _ h => h)

noncomputable def f_X12_readHole (l1 : Int32) (σ : j_G) : Option (Int32 × j_G) :=
  j_b1 (f_X12_isNextHole σ) fun v1 =>
  j_b1 (if ¬ v1 = 0 then (j_ix (7 : Int32) 116 (
  if ((((σ.1 81 ((7 : Int32)).toNatClampNeg) >>> ((σ.1 75 11) &&& 31)) &&& (1 : Int32)) = (1 : Int32)) ∨ ((σ.1 75 11) = l1) then (j_b1 (f_X12_errs (2 : Int32) σ) fun σ3 =>
  some σ3) else (some σ))) else (some σ)) fun σ2 =>
  j_b1 (f_X12_freshHoles σ2) fun v4 =>
  j_b2 (f_X12_number (0 : Int32) (v4 - (1 : Int32)) σ2) fun v6 σ5 =>
  some (v6, σ5)
theorem c_X12_readHole (l1 : Int32) (σ : j_G) : j_K false 3 227 [.ref 75, .int l1] σ (f_X12_readHole l1 σ) j_Ri := by
  refine j_mkK (M := M_cX12_readHole) (L := [some (.ref 75), some (.int l1)]) (m := 0) t_227 rfl (j_rcvO j_a75 rfl) rfl (fun d hd τ => ?_)
  unfold f_X12_readHole
  refine j_aload_n (pc' := 1) rfl rfl rfl ?_
  refine j_callPi (pc' := 4) (ai := 224) (vs := [.ref 75]) (rest := []) rfl rfl (fun _ _ => rfl) (c_X12_isNextHole  σ) (j_dd rfl hd) rfl (fun v1 => ?_)
  refine j_q1 (Φl := (fun r Q => j_Tr false τ M_cX12_readHole d 38 [some (.ref 75), none] [] r Q)) ?_ (fun σ2 => ?_)
  · refine j_two (pT := 7) (pF := 38) (L1 := [some (.ref 75), some (.int l1)]) (st1 := []) (fun o kT kF => ?_) (fun h4 => ?_) (fun h4 => ?_)
    · refine j_ifeq (t := 38) (pc' := 7) rfl rfl rfl (fun h5 => ?_) (fun h5 => ?_)
      · exact kF (fun z => z h5)
      · exact kT h5
    · refine j_aload_n (pc' := 8) rfl rfl rfl ?_
      refine j_gfr (pc' := 11) (x := 81) rfl rfl j_a75 rfl rfl ?_
      refine j_bipush (pc' := 13) (x := (7 : Int32)) rfl rfl rfl ?_
      refine j_iald (pc' := 14) rfl rfl j_a81 ?_
      refine j_aload_n (pc' := 15) rfl rfl rfl ?_
      refine j_gfi (pc' := 18) rfl rfl j_a75 rfl ?_
      refine j_ishr (pc' := 19) rfl rfl ?_
      refine j_iconst (pc' := 20) (x := (1 : Int32)) rfl rfl rfl ?_
      refine j_iand (pc' := 21) rfl rfl ?_
      refine j_iconst (pc' := 22) (x := (1 : Int32)) rfl rfl rfl ?_
      refine j_two (pT := 33) (pF := 38) (L1 := [some (.ref 75), some (.int l1)]) (st1 := []) (fun o kT kF => ?_) (fun h1 => ?_) (fun h1 => ?_)
      · refine j_iceq (t := 33) (pc' := 25) rfl rfl rfl (fun h2 => ?_) (fun h2 => ?_)
        · exact kT (Or.inl h2)
        · refine j_aload_n (pc' := 26) rfl rfl rfl ?_
          refine j_gfi (pc' := 29) rfl rfl j_a75 rfl ?_
          refine j_iload_n (pc' := 30) rfl rfl rfl ?_
          refine j_icne (t := 38) (pc' := 33) rfl rfl rfl (fun h3 => ?_) (fun h3 => ?_)
          · exact kF (fun z => z.elim h2 (h3))
          · exact kT (Or.inr (h3))
      · refine j_aload_n (pc' := 34) rfl rfl rfl ?_
        refine j_iconst (pc' := 35) (x := (2 : Int32)) rfl rfl rfl ?_
        refine j_callRv (pc' := 38) (ai := 213) (vs := [.ref 75, .int (2 : Int32)]) (rest := []) rfl rfl (fun _ _ => rfl) (c_X12_errs (2 : Int32) σ) (j_dd rfl hd) rfl (fun σ3 => ?_)
        refine j_wk [true, false] (L' := [some (.ref 75), none]) rfl ?_
        exact j_end (fun _ h => h)
      · refine j_wk [true, false] (L' := [some (.ref 75), none]) rfl ?_
        exact j_end (fun _ h => h)
    · refine j_wk [true, false] (L' := [some (.ref 75), none]) rfl ?_
      exact j_end (fun _ h => h)
  show j_J false τ M_cX12_readHole d 38 [some (.ref 75), none] [] σ2 _ _
  refine j_aload_n (pc' := 39) rfl rfl rfl ?_
  refine j_iconst (pc' := 40) (x := (0 : Int32)) rfl rfl rfl ?_
  refine j_aload_n (pc' := 41) rfl rfl rfl ?_
  refine j_callPi (pc' := 44) (ai := 220) (vs := [.ref 75]) (rest := [.int (0 : Int32), .ref 75]) rfl rfl (fun _ _ => rfl) (c_X12_freshHoles  σ2) (j_dd rfl hd) rfl (fun v4 => ?_)
  refine j_iconst (pc' := 45) (x := (1 : Int32)) rfl rfl rfl ?_
  refine j_isub (pc' := 46) rfl rfl ?_
  refine j_callRi (pc' := 49) (ai := 217) (vs := [.ref 75, .int (0 : Int32), .int (v4 - (1 : Int32))]) (rest := []) rfl rfl (fun _ _ => rfl) (c_X12_number (0 : Int32) (v4 - (1 : Int32)) σ2) (j_dd rfl hd) rfl (fun v6 σ5 => ?_)
  exact j_ret rfl rfl rfl (fun _ h => h)

noncomputable def f_X12_readComing (l1 : Int32) (l2 : Int32) (σ : j_G) : Option j_G :=
  j_ix (5 : Int32) 116 (
  j_lt ((24 : Int32) + ((3 : Int32) * (σ.1 81 ((5 : Int32)).toNatClampNeg))) fun v1 =>
  j_b2 (f_X12_readHole (-1 : Int32) σ) fun v3 σ2 =>
  j_b2 (if ¬ l2 = 0 then (j_b2 (f_X12_readHole v3 σ2) fun v7 σ6 =>
  some (v7, σ6)) else (some ((-1 : Int32), σ2))) fun v4 σ5 =>
  if (f_X12_good σ5) = 0 then (some σ5) else (j_ix (v1 + (0 : Int32)) 116 (
  j_lt (j_si σ5 81 ((v1 + (0 : Int32))).toNatClampNeg v3) fun σ8 =>
  j_ix (v1 + (1 : Int32)) 116 (
  j_lt (j_si σ8 81 ((v1 + (1 : Int32))).toNatClampNeg v4) fun σ9 =>
  j_lt (if ¬ l1 = 0 then ((1 : Int32)) else ((0 : Int32))) fun v10 =>
  j_ix (v1 + (2 : Int32)) 116 (
  j_lt (j_si σ9 81 ((v1 + (2 : Int32))).toNatClampNeg v10) fun σ11 =>
  j_ix (5 : Int32) 116 (
  j_ix (5 : Int32) 116 (
  j_lt (j_si σ11 81 ((5 : Int32)).toNatClampNeg ((σ11.1 81 ((5 : Int32)).toNatClampNeg) + (1 : Int32))) fun σ12 =>
  some σ12)))))))
theorem c_X12_readComing (l1 : Int32) (l2 : Int32) (σ : j_G) : j_K false 4 228 [.ref 75, .int l1, .int l2] σ (f_X12_readComing l1 l2 σ) j_Rv := by
  refine j_mkK (M := M_cX12_readComing) (L := [some (.ref 75), some (.int l1), some (.int l2), none, none, none]) (m := 3) t_228 rfl (j_rcvO j_a75 rfl) rfl (fun d hd τ => ?_)
  unfold f_X12_readComing
  refine j_bipush (pc' := 2) (x := (24 : Int32)) rfl rfl rfl ?_
  refine j_iconst (pc' := 3) (x := (3 : Int32)) rfl rfl rfl ?_
  refine j_aload_n (pc' := 4) rfl rfl rfl ?_
  refine j_gfr (pc' := 7) (x := 81) rfl rfl j_a75 rfl rfl ?_
  refine j_iconst (pc' := 8) (x := (5 : Int32)) rfl rfl rfl ?_
  refine j_iald (pc' := 9) rfl rfl j_a81 ?_
  refine j_imul (pc' := 10) rfl rfl ?_
  refine j_iadd (pc' := 11) rfl rfl ?_
  refine j_leti (fun v1 => ?_)
  refine j_istore_n (pc' := 12) (L' := [some (.ref 75), some (.int l1), some (.int l2), some (.int v1), none, none]) rfl rfl rfl ?_
  refine j_aload_n (pc' := 13) rfl rfl rfl ?_
  refine j_iconst (pc' := 14) (x := (-1 : Int32)) rfl rfl rfl ?_
  refine j_callRi (pc' := 17) (ai := 227) (vs := [.ref 75, .int (-1 : Int32)]) (rest := []) rfl rfl (fun _ _ => rfl) (c_X12_readHole (-1 : Int32) σ) (j_dd rfl hd) rfl (fun v3 σ2 => ?_)
  refine j_istore (pc' := 19) (L' := [some (.ref 75), some (.int l1), some (.int l2), some (.int v1), some (.int v3), none]) rfl rfl rfl ?_
  refine j_iload_n (pc' := 20) rfl rfl rfl ?_
  refine j_q2 (Φl := (fun r Q => j_Tr false τ M_cX12_readComing d 33 [some (.ref 75), some (.int l1), none, some (.int v1), some (.int v3), none] [.int r.1] r.2 Q)) ?_ (fun v4 σ5 => ?_)
  · refine j_two (pT := 23) (pF := 32) (L1 := [some (.ref 75), some (.int l1), some (.int l2), some (.int v1), some (.int v3), none]) (st1 := []) (fun o kT kF => ?_) (fun h1 => ?_) (fun h1 => ?_)
    · refine j_ifeq (t := 32) (pc' := 23) rfl rfl rfl (fun h2 => ?_) (fun h2 => ?_)
      · exact kF (fun z => z h2)
      · exact kT h2
    · refine j_aload_n (pc' := 24) rfl rfl rfl ?_
      refine j_iload (pc' := 26) rfl rfl rfl ?_
      refine j_callRi (pc' := 29) (ai := 227) (vs := [.ref 75, .int v3]) (rest := []) rfl rfl (fun _ _ => rfl) (c_X12_readHole v3 σ2) (j_dd rfl hd) rfl (fun v7 σ6 => ?_)
      refine j_goto (t := 33) rfl rfl ?_
      refine j_wk [true, true, false, true, true, true] (L' := [some (.ref 75), some (.int l1), none, some (.int v1), some (.int v3), none]) rfl ?_
      exact j_end (fun _ h => h)
    · refine j_iconst (pc' := 33) (x := (-1 : Int32)) rfl rfl rfl ?_
      refine j_wk [true, true, false, true, true, true] (L' := [some (.ref 75), some (.int l1), none, some (.int v1), some (.int v3), none]) rfl ?_
      exact j_end (fun _ h => h)
  show j_J false τ M_cX12_readComing d 33 [some (.ref 75), some (.int l1), none, some (.int v1), some (.int v3), none] [.int v4] σ5 _ _
  refine j_istore (pc' := 35) (L' := [some (.ref 75), some (.int l1), none, some (.int v1), some (.int v3), some (.int v4)]) rfl rfl rfl ?_
  refine j_aload_n (pc' := 36) rfl rfl rfl ?_
  refine j_callTi (pc' := 39) (ai := 212) (vs := [.ref 75]) (rest := []) rfl rfl (fun _ _ => rfl) (c_X12_good  σ5) (j_dd rfl hd) rfl ?_
  refine j_two (pT := 42) (pF := 43) (L1 := [some (.ref 75), some (.int l1), none, some (.int v1), some (.int v3), some (.int v4)]) (st1 := []) (fun o kT kF => ?_) (fun h5 => ?_) (fun h5 => ?_)
  · refine j_ifne (t := 43) (pc' := 42) rfl rfl rfl (fun h6 => ?_) (fun h6 => ?_)
    · exact kF h6
    · exact kT h6
  · exact j_ret rfl rfl rfl (fun _ h => h)
  · refine j_aload_n (pc' := 44) rfl rfl rfl ?_
    refine j_gfr (pc' := 47) (x := 81) rfl rfl j_a75 rfl rfl ?_
    refine j_iload_n (pc' := 48) rfl rfl rfl ?_
    refine j_iconst (pc' := 49) (x := (0 : Int32)) rfl rfl rfl ?_
    refine j_iadd (pc' := 50) rfl rfl ?_
    refine j_iload (pc' := 52) rfl rfl rfl ?_
    refine j_iast (pc' := 53) rfl rfl j_a81 (fun σ8 => ?_)
    refine j_aload_n (pc' := 54) rfl rfl rfl ?_
    refine j_gfr (pc' := 57) (x := 81) rfl rfl j_a75 rfl rfl ?_
    refine j_iload_n (pc' := 58) rfl rfl rfl ?_
    refine j_iconst (pc' := 59) (x := (1 : Int32)) rfl rfl rfl ?_
    refine j_iadd (pc' := 60) rfl rfl ?_
    refine j_iload (pc' := 62) rfl rfl rfl ?_
    refine j_iast (pc' := 63) rfl rfl j_a81 (fun σ9 => ?_)
    refine j_aload_n (pc' := 64) rfl rfl rfl ?_
    refine j_gfr (pc' := 67) (x := 81) rfl rfl j_a75 rfl rfl ?_
    refine j_iload_n (pc' := 68) rfl rfl rfl ?_
    refine j_iconst (pc' := 69) (x := (2 : Int32)) rfl rfl rfl ?_
    refine j_iadd (pc' := 70) rfl rfl ?_
    refine j_iload_n (pc' := 71) rfl rfl rfl ?_
    refine j_ql (Φl := (fun r Q => j_Tr false τ M_cX12_readComing d 79 [some (.ref 75), none, none, none, none, none] [.int r, .int (v1 + (2 : Int32)), .ref 81] σ9 Q)) ?_ (fun v10 => ?_)
    · refine j_twoT (pT := 74) (pF := 78) (L1 := [some (.ref 75), some (.int l1), none, some (.int v1), some (.int v3), some (.int v4)]) (st1 := [.int (v1 + (2 : Int32)), .ref 81]) (fun o kT kF => ?_) (fun h3 => ?_) (fun h3 => ?_)
      · refine j_ifeq (t := 78) (pc' := 74) rfl rfl rfl (fun h4 => ?_) (fun h4 => ?_)
        · exact kF (fun z => z h4)
        · exact kT h4
      · refine j_iconst (pc' := 75) (x := (1 : Int32)) rfl rfl rfl ?_
        refine j_goto (t := 79) rfl rfl ?_
        refine j_wk [true, false, true, false, false, false] (L' := [some (.ref 75), none, none, none, none, none]) rfl ?_
        exact j_end (fun _ h => h)
      · refine j_iconst (pc' := 79) (x := (0 : Int32)) rfl rfl rfl ?_
        refine j_wk [true, false, true, false, false, false] (L' := [some (.ref 75), none, none, none, none, none]) rfl ?_
        exact j_end (fun _ h => h)
    show j_J false τ M_cX12_readComing d 79 [some (.ref 75), none, none, none, none, none] [.int v10, .int (v1 + (2 : Int32)), .ref 81] σ9 _ _
    refine j_iast (pc' := 80) rfl rfl j_a81 (fun σ11 => ?_)
    refine j_aload_n (pc' := 81) rfl rfl rfl ?_
    refine j_gfr (pc' := 84) (x := 81) rfl rfl j_a75 rfl rfl ?_
    refine j_iconst (pc' := 85) (x := (5 : Int32)) rfl rfl rfl ?_
    refine j_dup2 (pc' := 86) rfl rfl rfl rfl ?_
    refine j_iald (pc' := 87) rfl rfl j_a81 ?_
    refine j_iconst (pc' := 88) (x := (1 : Int32)) rfl rfl rfl ?_
    refine j_iadd (pc' := 89) rfl rfl ?_
    refine j_iast (pc' := 90) rfl rfl j_a81 (fun σ12 => ?_)
    exact j_ret rfl rfl rfl (fun _ h => h)

noncomputable def f_X12_readPlayer (σ : j_G) : Option j_G :=
  j_ix (6 : Int32) 116 (
  j_lt ((96 : Int32) + ((5 : Int32) * (σ.1 81 ((6 : Int32)).toNatClampNeg))) fun v1 =>
  j_b2 (f_X12_told 2000021 (1 : Int32) (9 : Int32) σ) fun v3 σ2 =>
  j_ix (v1 + (0 : Int32)) 116 (
  j_lt (j_si σ2 81 ((v1 + (0 : Int32))).toNatClampNeg v3) fun σ4 =>
  j_b2 (f_X12_told 2000022 (0 : Int32) (20 : Int32) σ4) fun v6 σ5 =>
  j_ix (v1 + (1 : Int32)) 116 (
  j_lt (j_si σ5 81 ((v1 + (1 : Int32))).toNatClampNeg v6) fun σ7 =>
  j_b2 (f_X12_told 2000023 (0 : Int32) (99 : Int32) σ7) fun v9 σ8 =>
  j_ix (v1 + (2 : Int32)) 116 (
  j_lt (j_si σ8 81 ((v1 + (2 : Int32))).toNatClampNeg v9) fun σ10 =>
  j_b2 (f_X12_told 2000024 (0 : Int32) (9 : Int32) σ10) fun v12 σ11 =>
  j_ix (v1 + (3 : Int32)) 116 (
  j_lt (j_si σ11 81 ((v1 + (3 : Int32))).toNatClampNeg v12) fun σ13 =>
  j_b1 (f_X12_freshHoles σ13) fun v14 =>
  j_b2 (f_X12_told 2000025 (0 : Int32) (v14 - (1 : Int32)) σ13) fun v16 σ15 =>
  j_ix (v1 + (4 : Int32)) 116 (
  j_lt (j_si σ15 81 ((v1 + (4 : Int32))).toNatClampNeg v16) fun σ17 =>
  j_ix (6 : Int32) 116 (
  j_ix (6 : Int32) 116 (
  j_lt (j_si σ17 81 ((6 : Int32)).toNatClampNeg ((σ17.1 81 ((6 : Int32)).toNatClampNeg) + (1 : Int32))) fun σ18 =>
  some σ18))))))))
theorem c_X12_readPlayer (σ : j_G) : j_K false 5 229 [.ref 75] σ (f_X12_readPlayer σ) j_Rv := by
  refine j_mkK (M := M_cX12_readPlayer) (L := [some (.ref 75), none]) (m := 1) t_229 rfl (j_rcvO j_a75 rfl) rfl (fun d hd τ => ?_)
  unfold f_X12_readPlayer
  refine j_bipush (pc' := 2) (x := (96 : Int32)) rfl rfl rfl ?_
  refine j_iconst (pc' := 3) (x := (5 : Int32)) rfl rfl rfl ?_
  refine j_aload_n (pc' := 4) rfl rfl rfl ?_
  refine j_gfr (pc' := 7) (x := 81) rfl rfl j_a75 rfl rfl ?_
  refine j_bipush (pc' := 9) (x := (6 : Int32)) rfl rfl rfl ?_
  refine j_iald (pc' := 10) rfl rfl j_a81 ?_
  refine j_imul (pc' := 11) rfl rfl ?_
  refine j_iadd (pc' := 12) rfl rfl ?_
  refine j_leti (fun v1 => ?_)
  refine j_istore_n (pc' := 13) (L' := [some (.ref 75), some (.int v1)]) rfl rfl rfl ?_
  refine j_aload_n (pc' := 14) rfl rfl rfl ?_
  refine j_gfr (pc' := 17) (x := 81) rfl rfl j_a75 rfl rfl ?_
  refine j_iload_n (pc' := 18) rfl rfl rfl ?_
  refine j_iconst (pc' := 19) (x := (0 : Int32)) rfl rfl rfl ?_
  refine j_iadd (pc' := 20) rfl rfl ?_
  refine j_aload_n (pc' := 21) rfl rfl rfl ?_
  refine j_ldcs (pc' := 23) (x := 2000021) rfl rfl rfl rfl ?_
  refine j_iconst (pc' := 24) (x := (1 : Int32)) rfl rfl rfl ?_
  refine j_bipush (pc' := 26) (x := (9 : Int32)) rfl rfl rfl ?_
  refine j_callRi (pc' := 29) (ai := 218) (vs := [.ref 75, .ref 2000021, .int (1 : Int32), .int (9 : Int32)]) (rest := [.int (v1 + (0 : Int32)), .ref 81]) rfl rfl (fun _ _ => rfl) (c_X12_told 2000021 (1 : Int32) (9 : Int32) σ) (j_dd rfl hd) rfl (fun v3 σ2 => ?_)
  refine j_iast (pc' := 30) rfl rfl j_a81 (fun σ4 => ?_)
  refine j_aload_n (pc' := 31) rfl rfl rfl ?_
  refine j_gfr (pc' := 34) (x := 81) rfl rfl j_a75 rfl rfl ?_
  refine j_iload_n (pc' := 35) rfl rfl rfl ?_
  refine j_iconst (pc' := 36) (x := (1 : Int32)) rfl rfl rfl ?_
  refine j_iadd (pc' := 37) rfl rfl ?_
  refine j_aload_n (pc' := 38) rfl rfl rfl ?_
  refine j_ldcs (pc' := 40) (x := 2000022) rfl rfl rfl rfl ?_
  refine j_iconst (pc' := 41) (x := (0 : Int32)) rfl rfl rfl ?_
  refine j_bipush (pc' := 43) (x := (20 : Int32)) rfl rfl rfl ?_
  refine j_callRi (pc' := 46) (ai := 218) (vs := [.ref 75, .ref 2000022, .int (0 : Int32), .int (20 : Int32)]) (rest := [.int (v1 + (1 : Int32)), .ref 81]) rfl rfl (fun _ _ => rfl) (c_X12_told 2000022 (0 : Int32) (20 : Int32) σ4) (j_dd rfl hd) rfl (fun v6 σ5 => ?_)
  refine j_iast (pc' := 47) rfl rfl j_a81 (fun σ7 => ?_)
  refine j_aload_n (pc' := 48) rfl rfl rfl ?_
  refine j_gfr (pc' := 51) (x := 81) rfl rfl j_a75 rfl rfl ?_
  refine j_iload_n (pc' := 52) rfl rfl rfl ?_
  refine j_iconst (pc' := 53) (x := (2 : Int32)) rfl rfl rfl ?_
  refine j_iadd (pc' := 54) rfl rfl ?_
  refine j_aload_n (pc' := 55) rfl rfl rfl ?_
  refine j_ldcs (pc' := 57) (x := 2000023) rfl rfl rfl rfl ?_
  refine j_iconst (pc' := 58) (x := (0 : Int32)) rfl rfl rfl ?_
  refine j_bipush (pc' := 60) (x := (99 : Int32)) rfl rfl rfl ?_
  refine j_callRi (pc' := 63) (ai := 218) (vs := [.ref 75, .ref 2000023, .int (0 : Int32), .int (99 : Int32)]) (rest := [.int (v1 + (2 : Int32)), .ref 81]) rfl rfl (fun _ _ => rfl) (c_X12_told 2000023 (0 : Int32) (99 : Int32) σ7) (j_dd rfl hd) rfl (fun v9 σ8 => ?_)
  refine j_iast (pc' := 64) rfl rfl j_a81 (fun σ10 => ?_)
  refine j_aload_n (pc' := 65) rfl rfl rfl ?_
  refine j_gfr (pc' := 68) (x := 81) rfl rfl j_a75 rfl rfl ?_
  refine j_iload_n (pc' := 69) rfl rfl rfl ?_
  refine j_iconst (pc' := 70) (x := (3 : Int32)) rfl rfl rfl ?_
  refine j_iadd (pc' := 71) rfl rfl ?_
  refine j_aload_n (pc' := 72) rfl rfl rfl ?_
  refine j_ldcs (pc' := 74) (x := 2000024) rfl rfl rfl rfl ?_
  refine j_iconst (pc' := 75) (x := (0 : Int32)) rfl rfl rfl ?_
  refine j_bipush (pc' := 77) (x := (9 : Int32)) rfl rfl rfl ?_
  refine j_callRi (pc' := 80) (ai := 218) (vs := [.ref 75, .ref 2000024, .int (0 : Int32), .int (9 : Int32)]) (rest := [.int (v1 + (3 : Int32)), .ref 81]) rfl rfl (fun _ _ => rfl) (c_X12_told 2000024 (0 : Int32) (9 : Int32) σ10) (j_dd rfl hd) rfl (fun v12 σ11 => ?_)
  refine j_iast (pc' := 81) rfl rfl j_a81 (fun σ13 => ?_)
  refine j_aload_n (pc' := 82) rfl rfl rfl ?_
  refine j_gfr (pc' := 85) (x := 81) rfl rfl j_a75 rfl rfl ?_
  refine j_iload_n (pc' := 86) rfl rfl rfl ?_
  refine j_iconst (pc' := 87) (x := (4 : Int32)) rfl rfl rfl ?_
  refine j_iadd (pc' := 88) rfl rfl ?_
  refine j_aload_n (pc' := 89) rfl rfl rfl ?_
  refine j_ldcs (pc' := 91) (x := 2000025) rfl rfl rfl rfl ?_
  refine j_iconst (pc' := 92) (x := (0 : Int32)) rfl rfl rfl ?_
  refine j_aload_n (pc' := 93) rfl rfl rfl ?_
  refine j_callPi (pc' := 96) (ai := 220) (vs := [.ref 75]) (rest := [.int (0 : Int32), .ref 2000025, .ref 75, .int (v1 + (4 : Int32)), .ref 81]) rfl rfl (fun _ _ => rfl) (c_X12_freshHoles  σ13) (j_dd rfl hd) rfl (fun v14 => ?_)
  refine j_iconst (pc' := 97) (x := (1 : Int32)) rfl rfl rfl ?_
  refine j_isub (pc' := 98) rfl rfl ?_
  refine j_callRi (pc' := 101) (ai := 218) (vs := [.ref 75, .ref 2000025, .int (0 : Int32), .int (v14 - (1 : Int32))]) (rest := [.int (v1 + (4 : Int32)), .ref 81]) rfl rfl (fun _ _ => rfl) (c_X12_told 2000025 (0 : Int32) (v14 - (1 : Int32)) σ13) (j_dd rfl hd) rfl (fun v16 σ15 => ?_)
  refine j_iast (pc' := 102) rfl rfl j_a81 (fun σ17 => ?_)
  refine j_aload_n (pc' := 103) rfl rfl rfl ?_
  refine j_gfr (pc' := 106) (x := 81) rfl rfl j_a75 rfl rfl ?_
  refine j_bipush (pc' := 108) (x := (6 : Int32)) rfl rfl rfl ?_
  refine j_dup2 (pc' := 109) rfl rfl rfl rfl ?_
  refine j_iald (pc' := 110) rfl rfl j_a81 ?_
  refine j_iconst (pc' := 111) (x := (1 : Int32)) rfl rfl rfl ?_
  refine j_iadd (pc' := 112) rfl rfl ?_
  refine j_iast (pc' := 113) rfl rfl j_a81 (fun σ18 => ?_)
  exact j_ret rfl rfl rfl (fun _ h => h)

noncomputable def f_X12_readNext (σ : j_G) : Option j_G :=
  j_b1 (f_X12_is 2000013 σ) fun v1 =>
  j_b1 (if v1 = 0 then (j_b1 (f_X12_is 2000014 σ) fun v3 =>
  j_lt (some (1 : Int32)) fun (k4 : Option Int32) =>
  if v3 = 0 then (j_b1 (f_X12_is 2000015 σ) fun v5 =>
  if ¬ v5 = 0 then (k4) else (some (0 : Int32))) else (k4)) else (some (1 : Int32))) fun v2 =>
  j_b1 (if v2 = 0 then (j_b1 (f_X12_is 2000016 σ) fun v7 =>
  if v7 = 0 then (j_b1 (f_X12_is 2000017 σ) fun v8 =>
  if v8 = 0 then (j_b1 (f_X12_is 2000018 σ) fun v9 =>
  if v9 = 0 then (j_b1 (f_X12_is 2000019 σ) fun v10 =>
  if v10 = 0 then (j_b1 (f_X12_errs (1 : Int32) σ) fun σ11 =>
  some σ11) else (some σ)) else (some σ)) else (some σ)) else (some σ)) else (some σ)) fun σ6 =>
  j_b1 (if ¬ v2 = 0 then (j_ix (5 : Int32) 116 (
  j_lt (j_b1 (f_X12_errs (3 : Int32) σ6) fun σ15 =>
  some σ15) fun (k13 : Option j_G) =>
  if ¬ (σ6.1 81 ((5 : Int32)).toNatClampNeg) = (24 : Int32) then (j_b1 (f_X12_is 2000018 σ6) fun v14 =>
  if ¬ v14 = 0 then (j_ix (6 : Int32) 116 (
  if (σ6.1 81 ((6 : Int32)).toNatClampNeg) = (4 : Int32) then (k13) else (some σ6))) else (some σ6)) else (k13))) else (j_b1 (f_X12_is 2000018 σ6) fun v16 =>
  if ¬ v16 = 0 then (j_ix (6 : Int32) 116 (
  if (σ6.1 81 ((6 : Int32)).toNatClampNeg) = (4 : Int32) then (j_b1 (f_X12_errs (3 : Int32) σ6) fun σ17 =>
  some σ17) else (some σ6))) else (some σ6))) fun σ12 =>
  if (f_X12_good σ12) = 0 then (some σ12) else (j_b2 (f_X12_takes 2000016 σ12) fun v19 σ18 =>
  if ¬ v19 = 0 then (j_b1 (f_X12_readStay σ18) fun σ20 =>
  some σ20) else (j_b2 (f_X12_takes 2000017 σ18) fun v22 σ21 =>
  if ¬ v22 = 0 then (j_b1 (f_X12_readShut σ21) fun σ23 =>
  some σ23) else (j_b2 (f_X12_takes 2000013 σ21) fun v25 σ24 =>
  if ¬ v25 = 0 then (j_b1 (f_X12_readComing (0 : Int32) (0 : Int32) σ24) fun σ26 =>
  some σ26) else (j_b2 (f_X12_takes 2000014 σ24) fun v28 σ27 =>
  if ¬ v28 = 0 then (j_b1 (f_X12_readComing (1 : Int32) (0 : Int32) σ27) fun σ29 =>
  some σ29) else (j_b2 (f_X12_takes 2000015 σ27) fun v31 σ30 =>
  if ¬ v31 = 0 then (j_b1 (f_X12_readComing (0 : Int32) (1 : Int32) σ30) fun σ32 =>
  some σ32) else (j_b2 (f_X12_takes 2000018 σ30) fun v34 σ33 =>
  if ¬ v34 = 0 then (j_b1 (f_X12_readPlayer σ33) fun σ35 =>
  some σ35) else (j_b1 (f_X12_advance σ33) fun σ36 =>
  j_b2 (f_X12_number (1 : Int32) (99 : Int32) σ36) fun v38 σ37 =>
  j_ix (10 : Int32) 116 (
  j_lt (j_si σ37 81 ((10 : Int32)).toNatClampNeg v38) fun σ39 =>
  j_b2 (f_X12_told 2000026 (1 : Int32) (500 : Int32) σ39) fun v41 σ40 =>
  j_ix (11 : Int32) 116 (
  j_lt (j_si σ40 81 ((11 : Int32)).toNatClampNeg v41) fun σ42 =>
  some σ42)))))))))
theorem c_X12_readNext (σ : j_G) : j_K false 6 230 [.ref 75] σ (f_X12_readNext σ) j_Rv := by
  refine j_mkK (M := M_cX12_readNext) (L := [some (.ref 75), none]) (m := 1) t_230 rfl (j_rcvO j_a75 rfl) rfl (fun d hd τ => ?_)
  unfold f_X12_readNext
  refine j_aload_n (pc' := 1) rfl rfl rfl ?_
  refine j_ldcs (pc' := 3) (x := 2000013) rfl rfl rfl rfl ?_
  refine j_callPi (pc' := 6) (ai := 214) (vs := [.ref 75, .ref 2000013]) (rest := []) rfl rfl (fun _ _ => rfl) (c_X12_is 2000013 σ) (j_dd rfl hd) rfl (fun v1 => ?_)
  refine j_q1 (Φl := (fun r Q => j_Tr false τ M_cX12_readNext d 32 [some (.ref 75), none] [.int r] σ Q)) ?_ (fun v2 => ?_)
  · refine j_two (pT := 9) (pF := 27) (L1 := [some (.ref 75), none]) (st1 := []) (fun o kT kF => ?_) (fun h5 => ?_) (fun h5 => ?_)
    · refine j_ifne (t := 27) (pc' := 9) rfl rfl rfl (fun h6 => ?_) (fun h6 => ?_)
      · exact kF h6
      · exact kT h6
    · refine j_aload_n (pc' := 10) rfl rfl rfl ?_
      refine j_ldcs (pc' := 12) (x := 2000014) rfl rfl rfl rfl ?_
      refine j_callPi (pc' := 15) (ai := 214) (vs := [.ref 75, .ref 2000014]) (rest := []) rfl rfl (fun _ _ => rfl) (c_X12_is 2000014 σ) (j_dd rfl hd) rfl (fun v3 => ?_)
      refine j_jn (P := (fun k => j_J false τ M_cX12_readNext d 27 [some (.ref 75), none] [] σ (k ) (fun r Q => j_Tr false τ M_cX12_readNext d 32 [some (.ref 75), none] [.int r] σ Q))) ?_ (fun k4 k4_h => ?_)
      · refine j_iconst (pc' := 28) (x := (1 : Int32)) rfl rfl rfl ?_
        refine j_goto (t := 32) rfl rfl ?_
        exact j_end (fun _ h => h)
      · refine j_two (pT := 18) (pF := 27) (L1 := [some (.ref 75), none]) (st1 := []) (fun o kT kF => ?_) (fun h3 => ?_) (fun h3 => ?_)
        · refine j_ifne (t := 27) (pc' := 18) rfl rfl rfl (fun h4 => ?_) (fun h4 => ?_)
          · exact kF h4
          · exact kT h4
        · refine j_aload_n (pc' := 19) rfl rfl rfl ?_
          refine j_ldcs (pc' := 21) (x := 2000015) rfl rfl rfl rfl ?_
          refine j_callPi (pc' := 24) (ai := 214) (vs := [.ref 75, .ref 2000015]) (rest := []) rfl rfl (fun _ _ => rfl) (c_X12_is 2000015 σ) (j_dd rfl hd) rfl (fun v5 => ?_)
          refine j_two (pT := 27) (pF := 31) (L1 := [some (.ref 75), none]) (st1 := []) (fun o kT kF => ?_) (fun h1 => ?_) (fun h1 => ?_)
          · refine j_ifeq (t := 31) (pc' := 27) rfl rfl rfl (fun h2 => ?_) (fun h2 => ?_)
            · exact kF (fun z => z h2)
            · exact kT h2
          · exact k4_h 
          · refine j_iconst (pc' := 32) (x := (0 : Int32)) rfl rfl rfl ?_
            exact j_end (fun _ h => h)
        · exact k4_h 
    · refine j_iconst (pc' := 28) (x := (1 : Int32)) rfl rfl rfl ?_
      refine j_goto (t := 32) rfl rfl ?_
      exact j_end (fun _ h => h)
  show j_J false τ M_cX12_readNext d 32 [some (.ref 75), none] [.int v2] σ _ _
  refine j_istore_n (pc' := 33) (L' := [some (.ref 75), some (.int v2)]) rfl rfl rfl ?_
  refine j_iload_n (pc' := 34) rfl rfl rfl ?_
  refine j_q1 (Φl := (fun r Q => j_Tr false τ M_cX12_readNext d 78 [some (.ref 75), some (.int v2)] [] r Q)) ?_ (fun σ6 => ?_)
  · refine j_two (pT := 37) (pF := 78) (L1 := [some (.ref 75), some (.int v2)]) (st1 := []) (fun o kT kF => ?_) (fun h15 => ?_) (fun h15 => ?_)
    · refine j_ifne (t := 78) (pc' := 37) rfl rfl rfl (fun h16 => ?_) (fun h16 => ?_)
      · exact kF h16
      · exact kT h16
    · refine j_aload_n (pc' := 38) rfl rfl rfl ?_
      refine j_ldcs (pc' := 40) (x := 2000016) rfl rfl rfl rfl ?_
      refine j_callPi (pc' := 43) (ai := 214) (vs := [.ref 75, .ref 2000016]) (rest := []) rfl rfl (fun _ _ => rfl) (c_X12_is 2000016 σ) (j_dd rfl hd) rfl (fun v7 => ?_)
      refine j_two (pT := 46) (pF := 78) (L1 := [some (.ref 75), some (.int v2)]) (st1 := []) (fun o kT kF => ?_) (fun h13 => ?_) (fun h13 => ?_)
      · refine j_ifne (t := 78) (pc' := 46) rfl rfl rfl (fun h14 => ?_) (fun h14 => ?_)
        · exact kF h14
        · exact kT h14
      · refine j_aload_n (pc' := 47) rfl rfl rfl ?_
        refine j_ldcs (pc' := 49) (x := 2000017) rfl rfl rfl rfl ?_
        refine j_callPi (pc' := 52) (ai := 214) (vs := [.ref 75, .ref 2000017]) (rest := []) rfl rfl (fun _ _ => rfl) (c_X12_is 2000017 σ) (j_dd rfl hd) rfl (fun v8 => ?_)
        refine j_two (pT := 55) (pF := 78) (L1 := [some (.ref 75), some (.int v2)]) (st1 := []) (fun o kT kF => ?_) (fun h11 => ?_) (fun h11 => ?_)
        · refine j_ifne (t := 78) (pc' := 55) rfl rfl rfl (fun h12 => ?_) (fun h12 => ?_)
          · exact kF h12
          · exact kT h12
        · refine j_aload_n (pc' := 56) rfl rfl rfl ?_
          refine j_ldcs (pc' := 58) (x := 2000018) rfl rfl rfl rfl ?_
          refine j_callPi (pc' := 61) (ai := 214) (vs := [.ref 75, .ref 2000018]) (rest := []) rfl rfl (fun _ _ => rfl) (c_X12_is 2000018 σ) (j_dd rfl hd) rfl (fun v9 => ?_)
          refine j_two (pT := 64) (pF := 78) (L1 := [some (.ref 75), some (.int v2)]) (st1 := []) (fun o kT kF => ?_) (fun h9 => ?_) (fun h9 => ?_)
          · refine j_ifne (t := 78) (pc' := 64) rfl rfl rfl (fun h10 => ?_) (fun h10 => ?_)
            · exact kF h10
            · exact kT h10
          · refine j_aload_n (pc' := 65) rfl rfl rfl ?_
            refine j_ldcs (pc' := 67) (x := 2000019) rfl rfl rfl rfl ?_
            refine j_callPi (pc' := 70) (ai := 214) (vs := [.ref 75, .ref 2000019]) (rest := []) rfl rfl (fun _ _ => rfl) (c_X12_is 2000019 σ) (j_dd rfl hd) rfl (fun v10 => ?_)
            refine j_two (pT := 73) (pF := 78) (L1 := [some (.ref 75), some (.int v2)]) (st1 := []) (fun o kT kF => ?_) (fun h7 => ?_) (fun h7 => ?_)
            · refine j_ifne (t := 78) (pc' := 73) rfl rfl rfl (fun h8 => ?_) (fun h8 => ?_)
              · exact kF h8
              · exact kT h8
            · refine j_aload_n (pc' := 74) rfl rfl rfl ?_
              refine j_iconst (pc' := 75) (x := (1 : Int32)) rfl rfl rfl ?_
              refine j_callRv (pc' := 78) (ai := 213) (vs := [.ref 75, .int (1 : Int32)]) (rest := []) rfl rfl (fun _ _ => rfl) (c_X12_errs (1 : Int32) σ) (j_dd rfl hd) rfl (fun σ11 => ?_)
              exact j_end (fun _ h => h)
            · exact j_end (fun _ h => h)
          · exact j_end (fun _ h => h)
        · exact j_end (fun _ h => h)
      · exact j_end (fun _ h => h)
    · exact j_end (fun _ h => h)
  show j_J false τ M_cX12_readNext d 78 [some (.ref 75), some (.int v2)] [] σ6 _ _
  refine j_iload_n (pc' := 79) rfl rfl rfl ?_
  refine j_q1 (Φl := (fun r Q => j_Tr false τ M_cX12_readNext d 118 [some (.ref 75), none] [] r Q)) ?_ (fun σ12 => ?_)
  · refine j_two (pT := 82) (pF := 93) (L1 := [some (.ref 75), some (.int v2)]) (st1 := []) (fun o kT kF => ?_) (fun h27 => ?_) (fun h27 => ?_)
    · refine j_ifeq (t := 93) (pc' := 82) rfl rfl rfl (fun h28 => ?_) (fun h28 => ?_)
      · exact kF (fun z => z h28)
      · exact kT h28
    · refine j_aload_n (pc' := 83) rfl rfl rfl ?_
      refine j_gfr (pc' := 86) (x := 81) rfl rfl j_a75 rfl rfl ?_
      refine j_iconst (pc' := 87) (x := (5 : Int32)) rfl rfl rfl ?_
      refine j_iald (pc' := 88) rfl rfl j_a81 ?_
      refine j_bipush (pc' := 90) (x := (24 : Int32)) rfl rfl rfl ?_
      refine j_jn (P := (fun k => j_J false τ M_cX12_readNext d 113 [some (.ref 75), none] [] σ6 (k ) (fun r Q => j_Tr false τ M_cX12_readNext d 118 [some (.ref 75), none] [] r Q))) ?_ (fun k13 k13_h => ?_)
      · refine j_aload_n (pc' := 114) rfl rfl rfl ?_
        refine j_iconst (pc' := 115) (x := (3 : Int32)) rfl rfl rfl ?_
        refine j_callRv (pc' := 118) (ai := 213) (vs := [.ref 75, .int (3 : Int32)]) (rest := []) rfl rfl (fun _ _ => rfl) (c_X12_errs (3 : Int32) σ6) (j_dd rfl hd) rfl (fun σ15 => ?_)
        exact j_end (fun _ h => h)
      · refine j_two (pT := 93) (pF := 113) (L1 := [some (.ref 75), some (.int v2)]) (st1 := []) (fun o kT kF => ?_) (fun h21 => ?_) (fun h21 => ?_)
        · refine j_iceq (t := 113) (pc' := 93) rfl rfl rfl (fun h22 => ?_) (fun h22 => ?_)
          · exact kF (fun z => z h22)
          · exact kT h22
        · refine j_aload_n (pc' := 94) rfl rfl rfl ?_
          refine j_ldcs (pc' := 96) (x := 2000018) rfl rfl rfl rfl ?_
          refine j_callPi (pc' := 99) (ai := 214) (vs := [.ref 75, .ref 2000018]) (rest := []) rfl rfl (fun _ _ => rfl) (c_X12_is 2000018 σ6) (j_dd rfl hd) rfl (fun v14 => ?_)
          refine j_two (pT := 102) (pF := 118) (L1 := [some (.ref 75), some (.int v2)]) (st1 := []) (fun o kT kF => ?_) (fun h19 => ?_) (fun h19 => ?_)
          · refine j_ifeq (t := 118) (pc' := 102) rfl rfl rfl (fun h20 => ?_) (fun h20 => ?_)
            · exact kF (fun z => z h20)
            · exact kT h20
          · refine j_aload_n (pc' := 103) rfl rfl rfl ?_
            refine j_gfr (pc' := 106) (x := 81) rfl rfl j_a75 rfl rfl ?_
            refine j_bipush (pc' := 108) (x := (6 : Int32)) rfl rfl rfl ?_
            refine j_iald (pc' := 109) rfl rfl j_a81 ?_
            refine j_iconst (pc' := 110) (x := (4 : Int32)) rfl rfl rfl ?_
            refine j_two (pT := 113) (pF := 118) (L1 := [some (.ref 75), some (.int v2)]) (st1 := []) (fun o kT kF => ?_) (fun h17 => ?_) (fun h17 => ?_)
            · refine j_icne (t := 118) (pc' := 113) rfl rfl rfl (fun h18 => ?_) (fun h18 => ?_)
              · exact kF h18
              · exact kT h18
            · refine j_wk [true, false] (L' := [some (.ref 75), none]) rfl ?_
              exact k13_h 
            · refine j_wk [true, false] (L' := [some (.ref 75), none]) rfl ?_
              exact j_end (fun _ h => h)
          · refine j_wk [true, false] (L' := [some (.ref 75), none]) rfl ?_
            exact j_end (fun _ h => h)
        · refine j_wk [true, false] (L' := [some (.ref 75), none]) rfl ?_
          exact k13_h 
    · refine j_aload_n (pc' := 94) rfl rfl rfl ?_
      refine j_ldcs (pc' := 96) (x := 2000018) rfl rfl rfl rfl ?_
      refine j_callPi (pc' := 99) (ai := 214) (vs := [.ref 75, .ref 2000018]) (rest := []) rfl rfl (fun _ _ => rfl) (c_X12_is 2000018 σ6) (j_dd rfl hd) rfl (fun v16 => ?_)
      refine j_two (pT := 102) (pF := 118) (L1 := [some (.ref 75), some (.int v2)]) (st1 := []) (fun o kT kF => ?_) (fun h25 => ?_) (fun h25 => ?_)
      · refine j_ifeq (t := 118) (pc' := 102) rfl rfl rfl (fun h26 => ?_) (fun h26 => ?_)
        · exact kF (fun z => z h26)
        · exact kT h26
      · refine j_aload_n (pc' := 103) rfl rfl rfl ?_
        refine j_gfr (pc' := 106) (x := 81) rfl rfl j_a75 rfl rfl ?_
        refine j_bipush (pc' := 108) (x := (6 : Int32)) rfl rfl rfl ?_
        refine j_iald (pc' := 109) rfl rfl j_a81 ?_
        refine j_iconst (pc' := 110) (x := (4 : Int32)) rfl rfl rfl ?_
        refine j_two (pT := 113) (pF := 118) (L1 := [some (.ref 75), some (.int v2)]) (st1 := []) (fun o kT kF => ?_) (fun h23 => ?_) (fun h23 => ?_)
        · refine j_icne (t := 118) (pc' := 113) rfl rfl rfl (fun h24 => ?_) (fun h24 => ?_)
          · exact kF h24
          · exact kT h24
        · refine j_aload_n (pc' := 114) rfl rfl rfl ?_
          refine j_iconst (pc' := 115) (x := (3 : Int32)) rfl rfl rfl ?_
          refine j_callRv (pc' := 118) (ai := 213) (vs := [.ref 75, .int (3 : Int32)]) (rest := []) rfl rfl (fun _ _ => rfl) (c_X12_errs (3 : Int32) σ6) (j_dd rfl hd) rfl (fun σ17 => ?_)
          refine j_wk [true, false] (L' := [some (.ref 75), none]) rfl ?_
          exact j_end (fun _ h => h)
        · refine j_wk [true, false] (L' := [some (.ref 75), none]) rfl ?_
          exact j_end (fun _ h => h)
      · refine j_wk [true, false] (L' := [some (.ref 75), none]) rfl ?_
        exact j_end (fun _ h => h)
  show j_J false τ M_cX12_readNext d 118 [some (.ref 75), none] [] σ12 _ _
  refine j_aload_n (pc' := 119) rfl rfl rfl ?_
  refine j_callTi (pc' := 122) (ai := 212) (vs := [.ref 75]) (rest := []) rfl rfl (fun _ _ => rfl) (c_X12_good  σ12) (j_dd rfl hd) rfl ?_
  refine j_two (pT := 125) (pF := 126) (L1 := [some (.ref 75), none]) (st1 := []) (fun o kT kF => ?_) (fun h41 => ?_) (fun h41 => ?_)
  · refine j_ifne (t := 126) (pc' := 125) rfl rfl rfl (fun h42 => ?_) (fun h42 => ?_)
    · exact kF h42
    · exact kT h42
  · exact j_ret rfl rfl rfl (fun _ h => h)
  · refine j_aload_n (pc' := 127) rfl rfl rfl ?_
    refine j_ldcs (pc' := 129) (x := 2000016) rfl rfl rfl rfl ?_
    refine j_callRi (pc' := 132) (ai := 215) (vs := [.ref 75, .ref 2000016]) (rest := []) rfl rfl (fun _ _ => rfl) (c_X12_takes 2000016 σ12) (j_dd rfl hd) rfl (fun v19 σ18 => ?_)
    refine j_two (pT := 135) (pF := 142) (L1 := [some (.ref 75), none]) (st1 := []) (fun o kT kF => ?_) (fun h39 => ?_) (fun h39 => ?_)
    · refine j_ifeq (t := 142) (pc' := 135) rfl rfl rfl (fun h40 => ?_) (fun h40 => ?_)
      · exact kF (fun z => z h40)
      · exact kT h40
    · refine j_aload_n (pc' := 136) rfl rfl rfl ?_
      refine j_callRv (pc' := 139) (ai := 223) (vs := [.ref 75]) (rest := []) rfl rfl (fun _ _ => rfl) (c_X12_readStay  σ18) (j_dd rfl hd) rfl (fun σ20 => ?_)
      refine j_goto (t := 263) rfl rfl ?_
      exact j_ret rfl rfl rfl (fun _ h => h)
    · refine j_aload_n (pc' := 143) rfl rfl rfl ?_
      refine j_ldcs (pc' := 145) (x := 2000017) rfl rfl rfl rfl ?_
      refine j_callRi (pc' := 148) (ai := 215) (vs := [.ref 75, .ref 2000017]) (rest := []) rfl rfl (fun _ _ => rfl) (c_X12_takes 2000017 σ18) (j_dd rfl hd) rfl (fun v22 σ21 => ?_)
      refine j_two (pT := 151) (pF := 158) (L1 := [some (.ref 75), none]) (st1 := []) (fun o kT kF => ?_) (fun h37 => ?_) (fun h37 => ?_)
      · refine j_ifeq (t := 158) (pc' := 151) rfl rfl rfl (fun h38 => ?_) (fun h38 => ?_)
        · exact kF (fun z => z h38)
        · exact kT h38
      · refine j_aload_n (pc' := 152) rfl rfl rfl ?_
        refine j_callRv (pc' := 155) (ai := 226) (vs := [.ref 75]) (rest := []) rfl rfl (fun _ _ => rfl) (c_X12_readShut  σ21) (j_dd rfl hd) rfl (fun σ23 => ?_)
        refine j_goto (t := 263) rfl rfl ?_
        exact j_ret rfl rfl rfl (fun _ h => h)
      · refine j_aload_n (pc' := 159) rfl rfl rfl ?_
        refine j_ldcs (pc' := 161) (x := 2000013) rfl rfl rfl rfl ?_
        refine j_callRi (pc' := 164) (ai := 215) (vs := [.ref 75, .ref 2000013]) (rest := []) rfl rfl (fun _ _ => rfl) (c_X12_takes 2000013 σ21) (j_dd rfl hd) rfl (fun v25 σ24 => ?_)
        refine j_two (pT := 167) (pF := 176) (L1 := [some (.ref 75), none]) (st1 := []) (fun o kT kF => ?_) (fun h35 => ?_) (fun h35 => ?_)
        · refine j_ifeq (t := 176) (pc' := 167) rfl rfl rfl (fun h36 => ?_) (fun h36 => ?_)
          · exact kF (fun z => z h36)
          · exact kT h36
        · refine j_aload_n (pc' := 168) rfl rfl rfl ?_
          refine j_iconst (pc' := 169) (x := (0 : Int32)) rfl rfl rfl ?_
          refine j_iconst (pc' := 170) (x := (0 : Int32)) rfl rfl rfl ?_
          refine j_callRv (pc' := 173) (ai := 228) (vs := [.ref 75, .int (0 : Int32), .int (0 : Int32)]) (rest := []) rfl rfl (fun _ _ => rfl) (c_X12_readComing (0 : Int32) (0 : Int32) σ24) (j_dd rfl hd) rfl (fun σ26 => ?_)
          refine j_goto (t := 263) rfl rfl ?_
          exact j_ret rfl rfl rfl (fun _ h => h)
        · refine j_aload_n (pc' := 177) rfl rfl rfl ?_
          refine j_ldcs (pc' := 179) (x := 2000014) rfl rfl rfl rfl ?_
          refine j_callRi (pc' := 182) (ai := 215) (vs := [.ref 75, .ref 2000014]) (rest := []) rfl rfl (fun _ _ => rfl) (c_X12_takes 2000014 σ24) (j_dd rfl hd) rfl (fun v28 σ27 => ?_)
          refine j_two (pT := 185) (pF := 194) (L1 := [some (.ref 75), none]) (st1 := []) (fun o kT kF => ?_) (fun h33 => ?_) (fun h33 => ?_)
          · refine j_ifeq (t := 194) (pc' := 185) rfl rfl rfl (fun h34 => ?_) (fun h34 => ?_)
            · exact kF (fun z => z h34)
            · exact kT h34
          · refine j_aload_n (pc' := 186) rfl rfl rfl ?_
            refine j_iconst (pc' := 187) (x := (1 : Int32)) rfl rfl rfl ?_
            refine j_iconst (pc' := 188) (x := (0 : Int32)) rfl rfl rfl ?_
            refine j_callRv (pc' := 191) (ai := 228) (vs := [.ref 75, .int (1 : Int32), .int (0 : Int32)]) (rest := []) rfl rfl (fun _ _ => rfl) (c_X12_readComing (1 : Int32) (0 : Int32) σ27) (j_dd rfl hd) rfl (fun σ29 => ?_)
            refine j_goto (t := 263) rfl rfl ?_
            exact j_ret rfl rfl rfl (fun _ h => h)
          · refine j_aload_n (pc' := 195) rfl rfl rfl ?_
            refine j_ldcs (pc' := 197) (x := 2000015) rfl rfl rfl rfl ?_
            refine j_callRi (pc' := 200) (ai := 215) (vs := [.ref 75, .ref 2000015]) (rest := []) rfl rfl (fun _ _ => rfl) (c_X12_takes 2000015 σ27) (j_dd rfl hd) rfl (fun v31 σ30 => ?_)
            refine j_two (pT := 203) (pF := 212) (L1 := [some (.ref 75), none]) (st1 := []) (fun o kT kF => ?_) (fun h31 => ?_) (fun h31 => ?_)
            · refine j_ifeq (t := 212) (pc' := 203) rfl rfl rfl (fun h32 => ?_) (fun h32 => ?_)
              · exact kF (fun z => z h32)
              · exact kT h32
            · refine j_aload_n (pc' := 204) rfl rfl rfl ?_
              refine j_iconst (pc' := 205) (x := (0 : Int32)) rfl rfl rfl ?_
              refine j_iconst (pc' := 206) (x := (1 : Int32)) rfl rfl rfl ?_
              refine j_callRv (pc' := 209) (ai := 228) (vs := [.ref 75, .int (0 : Int32), .int (1 : Int32)]) (rest := []) rfl rfl (fun _ _ => rfl) (c_X12_readComing (0 : Int32) (1 : Int32) σ30) (j_dd rfl hd) rfl (fun σ32 => ?_)
              refine j_goto (t := 263) rfl rfl ?_
              exact j_ret rfl rfl rfl (fun _ h => h)
            · refine j_aload_n (pc' := 213) rfl rfl rfl ?_
              refine j_ldcs (pc' := 215) (x := 2000018) rfl rfl rfl rfl ?_
              refine j_callRi (pc' := 218) (ai := 215) (vs := [.ref 75, .ref 2000018]) (rest := []) rfl rfl (fun _ _ => rfl) (c_X12_takes 2000018 σ30) (j_dd rfl hd) rfl (fun v34 σ33 => ?_)
              refine j_two (pT := 221) (pF := 228) (L1 := [some (.ref 75), none]) (st1 := []) (fun o kT kF => ?_) (fun h29 => ?_) (fun h29 => ?_)
              · refine j_ifeq (t := 228) (pc' := 221) rfl rfl rfl (fun h30 => ?_) (fun h30 => ?_)
                · exact kF (fun z => z h30)
                · exact kT h30
              · refine j_aload_n (pc' := 222) rfl rfl rfl ?_
                refine j_callRv (pc' := 225) (ai := 229) (vs := [.ref 75]) (rest := []) rfl rfl (fun _ _ => rfl) (c_X12_readPlayer  σ33) (j_dd rfl hd) rfl (fun σ35 => ?_)
                refine j_goto (t := 263) rfl rfl ?_
                exact j_ret rfl rfl rfl (fun _ h => h)
              · refine j_aload_n (pc' := 229) rfl rfl rfl ?_
                refine j_callRv (pc' := 232) (ai := 211) (vs := [.ref 75]) (rest := []) rfl rfl (fun _ _ => rfl) (c_X12_advance  σ33) (j_dd rfl hd) rfl (fun σ36 => ?_)
                refine j_aload_n (pc' := 233) rfl rfl rfl ?_
                refine j_gfr (pc' := 236) (x := 81) rfl rfl j_a75 rfl rfl ?_
                refine j_bipush (pc' := 238) (x := (10 : Int32)) rfl rfl rfl ?_
                refine j_aload_n (pc' := 239) rfl rfl rfl ?_
                refine j_iconst (pc' := 240) (x := (1 : Int32)) rfl rfl rfl ?_
                refine j_bipush (pc' := 242) (x := (99 : Int32)) rfl rfl rfl ?_
                refine j_callRi (pc' := 245) (ai := 217) (vs := [.ref 75, .int (1 : Int32), .int (99 : Int32)]) (rest := [.int (10 : Int32), .ref 81]) rfl rfl (fun _ _ => rfl) (c_X12_number (1 : Int32) (99 : Int32) σ36) (j_dd rfl hd) rfl (fun v38 σ37 => ?_)
                refine j_iast (pc' := 246) rfl rfl j_a81 (fun σ39 => ?_)
                refine j_aload_n (pc' := 247) rfl rfl rfl ?_
                refine j_gfr (pc' := 250) (x := 81) rfl rfl j_a75 rfl rfl ?_
                refine j_bipush (pc' := 252) (x := (11 : Int32)) rfl rfl rfl ?_
                refine j_aload_n (pc' := 253) rfl rfl rfl ?_
                refine j_ldcs (pc' := 255) (x := 2000026) rfl rfl rfl rfl ?_
                refine j_iconst (pc' := 256) (x := (1 : Int32)) rfl rfl rfl ?_
                refine j_sipush (pc' := 259) (x := (500 : Int32)) rfl rfl rfl ?_
                refine j_callRi (pc' := 262) (ai := 218) (vs := [.ref 75, .ref 2000026, .int (1 : Int32), .int (500 : Int32)]) (rest := [.int (11 : Int32), .ref 81]) rfl rfl (fun _ _ => rfl) (c_X12_told 2000026 (1 : Int32) (500 : Int32) σ39) (j_dd rfl hd) rfl (fun v41 σ40 => ?_)
                refine j_iast (pc' := 263) rfl rfl j_a81 (fun σ42 => ?_)
                exact j_ret rfl rfl rfl (fun _ h => h)

noncomputable def f_X12_readLine (σ : j_G) : Option j_G :=
  j_ix (9 : Int32) 116 (
  j_b1 (if (σ.1 81 ((9 : Int32)).toNatClampNeg) = 0 then (j_b1 (f_X12_readFirst σ) fun σ2 =>
  some σ2) else (j_b1 (f_X12_readNext σ) fun σ3 =>
  some σ3)) fun σ1 =>
  j_b1 (if (¬ (f_X12_good σ1) = 0) ∧ (¬ (σ1.1 75 10) = (3 : Int32)) then (j_b1 (f_X12_errs (1 : Int32) σ1) fun σ5 =>
  some σ5) else (some σ1)) fun σ4 =>
  j_b1 (if ¬ (f_X12_good σ4) = 0 then (j_b1 (f_X12_advance σ4) fun σ7 =>
  some σ7) else (some σ4)) fun σ6 =>
  j_ix (9 : Int32) 116 (
  j_ix (9 : Int32) 116 (
  j_lt (j_si σ6 81 ((9 : Int32)).toNatClampNeg ((σ6.1 81 ((9 : Int32)).toNatClampNeg) + (1 : Int32))) fun σ8 =>
  some σ8)))
theorem c_X12_readLine (σ : j_G) : j_K false 7 231 [.ref 75] σ (f_X12_readLine σ) j_Rv := by
  refine j_mkK (M := M_cX12_readLine) (L := [some (.ref 75)]) (m := 0) t_231 rfl (j_rcvO j_a75 rfl) rfl (fun d hd τ => ?_)
  unfold f_X12_readLine
  refine j_aload_n (pc' := 1) rfl rfl rfl ?_
  refine j_gfr (pc' := 4) (x := 81) rfl rfl j_a75 rfl rfl ?_
  refine j_bipush (pc' := 6) (x := (9 : Int32)) rfl rfl rfl ?_
  refine j_iald (pc' := 7) rfl rfl j_a81 ?_
  refine j_q1 (Φl := (fun r Q => j_Tr false τ M_cX12_readLine d 21 [some (.ref 75)] [] r Q)) ?_ (fun σ1 => ?_)
  · refine j_two (pT := 10) (pF := 17) (L1 := [some (.ref 75)]) (st1 := []) (fun o kT kF => ?_) (fun h1 => ?_) (fun h1 => ?_)
    · refine j_ifne (t := 17) (pc' := 10) rfl rfl rfl (fun h2 => ?_) (fun h2 => ?_)
      · exact kF h2
      · exact kT h2
    · refine j_aload_n (pc' := 11) rfl rfl rfl ?_
      refine j_callRv (pc' := 14) (ai := 221) (vs := [.ref 75]) (rest := []) rfl rfl (fun _ _ => rfl) (c_X12_readFirst  σ) (j_dd rfl hd) rfl (fun σ2 => ?_)
      refine j_goto (t := 21) rfl rfl ?_
      exact j_end (fun _ h => h)
    · refine j_aload_n (pc' := 18) rfl rfl rfl ?_
      refine j_callRv (pc' := 21) (ai := 230) (vs := [.ref 75]) (rest := []) rfl rfl (fun _ _ => rfl) (c_X12_readNext  σ) (j_dd rfl hd) rfl (fun σ3 => ?_)
      exact j_end (fun _ h => h)
  show j_J false τ M_cX12_readLine d 21 [some (.ref 75)] [] σ1 _ _
  refine j_aload_n (pc' := 22) rfl rfl rfl ?_
  refine j_callTi (pc' := 25) (ai := 212) (vs := [.ref 75]) (rest := []) rfl rfl (fun _ _ => rfl) (c_X12_good  σ1) (j_dd rfl hd) rfl ?_
  refine j_q1 (Φl := (fun r Q => j_Tr false τ M_cX12_readLine d 41 [some (.ref 75)] [] r Q)) ?_ (fun σ4 => ?_)
  · refine j_two (pT := 36) (pF := 41) (L1 := [some (.ref 75)]) (st1 := []) (fun o kT kF => ?_) (fun h3 => ?_) (fun h3 => ?_)
    · refine j_ifeq (t := 41) (pc' := 28) rfl rfl rfl (fun h4 => ?_) (fun h4 => ?_)
      · exact kF (fun z => z.1 h4)
      · refine j_aload_n (pc' := 29) rfl rfl rfl ?_
        refine j_gfi (pc' := 32) rfl rfl j_a75 rfl ?_
        refine j_iconst (pc' := 33) (x := (3 : Int32)) rfl rfl rfl ?_
        refine j_iceq (t := 41) (pc' := 36) rfl rfl rfl (fun h5 => ?_) (fun h5 => ?_)
        · exact kF (fun z => (fun z => z h5) z.2)
        · exact kT (⟨h4, h5⟩)
    · refine j_aload_n (pc' := 37) rfl rfl rfl ?_
      refine j_iconst (pc' := 38) (x := (1 : Int32)) rfl rfl rfl ?_
      refine j_callRv (pc' := 41) (ai := 213) (vs := [.ref 75, .int (1 : Int32)]) (rest := []) rfl rfl (fun _ _ => rfl) (c_X12_errs (1 : Int32) σ1) (j_dd rfl hd) rfl (fun σ5 => ?_)
      exact j_end (fun _ h => h)
    · exact j_end (fun _ h => h)
  show j_J false τ M_cX12_readLine d 41 [some (.ref 75)] [] σ4 _ _
  refine j_aload_n (pc' := 42) rfl rfl rfl ?_
  refine j_callTi (pc' := 45) (ai := 212) (vs := [.ref 75]) (rest := []) rfl rfl (fun _ _ => rfl) (c_X12_good  σ4) (j_dd rfl hd) rfl ?_
  refine j_q1 (Φl := (fun r Q => j_Tr false τ M_cX12_readLine d 52 [some (.ref 75)] [] r Q)) ?_ (fun σ6 => ?_)
  · refine j_two (pT := 48) (pF := 52) (L1 := [some (.ref 75)]) (st1 := []) (fun o kT kF => ?_) (fun h6 => ?_) (fun h6 => ?_)
    · refine j_ifeq (t := 52) (pc' := 48) rfl rfl rfl (fun h7 => ?_) (fun h7 => ?_)
      · exact kF (fun z => z h7)
      · exact kT h7
    · refine j_aload_n (pc' := 49) rfl rfl rfl ?_
      refine j_callRv (pc' := 52) (ai := 211) (vs := [.ref 75]) (rest := []) rfl rfl (fun _ _ => rfl) (c_X12_advance  σ4) (j_dd rfl hd) rfl (fun σ7 => ?_)
      exact j_end (fun _ h => h)
    · exact j_end (fun _ h => h)
  show j_J false τ M_cX12_readLine d 52 [some (.ref 75)] [] σ6 _ _
  refine j_aload_n (pc' := 53) rfl rfl rfl ?_
  refine j_gfr (pc' := 56) (x := 81) rfl rfl j_a75 rfl rfl ?_
  refine j_bipush (pc' := 58) (x := (9 : Int32)) rfl rfl rfl ?_
  refine j_dup2 (pc' := 59) rfl rfl rfl rfl ?_
  refine j_iald (pc' := 60) rfl rfl j_a81 ?_
  refine j_iconst (pc' := 61) (x := (1 : Int32)) rfl rfl rfl ?_
  refine j_iadd (pc' := 62) rfl rfl ?_
  refine j_iast (pc' := 63) rfl rfl j_a81 (fun σ8 => ?_)
  exact j_ret rfl rfl rfl (fun _ h => h)

noncomputable def p_X12_board_30 : Nat → Int32 → j_G → Option j_G
  | 0, _, _ => none
  | n + 1, l1, σ =>
    if l1 < (116 : Int32) then (j_ix l1 116 (
    j_lt (j_si σ 81 (l1).toNatClampNeg (0 : Int32)) fun σ1 =>
    p_X12_board_30 n (l1 + (1 : Int32)) σ1)) else (some σ)

noncomputable def p_X12_board_53 : Nat → j_G → Option j_G
  | 0, _ => none
  | n + 1, σ =>
    if (¬ (f_X12_good σ) = 0) ∧ (¬ (σ.1 75 10) = 0) then (j_b1 (f_X12_readLine σ) fun σ1 =>
    p_X12_board_53 n σ1) else (some σ)

noncomputable def p_X12_board_86 : Nat → Int32 → j_G → Option j_G
  | 0, _, _ => none
  | n + 1, l1, σ =>
    if l1 < (116 : Int32) then (j_ix l1 116 (
    j_ix l1 116 (
    j_lt (j_si σ 76 (l1).toNatClampNeg (σ.1 81 (l1).toNatClampNeg)) fun σ1 =>
    p_X12_board_86 n (l1 + (1 : Int32)) σ1))) else (some σ)

noncomputable def f_X12_board (σ : j_G) : Option (Int32 × j_G) :=
  j_lt (j_si σ 75 7 (σ.1 75 5)) fun σ1 =>
  j_lt (j_si σ1 75 5 (0 : Int32)) fun σ2 =>
  j_lt (j_si σ2 75 8 (0 : Int32)) fun σ3 =>
  j_lt (j_si σ3 75 12 (0 : Int32)) fun σ4 =>
  j_lt (j_si σ4 75 13 (-1 : Int32)) fun σ5 =>
  j_b1 (p_X12_board_30 j_F (0 : Int32) σ5) fun σ6 =>
  j_b1 (f_X12_advance σ6) fun σ7 =>
  j_b1 (p_X12_board_53 j_F σ7) fun σ8 =>
  if (f_X12_good σ8) = 0 then (some ((-4 : Int32), σ8)) else (j_b1 (p_X12_board_86 j_F (0 : Int32) σ8) fun σ9 =>
  j_ix (9 : Int32) 116 (
  some ((σ9.1 76 ((9 : Int32)).toNatClampNeg), σ9)))
theorem l_X12_board_30 {d : Nat} (hd : 8 ≤ d) (τ : j_G) : ∀ (n : Nat) (l1 : Int32) (σ : j_G), j_J false τ M_cX12_board d 30 [some (.ref 75), some (.int l1)] [] σ (p_X12_board_30 n l1 σ) (fun r Q => j_Tr false τ M_cX12_board d 49 [some (.ref 75), none] [] r Q) := by
  intro n
  induction n with
  | zero => intro l1 σ; exact j_none
  | succ n ih =>
    intro l1 σ
    unfold p_X12_board_30
    refine j_iload_n (pc' := 31) rfl rfl rfl ?_
    refine j_bipush (pc' := 33) (x := (116 : Int32)) rfl rfl rfl ?_
    refine j_two (pT := 36) (pF := 49) (L1 := [some (.ref 75), some (.int l1)]) (st1 := []) (fun o kT kF => ?_) (fun h1 => ?_) (fun h1 => ?_)
    · refine j_icge (t := 49) (pc' := 36) rfl rfl rfl (fun h2 => ?_) (fun h2 => ?_)
      · exact kF h2
      · exact kT h2
    · refine j_aload_n (pc' := 37) rfl rfl rfl ?_
      refine j_gfr (pc' := 40) (x := 81) rfl rfl j_a75 rfl rfl ?_
      refine j_iload_n (pc' := 41) rfl rfl rfl ?_
      refine j_iconst (pc' := 42) (x := (0 : Int32)) rfl rfl rfl ?_
      refine j_iast (pc' := 43) rfl rfl j_a81 (fun σ1 => ?_)
      refine j_iincx (pc' := 46) (y := (1 : Int32)) (L' := [some (.ref 75), some (.int (l1 + (1 : Int32)))]) rfl rfl rfl rfl rfl ?_
      refine j_goto (t := 30) rfl rfl ?_
      exact ih (l1 + (1 : Int32)) σ1
    · refine j_wk [true, false] (L' := [some (.ref 75), none]) rfl ?_
      exact j_end (fun _ h => h)

theorem l_X12_board_53 {d : Nat} (hd : 8 ≤ d) (τ : j_G) : ∀ (n : Nat) (σ : j_G), j_J false τ M_cX12_board d 53 [some (.ref 75), none] [] σ (p_X12_board_53 n σ) (fun r Q => j_Tr false τ M_cX12_board d 74 [some (.ref 75), none] [] r Q) := by
  intro n
  induction n with
  | zero => intro σ; exact j_none
  | succ n ih =>
    intro σ
    unfold p_X12_board_53
    refine j_aload_n (pc' := 54) rfl rfl rfl ?_
    refine j_callTi (pc' := 57) (ai := 212) (vs := [.ref 75]) (rest := []) rfl rfl (fun _ _ => rfl) (c_X12_good  σ) (j_dd rfl hd) rfl ?_
    refine j_two (pT := 67) (pF := 74) (L1 := [some (.ref 75), none]) (st1 := []) (fun o kT kF => ?_) (fun h1 => ?_) (fun h1 => ?_)
    · refine j_ifeq (t := 74) (pc' := 60) rfl rfl rfl (fun h2 => ?_) (fun h2 => ?_)
      · exact kF (fun z => z.1 h2)
      · refine j_aload_n (pc' := 61) rfl rfl rfl ?_
        refine j_gfi (pc' := 64) rfl rfl j_a75 rfl ?_
        refine j_ifeq (t := 74) (pc' := 67) rfl rfl rfl (fun h3 => ?_) (fun h3 => ?_)
        · exact kF (fun z => (fun z => z h3) z.2)
        · exact kT (⟨h2, h3⟩)
    · refine j_aload_n (pc' := 68) rfl rfl rfl ?_
      refine j_callRv (pc' := 71) (ai := 231) (vs := [.ref 75]) (rest := []) rfl rfl (fun _ _ => rfl) (c_X12_readLine  σ) (j_dd rfl hd) rfl (fun σ1 => ?_)
      refine j_goto (t := 53) rfl rfl ?_
      exact ih σ1
    · exact j_end (fun _ h => h)

theorem l_X12_board_86 {d : Nat} (hd : 8 ≤ d) (τ : j_G) : ∀ (n : Nat) (l1 : Int32) (σ : j_G), j_J false τ M_cX12_board d 86 [some (.ref 75), some (.int l1)] [] σ (p_X12_board_86 n l1 σ) (fun r Q => j_Tr false τ M_cX12_board d 110 [some (.ref 75), none] [] r Q) := by
  intro n
  induction n with
  | zero => intro l1 σ; exact j_none
  | succ n ih =>
    intro l1 σ
    unfold p_X12_board_86
    refine j_iload_n (pc' := 87) rfl rfl rfl ?_
    refine j_bipush (pc' := 89) (x := (116 : Int32)) rfl rfl rfl ?_
    refine j_two (pT := 92) (pF := 110) (L1 := [some (.ref 75), some (.int l1)]) (st1 := []) (fun o kT kF => ?_) (fun h1 => ?_) (fun h1 => ?_)
    · refine j_icge (t := 110) (pc' := 92) rfl rfl rfl (fun h2 => ?_) (fun h2 => ?_)
      · exact kF h2
      · exact kT h2
    · refine j_aload_n (pc' := 93) rfl rfl rfl ?_
      refine j_gfr (pc' := 96) (x := 76) rfl rfl j_a75 rfl rfl ?_
      refine j_iload_n (pc' := 97) rfl rfl rfl ?_
      refine j_aload_n (pc' := 98) rfl rfl rfl ?_
      refine j_gfr (pc' := 101) (x := 81) rfl rfl j_a75 rfl rfl ?_
      refine j_iload_n (pc' := 102) rfl rfl rfl ?_
      refine j_iald (pc' := 103) rfl rfl j_a81 ?_
      refine j_iast (pc' := 104) rfl rfl j_a76 (fun σ1 => ?_)
      refine j_iincx (pc' := 107) (y := (1 : Int32)) (L' := [some (.ref 75), some (.int (l1 + (1 : Int32)))]) rfl rfl rfl rfl rfl ?_
      refine j_goto (t := 86) rfl rfl ?_
      exact ih (l1 + (1 : Int32)) σ1
    · refine j_wk [true, false] (L' := [some (.ref 75), none]) rfl ?_
      exact j_end (fun _ h => h)

theorem c_X12_board (σ : j_G) : j_K false 8 232 [.ref 75] σ (f_X12_board σ) j_Ri := by
  refine j_mkK (M := M_cX12_board) (L := [some (.ref 75), none]) (m := 1) t_232 rfl (j_rcvO j_a75 rfl) rfl (fun d hd τ => ?_)
  unfold f_X12_board
  refine j_aload_n (pc' := 1) rfl rfl rfl ?_
  refine j_aload_n (pc' := 2) rfl rfl rfl ?_
  refine j_gfi (pc' := 5) rfl rfl j_a75 rfl ?_
  refine j_pfi (pc' := 8) rfl rfl j_a75 rfl rfl (fun σ1 => ?_)
  refine j_aload_n (pc' := 9) rfl rfl rfl ?_
  refine j_iconst (pc' := 10) (x := (0 : Int32)) rfl rfl rfl ?_
  refine j_pfi (pc' := 13) rfl rfl j_a75 rfl rfl (fun σ2 => ?_)
  refine j_aload_n (pc' := 14) rfl rfl rfl ?_
  refine j_iconst (pc' := 15) (x := (0 : Int32)) rfl rfl rfl ?_
  refine j_pfi (pc' := 18) rfl rfl j_a75 rfl rfl (fun σ3 => ?_)
  refine j_aload_n (pc' := 19) rfl rfl rfl ?_
  refine j_iconst (pc' := 20) (x := (0 : Int32)) rfl rfl rfl ?_
  refine j_pfi (pc' := 23) rfl rfl j_a75 rfl rfl (fun σ4 => ?_)
  refine j_aload_n (pc' := 24) rfl rfl rfl ?_
  refine j_iconst (pc' := 25) (x := (-1 : Int32)) rfl rfl rfl ?_
  refine j_pfi (pc' := 28) rfl rfl j_a75 rfl rfl (fun σ5 => ?_)
  refine j_iconst (pc' := 29) (x := (0 : Int32)) rfl rfl rfl ?_
  refine j_istore_n (pc' := 30) (L' := [some (.ref 75), some (.int (0 : Int32))]) rfl rfl rfl ?_
  refine j_q1 (l_X12_board_30 hd τ j_F (0 : Int32) σ5) (fun σ6 => ?_)
  show j_J false τ M_cX12_board d 49 [some (.ref 75), none] [] σ6 _ _
  refine j_aload_n (pc' := 50) rfl rfl rfl ?_
  refine j_callRv (pc' := 53) (ai := 211) (vs := [.ref 75]) (rest := []) rfl rfl (fun _ _ => rfl) (c_X12_advance  σ6) (j_dd rfl hd) rfl (fun σ7 => ?_)
  refine j_q1 (l_X12_board_53 hd τ j_F σ7) (fun σ8 => ?_)
  show j_J false τ M_cX12_board d 74 [some (.ref 75), none] [] σ8 _ _
  refine j_aload_n (pc' := 75) rfl rfl rfl ?_
  refine j_callTi (pc' := 78) (ai := 212) (vs := [.ref 75]) (rest := []) rfl rfl (fun _ _ => rfl) (c_X12_good  σ8) (j_dd rfl hd) rfl ?_
  refine j_two (pT := 81) (pF := 84) (L1 := [some (.ref 75), none]) (st1 := []) (fun o kT kF => ?_) (fun h1 => ?_) (fun h1 => ?_)
  · refine j_ifne (t := 84) (pc' := 81) rfl rfl rfl (fun h2 => ?_) (fun h2 => ?_)
    · exact kF h2
    · exact kT h2
  · refine j_bipush (pc' := 83) (x := (-4 : Int32)) rfl rfl rfl ?_
    exact j_ret rfl rfl rfl (fun _ h => h)
  · refine j_iconst (pc' := 85) (x := (0 : Int32)) rfl rfl rfl ?_
    refine j_istore_n (pc' := 86) (L' := [some (.ref 75), some (.int (0 : Int32))]) rfl rfl rfl ?_
    refine j_q1 (l_X12_board_86 hd τ j_F (0 : Int32) σ8) (fun σ9 => ?_)
    show j_J false τ M_cX12_board d 110 [some (.ref 75), none] [] σ9 _ _
    refine j_aload_n (pc' := 111) rfl rfl rfl ?_
    refine j_gfr (pc' := 114) (x := 76) rfl rfl j_a75 rfl rfl ?_
    refine j_bipush (pc' := 116) (x := (9 : Int32)) rfl rfl rfl ?_
    refine j_iald (pc' := 117) rfl rfl j_a76 ?_
    exact j_ret rfl rfl rfl (fun _ h => h)

noncomputable def f_X11_fault (l1 : Int32) (σ : j_G) : Int32 :=
  if l1 = 0 then ((σ.1 10 1)) else
  if l1 = 1 then ((σ.1 10 2)) else
  ((-1 : Int32))
theorem c_X11_fault (l1 : Int32) (σ : j_G) : j_K true 0 115 [.ref 0, .int l1] σ (some (f_X11_fault l1 σ)) (j_Pi σ) := by
  refine j_mkK (M := M_cX11_fault) (L := [some (.ref 0), some (.int l1)]) (m := 0) t_115 rfl (j_rcvO j_a0 rfl) rfl (fun d hd τ => ?_)
  unfold f_X11_fault
  refine j_iload_n (pc' := 1) rfl rfl rfl ?_
  refine j_splT (k := (0 : Int32)) (fun h1 => ?_) (fun h1 => ?_)
  · refine j_sw (t := 28) h1 rfl rfl (fun _ _ => rfl) ?_
    refine j_aload_n (pc' := 29) rfl rfl rfl ?_
    refine j_gfr (pc' := 32) (x := 10) rfl rfl j_a0 rfl rfl ?_
    refine j_gfi (pc' := 35) rfl rfl j_a10 rfl ?_
    exact j_ret rfl rfl rfl (fun _ h => h)
  refine j_splT (k := (1 : Int32)) (fun h2 => ?_) (fun h2 => ?_)
  · refine j_sw (t := 36) h2 rfl rfl (fun _ _ => rfl) ?_
    refine j_aload_n (pc' := 37) rfl rfl rfl ?_
    refine j_gfr (pc' := 40) (x := 10) rfl rfl j_a0 rfl rfl ?_
    refine j_gfi (pc' := 43) rfl rfl j_a10 rfl ?_
    exact j_ret rfl rfl rfl (fun _ h => h)
  refine j_lsd (t := 44) rfl (by decide) (by simp [Op.lookupswitch.offset, j_ne (0) (by decide) h1, (j_ne (0) (by decide) h1).symm, j_ne (1) (by decide) h2, (j_ne (1) (by decide) h2).symm]) rfl ?_
  refine j_iconst (pc' := 45) (x := (-1 : Int32)) rfl rfl rfl ?_
  exact j_ret rfl rfl rfl (fun _ h => h)

noncomputable def f_X12_fault (l1 : Int32) (σ : j_G) : Int32 :=
  if l1 = 0 then ((σ.1 75 12)) else (if l1 = (1 : Int32) then ((σ.1 75 13)) else ((-1 : Int32)))
theorem c_X12_fault (l1 : Int32) (σ : j_G) : j_K false 0 219 [.ref 75, .int l1] σ (some (f_X12_fault l1 σ)) (j_Pi σ) := by
  refine j_mkK (M := M_cX12_fault) (L := [some (.ref 75), some (.int l1)]) (m := 0) t_219 rfl (j_rcvO j_a75 rfl) rfl (fun d hd τ => ?_)
  unfold f_X12_fault
  refine j_iload_n (pc' := 1) rfl rfl rfl ?_
  refine j_twoT (pT := 4) (pF := 11) (L1 := [some (.ref 75), some (.int l1)]) (st1 := []) (fun o kT kF => ?_) (fun h3 => ?_) (fun h3 => ?_)
  · refine j_ifne (t := 11) (pc' := 4) rfl rfl rfl (fun h4 => ?_) (fun h4 => ?_)
    · exact kF h4
    · exact kT h4
  · refine j_aload_n (pc' := 5) rfl rfl rfl ?_
    refine j_gfi (pc' := 8) rfl rfl j_a75 rfl ?_
    refine j_goto (t := 24) rfl rfl ?_
    exact j_ret rfl rfl rfl (fun _ h => h)
  · refine j_iload_n (pc' := 12) rfl rfl rfl ?_
    refine j_iconst (pc' := 13) (x := (1 : Int32)) rfl rfl rfl ?_
    refine j_twoT (pT := 16) (pF := 23) (L1 := [some (.ref 75), some (.int l1)]) (st1 := []) (fun o kT kF => ?_) (fun h1 => ?_) (fun h1 => ?_)
    · refine j_icne (t := 23) (pc' := 16) rfl rfl rfl (fun h2 => ?_) (fun h2 => ?_)
      · exact kF h2
      · exact kT h2
    · refine j_aload_n (pc' := 17) rfl rfl rfl ?_
      refine j_gfi (pc' := 20) rfl rfl j_a75 rfl ?_
      refine j_goto (t := 24) rfl rfl ?_
      exact j_ret rfl rfl rfl (fun _ h => h)
    · refine j_iconst (pc' := 24) (x := (-1 : Int32)) rfl rfl rfl ?_
      exact j_ret rfl rfl rfl (fun _ h => h)

noncomputable def f_X3_has (l1 : Int32) (σ : j_G) : Int32 :=
  if (¬ l1 < 0) ∧ (l1 < (σ.1 5 0)) then ((1 : Int32)) else ((0 : Int32))

theorem b_X3_has (l1 : Int32) (σ : j_G) : f_X3_has l1 σ = 0 ∨ f_X3_has l1 σ = 1 := by
  unfold f_X3_has
  repeat' split
  all_goals first | exact Or.inl rfl | exact Or.inr rfl
theorem c_X3_has (l1 : Int32) (σ : j_G) : j_K true 0 31 [.ref 5, .int l1] σ (some (f_X3_has l1 σ)) (j_Pi σ) := by
  refine j_mkK (M := M_cX3_has) (L := [some (.ref 5), some (.int l1)]) (m := 0) t_31 rfl (j_rcvO j_a5 rfl) rfl (fun d hd τ => ?_)
  unfold f_X3_has
  refine j_iload_n (pc' := 1) rfl rfl rfl ?_
  refine j_twoT (pT := 12) (pF := 16) (L1 := [some (.ref 5), some (.int l1)]) (st1 := []) (fun o kT kF => ?_) (fun h1 => ?_) (fun h1 => ?_)
  · refine j_iflt (t := 16) (pc' := 4) rfl rfl rfl (fun h2 => ?_) (fun h2 => ?_)
    · exact kF (fun z => z.1 h2)
    · refine j_iload_n (pc' := 5) rfl rfl rfl ?_
      refine j_aload_n (pc' := 6) rfl rfl rfl ?_
      refine j_gfi (pc' := 9) rfl rfl j_a5 rfl ?_
      refine j_icge (t := 16) (pc' := 12) rfl rfl rfl (fun h3 => ?_) (fun h3 => ?_)
      · exact kF (fun z => (h3) z.2)
      · exact kT (⟨h2, h3⟩)
  · refine j_iconst (pc' := 13) (x := (1 : Int32)) rfl rfl rfl ?_
    refine j_goto (t := 17) rfl rfl ?_
    exact j_ret rfl rfl rfl (fun _ h => h)
  · refine j_iconst (pc' := 17) (x := (0 : Int32)) rfl rfl rfl ?_
    exact j_ret rfl rfl rfl (fun _ h => h)

noncomputable def f_X11_drum (l1 : Int32) (l2 : Int32) (σ : j_G) : Option Int32 :=
  if (f_X3_has l1 σ) = 0 then (some (-2 : Int32)) else (if l2 = 0 then (j_ix l1 24 (
  some (σ.1 6 (l1).toNatClampNeg))) else
  if l2 = 1 then (j_ix l1 24 (
  some (σ.1 7 (l1).toNatClampNeg))) else
  if l2 = 2 then (j_ix l1 24 (
  some (σ.1 8 (l1).toNatClampNeg))) else
  (some (-2 : Int32)))
theorem c_X11_drum (l1 : Int32) (l2 : Int32) (σ : j_G) : j_K true 1 116 [.ref 0, .int l1, .int l2] σ (f_X11_drum l1 l2 σ) (j_Pi σ) := by
  refine j_mkK (M := M_cX11_drum) (L := [some (.ref 0), some (.int l1), some (.int l2)]) (m := 0) t_116 rfl (j_rcvO j_a0 rfl) rfl (fun d hd τ => ?_)
  unfold f_X11_drum
  refine j_aload_n (pc' := 1) rfl rfl rfl ?_
  refine j_gfr (pc' := 4) (x := 1) rfl rfl j_a0 rfl rfl ?_
  refine j_gfr (pc' := 7) (x := 5) rfl rfl j_a1 rfl rfl ?_
  refine j_iload_n (pc' := 8) rfl rfl rfl ?_
  refine j_callTi (pc' := 11) (ai := 31) (vs := [.ref 5, .int l1]) (rest := []) rfl rfl (fun _ _ => rfl) (c_X3_has l1 σ) (j_dd rfl hd) rfl ?_
  refine j_two (pT := 14) (pF := 17) (L1 := [some (.ref 0), some (.int l1), some (.int l2)]) (st1 := []) (fun o kT kF => ?_) (fun h4 => ?_) (fun h4 => ?_)
  · refine j_ifne (t := 17) (pc' := 14) rfl rfl rfl (fun h5 => ?_) (fun h5 => ?_)
    · exact kF h5
    · exact kT h5
  · refine j_bipush (pc' := 16) (x := (-2 : Int32)) rfl rfl rfl ?_
    exact j_ret rfl rfl rfl (fun _ h => h)
  · refine j_iload_n (pc' := 18) rfl rfl rfl ?_
    refine j_spl (k := (0 : Int32)) (fun h1 => ?_) (fun h1 => ?_)
    · refine j_sw (t := 44) h1 rfl rfl (fun _ _ => rfl) ?_
      refine j_aload_n (pc' := 45) rfl rfl rfl ?_
      refine j_gfr (pc' := 48) (x := 1) rfl rfl j_a0 rfl rfl ?_
      refine j_gfr (pc' := 51) (x := 5) rfl rfl j_a1 rfl rfl ?_
      refine j_gfr (pc' := 54) (x := 6) rfl rfl j_a5 rfl rfl ?_
      refine j_iload_n (pc' := 55) rfl rfl rfl ?_
      refine j_iald (pc' := 56) rfl rfl j_a6 ?_
      exact j_ret rfl rfl rfl (fun _ h => h)
    refine j_spl (k := (1 : Int32)) (fun h2 => ?_) (fun h2 => ?_)
    · refine j_sw (t := 57) h2 rfl rfl (fun _ _ => rfl) ?_
      refine j_aload_n (pc' := 58) rfl rfl rfl ?_
      refine j_gfr (pc' := 61) (x := 1) rfl rfl j_a0 rfl rfl ?_
      refine j_gfr (pc' := 64) (x := 5) rfl rfl j_a1 rfl rfl ?_
      refine j_gfr (pc' := 67) (x := 7) rfl rfl j_a5 rfl rfl ?_
      refine j_iload_n (pc' := 68) rfl rfl rfl ?_
      refine j_iald (pc' := 69) rfl rfl j_a7 ?_
      exact j_ret rfl rfl rfl (fun _ h => h)
    refine j_spl (k := (2 : Int32)) (fun h3 => ?_) (fun h3 => ?_)
    · refine j_sw (t := 70) h3 rfl rfl (fun _ _ => rfl) ?_
      refine j_aload_n (pc' := 71) rfl rfl rfl ?_
      refine j_gfr (pc' := 74) (x := 1) rfl rfl j_a0 rfl rfl ?_
      refine j_gfr (pc' := 77) (x := 5) rfl rfl j_a1 rfl rfl ?_
      refine j_gfr (pc' := 80) (x := 8) rfl rfl j_a5 rfl rfl ?_
      refine j_iload_n (pc' := 81) rfl rfl rfl ?_
      refine j_iald (pc' := 82) rfl rfl j_a8 ?_
      exact j_ret rfl rfl rfl (fun _ h => h)
    have eh1 := j_ne (0) (by decide) h1
    have eh2 := j_ne (1) (by decide) h2
    have eh3 := j_ne (2) (by decide) h3
    refine j_tsd (t := 83) rfl (by omega) rfl ?_
    refine j_bipush (pc' := 85) (x := (-2 : Int32)) rfl rfl rfl ?_
    exact j_ret rfl rfl rfl (fun _ h => h)

noncomputable def f_X12_isComing (l1 : Int32) (σ : j_G) : Option Int32 :=
  j_ix (5 : Int32) 116 (
  j_bo (f_X12_in (l1).toInt64 (0 : Int64) (((σ.1 76 ((5 : Int32)).toNatClampNeg) - (1 : Int32))).toInt64) (
  some (f_X12_in (l1).toInt64 (0 : Int64) (((σ.1 76 ((5 : Int32)).toNatClampNeg) - (1 : Int32))).toInt64)))
theorem c_X12_isComing (l1 : Int32) (σ : j_G) : j_K false 1 204 [.ref 75, .int l1] σ (f_X12_isComing l1 σ) (j_Pi σ) := by
  refine j_mkK (M := M_cX12_isComing) (L := [some (.ref 75), some (.int l1)]) (m := 0) t_204 rfl (j_rcvO j_a75 rfl) rfl (fun d hd τ => ?_)
  unfold f_X12_isComing
  refine j_iload_n (pc' := 1) rfl rfl rfl ?_
  refine j_i2l (pc' := 2) rfl rfl ?_
  refine j_lconst (pc' := 3) (x := (0 : Int64)) rfl rfl rfl ?_
  refine j_aload_n (pc' := 4) rfl rfl rfl ?_
  refine j_gfr (pc' := 7) (x := 76) rfl rfl j_a75 rfl rfl ?_
  refine j_iconst (pc' := 8) (x := (5 : Int32)) rfl rfl rfl ?_
  refine j_iald (pc' := 9) rfl rfl j_a76 ?_
  refine j_iconst (pc' := 10) (x := (1 : Int32)) rfl rfl rfl ?_
  refine j_isub (pc' := 11) rfl rfl ?_
  refine j_i2l (pc' := 12) rfl rfl ?_
  refine j_callTi (pc' := 15) (ai := 196) (vs := [.long (l1).toInt64, .long (0 : Int64), .long (((σ.1 76 ((5 : Int32)).toNatClampNeg) - (1 : Int32))).toInt64]) (rest := []) rfl rfl (fun _ _ => rfl) (c_X12_in (l1).toInt64 (0 : Int64) (((σ.1 76 ((5 : Int32)).toNatClampNeg) - (1 : Int32))).toInt64 σ) (j_dd rfl hd) rfl ?_
  refine j_boJ (fun h1 => ?_)
  exact j_retb rfl rfl h1 (fun _ h => h)

noncomputable def f_X12_ofComing (l1 : Int32) (l2 : Int32) (σ : j_G) : Option Int32 :=
  j_ix (((24 : Int32) + ((3 : Int32) * l1)) + l2) 116 (
  some (σ.1 76 ((((24 : Int32) + ((3 : Int32) * l1)) + l2)).toNatClampNeg))
theorem c_X12_ofComing (l1 : Int32) (l2 : Int32) (σ : j_G) : j_K false 0 206 [.ref 75, .int l1, .int l2] σ (f_X12_ofComing l1 l2 σ) (j_Pi σ) := by
  refine j_mkK (M := M_cX12_ofComing) (L := [some (.ref 75), some (.int l1), some (.int l2)]) (m := 0) t_206 rfl (j_rcvO j_a75 rfl) rfl (fun d hd τ => ?_)
  unfold f_X12_ofComing
  refine j_aload_n (pc' := 1) rfl rfl rfl ?_
  refine j_gfr (pc' := 4) (x := 76) rfl rfl j_a75 rfl rfl ?_
  refine j_bipush (pc' := 6) (x := (24 : Int32)) rfl rfl rfl ?_
  refine j_iconst (pc' := 7) (x := (3 : Int32)) rfl rfl rfl ?_
  refine j_iload_n (pc' := 8) rfl rfl rfl ?_
  refine j_imul (pc' := 9) rfl rfl ?_
  refine j_iadd (pc' := 10) rfl rfl ?_
  refine j_iload_n (pc' := 11) rfl rfl rfl ?_
  refine j_iadd (pc' := 12) rfl rfl ?_
  refine j_iald (pc' := 13) rfl rfl j_a76 ?_
  exact j_ret rfl rfl rfl (fun _ h => h)

noncomputable def f_X12_drum (l1 : Int32) (l2 : Int32) (σ : j_G) : Option Int32 :=
  j_b1 (f_X12_isComing l1 σ) fun v1 =>
  if (¬ v1 = 0) ∧ (¬ (f_X12_in (l2).toInt64 (0 : Int64) (2 : Int64)) = 0) then (j_b1 (f_X12_ofComing l1 l2 σ) fun v2 =>
  some v2) else (some (-2 : Int32))
theorem c_X12_drum (l1 : Int32) (l2 : Int32) (σ : j_G) : j_K false 2 239 [.ref 75, .int l1, .int l2] σ (f_X12_drum l1 l2 σ) (j_Pi σ) := by
  refine j_mkK (M := M_cX12_drum) (L := [some (.ref 75), some (.int l1), some (.int l2)]) (m := 0) t_239 rfl (j_rcvO j_a75 rfl) rfl (fun d hd τ => ?_)
  unfold f_X12_drum
  refine j_aload_n (pc' := 1) rfl rfl rfl ?_
  refine j_iload_n (pc' := 2) rfl rfl rfl ?_
  refine j_callPi (pc' := 5) (ai := 204) (vs := [.ref 75, .int l1]) (rest := []) rfl rfl (fun _ _ => rfl) (c_X12_isComing l1 σ) (j_dd rfl hd) rfl (fun v1 => ?_)
  refine j_two (pT := 20) (pF := 29) (L1 := [some (.ref 75), some (.int l1), some (.int l2)]) (st1 := []) (fun o kT kF => ?_) (fun h1 => ?_) (fun h1 => ?_)
  · refine j_ifeq (t := 29) (pc' := 8) rfl rfl rfl (fun h2 => ?_) (fun h2 => ?_)
    · exact kF (fun z => z.1 h2)
    · refine j_iload_n (pc' := 9) rfl rfl rfl ?_
      refine j_i2l (pc' := 10) rfl rfl ?_
      refine j_lconst (pc' := 11) (x := (0 : Int64)) rfl rfl rfl ?_
      refine j_ldc2_w (pc' := 14) (x := (2 : Int64)) rfl rfl rfl ?_
      refine j_callTi (pc' := 17) (ai := 196) (vs := [.long (l2).toInt64, .long (0 : Int64), .long (2 : Int64)]) (rest := []) rfl rfl (fun _ _ => rfl) (c_X12_in (l2).toInt64 (0 : Int64) (2 : Int64) σ) (j_dd rfl hd) rfl ?_
      refine j_ifeq (t := 29) (pc' := 20) rfl rfl rfl (fun h3 => ?_) (fun h3 => ?_)
      · exact kF (fun z => (fun z => z h3) z.2)
      · exact kT (⟨h2, h3⟩)
  · refine j_aload_n (pc' := 21) rfl rfl rfl ?_
    refine j_iload_n (pc' := 22) rfl rfl rfl ?_
    refine j_iload_n (pc' := 23) rfl rfl rfl ?_
    refine j_callPi (pc' := 26) (ai := 206) (vs := [.ref 75, .int l1, .int l2]) (rest := []) rfl rfl (fun _ _ => rfl) (c_X12_ofComing l1 l2 σ) (j_dd rfl hd) rfl (fun v2 => ?_)
    refine j_goto (t := 31) rfl rfl ?_
    exact j_ret rfl rfl rfl (fun _ h => h)
  · refine j_bipush (pc' := 31) (x := (-2 : Int32)) rfl rfl rfl ?_
    exact j_ret rfl rfl rfl (fun _ h => h)

noncomputable def f_X2_isPlayer (l1 : Int32) (σ : j_G) : Int32 :=
  if (¬ l1 < 0) ∧ (l1 < (σ.1 1 7)) then ((1 : Int32)) else ((0 : Int32))

theorem b_X2_isPlayer (l1 : Int32) (σ : j_G) : f_X2_isPlayer l1 σ = 0 ∨ f_X2_isPlayer l1 σ = 1 := by
  unfold f_X2_isPlayer
  repeat' split
  all_goals first | exact Or.inl rfl | exact Or.inr rfl
theorem c_X2_isPlayer (l1 : Int32) (σ : j_G) : j_K true 0 15 [.ref 1, .int l1] σ (some (f_X2_isPlayer l1 σ)) (j_Pi σ) := by
  refine j_mkK (M := M_cX2_isPlayer) (L := [some (.ref 1), some (.int l1)]) (m := 0) t_15 rfl (j_rcvO j_a1 rfl) rfl (fun d hd τ => ?_)
  unfold f_X2_isPlayer
  refine j_iload_n (pc' := 1) rfl rfl rfl ?_
  refine j_twoT (pT := 12) (pF := 16) (L1 := [some (.ref 1), some (.int l1)]) (st1 := []) (fun o kT kF => ?_) (fun h1 => ?_) (fun h1 => ?_)
  · refine j_iflt (t := 16) (pc' := 4) rfl rfl rfl (fun h2 => ?_) (fun h2 => ?_)
    · exact kF (fun z => z.1 h2)
    · refine j_iload_n (pc' := 5) rfl rfl rfl ?_
      refine j_aload_n (pc' := 6) rfl rfl rfl ?_
      refine j_gfi (pc' := 9) rfl rfl j_a1 rfl ?_
      refine j_icge (t := 16) (pc' := 12) rfl rfl rfl (fun h3 => ?_) (fun h3 => ?_)
      · exact kF (fun z => (h3) z.2)
      · exact kT (⟨h2, h3⟩)
  · refine j_iconst (pc' := 13) (x := (1 : Int32)) rfl rfl rfl ?_
    refine j_goto (t := 17) rfl rfl ?_
    exact j_ret rfl rfl rfl (fun _ h => h)
  · refine j_iconst (pc' := 17) (x := (0 : Int32)) rfl rfl rfl ?_
    exact j_ret rfl rfl rfl (fun _ h => h)

noncomputable def f_X2_trait (l1 : Int32) (l2 : Int32) (σ : j_G) : Option Int32 :=
  j_lt ((l1 * (5 : Int32)) + l2) fun v1 =>
  if (¬ v1 < 0) ∧ (v1 < (20 : Int32)) then (j_ix v1 20 (
  some (σ.1 4 (v1).toNatClampNeg))) else (some (0 : Int32))
theorem c_X2_trait (l1 : Int32) (l2 : Int32) (σ : j_G) : j_K true 0 24 [.ref 1, .int l1, .int l2] σ (f_X2_trait l1 l2 σ) (j_Pi σ) := by
  refine j_mkK (M := M_cX2_trait) (L := [some (.ref 1), some (.int l1), some (.int l2), none]) (m := 1) t_24 rfl (j_rcvO j_a1 rfl) rfl (fun d hd τ => ?_)
  unfold f_X2_trait
  refine j_iload_n (pc' := 1) rfl rfl rfl ?_
  refine j_iconst (pc' := 2) (x := (5 : Int32)) rfl rfl rfl ?_
  refine j_imul (pc' := 3) rfl rfl ?_
  refine j_iload_n (pc' := 4) rfl rfl rfl ?_
  refine j_iadd (pc' := 5) rfl rfl ?_
  refine j_leti (fun v1 => ?_)
  refine j_istore_n (pc' := 6) (L' := [some (.ref 1), some (.int l1), some (.int l2), some (.int v1)]) rfl rfl rfl ?_
  refine j_iload_n (pc' := 7) rfl rfl rfl ?_
  refine j_two (pT := 19) (pF := 28) (L1 := [some (.ref 1), some (.int l1), some (.int l2), some (.int v1)]) (st1 := []) (fun o kT kF => ?_) (fun h1 => ?_) (fun h1 => ?_)
  · refine j_iflt (t := 28) (pc' := 10) rfl rfl rfl (fun h2 => ?_) (fun h2 => ?_)
    · exact kF (fun z => z.1 h2)
    · refine j_iload_n (pc' := 11) rfl rfl rfl ?_
      refine j_aload_n (pc' := 12) rfl rfl rfl ?_
      refine j_gfr (pc' := 15) (x := 4) rfl rfl j_a1 rfl rfl ?_
      refine j_alen (pc' := 16) (v := (20 : Int32)) rfl rfl j_a4 rfl ?_
      refine j_icge (t := 28) (pc' := 19) rfl rfl rfl (fun h3 => ?_) (fun h3 => ?_)
      · exact kF (fun z => (h3) z.2)
      · exact kT (⟨h2, h3⟩)
  · refine j_aload_n (pc' := 20) rfl rfl rfl ?_
    refine j_gfr (pc' := 23) (x := 4) rfl rfl j_a1 rfl rfl ?_
    refine j_iload_n (pc' := 24) rfl rfl rfl ?_
    refine j_iald (pc' := 25) rfl rfl j_a4 ?_
    refine j_goto (t := 29) rfl rfl ?_
    exact j_ret rfl rfl rfl (fun _ h => h)
  · refine j_iconst (pc' := 29) (x := (0 : Int32)) rfl rfl rfl ?_
    exact j_ret rfl rfl rfl (fun _ h => h)

noncomputable def f_X11_player (l1 : Int32) (l2 : Int32) (σ : j_G) : Option Int32 :=
  if ((f_X2_isPlayer l1 σ) = 0) ∨ ((l2 < 0) ∨ (¬ l2 < (5 : Int32))) then (some (-2 : Int32)) else (j_b1 (f_X2_trait l1 l2 σ) fun v1 =>
  some v1)
theorem c_X11_player (l1 : Int32) (l2 : Int32) (σ : j_G) : j_K true 1 117 [.ref 0, .int l1, .int l2] σ (f_X11_player l1 l2 σ) (j_Pi σ) := by
  refine j_mkK (M := M_cX11_player) (L := [some (.ref 0), some (.int l1), some (.int l2)]) (m := 0) t_117 rfl (j_rcvO j_a0 rfl) rfl (fun d hd τ => ?_)
  unfold f_X11_player
  refine j_aload_n (pc' := 1) rfl rfl rfl ?_
  refine j_gfr (pc' := 4) (x := 1) rfl rfl j_a0 rfl rfl ?_
  refine j_iload_n (pc' := 5) rfl rfl rfl ?_
  refine j_callTi (pc' := 8) (ai := 15) (vs := [.ref 1, .int l1]) (rest := []) rfl rfl (fun _ _ => rfl) (c_X2_isPlayer l1 σ) (j_dd rfl hd) rfl ?_
  refine j_two (pT := 20) (pF := 23) (L1 := [some (.ref 0), some (.int l1), some (.int l2)]) (st1 := []) (fun o kT kF => ?_) (fun h1 => ?_) (fun h1 => ?_)
  · refine j_ifeq (t := 20) (pc' := 11) rfl rfl rfl (fun h2 => ?_) (fun h2 => ?_)
    · exact kT (Or.inl h2)
    · refine j_iload_n (pc' := 12) rfl rfl rfl ?_
      refine j_iflt (t := 20) (pc' := 15) rfl rfl rfl (fun h3 => ?_) (fun h3 => ?_)
      · exact kT (Or.inr (Or.inl h3))
      · refine j_iload_n (pc' := 16) rfl rfl rfl ?_
        refine j_iconst (pc' := 17) (x := (5 : Int32)) rfl rfl rfl ?_
        refine j_iclt (t := 23) (pc' := 20) rfl rfl rfl (fun h4 => ?_) (fun h4 => ?_)
        · exact kF (fun z => z.elim h2 (fun z => z.elim h3 (fun z => z h4)))
        · exact kT (Or.inr (Or.inr (h4)))
  · refine j_bipush (pc' := 22) (x := (-2 : Int32)) rfl rfl rfl ?_
    exact j_ret rfl rfl rfl (fun _ h => h)
  · refine j_aload_n (pc' := 24) rfl rfl rfl ?_
    refine j_gfr (pc' := 27) (x := 1) rfl rfl j_a0 rfl rfl ?_
    refine j_iload_n (pc' := 28) rfl rfl rfl ?_
    refine j_iload_n (pc' := 29) rfl rfl rfl ?_
    refine j_callPi (pc' := 32) (ai := 24) (vs := [.ref 1, .int l1, .int l2]) (rest := []) rfl rfl (fun _ _ => rfl) (c_X2_trait l1 l2 σ) (j_dd rfl hd) rfl (fun v1 => ?_)
    exact j_ret rfl rfl rfl (fun _ h => h)

noncomputable def f_X12_isPlayer (l1 : Int32) (σ : j_G) : Option Int32 :=
  j_ix (6 : Int32) 116 (
  j_bo (f_X12_in (l1).toInt64 (0 : Int64) (((σ.1 76 ((6 : Int32)).toNatClampNeg) - (1 : Int32))).toInt64) (
  some (f_X12_in (l1).toInt64 (0 : Int64) (((σ.1 76 ((6 : Int32)).toNatClampNeg) - (1 : Int32))).toInt64)))
theorem c_X12_isPlayer (l1 : Int32) (σ : j_G) : j_K false 1 205 [.ref 75, .int l1] σ (f_X12_isPlayer l1 σ) (j_Pi σ) := by
  refine j_mkK (M := M_cX12_isPlayer) (L := [some (.ref 75), some (.int l1)]) (m := 0) t_205 rfl (j_rcvO j_a75 rfl) rfl (fun d hd τ => ?_)
  unfold f_X12_isPlayer
  refine j_iload_n (pc' := 1) rfl rfl rfl ?_
  refine j_i2l (pc' := 2) rfl rfl ?_
  refine j_lconst (pc' := 3) (x := (0 : Int64)) rfl rfl rfl ?_
  refine j_aload_n (pc' := 4) rfl rfl rfl ?_
  refine j_gfr (pc' := 7) (x := 76) rfl rfl j_a75 rfl rfl ?_
  refine j_bipush (pc' := 9) (x := (6 : Int32)) rfl rfl rfl ?_
  refine j_iald (pc' := 10) rfl rfl j_a76 ?_
  refine j_iconst (pc' := 11) (x := (1 : Int32)) rfl rfl rfl ?_
  refine j_isub (pc' := 12) rfl rfl ?_
  refine j_i2l (pc' := 13) rfl rfl ?_
  refine j_callTi (pc' := 16) (ai := 196) (vs := [.long (l1).toInt64, .long (0 : Int64), .long (((σ.1 76 ((6 : Int32)).toNatClampNeg) - (1 : Int32))).toInt64]) (rest := []) rfl rfl (fun _ _ => rfl) (c_X12_in (l1).toInt64 (0 : Int64) (((σ.1 76 ((6 : Int32)).toNatClampNeg) - (1 : Int32))).toInt64 σ) (j_dd rfl hd) rfl ?_
  refine j_boJ (fun h1 => ?_)
  exact j_retb rfl rfl h1 (fun _ h => h)

noncomputable def f_X12_of (l1 : Int32) (l2 : Int32) (σ : j_G) : Option Int32 :=
  j_ix (((96 : Int32) + ((5 : Int32) * l1)) + l2) 116 (
  some (σ.1 76 ((((96 : Int32) + ((5 : Int32) * l1)) + l2)).toNatClampNeg))
theorem c_X12_of (l1 : Int32) (l2 : Int32) (σ : j_G) : j_K false 0 207 [.ref 75, .int l1, .int l2] σ (f_X12_of l1 l2 σ) (j_Pi σ) := by
  refine j_mkK (M := M_cX12_of) (L := [some (.ref 75), some (.int l1), some (.int l2)]) (m := 0) t_207 rfl (j_rcvO j_a75 rfl) rfl (fun d hd τ => ?_)
  unfold f_X12_of
  refine j_aload_n (pc' := 1) rfl rfl rfl ?_
  refine j_gfr (pc' := 4) (x := 76) rfl rfl j_a75 rfl rfl ?_
  refine j_bipush (pc' := 6) (x := (96 : Int32)) rfl rfl rfl ?_
  refine j_iconst (pc' := 7) (x := (5 : Int32)) rfl rfl rfl ?_
  refine j_iload_n (pc' := 8) rfl rfl rfl ?_
  refine j_imul (pc' := 9) rfl rfl ?_
  refine j_iadd (pc' := 10) rfl rfl ?_
  refine j_iload_n (pc' := 11) rfl rfl rfl ?_
  refine j_iadd (pc' := 12) rfl rfl ?_
  refine j_iald (pc' := 13) rfl rfl j_a76 ?_
  exact j_ret rfl rfl rfl (fun _ h => h)

noncomputable def f_X12_player (l1 : Int32) (l2 : Int32) (σ : j_G) : Option Int32 :=
  j_b1 (f_X12_isPlayer l1 σ) fun v1 =>
  if (¬ v1 = 0) ∧ (¬ (f_X12_in (l2).toInt64 (0 : Int64) (4 : Int64)) = 0) then (j_b1 (f_X12_of l1 l2 σ) fun v2 =>
  some v2) else (some (-2 : Int32))
theorem c_X12_player (l1 : Int32) (l2 : Int32) (σ : j_G) : j_K false 2 240 [.ref 75, .int l1, .int l2] σ (f_X12_player l1 l2 σ) (j_Pi σ) := by
  refine j_mkK (M := M_cX12_player) (L := [some (.ref 75), some (.int l1), some (.int l2)]) (m := 0) t_240 rfl (j_rcvO j_a75 rfl) rfl (fun d hd τ => ?_)
  unfold f_X12_player
  refine j_aload_n (pc' := 1) rfl rfl rfl ?_
  refine j_iload_n (pc' := 2) rfl rfl rfl ?_
  refine j_callPi (pc' := 5) (ai := 205) (vs := [.ref 75, .int l1]) (rest := []) rfl rfl (fun _ _ => rfl) (c_X12_isPlayer l1 σ) (j_dd rfl hd) rfl (fun v1 => ?_)
  refine j_two (pT := 20) (pF := 29) (L1 := [some (.ref 75), some (.int l1), some (.int l2)]) (st1 := []) (fun o kT kF => ?_) (fun h1 => ?_) (fun h1 => ?_)
  · refine j_ifeq (t := 29) (pc' := 8) rfl rfl rfl (fun h2 => ?_) (fun h2 => ?_)
    · exact kF (fun z => z.1 h2)
    · refine j_iload_n (pc' := 9) rfl rfl rfl ?_
      refine j_i2l (pc' := 10) rfl rfl ?_
      refine j_lconst (pc' := 11) (x := (0 : Int64)) rfl rfl rfl ?_
      refine j_ldc2_w (pc' := 14) (x := (4 : Int64)) rfl rfl rfl ?_
      refine j_callTi (pc' := 17) (ai := 196) (vs := [.long (l2).toInt64, .long (0 : Int64), .long (4 : Int64)]) (rest := []) rfl rfl (fun _ _ => rfl) (c_X12_in (l2).toInt64 (0 : Int64) (4 : Int64) σ) (j_dd rfl hd) rfl ?_
      refine j_ifeq (t := 29) (pc' := 20) rfl rfl rfl (fun h3 => ?_) (fun h3 => ?_)
      · exact kF (fun z => (fun z => z h3) z.2)
      · exact kT (⟨h2, h3⟩)
  · refine j_aload_n (pc' := 21) rfl rfl rfl ?_
    refine j_iload_n (pc' := 22) rfl rfl rfl ?_
    refine j_iload_n (pc' := 23) rfl rfl rfl ?_
    refine j_callPi (pc' := 26) (ai := 207) (vs := [.ref 75, .int l1, .int l2]) (rest := []) rfl rfl (fun _ _ => rfl) (c_X12_of l1 l2 σ) (j_dd rfl hd) rfl (fun v2 => ?_)
    refine j_goto (t := 31) rfl rfl ?_
    exact j_ret rfl rfl rfl (fun _ h => h)
  · refine j_bipush (pc' := 31) (x := (-2 : Int32)) rfl rfl rfl ?_
    exact j_ret rfl rfl rfl (fun _ h => h)

theorem c_X2_isTick_1 (l1 : Int32) (σ : j_G) : j_K true 0 14 [.ref 1, .int l1] σ (some (f_X2_isTick 1 l1 σ)) (j_Pi σ) := by
  refine j_mkK (M := M_cX2_isTick) (L := [some (.ref 1), some (.int l1)]) (m := 0) t_14 rfl (j_rcvO j_a1 rfl) rfl (fun d hd τ => ?_)
  unfold f_X2_isTick
  refine j_iload_n (pc' := 1) rfl rfl rfl ?_
  refine j_twoT (pT := 12) (pF := 16) (L1 := [some (.ref 1), some (.int l1)]) (st1 := []) (fun o kT kF => ?_) (fun h1 => ?_) (fun h1 => ?_)
  · refine j_iflt (t := 16) (pc' := 4) rfl rfl rfl (fun h2 => ?_) (fun h2 => ?_)
    · exact kF (fun z => z.1 h2)
    · refine j_iload_n (pc' := 5) rfl rfl rfl ?_
      refine j_aload_n (pc' := 6) rfl rfl rfl ?_
      refine j_gfi (pc' := 9) rfl rfl j_a1 rfl ?_
      refine j_icge (t := 16) (pc' := 12) rfl rfl rfl (fun h3 => ?_) (fun h3 => ?_)
      · exact kF (fun z => (h3) z.2)
      · exact kT (⟨h2, h3⟩)
  · refine j_iconst (pc' := 13) (x := (1 : Int32)) rfl rfl rfl ?_
    refine j_goto (t := 17) rfl rfl ?_
    exact j_ret rfl rfl rfl (fun _ h => h)
  · refine j_iconst (pc' := 17) (x := (0 : Int32)) rfl rfl rfl ?_
    exact j_ret rfl rfl rfl (fun _ h => h)

noncomputable def p_X2_stayIn_8 (l1 : Int32) (σ : j_G) : Nat → Int32 → Int32 → Int32 → Option Int32
  | 0, _, _, _ => none
  | n + 1, l2, l3, l4 =>
    if l4 < (σ.1 1 10) then (j_ix l4 6 (
    j_b2 (if ¬ l1 < (σ.1 2 (l4).toNatClampNeg) then (j_ix l4 6 (
    if l2 < (σ.1 2 (l4).toNatClampNeg) then (j_ix l4 6 (
    j_lt (σ.1 2 (l4).toNatClampNeg) fun v3 =>
    j_ix l4 6 (
    j_lt (σ.1 3 (l4).toNatClampNeg) fun v4 =>
    some (v3, v4)))) else (some (l2, l3)))) else (some (l2, l3))) fun v1 v2 =>
    p_X2_stayIn_8 l1 σ n v1 v2 (l4 + (1 : Int32)))) else (some l3)

noncomputable def f_X2_stayIn (l1 : Int32) (σ : j_G) : Option Int32 :=
  j_b1 (p_X2_stayIn_8 l1 σ j_F (-1 : Int32) (7 : Int32) (0 : Int32)) fun v1 =>
  some v1
theorem l_X2_stayIn_8 {d : Nat} (hd : 0 ≤ d) (τ : j_G) (l1 : Int32) (σ : j_G) : ∀ (n : Nat) (l2 : Int32) (l3 : Int32) (l4 : Int32), j_J true τ M_cX2_stayIn d 8 [some (.ref 1), some (.int l1), some (.int l2), some (.int l3), some (.int l4)] [] σ (p_X2_stayIn_8 l1 σ n l2 l3 l4) (fun r Q => j_Tr true τ M_cX2_stayIn d 61 [none, none, none, some (.int r), none] [] σ Q) := by
  intro n
  induction n with
  | zero => intro l2 l3 l4; exact j_none
  | succ n ih =>
    intro l2 l3 l4
    unfold p_X2_stayIn_8
    refine j_iload (pc' := 10) rfl rfl rfl ?_
    refine j_aload_n (pc' := 11) rfl rfl rfl ?_
    refine j_gfi (pc' := 14) rfl rfl j_a1 rfl ?_
    refine j_two (pT := 17) (pF := 61) (L1 := [some (.ref 1), some (.int l1), some (.int l2), some (.int l3), some (.int l4)]) (st1 := []) (fun o kT kF => ?_) (fun h5 => ?_) (fun h5 => ?_)
    · refine j_icge (t := 61) (pc' := 17) rfl rfl rfl (fun h6 => ?_) (fun h6 => ?_)
      · exact kF h6
      · exact kT h6
    · refine j_aload_n (pc' := 18) rfl rfl rfl ?_
      refine j_gfr (pc' := 21) (x := 2) rfl rfl j_a1 rfl rfl ?_
      refine j_iload (pc' := 23) rfl rfl rfl ?_
      refine j_iald (pc' := 24) rfl rfl j_a2 ?_
      refine j_iload_n (pc' := 25) rfl rfl rfl ?_
      refine j_q2 (Φl := (fun r Q => j_Tr true τ M_cX2_stayIn d 55 [some (.ref 1), some (.int l1), some (.int r.1), some (.int r.2), some (.int l4)] [] σ Q)) ?_ (fun v1 v2 => ?_)
      · refine j_two (pT := 28) (pF := 55) (L1 := [some (.ref 1), some (.int l1), some (.int l2), some (.int l3), some (.int l4)]) (st1 := []) (fun o kT kF => ?_) (fun h3 => ?_) (fun h3 => ?_)
        · refine j_icgt (t := 55) (pc' := 28) rfl rfl rfl (fun h4 => ?_) (fun h4 => ?_)
          · exact kF (fun z => z h4)
          · exact kT h4
        · refine j_aload_n (pc' := 29) rfl rfl rfl ?_
          refine j_gfr (pc' := 32) (x := 2) rfl rfl j_a1 rfl rfl ?_
          refine j_iload (pc' := 34) rfl rfl rfl ?_
          refine j_iald (pc' := 35) rfl rfl j_a2 ?_
          refine j_iload_n (pc' := 36) rfl rfl rfl ?_
          refine j_two (pT := 39) (pF := 55) (L1 := [some (.ref 1), some (.int l1), some (.int l2), some (.int l3), some (.int l4)]) (st1 := []) (fun o kT kF => ?_) (fun h1 => ?_) (fun h1 => ?_)
          · refine j_icle (t := 55) (pc' := 39) rfl rfl rfl (fun h2 => ?_) (fun h2 => ?_)
            · exact kF h2
            · exact kT h2
          · refine j_aload_n (pc' := 40) rfl rfl rfl ?_
            refine j_gfr (pc' := 43) (x := 2) rfl rfl j_a1 rfl rfl ?_
            refine j_iload (pc' := 45) rfl rfl rfl ?_
            refine j_iald (pc' := 46) rfl rfl j_a2 ?_
            refine j_leti (fun v3 => ?_)
            refine j_istore_n (pc' := 47) (L' := [some (.ref 1), some (.int l1), some (.int v3), some (.int l3), some (.int l4)]) rfl rfl rfl ?_
            refine j_aload_n (pc' := 48) rfl rfl rfl ?_
            refine j_gfr (pc' := 51) (x := 3) rfl rfl j_a1 rfl rfl ?_
            refine j_iload (pc' := 53) rfl rfl rfl ?_
            refine j_iald (pc' := 54) rfl rfl j_a3 ?_
            refine j_leti (fun v4 => ?_)
            refine j_istore_n (pc' := 55) (L' := [some (.ref 1), some (.int l1), some (.int v3), some (.int v4), some (.int l4)]) rfl rfl rfl ?_
            exact j_end (fun _ h => h)
          · exact j_end (fun _ h => h)
        · exact j_end (fun _ h => h)
      show j_J true τ M_cX2_stayIn d 55 [some (.ref 1), some (.int l1), some (.int v1), some (.int v2), some (.int l4)] [] σ _ _
      refine j_iincx (pc' := 58) (y := (1 : Int32)) (L' := [some (.ref 1), some (.int l1), some (.int v1), some (.int v2), some (.int (l4 + (1 : Int32)))]) rfl rfl rfl rfl rfl ?_
      refine j_goto (t := 8) rfl rfl ?_
      exact ih v1 v2 (l4 + (1 : Int32))
    · refine j_wk [false, false, false, true, false] (L' := [none, none, none, some (.int l3), none]) rfl ?_
      exact j_end (fun _ h => h)

theorem c_X2_stayIn (l1 : Int32) (σ : j_G) : j_K true 0 21 [.ref 1, .int l1] σ (f_X2_stayIn l1 σ) (j_Pi σ) := by
  refine j_mkK (M := M_cX2_stayIn) (L := [some (.ref 1), some (.int l1), none, none, none]) (m := 3) t_21 rfl (j_rcvO j_a1 rfl) rfl (fun d hd τ => ?_)
  unfold f_X2_stayIn
  refine j_iconst (pc' := 1) (x := (-1 : Int32)) rfl rfl rfl ?_
  refine j_istore_n (pc' := 2) (L' := [some (.ref 1), some (.int l1), some (.int (-1 : Int32)), none, none]) rfl rfl rfl ?_
  refine j_bipush (pc' := 4) (x := (7 : Int32)) rfl rfl rfl ?_
  refine j_istore_n (pc' := 5) (L' := [some (.ref 1), some (.int l1), some (.int (-1 : Int32)), some (.int (7 : Int32)), none]) rfl rfl rfl ?_
  refine j_iconst (pc' := 6) (x := (0 : Int32)) rfl rfl rfl ?_
  refine j_istore (pc' := 8) (L' := [some (.ref 1), some (.int l1), some (.int (-1 : Int32)), some (.int (7 : Int32)), some (.int (0 : Int32))]) rfl rfl rfl ?_
  refine j_q1 (l_X2_stayIn_8 hd τ l1 σ j_F (-1 : Int32) (7 : Int32) (0 : Int32)) (fun v1 => ?_)
  show j_J true τ M_cX2_stayIn d 61 [none, none, none, some (.int v1), none] [] σ _ _
  refine j_iload_n (pc' := 62) rfl rfl rfl ?_
  exact j_ret rfl rfl rfl (fun _ h => h)

