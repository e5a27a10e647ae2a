/-! ===== open holes, mean, middle ===== -/
theorem y_su_pop : ∀ m i n, y_su (fun h => n / 2 ^ h % 2) m i 0 = y_pop m (n / 2 ^ i) := by
  intro m
  induction m with
  | zero => intro i n; rfl
  | succ m ih =>
    intro i n
    rw [y_su_s, ih]
    show _ = n / 2 ^ i % 2 + y_pop m (n / 2 ^ i / 2)
    rw [Nat.div_div_eq_div_mul, ← Nat.pow_succ, Nat.add_comm]
theorem y_pop0 : ∀ m, y_pop m 0 = 0 := by
  intro m
  induction m with
  | zero => rfl
  | succ m ih => show 0 % 2 + y_pop m (0 / 2) = 0; rw [Nat.zero_div, ih]
theorem y_pop_more : ∀ a d n, n < 2 ^ a → y_pop (a + d) n = y_pop a n := by
  intro a
  induction a with
  | zero => intro d n h; obtain rfl : n = 0 := by omega
            rw [y_pop0, y_pop0]
  | succ a ih =>
    intro d n h
    rw [show a + 1 + d = a + d + 1 from by omega]
    show n % 2 + y_pop (a + d) (n / 2) = n % 2 + y_pop a (n / 2)
    rw [ih d (n / 2) (by rw [Nat.pow_succ] at h; omega)]
theorem y_su_not {f : Nat → Nat} (hf : ∀ j, f j ≤ 1) : ∀ m i, y_su f m i 0 + y_su (fun j => 1 - f j) m i 0 = m := by
  intro m
  induction m with
  | zero => intro i; rfl
  | succ m ih => intro i; rw [y_su_s, y_su_s]; have := ih (i + 1); have := hf i; omega
theorem y_su_bd {f : Nat → Nat} {c : Nat} : ∀ m i, (∀ j, i ≤ j → j < i + m → f j ≤ c) → y_su f m i 0 ≤ c * m := by
  intro m
  induction m with
  | zero => intro i _; exact Nat.zero_le _
  | succ m ih =>
    intro i h
    rw [y_su_s]
    have := ih (i + 1) (fun j h1 h2 => h j (by omega) (by omega))
    have := h i (by omega) (by omega)
    rw [Nat.mul_succ]; omega
def y_op (b : Nat → Nat) : Nat := y_su (fun h => 1 - y_sh b h) (y_ho b) 0 0
theorem y_sh_le (b : Nat → Nat) (h : Nat) : y_sh b h ≤ 1 := by unfold y_sh; omega
theorem y_op_e {b : Nat → Nat} (hW : y_W b) : y_op b = y_ho b - y_pop 12 (b 7) ∧ y_pop 12 (b 7) ≤ y_ho b := by
  have h4 := hW.ho
  have h7 := hW.1.2.2.2.2.2.2.2.1
  have e := y_su_not (f := fun h => b 7 / 2 ^ h % 2) (fun j => by show b 7 / 2 ^ j % 2 ≤ 1; omega) (y_ho b) 0
  rw [y_su_pop, Nat.pow_zero, Nat.div_one] at e
  have m := y_pop_more (y_ho b) (12 - y_ho b) (b 7) h7
  rw [show y_ho b + (12 - y_ho b) = 12 from by omega] at m
  rw [m]
  unfold y_op
  show y_su (fun j => 1 - b 7 / 2 ^ j % 2) (y_ho b) 0 0 = _ ∧ _
  omega
theorem y_op_le {b : Nat → Nat} (hW : y_W b) : y_op b ≤ 12 := by
  have := y_op_e hW; have := hW.ho; omega
def y_sf (b : Nat → Nat) (x : Nat) : Nat → Nat := fun h => if y_sh b h = 1 then 0 else y_ap b x h
def y_sa (b : Nat → Nat) (x : Nat) : Nat := y_su (y_sf b x) (y_ho b) 0 0
theorem y_sa_le {b : Nat → Nat} (hW : y_W b) {x : Nat} (hx : x < 12) : y_sa b x ≤ 24 * y_ho b := by
  have h4 := hW.ho
  exact y_su_bd _ _ (fun j _ hj => by
    have := y_ap_bd (b := b) (a := x) (c := j) hx (by omega)
    unfold y_sf; split <;> omega)
section C
variable {σ τ : j_G} {b : Nat → Nat}
theorem yc_open (hN : y_N σ b) (hW : y_W b) : f_X2_openHoles σ = nI (y_op b) := by
  have h := y_op_e hW
  have h7 := hW.b7
  unfold f_X2_openHoles
  rw [yc_holes hN, hN.f6, y_bcn _ h7, pk_sub h.2, h.1]
theorem ym_open (hM : y_M τ b) (hW : y_W b) : f_X12_openHoles τ = some (nI (y_op b)) := by
  have h4 := hW.ho
  have key : ∀ m i n v, i + m = y_ho b → m < n → p_X12_openHoles_4 τ n (nI v) (nI i) = some (nI (y_su (fun h => 1 - y_sh b h) m i v)) := by
    intro m
    induction m with
    | zero =>
      intro i n v h hn
      obtain ⟨n, rfl⟩ := y_pos hn
      unfold p_X12_openHoles_4 y_su; simp (disch := omega) only [y_lit, y_n1, nI_add, pk_mul, j_lt, j_b1_s, j_b2_s, j_b3_s, j_b0_s, y_bo, y_bo1, y_bo0, y_i0, y_i1, Classical.not_not, nI_clamp, y_ix, y_lt, y_le, y_eq, y_nP, y_nPs, y_ltP, y_ltQ, y_ltPP, y_eqP, y_eqQ, y_eqPP, if_pos, if_neg, ite_true, ite_false, not_true_eq_false, not_false_eq_true, and_true, true_and, and_false, false_and, or_true, true_or, or_false, false_or, ym_holes hM]
    | succ m ih =>
      intro i n v h hn
      obtain ⟨n, rfl⟩ := y_pos hn
      have hs := y_sh_le b i
      unfold p_X12_openHoles_4 y_su; simp (disch := omega) only [y_lit, y_n1, nI_add, pk_mul, j_lt, j_b1_s, j_b2_s, j_b3_s, j_b0_s, y_bo, y_bo1, y_bo0, y_i0, y_i1, Classical.not_not, nI_clamp, y_ix, y_lt, y_le, y_eq, y_nP, y_nPs, y_ltP, y_ltQ, y_ltPP, y_eqP, y_eqQ, y_eqPP, if_pos, if_neg, ite_true, ite_false, not_true_eq_false, not_false_eq_true, and_true, true_and, and_false, false_and, or_true, true_or, or_false, false_or, ym_holes hM, ym_isShut hM hW]
      by_cases c : y_sh b i = 1
      · simp (disch := omega) only [y_lit, y_n1, nI_add, pk_mul, j_lt, j_b1_s, j_b2_s, j_b3_s, j_b0_s, y_bo, y_bo1, y_bo0, y_i0, y_i1, Classical.not_not, nI_clamp, y_ix, y_lt, y_le, y_eq, y_nP, y_nPs, y_ltP, y_ltQ, y_ltPP, y_eqP, y_eqQ, y_eqPP, if_pos, if_neg, ite_true, ite_false, not_true_eq_false, not_false_eq_true, and_true, true_and, and_false, false_and, or_true, true_or, or_false, false_or, c]
        exact ih (i + 1) n _ (by omega) (by omega)
      · have c0 : y_sh b i = 0 := by omega
        simp (disch := omega) only [y_lit, y_n1, nI_add, pk_mul, j_lt, j_b1_s, j_b2_s, j_b3_s, j_b0_s, y_bo, y_bo1, y_bo0, y_i0, y_i1, Classical.not_not, nI_clamp, y_ix, y_lt, y_le, y_eq, y_nP, y_nPs, y_ltP, y_ltQ, y_ltPP, y_eqP, y_eqQ, y_eqPP, if_pos, if_neg, ite_true, ite_false, not_true_eq_false, not_false_eq_true, and_true, true_and, and_false, false_and, or_true, true_or, or_false, false_or, c0]
        exact ih (i + 1) n _ (by omega) (by omega)
  unfold f_X12_openHoles
  rw [y_lit, key (y_ho b) 0 j_F 0 (by omega) (y_F (by omega))]
  rfl
theorem yc_toAll (hN : y_N σ b) (hW : y_W b) (h9 : 0 < b 9) {x : Nat} (hx : x < y_ho b) : f_X2_stepsToAll (nI x) σ = some (nI (y_sa b x)) := by
  have h4 := hW.ho
  have key : ∀ m i n v, i + m = y_ho b → m < n → p_X2_stepsToAll_4 (nI x) σ n (nI v) (nI i) = some (nI (y_su (y_sf b x) m i v)) := by
    intro m
    induction m with
    | zero =>
      intro i n v h hn
      obtain ⟨n, rfl⟩ := y_pos hn
      unfold p_X2_stepsToAll_4 y_su; simp (disch := omega) only [y_lit, y_n1, nI_add, pk_mul, j_lt, j_b1_s, j_b2_s, j_b3_s, j_b0_s, y_bo, y_bo1, y_bo0, y_i0, y_i1, Classical.not_not, nI_clamp, y_ix, y_lt, y_le, y_eq, y_nP, y_nPs, y_ltP, y_ltQ, y_ltPP, y_eqP, y_eqQ, y_eqPP, if_pos, if_neg, ite_true, ite_false, not_true_eq_false, not_false_eq_true, and_true, true_and, and_false, false_and, or_true, true_or, or_false, false_or, yc_holes hN]
    | succ m ih =>
      intro i n v h hn
      obtain ⟨n, rfl⟩ := y_pos hn
      have hs := y_sh_le b i
      unfold p_X2_stepsToAll_4 y_su; simp (disch := omega) only [y_lit, y_n1, nI_add, pk_mul, j_lt, j_b1_s, j_b2_s, j_b3_s, j_b0_s, y_bo, y_bo1, y_bo0, y_i0, y_i1, Classical.not_not, nI_clamp, y_ix, y_lt, y_le, y_eq, y_nP, y_nPs, y_ltP, y_ltQ, y_ltPP, y_eqP, y_eqQ, y_eqPP, if_pos, if_neg, ite_true, ite_false, not_true_eq_false, not_false_eq_true, and_true, true_and, and_false, false_and, or_true, true_or, or_false, false_or, yc_holes hN, yc_isShut hN hW]
      by_cases c : y_sh b i = 1
      · have e : y_sf b x i = 0 := if_pos c
        rw [e]; simp (disch := omega) only [y_lit, y_n1, nI_add, pk_mul, j_lt, j_b1_s, j_b2_s, j_b3_s, j_b0_s, y_bo, y_bo1, y_bo0, y_i0, y_i1, Classical.not_not, nI_clamp, y_ix, y_lt, y_le, y_eq, y_nP, y_nPs, y_ltP, y_ltQ, y_ltPP, y_eqP, y_eqQ, y_eqPP, if_pos, if_neg, ite_true, ite_false, not_true_eq_false, not_false_eq_true, and_true, true_and, and_false, false_and, or_true, true_or, or_false, false_or]
        exact ih (i + 1) n _ (by omega) (by omega)
      · have e : y_sf b x i = y_ap b x i := if_neg c
        rw [e]; simp (disch := omega) only [y_lit, y_n1, nI_add, pk_mul, j_lt, j_b1_s, j_b2_s, j_b3_s, j_b0_s, y_bo, y_bo1, y_bo0, y_i0, y_i1, Classical.not_not, nI_clamp, y_ix, y_lt, y_le, y_eq, y_nP, y_nPs, y_ltP, y_ltQ, y_ltPP, y_eqP, y_eqQ, y_eqPP, if_pos, if_neg, ite_true, ite_false, not_true_eq_false, not_false_eq_true, and_true, true_and, and_false, false_and, or_true, true_or, or_false, false_or, yc_apart hN hW h9]
        exact ih (i + 1) n _ (by omega) (by omega)
  unfold f_X2_stepsToAll
  rw [y_lit, key (y_ho b) 0 j_F 0 (by omega) (y_F (by omega))]
  rfl
theorem ym_toAll (hM : y_M τ b) (hW : y_W b) (h9 : 0 < b 9) {x : Nat} (hx : x < y_ho b) : f_X12_stepsToAll (nI x) τ = some (nI (y_sa b x)) := by
  have h4 := hW.ho
  have key : ∀ m i n v, i + m = y_ho b → m < n → p_X12_stepsToAll_4 (nI x) τ n (nI v) (nI i) = some (nI (y_su (y_sf b x) m i v)) := by
    intro m
    induction m with
    | zero =>
      intro i n v h hn
      obtain ⟨n, rfl⟩ := y_pos hn
      unfold p_X12_stepsToAll_4 y_su; simp (disch := omega) only [y_lit, y_n1, nI_add, pk_mul, j_lt, j_b1_s, j_b2_s, j_b3_s, j_b0_s, y_bo, y_bo1, y_bo0, y_i0, y_i1, Classical.not_not, nI_clamp, y_ix, y_lt, y_le, y_eq, y_nP, y_nPs, y_ltP, y_ltQ, y_ltPP, y_eqP, y_eqQ, y_eqPP, if_pos, if_neg, ite_true, ite_false, not_true_eq_false, not_false_eq_true, and_true, true_and, and_false, false_and, or_true, true_or, or_false, false_or, ym_holes hM]
    | succ m ih =>
      intro i n v h hn
      obtain ⟨n, rfl⟩ := y_pos hn
      have hs := y_sh_le b i
      unfold p_X12_stepsToAll_4 y_su; simp (disch := omega) only [y_lit, y_n1, nI_add, pk_mul, j_lt, j_b1_s, j_b2_s, j_b3_s, j_b0_s, y_bo, y_bo1, y_bo0, y_i0, y_i1, Classical.not_not, nI_clamp, y_ix, y_lt, y_le, y_eq, y_nP, y_nPs, y_ltP, y_ltQ, y_ltPP, y_eqP, y_eqQ, y_eqPP, if_pos, if_neg, ite_true, ite_false, not_true_eq_false, not_false_eq_true, and_true, true_and, and_false, false_and, or_true, true_or, or_false, false_or, ym_holes hM, ym_isShut hM hW]
      by_cases c : y_sh b i = 1
      · have e : y_sf b x i = 0 := if_pos c
        rw [e]; simp (disch := omega) only [y_lit, y_n1, nI_add, pk_mul, j_lt, j_b1_s, j_b2_s, j_b3_s, j_b0_s, y_bo, y_bo1, y_bo0, y_i0, y_i1, Classical.not_not, nI_clamp, y_ix, y_lt, y_le, y_eq, y_nP, y_nPs, y_ltP, y_ltQ, y_ltPP, y_eqP, y_eqQ, y_eqPP, if_pos, if_neg, ite_true, ite_false, not_true_eq_false, not_false_eq_true, and_true, true_and, and_false, false_and, or_true, true_or, or_false, false_or]
        exact ih (i + 1) n _ (by omega) (by omega)
      · have e : y_sf b x i = y_ap b x i := if_neg c
        rw [e]; simp (disch := omega) only [y_lit, y_n1, nI_add, pk_mul, j_lt, j_b1_s, j_b2_s, j_b3_s, j_b0_s, y_bo, y_bo1, y_bo0, y_i0, y_i1, Classical.not_not, nI_clamp, y_ix, y_lt, y_le, y_eq, y_nP, y_nPs, y_ltP, y_ltQ, y_ltPP, y_eqP, y_eqQ, y_eqPP, if_pos, if_neg, ite_true, ite_false, not_true_eq_false, not_false_eq_true, and_true, true_and, and_false, false_and, or_true, true_or, or_false, false_or, ym_stepsOf hM hW h9]
        exact ih (i + 1) n _ (by omega) (by omega)
  unfold f_X12_stepsToAll
  rw [y_lit, key (y_ho b) 0 j_F 0 (by omega) (y_F (by omega))]
  rfl
theorem ym_gcd : ∀ c n x, c < n → c < 10000 → x < 10000 → (0 < x ∨ 0 < c) → ∃ d, 0 < d ∧ d < 10000 ∧ p_X12_divisor_4 n (nI x) (nI c) = some (nI d) := by
  intro c
  induction c using Nat.strongRecOn with
  | _ c ih =>
    intro n x hn hc hx h0
    obtain ⟨n, rfl⟩ := y_pos hn
    unfold p_X12_divisor_4
    by_cases z : c = 0
    · exact ⟨x, by omega, hx, by simp (disch := omega) only [y_lit, y_n1, nI_add, pk_mul, j_lt, j_b1_s, j_b2_s, j_b3_s, j_b0_s, y_bo, y_bo1, y_bo0, y_i0, y_i1, Classical.not_not, nI_clamp, y_ix, y_lt, y_le, y_eq, y_nP, y_nPs, y_ltP, y_ltQ, y_ltPP, y_eqP, y_eqQ, y_eqPP, if_pos, if_neg, ite_true, ite_false, not_true_eq_false, not_false_eq_true, and_true, true_and, and_false, false_and, or_true, true_or, or_false, false_or]⟩
    · have hm : x % c < c := Nat.mod_lt _ (by omega)
      obtain ⟨d, d1, d2, d3⟩ := ih (x % c) hm n c (by omega) (by omega) hc (Or.inl (by omega))
      refine ⟨d, d1, d2, ?_⟩
      have hr : nI x - nI (x / c * c) = nI (x % c) := by
        rw [← pk_mul, ← pk_div (by omega) (by omega) (by omega), pk_rem (by omega) (by omega) (by omega)]
      simp (disch := omega) only [y_lit, y_n1, nI_add, pk_mul, j_lt, j_b1_s, j_b2_s, j_b3_s, j_b0_s, y_bo, y_bo1, y_bo0, y_i0, y_i1, Classical.not_not, nI_clamp, y_ix, y_lt, y_le, y_eq, y_nP, y_nPs, y_ltP, y_ltQ, y_ltPP, y_eqP, y_eqQ, y_eqPP, if_pos, if_neg, ite_true, ite_false, not_true_eq_false, not_false_eq_true, and_true, true_and, and_false, false_and, or_true, true_or, or_false, false_or, pk_div, hr]
      exact d3
end C
section Z
variable {σ τ : j_G}
/-- the two answers here are another matter -/
theorem z_mean (hR : j_Rel σ τ) (a1 a2 : Int32) : ∃ v w, f_X11_mean a1 a2 σ = some v ∧ f_X12_mean a1 a2 τ = some w := by
  obtain ⟨b, hW, hN, hM, hK⟩ := id hR
  have h4 := hW.ho
  have hop := y_op_le hW
  by_cases h : y_rg a1 (y_ho b)
  · by_cases h2 : y_rg a2 2
    · obtain ⟨x, hx, rfl⟩ := y_of _ _ h.1 h.2
      have h9 : 0 < b 9 := hW.on0 (by omega)
      have sle := y_sa_le hW (show x < 12 by omega)
      by_cases z : y_op b = 0
      · refine ⟨-1, -1, ?_, ?_⟩
        · unfold f_X11_mean; simp (disch := omega) only [y_lit, y_n1, nI_add, pk_mul, j_lt, j_b1_s, j_b2_s, j_b3_s, j_b0_s, y_bo, y_bo1, y_bo0, y_i0, y_i1, Classical.not_not, nI_clamp, y_ix, y_lt, y_le, y_eq, y_nP, y_nPs, y_ltP, y_ltQ, y_ltPP, y_eqP, y_eqQ, y_eqPP, if_pos, if_neg, ite_true, ite_false, not_true_eq_false, not_false_eq_true, and_true, true_and, and_false, false_and, or_true, true_or, or_false, false_or, yc_isHole hN hW, y_rn, y_c5, h2, yc_open hN hW, z]
        · unfold f_X12_mean; simp (disch := omega) only [y_lit, y_n1, nI_add, pk_mul, j_lt, j_b1_s, j_b2_s, j_b3_s, j_b0_s, y_bo, y_bo1, y_bo0, y_i0, y_i1, Classical.not_not, nI_clamp, y_ix, y_lt, y_le, y_eq, y_nP, y_nPs, y_ltP, y_ltQ, y_ltPP, y_eqP, y_eqQ, y_eqPP, if_pos, if_neg, ite_true, ite_false, not_true_eq_false, not_false_eq_true, and_true, true_and, and_false, false_and, or_true, true_or, or_false, false_or, ym_isHole hM hW, y_rn, y_lit64, y_in, y_c3, h2, ym_open hM hW, z]
      · obtain ⟨d, d1, d2, d3⟩ := ym_gcd (y_op b) j_F (y_sa b x) (y_F (by omega)) (by omega) (by omega) (Or.inr (by omega))
        have dv : f_X12_divisor (nI (y_sa b x)) (nI (y_op b)) = some (nI d) := by unfold f_X12_divisor; rw [d3]; rfl
        by_cases c : a2 = nI 0
        · refine ⟨nI (y_sa b x), nI (y_sa b x / d), ?_, ?_⟩
          · unfold f_X11_mean; simp (disch := omega) only [y_lit, y_n1, nI_add, pk_mul, j_lt, j_b1_s, j_b2_s, j_b3_s, j_b0_s, y_bo, y_bo1, y_bo0, y_i0, y_i1, Classical.not_not, nI_clamp, y_ix, y_lt, y_le, y_eq, y_nP, y_nPs, y_ltP, y_ltQ, y_ltPP, y_eqP, y_eqQ, y_eqPP, if_pos, if_neg, ite_true, ite_false, not_true_eq_false, not_false_eq_true, and_true, true_and, and_false, false_and, or_true, true_or, or_false, false_or, yc_isHole hN hW, y_rn, y_c5, h2, yc_open hN hW, c, yc_toAll hN hW h9]
          · unfold f_X12_mean; simp (disch := omega) only [y_lit, y_n1, nI_add, pk_mul, j_lt, j_b1_s, j_b2_s, j_b3_s, j_b0_s, y_bo, y_bo1, y_bo0, y_i0, y_i1, Classical.not_not, nI_clamp, y_ix, y_lt, y_le, y_eq, y_nP, y_nPs, y_ltP, y_ltQ, y_ltPP, y_eqP, y_eqQ, y_eqPP, if_pos, if_neg, ite_true, ite_false, not_true_eq_false, not_false_eq_true, and_true, true_and, and_false, false_and, or_true, true_or, or_false, false_or, ym_isHole hM hW, y_rn, y_lit64, y_in, y_c3, h2, ym_open hM hW, ym_toAll hM hW h9, c, dv, pk_div]
        · refine ⟨nI (y_op b), nI (y_op b / d), ?_, ?_⟩
          · unfold f_X11_mean; simp (disch := omega) only [y_lit, y_n1, nI_add, pk_mul, j_lt, j_b1_s, j_b2_s, j_b3_s, j_b0_s, y_bo, y_bo1, y_bo0, y_i0, y_i1, Classical.not_not, nI_clamp, y_ix, y_lt, y_le, y_eq, y_nP, y_nPs, y_ltP, y_ltQ, y_ltPP, y_eqP, y_eqQ, y_eqPP, if_pos, if_neg, ite_true, ite_false, not_true_eq_false, not_false_eq_true, and_true, true_and, and_false, false_and, or_true, true_or, or_false, false_or, yc_isHole hN hW, y_rn, y_c5, h2, yc_open hN hW, c]
          · unfold f_X12_mean; simp (disch := omega) only [y_lit, y_n1, nI_add, pk_mul, j_lt, j_b1_s, j_b2_s, j_b3_s, j_b0_s, y_bo, y_bo1, y_bo0, y_i0, y_i1, Classical.not_not, nI_clamp, y_ix, y_lt, y_le, y_eq, y_nP, y_nPs, y_ltP, y_ltQ, y_ltPP, y_eqP, y_eqQ, y_eqPP, if_pos, if_neg, ite_true, ite_false, not_true_eq_false, not_false_eq_true, and_true, true_and, and_false, false_and, or_true, true_or, or_false, false_or, ym_isHole hM hW, y_rn, y_lit64, y_in, y_c3, h2, ym_open hM hW, ym_toAll hM hW h9, c, dv, pk_div]
    · refine ⟨-2, -2, ?_, ?_⟩
      · unfold f_X11_mean; simp (disch := omega) only [y_lit, y_n1, nI_add, pk_mul, j_lt, j_b1_s, j_b2_s, j_b3_s, j_b0_s, y_bo, y_bo1, y_bo0, y_i0, y_i1, Classical.not_not, nI_clamp, y_ix, y_lt, y_le, y_eq, y_nP, y_nPs, y_ltP, y_ltQ, y_ltPP, y_eqP, y_eqQ, y_eqPP, if_pos, if_neg, ite_true, ite_false, not_true_eq_false, not_false_eq_true, and_true, true_and, and_false, false_and, or_true, true_or, or_false, false_or, yc_isHole hN hW, h, y_c5, h2]
      · unfold f_X12_mean; simp (disch := omega) only [y_lit, y_n1, nI_add, pk_mul, j_lt, j_b1_s, j_b2_s, j_b3_s, j_b0_s, y_bo, y_bo1, y_bo0, y_i0, y_i1, Classical.not_not, nI_clamp, y_ix, y_lt, y_le, y_eq, y_nP, y_nPs, y_ltP, y_ltQ, y_ltPP, y_eqP, y_eqQ, y_eqPP, if_pos, if_neg, ite_true, ite_false, not_true_eq_false, not_false_eq_true, and_true, true_and, and_false, false_and, or_true, true_or, or_false, false_or, ym_isHole hM hW, h, y_lit64, y_in, y_c3, h2]
  · refine ⟨-2, -2, ?_, ?_⟩
    · unfold f_X11_mean; simp (disch := omega) only [y_lit, y_n1, nI_add, pk_mul, j_lt, j_b1_s, j_b2_s, j_b3_s, j_b0_s, y_bo, y_bo1, y_bo0, y_i0, y_i1, Classical.not_not, nI_clamp, y_ix, y_lt, y_le, y_eq, y_nP, y_nPs, y_ltP, y_ltQ, y_ltPP, y_eqP, y_eqQ, y_eqPP, if_pos, if_neg, ite_true, ite_false, not_true_eq_false, not_false_eq_true, and_true, true_and, and_false, false_and, or_true, true_or, or_false, false_or, yc_isHole hN hW, h]
    · unfold f_X12_mean; simp (disch := omega) only [y_lit, y_n1, nI_add, pk_mul, j_lt, j_b1_s, j_b2_s, j_b3_s, j_b0_s, y_bo, y_bo1, y_bo0, y_i0, y_i1, Classical.not_not, nI_clamp, y_ix, y_lt, y_le, y_eq, y_nP, y_nPs, y_ltP, y_ltQ, y_ltPP, y_eqP, y_eqQ, y_eqPP, if_pos, if_neg, ite_true, ite_false, not_true_eq_false, not_false_eq_true, and_true, true_and, and_false, false_and, or_true, true_or, or_false, false_or, ym_isHole hM hW, h]
theorem z_middle (hR : j_Rel σ τ) (a1 : Int32) : ∃ v, f_X11_middle a1 σ = some v ∧ f_X12_middle a1 τ = some v := by
  obtain ⟨b, hW, hN, hM, hK⟩ := id hR
  have h4 := hW.ho
  have hop := y_op_le hW
  by_cases h9 : 0 < b 9
  · by_cases h2 : y_rg a1 2
    · have ho := hW.on1 h9
      by_cases z : y_op b = 0
      · refine ⟨-1, ?_, ?_⟩
        · unfold f_X11_middle; simp (disch := omega) only [y_lit, y_n1, nI_add, pk_mul, j_lt, j_b1_s, j_b2_s, j_b3_s, j_b0_s, y_bo, y_bo1, y_bo0, y_i0, y_i1, Classical.not_not, nI_clamp, y_ix, y_lt, y_le, y_eq, y_nP, y_nPs, y_ltP, y_ltQ, y_ltPP, y_eqP, y_eqQ, y_eqPP, if_pos, if_neg, ite_true, ite_false, not_true_eq_false, not_false_eq_true, and_true, true_and, and_false, false_and, or_true, true_or, or_false, false_or, yc_isTold hN hW, y_c5, h2, yc_open hN hW, z]
        · unfold f_X12_middle; simp (disch := omega) only [y_lit, y_n1, nI_add, pk_mul, j_lt, j_b1_s, j_b2_s, j_b3_s, j_b0_s, y_bo, y_bo1, y_bo0, y_i0, y_i1, Classical.not_not, nI_clamp, y_ix, y_lt, y_le, y_eq, y_nP, y_nPs, y_ltP, y_ltQ, y_ltPP, y_eqP, y_eqQ, y_eqPP, if_pos, if_neg, ite_true, ite_false, not_true_eq_false, not_false_eq_true, and_true, true_and, and_false, false_and, or_true, true_or, or_false, false_or, ym_isBoard hM hW, y_lit64, y_in, y_c3, h2, ym_open hM hW, z]
      · have both : ∀ m i n x, i + m = y_ho b → m < n → x < y_ho b → ∃ v, p_X11_middle_48 a1 σ n (nI x) (nI (y_sa b x)) (nI i) = some v ∧ p_X12_middle_33 a1 τ n (nI x) (nI i) = some v := by
          intro m
          induction m with
          | zero =>
            intro i n x h hn hx
            obtain ⟨n, rfl⟩ := y_pos hn
            refine ⟨nI x, ?_, ?_⟩
            · unfold p_X11_middle_48; simp (disch := omega) only [y_lit, y_n1, nI_add, pk_mul, j_lt, j_b1_s, j_b2_s, j_b3_s, j_b0_s, y_bo, y_bo1, y_bo0, y_i0, y_i1, Classical.not_not, nI_clamp, y_ix, y_lt, y_le, y_eq, y_nP, y_nPs, y_ltP, y_ltQ, y_ltPP, y_eqP, y_eqQ, y_eqPP, if_pos, if_neg, ite_true, ite_false, not_true_eq_false, not_false_eq_true, and_true, true_and, and_false, false_and, or_true, true_or, or_false, false_or, yc_holes hN]
            · unfold p_X12_middle_33; simp (disch := omega) only [y_lit, y_n1, nI_add, pk_mul, j_lt, j_b1_s, j_b2_s, j_b3_s, j_b0_s, y_bo, y_bo1, y_bo0, y_i0, y_i1, Classical.not_not, nI_clamp, y_ix, y_lt, y_le, y_eq, y_nP, y_nPs, y_ltP, y_ltQ, y_ltPP, y_eqP, y_eqQ, y_eqPP, if_pos, if_neg, ite_true, ite_false, not_true_eq_false, not_false_eq_true, and_true, true_and, and_false, false_and, or_true, true_or, or_false, false_or, ym_holes hM]
          | succ m ih =>
            intro i n x h hn hx
            obtain ⟨n, rfl⟩ := y_pos hn
            have s1 := y_sa_le hW (show i < 12 by omega)
            have s2 := y_sa_le hW (show x < 12 by omega)
            obtain ⟨v, v1, v2⟩ := ih (i + 1) n x (by omega) (by omega) hx
            obtain ⟨w, w1, w2⟩ := ih (i + 1) n i (by omega) (by omega) (by omega)
            unfold p_X11_middle_48 p_X12_middle_33
            simp (disch := omega) only [y_lit, y_n1, nI_add, pk_mul, j_lt, j_b1_s, j_b2_s, j_b3_s, j_b0_s, y_bo, y_bo1, y_bo0, y_i0, y_i1, Classical.not_not, nI_clamp, y_ix, y_lt, y_le, y_eq, y_nP, y_nPs, y_ltP, y_ltQ, y_ltPP, y_eqP, y_eqQ, y_eqPP, if_pos, if_neg, ite_true, ite_false, not_true_eq_false, not_false_eq_true, and_true, true_and, and_false, false_and, or_true, true_or, or_false, false_or, yc_holes hN, ym_holes hM, yc_toAll hN hW h9, ym_toAll hM hW h9]
            by_cases c : a1 = nI 0
            · rw [if_pos c, if_pos c]
              by_cases q : y_sa b i < y_sa b x
              · simp (disch := omega) only [y_lit, y_n1, nI_add, pk_mul, j_lt, j_b1_s, j_b2_s, j_b3_s, j_b0_s, y_bo, y_bo1, y_bo0, y_i0, y_i1, Classical.not_not, nI_clamp, y_ix, y_lt, y_le, y_eq, y_nP, y_nPs, y_ltP, y_ltQ, y_ltPP, y_eqP, y_eqQ, y_eqPP, if_pos, if_neg, ite_true, ite_false, not_true_eq_false, not_false_eq_true, and_true, true_and, and_false, false_and, or_true, true_or, or_false, false_or]; exact ⟨w, w1, w2⟩
              · simp (disch := omega) only [y_lit, y_n1, nI_add, pk_mul, j_lt, j_b1_s, j_b2_s, j_b3_s, j_b0_s, y_bo, y_bo1, y_bo0, y_i0, y_i1, Classical.not_not, nI_clamp, y_ix, y_lt, y_le, y_eq, y_nP, y_nPs, y_ltP, y_ltQ, y_ltPP, y_eqP, y_eqQ, y_eqPP, if_pos, if_neg, ite_true, ite_false, not_true_eq_false, not_false_eq_true, and_true, true_and, and_false, false_and, or_true, true_or, or_false, false_or]; exact ⟨v, v1, v2⟩
            · rw [if_neg c, if_neg c]
              by_cases q : y_sa b x < y_sa b i
              · simp (disch := omega) only [y_lit, y_n1, nI_add, pk_mul, j_lt, j_b1_s, j_b2_s, j_b3_s, j_b0_s, y_bo, y_bo1, y_bo0, y_i0, y_i1, Classical.not_not, nI_clamp, y_ix, y_lt, y_le, y_eq, y_nP, y_nPs, y_ltP, y_ltQ, y_ltPP, y_eqP, y_eqQ, y_eqPP, if_pos, if_neg, ite_true, ite_false, not_true_eq_false, not_false_eq_true, and_true, true_and, and_false, false_and, or_true, true_or, or_false, false_or]; exact ⟨w, w1, w2⟩
              · simp (disch := omega) only [y_lit, y_n1, nI_add, pk_mul, j_lt, j_b1_s, j_b2_s, j_b3_s, j_b0_s, y_bo, y_bo1, y_bo0, y_i0, y_i1, Classical.not_not, nI_clamp, y_ix, y_lt, y_le, y_eq, y_nP, y_nPs, y_ltP, y_ltQ, y_ltPP, y_eqP, y_eqQ, y_eqPP, if_pos, if_neg, ite_true, ite_false, not_true_eq_false, not_false_eq_true, and_true, true_and, and_false, false_and, or_true, true_or, or_false, false_or]; exact ⟨v, v1, v2⟩
        obtain ⟨v, v1, v2⟩ := both (y_ho b - 1) 1 j_F 0 (by omega) (y_F (by omega)) ho
        refine ⟨v, ?_, ?_⟩
        · unfold f_X11_middle; simp (disch := omega) only [y_lit, y_n1, nI_add, pk_mul, j_lt, j_b1_s, j_b2_s, j_b3_s, j_b0_s, y_bo, y_bo1, y_bo0, y_i0, y_i1, Classical.not_not, nI_clamp, y_ix, y_lt, y_le, y_eq, y_nP, y_nPs, y_ltP, y_ltQ, y_ltPP, y_eqP, y_eqQ, y_eqPP, if_pos, if_neg, ite_true, ite_false, not_true_eq_false, not_false_eq_true, and_true, true_and, and_false, false_and, or_true, true_or, or_false, false_or, yc_isTold hN hW, y_c5, h2, yc_open hN hW, z, yc_toAll hN hW h9, v1]
        · unfold f_X12_middle; simp (disch := omega) only [y_lit, y_n1, nI_add, pk_mul, j_lt, j_b1_s, j_b2_s, j_b3_s, j_b0_s, y_bo, y_bo1, y_bo0, y_i0, y_i1, Classical.not_not, nI_clamp, y_ix, y_lt, y_le, y_eq, y_nP, y_nPs, y_ltP, y_ltQ, y_ltPP, y_eqP, y_eqQ, y_eqPP, if_pos, if_neg, ite_true, ite_false, not_true_eq_false, not_false_eq_true, and_true, true_and, and_false, false_and, or_true, true_or, or_false, false_or, ym_isBoard hM hW, y_lit64, y_in, y_c3, h2, ym_open hM hW, z, v2]
    · refine ⟨-2, ?_, ?_⟩
      · unfold f_X11_middle; simp (disch := omega) only [y_lit, y_n1, nI_add, pk_mul, j_lt, j_b1_s, j_b2_s, j_b3_s, j_b0_s, y_bo, y_bo1, y_bo0, y_i0, y_i1, Classical.not_not, nI_clamp, y_ix, y_lt, y_le, y_eq, y_nP, y_nPs, y_ltP, y_ltQ, y_ltPP, y_eqP, y_eqQ, y_eqPP, if_pos, if_neg, ite_true, ite_false, not_true_eq_false, not_false_eq_true, and_true, true_and, and_false, false_and, or_true, true_or, or_false, false_or, yc_isTold hN hW, y_c5, h2]
      · unfold f_X12_middle; simp (disch := omega) only [y_lit, y_n1, nI_add, pk_mul, j_lt, j_b1_s, j_b2_s, j_b3_s, j_b0_s, y_bo, y_bo1, y_bo0, y_i0, y_i1, Classical.not_not, nI_clamp, y_ix, y_lt, y_le, y_eq, y_nP, y_nPs, y_ltP, y_ltQ, y_ltPP, y_eqP, y_eqQ, y_eqPP, if_pos, if_neg, ite_true, ite_false, not_true_eq_false, not_false_eq_true, and_true, true_and, and_false, false_and, or_true, true_or, or_false, false_or, ym_isBoard hM hW, y_lit64, y_in, y_c3, h2]
  · refine ⟨-2, ?_, ?_⟩
    · unfold f_X11_middle; simp (disch := omega) only [y_lit, y_n1, nI_add, pk_mul, j_lt, j_b1_s, j_b2_s, j_b3_s, j_b0_s, y_bo, y_bo1, y_bo0, y_i0, y_i1, Classical.not_not, nI_clamp, y_ix, y_lt, y_le, y_eq, y_nP, y_nPs, y_ltP, y_ltQ, y_ltPP, y_eqP, y_eqQ, y_eqPP, if_pos, if_neg, ite_true, ite_false, not_true_eq_false, not_false_eq_true, and_true, true_and, and_false, false_and, or_true, true_or, or_false, false_or, yc_isTold hN hW]
    · unfold f_X12_middle; simp (disch := omega) only [y_lit, y_n1, nI_add, pk_mul, j_lt, j_b1_s, j_b2_s, j_b3_s, j_b0_s, y_bo, y_bo1, y_bo0, y_i0, y_i1, Classical.not_not, nI_clamp, y_ix, y_lt, y_le, y_eq, y_nP, y_nPs, y_ltP, y_ltQ, y_ltPP, y_eqP, y_eqQ, y_eqPP, if_pos, if_neg, ite_true, ite_false, not_true_eq_false, not_false_eq_true, and_true, true_and, and_false, false_and, or_true, true_or, or_false, false_or, ym_isBoard hM hW]
end Z
