/-! ===== small questions to the board, both sides ===== -/
theorem y_c1 {x : Int32} {n : Nat} (hn : n < 2 ^ 31) : (¬ x < nI 0 ∧ x < nI n) ↔ y_rg x n := by
  rw [j_ltI, j_ltI, nI_toInt hn, nI_toInt (by omega)]; unfold y_rg; omega
theorem y_c2 {x : Int32} {n : Nat} (hn : n < 2 ^ 31) : (¬ x < nI 0 ∧ ¬ nP n < x) ↔ y_rg x n := by
  rw [j_ltI, j_ltI, y_nPt hn, nI_toInt (by omega)]; unfold y_rg; omega
theorem y_rn {k n : Nat} (hk : k < 2 ^ 31) : y_rg (nI k) n ↔ k < n := by unfold y_rg; rw [nI_toInt hk]; omega
theorem y_r0 {x : Int32} : y_rg x 0 ↔ False := ⟨fun z => by have a := z.1; have c := z.2; omega, fun z => z.elim⟩
theorem y_rP {k n : Nat} (hk : k < 2 ^ 31) : y_rg (nP k) n ↔ 0 < k ∧ k < n + 1 := by unfold y_rg; rw [y_nPt hk]; omega
theorem y_sm : ∀ h, h < 32 → ((nI h).toBitVec.smod 32).toNat = h := by decide
theorem y_an {h : Nat} (hh : h < 31) : nI h &&& nI 31 = nI h := by
  rw [show nI 31 = (31 : Int32) from rfl, pk_andN (by omega) 5 (by decide), Nat.mod_eq_of_lt (by omega)]
theorem y_shr {s h : Nat} (hs : s < 2 ^ 31) (hh : h < 31) : nI s >>> (nI h &&& nI 31) = nI (s / 2 ^ h) := by
  rw [y_an hh, pk_shrN hs _ h (y_sm h (by omega))]
theorem y_one {s : Nat} (hs : s < 2 ^ 31) : nI s &&& nI 1 = nI (s % 2) := by
  rw [show nI 1 = (1 : Int32) from rfl, pk_andN (by omega) 1 (by decide)]
theorem y_bit {s h : Nat} (hs : s < 2 ^ 31) (hh : h < 31) : (nI s >>> (nI h &&& nI 31)) &&& nI 1 = nI (s / 2 ^ h % 2) := by
  rw [y_shr hs hh, y_one (Nat.lt_of_le_of_lt (Nat.div_le_self _ _) hs)]
theorem y_shl {h : Nat} (hh : h < 31) : nI 1 <<< (nI h &&& nI 31) = nI (2 ^ h) := by
  have : 2 ^ h < 2 ^ 32 := Nat.pow_lt_pow_right (by omega) (by omega)
  rw [y_an hh, pk_shlN _ h (y_sm h (by omega)) (by omega), Nat.one_mul]
def y_sh (b : Nat → Nat) (h : Nat) : Nat := b 7 / 2 ^ h % 2
def y_df (a c : Nat) : Nat := (a - c) + (c - a)
def y_ap (b : Nat → Nat) (a c : Nat) : Nat := y_df (a / b 0) (c / b 0) + y_df (a % b 0) (c % b 0)
theorem y_abs {a c : Nat} (ha : a < 2 ^ 30) (hc : c < 2 ^ 30) : (if nI 0 ≤ nI a - nI c then nI a - nI c else nI 0 - (nI a - nI c)) = nI (y_df a c) := by
  have e := pk_sub_toInt ha hc
  have z : (nI 0).toInt = 0 := by decide
  have hd : y_df a c < 2 ^ 31 := by unfold y_df; omega
  by_cases h : nI 0 ≤ nI a - nI c
  · rw [if_pos h, j_eqI, e, nI_toInt hd]
    rw [j_leI, e, z] at h
    unfold y_df; omega
  · rw [if_neg h, j_eqI, nI_toInt hd]
    rw [j_leI, e, z] at h
    rw [j_sbI (by rw [e, z]; omega) (by rw [e, z]; omega), e, z]
    unfold y_df; omega
section C
variable {σ : j_G} {b : Nat → Nat}
theorem yc_holes (hN : y_N σ b) : f_X2_holes 1 σ = nI (y_ho b) := by
  unfold f_X2_holes y_ho; rw [hN.f2, hN.f3, pk_mul]
theorem yc_isHole (hN : y_N σ b) (hW : y_W b) (x : Int32) : f_X2_isHole 1 x σ = if y_rg x (y_ho b) then nI 1 else nI 0 := by
  have := hW.ho
  unfold f_X2_isHole; rw [yc_holes hN]; simp only [y_lit]; simp (disch := omega) only [y_c1]
theorem yc_isTick (hN : y_N σ b) (hW : y_W b) (x : Int32) : f_X2_isTick 1 x σ = if y_rg x (b 2) then nI 1 else nI 0 := by
  have := hW.b2
  unfold f_X2_isTick; rw [hN.f4]; simp only [y_lit]; simp (disch := omega) only [y_c1]
theorem yc_isPlayer (hN : y_N σ b) (hW : y_W b) (x : Int32) : f_X2_isPlayer x σ = if y_rg x (b 6) then nI 1 else nI 0 := by
  have := hW.b6
  unfold f_X2_isPlayer; rw [hN.f7]; simp only [y_lit]; simp (disch := omega) only [y_c1]
theorem yc_has (hN : y_N σ b) (hW : y_W b) (x : Int32) : f_X3_has x σ = if y_rg x (b 5) then nI 1 else nI 0 := by
  have := hW.b5
  unfold f_X3_has; rw [hN.d0]; simp only [y_lit]; simp (disch := omega) only [y_c1]
theorem yc_isTold (hN : y_N σ b) (hW : y_W b) : f_X2_isTold σ = if 0 < b 9 then nI 1 else nI 0 := by
  have := hW.b9
  unfold f_X2_isTold; rw [hN.f1]; simp (disch := omega) only [y_lit, y_n1, nI_add, pk_mul, j_lt, j_b1_s, j_b2_s, j_b3_s, j_b0_s, y_bo, y_bo1, y_bo0, y_i0, y_i1, Classical.not_not, nI_clamp, y_ix, y_lt, y_le, y_eq, y_nP, y_nPs, y_ltP, y_ltQ, y_ltPP, y_eqP, y_eqQ, y_eqPP, if_pos, if_neg, ite_true, ite_false, not_true_eq_false, not_false_eq_true, and_true, true_and, and_false, false_and, or_true, true_or, or_false, false_or]
theorem yc_isShut (hN : y_N σ b) (hW : y_W b) {h : Nat} (hh : h < 31) : f_X2_isShut 1 (nI h) σ = if y_sh b h = 1 then nI 1 else nI 0 := by
  have := hW.b7
  have h2 : y_sh b h < 2 := Nat.mod_lt _ (by omega)
  unfold f_X2_isShut; rw [hN.f6]; simp only [y_lit]; rw [y_bit (by omega) hh]
  by_cases e : y_sh b h = 1
  · have e' : b 7 / 2 ^ h % 2 = 1 := e
    rw [e', if_pos e, if_pos (by decide)]
  · have e' : b 7 / 2 ^ h % 2 = 0 := by show y_sh b h = 0; omega
    rw [e', if_neg e, if_neg (by decide)]
theorem yc_trait (hN : y_N σ b) (hW : y_W b) {p q : Nat} (hp : p < b 6) (hq : q < 5) : f_X2_trait (nI p) (nI q) σ = some (nI (b (96 + 5 * p + q))) := by
  have := hW.b6
  unfold f_X2_trait; simp (disch := omega) only [y_lit, y_n1, nI_add, pk_mul, j_lt, j_b1_s, j_b2_s, j_b3_s, j_b0_s, y_bo, y_bo1, y_bo0, y_i0, y_i1, Classical.not_not, nI_clamp, y_ix, y_lt, y_le, y_eq, y_nP, y_nPs, y_ltP, y_ltQ, y_ltPP, y_eqP, y_eqQ, y_eqPP, if_pos, if_neg, ite_true, ite_false, not_true_eq_false, not_false_eq_true, and_true, true_and, and_false, false_and, or_true, true_or, or_false, false_or]
  rw [Nat.mul_comm p 5, hN.t hp hq]
theorem yc_apart (hN : y_N σ b) (hW : y_W b) (h9 : 0 < b 9) {a c : Nat} (ha : a < 100) (hc : c < 100) : f_X2_apart (nI a) (nI c) σ = some (nI (y_ap b a c)) := by
  have h0 := hW.on h9
  have h4 := hW.b0
  have r : ∀ x, x < 100 → x / b 0 ≤ x := fun x _ => Nat.div_le_self _ _
  have r2 : ∀ x, x < 100 → x % b 0 ≤ x := fun x _ => Nat.mod_le _ _
  have q1 := r a ha; have q2 := r c hc; have q3 := r2 a ha; have q4 := r2 c hc
  unfold f_X2_apart; rw [hN.f2]; simp only [y_lit]
  rw [pk_rem (by omega) (by omega) (by omega), pk_rem (by omega) (by omega) (by omega), pk_div (by omega) (by omega) (by omega), pk_div (by omega) (by omega) (by omega)]
  rw [y_abs (by omega) (by omega), y_abs (by omega) (by omega)]
  simp (disch := omega) only [y_lit, y_n1, nI_add, pk_mul, j_lt, j_b1_s, j_b2_s, j_b3_s, j_b0_s, y_bo, y_bo1, y_bo0, y_i0, y_i1, Classical.not_not, nI_clamp, y_ix, y_lt, y_le, y_eq, y_nP, y_nPs, y_ltP, y_ltQ, y_ltPP, y_eqP, y_eqQ, y_eqPP, if_pos, if_neg, ite_true, ite_false, not_true_eq_false, not_false_eq_true, and_true, true_and, and_false, false_and, or_true, true_or, or_false, false_or]
  rfl
end C
section M
variable {τ : j_G} {b : Nat → Nat}
theorem ym_holes (hM : y_M τ b) : f_X12_holes τ = some (nI (y_ho b)) := by
  unfold f_X12_holes y_ho; simp (disch := omega) only [y_lit, y_n1, nI_add, pk_mul, j_lt, j_b1_s, j_b2_s, j_b3_s, j_b0_s, y_bo, y_bo1, y_bo0, y_i0, y_i1, Classical.not_not, nI_clamp, y_ix, y_lt, y_le, y_eq, y_nP, y_nPs, y_ltP, y_ltQ, y_ltPP, y_eqP, y_eqQ, y_eqPP, if_pos, if_neg, ite_true, ite_false, not_true_eq_false, not_false_eq_true, and_true, true_and, and_false, false_and, or_true, true_or, or_false, false_or, hM.f]
theorem ym_isHole (hM : y_M τ b) (hW : y_W b) (x : Int32) : f_X12_isHole x.toInt64 τ = some (if y_rg x (y_ho b) then nI 1 else nI 0) := by
  have := hW.ho
  unfold f_X12_isHole; rw [ym_holes hM]; simp (disch := omega) only [y_lit, y_n1, nI_add, pk_mul, j_lt, j_b1_s, j_b2_s, j_b3_s, j_b0_s, y_bo, y_bo1, y_bo0, y_i0, y_i1, Classical.not_not, nI_clamp, y_ix, y_lt, y_le, y_eq, y_nP, y_nPs, y_ltP, y_ltQ, y_ltPP, y_eqP, y_eqQ, y_eqPP, if_pos, if_neg, ite_true, ite_false, not_true_eq_false, not_false_eq_true, and_true, true_and, and_false, false_and, or_true, true_or, or_false, false_or, y_lit64, y_in, y_c2]
theorem ym_isTick (hM : y_M τ b) (hW : y_W b) (x : Int32) : f_X12_isTick x.toInt64 τ = some (if y_rg x (b 2) then nI 1 else nI 0) := by
  have := hW.b2
  unfold f_X12_isTick; simp (disch := omega) only [y_lit, y_n1, nI_add, pk_mul, j_lt, j_b1_s, j_b2_s, j_b3_s, j_b0_s, y_bo, y_bo1, y_bo0, y_i0, y_i1, Classical.not_not, nI_clamp, y_ix, y_lt, y_le, y_eq, y_nP, y_nPs, y_ltP, y_ltQ, y_ltPP, y_eqP, y_eqQ, y_eqPP, if_pos, if_neg, ite_true, ite_false, not_true_eq_false, not_false_eq_true, and_true, true_and, and_false, false_and, or_true, true_or, or_false, false_or, hM.f, y_lit64, y_in, y_c2]
theorem ym_isPlayer (hM : y_M τ b) (hW : y_W b) (x : Int32) : f_X12_isPlayer x τ = some (if y_rg x (b 6) then nI 1 else nI 0) := by
  have := hW.b6
  unfold f_X12_isPlayer; simp (disch := omega) only [y_lit, y_n1, nI_add, pk_mul, j_lt, j_b1_s, j_b2_s, j_b3_s, j_b0_s, y_bo, y_bo1, y_bo0, y_i0, y_i1, Classical.not_not, nI_clamp, y_ix, y_lt, y_le, y_eq, y_nP, y_nPs, y_ltP, y_ltQ, y_ltPP, y_eqP, y_eqQ, y_eqPP, if_pos, if_neg, ite_true, ite_false, not_true_eq_false, not_false_eq_true, and_true, true_and, and_false, false_and, or_true, true_or, or_false, false_or, hM.f, y_lit64, y_in, y_c2]
theorem ym_isComing (hM : y_M τ b) (hW : y_W b) (x : Int32) : f_X12_isComing x τ = some (if y_rg x (b 5) then nI 1 else nI 0) := by
  have := hW.b5
  unfold f_X12_isComing; simp (disch := omega) only [y_lit, y_n1, nI_add, pk_mul, j_lt, j_b1_s, j_b2_s, j_b3_s, j_b0_s, y_bo, y_bo1, y_bo0, y_i0, y_i1, Classical.not_not, nI_clamp, y_ix, y_lt, y_le, y_eq, y_nP, y_nPs, y_ltP, y_ltQ, y_ltPP, y_eqP, y_eqQ, y_eqPP, if_pos, if_neg, ite_true, ite_false, not_true_eq_false, not_false_eq_true, and_true, true_and, and_false, false_and, or_true, true_or, or_false, false_or, hM.f, y_lit64, y_in, y_c2]
theorem ym_isBoard (hM : y_M τ b) (hW : y_W b) : f_X12_isBoard τ = some (if 0 < b 9 then nI 1 else nI 0) := by
  have := hW.b0
  have e : 0 < b 0 ↔ 0 < b 9 := ⟨fun h => hW.on0 (Or.inl h), fun h => (hW.on h).1⟩
  unfold f_X12_isBoard; simp (disch := omega) only [y_lit, y_n1, nI_add, pk_mul, j_lt, j_b1_s, j_b2_s, j_b3_s, j_b0_s, y_bo, y_bo1, y_bo0, y_i0, y_i1, Classical.not_not, nI_clamp, y_ix, y_lt, y_le, y_eq, y_nP, y_nPs, y_ltP, y_ltQ, y_ltPP, y_eqP, y_eqQ, y_eqPP, if_pos, if_neg, ite_true, ite_false, not_true_eq_false, not_false_eq_true, and_true, true_and, and_false, false_and, or_true, true_or, or_false, false_or, hM.f, e]
  by_cases h : 0 < b 9
  · rw [if_pos h, if_pos h]
  · rw [if_neg h, if_neg h]
theorem ym_isShut (hM : y_M τ b) (hW : y_W b) {h : Nat} (hh : h < 31) : f_X12_isShut (nI h) τ = some (if y_sh b h = 1 then nI 1 else nI 0) := by
  have := hW.b7
  have h2 : y_sh b h < 2 := Nat.mod_lt _ (by omega)
  unfold f_X12_isShut; simp (disch := omega) only [y_lit, y_n1, nI_add, pk_mul, j_lt, j_b1_s, j_b2_s, j_b3_s, j_b0_s, y_bo, y_bo1, y_bo0, y_i0, y_i1, Classical.not_not, nI_clamp, y_ix, y_lt, y_le, y_eq, y_nP, y_nPs, y_ltP, y_ltQ, y_ltPP, y_eqP, y_eqQ, y_eqPP, if_pos, if_neg, ite_true, ite_false, not_true_eq_false, not_false_eq_true, and_true, true_and, and_false, false_and, or_true, true_or, or_false, false_or, hM.f, y_bit]
  by_cases e : y_sh b h = 1
  · have e' : b 7 / 2 ^ h % 2 = 1 := e
    rw [e', if_pos e, if_pos (by decide)]
  · have e' : b 7 / 2 ^ h % 2 = 0 := by show y_sh b h = 0; omega
    rw [e', if_neg e, if_neg (by decide)]
theorem ym_of (hM : y_M τ b) {p q : Nat} (hp : p < 4) (hq : q < 5) : f_X12_of (nI p) (nI q) τ = some (nI (b (96 + 5 * p + q))) := by
  unfold f_X12_of; simp (disch := omega) only [y_lit, y_n1, nI_add, pk_mul, j_lt, j_b1_s, j_b2_s, j_b3_s, j_b0_s, y_bo, y_bo1, y_bo0, y_i0, y_i1, Classical.not_not, nI_clamp, y_ix, y_lt, y_le, y_eq, y_nP, y_nPs, y_ltP, y_ltQ, y_ltPP, y_eqP, y_eqQ, y_eqPP, if_pos, if_neg, ite_true, ite_false, not_true_eq_false, not_false_eq_true, and_true, true_and, and_false, false_and, or_true, true_or, or_false, false_or, hM.p]
theorem ym_co0 (hM : y_M τ b) {k : Nat} (hk : k < 24) : f_X12_ofComing (nI k) (nI 0) τ = some (nI (b (24 + 3 * k))) := by
  unfold f_X12_ofComing; simp (disch := omega) only [y_lit, y_n1, nI_add, pk_mul, j_lt, j_b1_s, j_b2_s, j_b3_s, j_b0_s, y_bo, y_bo1, y_bo0, y_i0, y_i1, Classical.not_not, nI_clamp, y_ix, y_lt, y_le, y_eq, y_nP, y_nPs, y_ltP, y_ltQ, y_ltPP, y_eqP, y_eqQ, y_eqPP, if_pos, if_neg, ite_true, ite_false, not_true_eq_false, not_false_eq_true, and_true, true_and, and_false, false_and, or_true, true_or, or_false, false_or, Nat.add_zero, hM.k0]
theorem ym_co1 (hM : y_M τ b) {k : Nat} (hk : k < 24) : f_X12_ofComing (nI k) (nI 1) τ = some (nP (b (25 + 3 * k))) := by
  unfold f_X12_ofComing; simp (disch := omega) only [y_lit, y_n1, nI_add, pk_mul, j_lt, j_b1_s, j_b2_s, j_b3_s, j_b0_s, y_bo, y_bo1, y_bo0, y_i0, y_i1, Classical.not_not, nI_clamp, y_ix, y_lt, y_le, y_eq, y_nP, y_nPs, y_ltP, y_ltQ, y_ltPP, y_eqP, y_eqQ, y_eqPP, if_pos, if_neg, ite_true, ite_false, not_true_eq_false, not_false_eq_true, and_true, true_and, and_false, false_and, or_true, true_or, or_false, false_or, Nat.add_right_comm 24 _ 1, hM.k1]
theorem ym_co2 (hM : y_M τ b) {k : Nat} (hk : k < 24) : f_X12_ofComing (nI k) (nI 2) τ = some (nI (b (26 + 3 * k))) := by
  unfold f_X12_ofComing; simp (disch := omega) only [y_lit, y_n1, nI_add, pk_mul, j_lt, j_b1_s, j_b2_s, j_b3_s, j_b0_s, y_bo, y_bo1, y_bo0, y_i0, y_i1, Classical.not_not, nI_clamp, y_ix, y_lt, y_le, y_eq, y_nP, y_nPs, y_ltP, y_ltQ, y_ltPP, y_eqP, y_eqQ, y_eqPP, if_pos, if_neg, ite_true, ite_false, not_true_eq_false, not_false_eq_true, and_true, true_and, and_false, false_and, or_true, true_or, or_false, false_or, Nat.add_right_comm 24 _ 2, hM.k2]
theorem ym_stepsOf (hM : y_M τ b) (hW : y_W b) (h9 : 0 < b 9) {a c : Nat} (ha : a < 100) (hc : c < 100) : f_X12_stepsOf (nI a) (nI c) τ = some (nI (y_ap b a c)) := by
  have h0 := hW.on h9
  have h4 := hW.b0
  have r : ∀ x, x < 100 → x / b 0 ≤ x := fun x _ => Nat.div_le_self _ _
  have r2 : ∀ x, x < 100 → x % b 0 ≤ x := fun x _ => Nat.mod_le _ _
  have q1 := r a ha; have q2 := r c hc; have q3 := r2 a ha; have q4 := r2 c hc
  unfold f_X12_stepsOf; simp (disch := omega) only [y_lit, nI_clamp, hM.f]
  rw [pk_rem (by omega) (by omega) (by omega), pk_rem (by omega) (by omega) (by omega), pk_div (by omega) (by omega) (by omega), pk_div (by omega) (by omega) (by omega)]
  rw [y_abs (by omega) (by omega), y_abs (by omega) (by omega)]
  simp (disch := omega) only [y_lit, y_n1, nI_add, pk_mul, j_lt, j_b1_s, j_b2_s, j_b3_s, j_b0_s, y_bo, y_bo1, y_bo0, y_i0, y_i1, Classical.not_not, nI_clamp, y_ix, y_lt, y_le, y_eq, y_nP, y_nPs, y_ltP, y_ltQ, y_ltPP, y_eqP, y_eqQ, y_eqPP, if_pos, if_neg, ite_true, ite_false, not_true_eq_false, not_false_eq_true, and_true, true_and, and_false, false_and, or_true, true_or, or_false, false_or]
  unfold y_ap
  rw [Nat.add_comm]
end M
