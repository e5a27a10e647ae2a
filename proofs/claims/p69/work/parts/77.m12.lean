/-! ===== the drum round, laws, path, breaks ===== -/
def y_rd (b : Nat → Nat) (a : Nat) : Nat := b (24 + 3 * (a % b 5))
theorem y_fmI {a n : Nat} (ha : a < 2 ^ 30) (h0 : 0 < n) (hn : n < 2 ^ 30) : f_J9_floorMod_7cf53 (nI a) (nI n) = some (nI (a % n)) := by
  have hx : a ^^^ n < 2 ^ 30 := Nat.xor_lt_two_pow ha hn
  have hr : nI a - nI (a / n * n) = nI (a % n) := by
    rw [← pk_mul, ← pk_div (by omega) (by omega) (by omega), pk_rem (by omega) (by omega) (by omega)]
  unfold f_J9_floorMod_7cf53
  simp (disch := omega) only [y_lit, y_n1, nI_add, pk_mul, j_lt, j_b1_s, j_b2_s, j_b3_s, j_b0_s, y_bo, y_bo1, y_bo0, y_i0, y_i1, Classical.not_not, nI_clamp, y_ix, y_lt, y_le, y_eq, y_nP, y_nPs, y_ltP, y_ltQ, y_ltPP, y_eqP, y_eqQ, y_eqPP, if_pos, if_neg, ite_true, ite_false, not_true_eq_false, not_false_eq_true, and_true, true_and, and_false, false_and, or_true, true_or, or_false, false_or, y_xor, pk_div, hr]
theorem y_fm1 : ∀ n, n < 25 → 0 < n → f_J9_floorMod_7cf53 (nP 0) (nI n) = some (nI ((2 * n - 1) % n)) := by decide
theorem y_fm2 : ∀ n, n < 25 → 0 < n → f_J9_floorMod_7cf53 (nI 0 - nI 2) (nI n) = some (nI ((2 * n - 2) % n)) := by decide
theorem y_fm3 : ∀ n, n < 25 → 0 < n → f_J9_floorMod_7cf53 (nI 1 - nI 2) (nI n) = some (nI ((1 + 2 * n - 2) % n)) := by decide
theorem y_fmm {k c n : Nat} (hk : k < 100) (h0 : 0 < n) (hn : n < 25) (hc : c = 1 ∨ c = 2) : f_J9_floorMod_7cf53 (nI k - nI c) (nI n) = some (nI ((k + 2 * n - c) % n)) := by
  by_cases h : c ≤ k
  · rw [pk_sub h, y_fmI (by omega) h0 (by omega), show k + 2 * n - c = k - c + n * 2 from by omega, Nat.add_mul_mod_self_left]
  · rcases hc with rfl | rfl
    · obtain rfl : k = 0 := by omega
      rw [show nI 0 - nI 1 = nP 0 from rfl, y_fm1 n hn h0, Nat.zero_add]
    · obtain rfl | rfl : k = 0 ∨ k = 1 := by omega
      · rw [y_fm2 n hn h0, Nat.zero_add]
      · rw [y_fm3 n hn h0]
/-- may it come: its hole, the one ahead and 1, the one ahead of that and 1 -/
def y_lz (b : Nat → Nat) (l h one two : Nat) : Nat := if l = 0 then 1 else if l = 1 then (if h + 1 = one then 0 else 1) else if l = 2 then (if one = 0 then 1 else if 1 < y_ap b h (one - 1) then 1 else 0) else (if h + 1 = one then 0 else if h + 1 = two then 0 else 1)
theorem y_lz_le (b : Nat → Nat) (l h one two : Nat) : y_lz b l h one two ≤ 1 := by
  unfold y_lz
  repeat' split
  all_goals omega
section C
variable {σ τ : j_G} {b : Nat → Nat}
theorem y_rd_lt (hW : y_W b) (h5 : 0 < b 5) (a : Nat) : y_rd b a < y_ho b := (hW.co (Nat.mod_lt _ h5)).1
theorem yc_round (hN : y_N σ b) (hW : y_W b) (h5 : 0 < b 5) {a : Nat} (ha : a < 10000) : f_X3_round (nI a) σ = some (nI (y_rd b a)) := by
  have b5 := hW.b5
  have hm : a % b 5 < b 5 := Nat.mod_lt _ h5
  unfold f_X3_round y_rd; simp (disch := omega) only [y_lit, y_n1, nI_add, pk_mul, j_lt, j_b1_s, j_b2_s, j_b3_s, j_b0_s, y_bo, y_bo1, y_bo0, y_i0, y_i1, Classical.not_not, nI_clamp, y_ix, y_lt, y_le, y_eq, y_nP, y_nPs, y_ltP, y_ltQ, y_ltPP, y_eqP, y_eqQ, y_eqPP, if_pos, if_neg, ite_true, ite_false, not_true_eq_false, not_false_eq_true, and_true, true_and, and_false, false_and, or_true, true_or, or_false, false_or, hN.d0, y_fmI]
  rw [hN.k0 hm]
theorem yc_roundm (hN : y_N σ b) (hW : y_W b) (h5 : 0 < b 5) {k c : Nat} (hk : k < 100) (hc : c = 1 ∨ c = 2) : f_X3_round (nI k - nI c) σ = some (nI (y_rd b (k + 2 * b 5 - c))) := by
  have b5 := hW.b5
  have hm : (k + 2 * b 5 - c) % b 5 < b 5 := Nat.mod_lt _ h5
  unfold f_X3_round y_rd
  rw [hN.d0, y_fmm hk h5 (by omega) hc]
  simp (disch := omega) only [y_lit, y_n1, nI_add, pk_mul, j_lt, j_b1_s, j_b2_s, j_b3_s, j_b0_s, y_bo, y_bo1, y_bo0, y_i0, y_i1, Classical.not_not, nI_clamp, y_ix, y_lt, y_le, y_eq, y_nP, y_nPs, y_ltP, y_ltQ, y_ltPP, y_eqP, y_eqQ, y_eqPP, if_pos, if_neg, ite_true, ite_false, not_true_eq_false, not_false_eq_true, and_true, true_and, and_false, false_and, or_true, true_or, or_false, false_or]
  rw [hN.k0 hm]
theorem ym_holeAt (hM : y_M τ b) (hW : y_W b) (h5 : 0 < b 5) {a : Nat} (ha : a < 10000) : f_X12_holeAt (nI a) τ = some (nI (y_rd b a)) := by
  have b5 := hW.b5
  have hm : a % b 5 < b 5 := Nat.mod_lt _ h5
  unfold f_X12_holeAt y_rd; simp (disch := omega) only [y_lit, y_n1, nI_add, pk_mul, j_lt, j_b1_s, j_b2_s, j_b3_s, j_b0_s, y_bo, y_bo1, y_bo0, y_i0, y_i1, Classical.not_not, nI_clamp, y_ix, y_lt, y_le, y_eq, y_nP, y_nPs, y_ltP, y_ltQ, y_ltPP, y_eqP, y_eqQ, y_eqPP, if_pos, if_neg, ite_true, ite_false, not_true_eq_false, not_false_eq_true, and_true, true_and, and_false, false_and, or_true, true_or, or_false, false_or, hM.f, y_fmI, ym_co0 hM]
theorem ym_holeAtm (hM : y_M τ b) (hW : y_W b) (h5 : 0 < b 5) {k c : Nat} (hk : k < 100) (hc : c = 1 ∨ c = 2) : f_X12_holeAt (nI k - nI c) τ = some (nI (y_rd b (k + 2 * b 5 - c))) := by
  have b5 := hW.b5
  have hm : (k + 2 * b 5 - c) % b 5 < b 5 := Nat.mod_lt _ h5
  have e5 := hM.f (j := 5) (by omega)
  unfold f_X12_holeAt y_rd
  rw [show (5 : Int32) = nI 5 from rfl, y_ix (by omega) (by omega), nI_clamp (by omega), e5, y_fmm hk h5 (by omega) hc]
  simp (disch := omega) only [y_lit, y_n1, nI_add, pk_mul, j_lt, j_b1_s, j_b2_s, j_b3_s, j_b0_s, y_bo, y_bo1, y_bo0, y_i0, y_i1, Classical.not_not, nI_clamp, y_ix, y_lt, y_le, y_eq, y_nP, y_nPs, y_ltP, y_ltQ, y_ltPP, y_eqP, y_eqQ, y_eqPP, if_pos, if_neg, ite_true, ite_false, not_true_eq_false, not_false_eq_true, and_true, true_and, and_false, false_and, or_true, true_or, or_false, false_or, ym_co0 hM]
theorem yc_lets (hN : y_N σ b) (hW : y_W b) (h9 : 0 < b 9) {l h one two : Nat} {B L : Int32} (hl : l < 4) (hh : h < 12) (h1 : one ≤ 12) (h2 : two ≤ 12) (hz : one = 0 → two = 0) (eB : B = nP two) (eL : L = nP one) : f_X2_lets (nI l) B L (nI h) σ = some (nI (y_lz b l h one two)) := by
  subst eB eL
  unfold f_X2_lets y_lz
  by_cases z : one = 0
  · subst z
    have hz2 := hz rfl
    subst hz2
    obtain rfl | rfl | rfl | rfl : l = 0 ∨ l = 1 ∨ l = 2 ∨ l = 3 := by omega
    · simp (disch := omega) only [y_lit, y_n1, nI_add, pk_mul, j_lt, j_b1_s, j_b2_s, j_b3_s, j_b0_s, y_bo, y_bo1, y_bo0, y_i0, y_i1, Classical.not_not, nI_clamp, y_ix, y_lt, y_le, y_eq, y_nP, y_nPs, y_ltP, y_ltQ, y_ltPP, y_eqP, y_eqQ, y_eqPP, if_pos, if_neg, ite_true, ite_false, not_true_eq_false, not_false_eq_true, and_true, true_and, and_false, false_and, or_true, true_or, or_false, false_or]
    · simp (disch := omega) only [y_lit, y_n1, nI_add, pk_mul, j_lt, j_b1_s, j_b2_s, j_b3_s, j_b0_s, y_bo, y_bo1, y_bo0, y_i0, y_i1, Classical.not_not, nI_clamp, y_ix, y_lt, y_le, y_eq, y_nP, y_nPs, y_ltP, y_ltQ, y_ltPP, y_eqP, y_eqQ, y_eqPP, if_pos, if_neg, ite_true, ite_false, not_true_eq_false, not_false_eq_true, and_true, true_and, and_false, false_and, or_true, true_or, or_false, false_or]
    · simp (disch := omega) only [y_lit, y_n1, nI_add, pk_mul, j_lt, j_b1_s, j_b2_s, j_b3_s, j_b0_s, y_bo, y_bo1, y_bo0, y_i0, y_i1, Classical.not_not, nI_clamp, y_ix, y_lt, y_le, y_eq, y_nP, y_nPs, y_ltP, y_ltQ, y_ltPP, y_eqP, y_eqQ, y_eqPP, if_pos, if_neg, ite_true, ite_false, not_true_eq_false, not_false_eq_true, and_true, true_and, and_false, false_and, or_true, true_or, or_false, false_or]
    · simp (disch := omega) only [y_lit, y_n1, nI_add, pk_mul, j_lt, j_b1_s, j_b2_s, j_b3_s, j_b0_s, y_bo, y_bo1, y_bo0, y_i0, y_i1, Classical.not_not, nI_clamp, y_ix, y_lt, y_le, y_eq, y_nP, y_nPs, y_ltP, y_ltQ, y_ltPP, y_eqP, y_eqQ, y_eqPP, if_pos, if_neg, ite_true, ite_false, not_true_eq_false, not_false_eq_true, and_true, true_and, and_false, false_and, or_true, true_or, or_false, false_or]
  · obtain ⟨o, rfl⟩ : ∃ o, one = o + 1 := ⟨one - 1, by omega⟩
    rw [y_nPs, Nat.add_sub_cancel]
    have ap := y_ap_bd (b := b) (a := o) (c := h) (by omega) (by omega)
    obtain rfl | rfl | rfl | rfl : l = 0 ∨ l = 1 ∨ l = 2 ∨ l = 3 := by omega
    · simp (disch := omega) only [y_lit, y_n1, nI_add, pk_mul, j_lt, j_b1_s, j_b2_s, j_b3_s, j_b0_s, y_bo, y_bo1, y_bo0, y_i0, y_i1, Classical.not_not, nI_clamp, y_ix, y_lt, y_le, y_eq, y_nP, y_nPs, y_ltP, y_ltQ, y_ltPP, y_eqP, y_eqQ, y_eqPP, if_pos, if_neg, ite_true, ite_false, not_true_eq_false, not_false_eq_true, and_true, true_and, and_false, false_and, or_true, true_or, or_false, false_or]
    · by_cases c : h = o
      · simp (disch := omega) only [y_lit, y_n1, nI_add, pk_mul, j_lt, j_b1_s, j_b2_s, j_b3_s, j_b0_s, y_bo, y_bo1, y_bo0, y_i0, y_i1, Classical.not_not, nI_clamp, y_ix, y_lt, y_le, y_eq, y_nP, y_nPs, y_ltP, y_ltQ, y_ltPP, y_eqP, y_eqQ, y_eqPP, if_pos, if_neg, ite_true, ite_false, not_true_eq_false, not_false_eq_true, and_true, true_and, and_false, false_and, or_true, true_or, or_false, false_or]
      · simp (disch := omega) only [y_lit, y_n1, nI_add, pk_mul, j_lt, j_b1_s, j_b2_s, j_b3_s, j_b0_s, y_bo, y_bo1, y_bo0, y_i0, y_i1, Classical.not_not, nI_clamp, y_ix, y_lt, y_le, y_eq, y_nP, y_nPs, y_ltP, y_ltQ, y_ltPP, y_eqP, y_eqQ, y_eqPP, if_pos, if_neg, ite_true, ite_false, not_true_eq_false, not_false_eq_true, and_true, true_and, and_false, false_and, or_true, true_or, or_false, false_or]
    · simp (disch := omega) only [y_lit, y_n1, nI_add, pk_mul, j_lt, j_b1_s, j_b2_s, j_b3_s, j_b0_s, y_bo, y_bo1, y_bo0, y_i0, y_i1, Classical.not_not, nI_clamp, y_ix, y_lt, y_le, y_eq, y_nP, y_nPs, y_ltP, y_ltQ, y_ltPP, y_eqP, y_eqQ, y_eqPP, if_pos, if_neg, ite_true, ite_false, not_true_eq_false, not_false_eq_true, and_true, true_and, and_false, false_and, or_true, true_or, or_false, false_or, yc_apart hN hW h9]
      rw [y_ap_comm (a := h) (c := o)]
      by_cases c : 1 < y_ap b o h
      · simp (disch := omega) only [y_lit, y_n1, nI_add, pk_mul, j_lt, j_b1_s, j_b2_s, j_b3_s, j_b0_s, y_bo, y_bo1, y_bo0, y_i0, y_i1, Classical.not_not, nI_clamp, y_ix, y_lt, y_le, y_eq, y_nP, y_nPs, y_ltP, y_ltQ, y_ltPP, y_eqP, y_eqQ, y_eqPP, if_pos, if_neg, ite_true, ite_false, not_true_eq_false, not_false_eq_true, and_true, true_and, and_false, false_and, or_true, true_or, or_false, false_or]
      · simp (disch := omega) only [y_lit, y_n1, nI_add, pk_mul, j_lt, j_b1_s, j_b2_s, j_b3_s, j_b0_s, y_bo, y_bo1, y_bo0, y_i0, y_i1, Classical.not_not, nI_clamp, y_ix, y_lt, y_le, y_eq, y_nP, y_nPs, y_ltP, y_ltQ, y_ltPP, y_eqP, y_eqQ, y_eqPP, if_pos, if_neg, ite_true, ite_false, not_true_eq_false, not_false_eq_true, and_true, true_and, and_false, false_and, or_true, true_or, or_false, false_or]
    · by_cases c : h = o
      · simp (disch := omega) only [y_lit, y_n1, nI_add, pk_mul, j_lt, j_b1_s, j_b2_s, j_b3_s, j_b0_s, y_bo, y_bo1, y_bo0, y_i0, y_i1, Classical.not_not, nI_clamp, y_ix, y_lt, y_le, y_eq, y_nP, y_nPs, y_ltP, y_ltQ, y_ltPP, y_eqP, y_eqQ, y_eqPP, if_pos, if_neg, ite_true, ite_false, not_true_eq_false, not_false_eq_true, and_true, true_and, and_false, false_and, or_true, true_or, or_false, false_or]
      · by_cases d : h + 1 = two
        · simp (disch := omega) only [y_lit, y_n1, nI_add, pk_mul, j_lt, j_b1_s, j_b2_s, j_b3_s, j_b0_s, y_bo, y_bo1, y_bo0, y_i0, y_i1, Classical.not_not, nI_clamp, y_ix, y_lt, y_le, y_eq, y_nP, y_nPs, y_ltP, y_ltQ, y_ltPP, y_eqP, y_eqQ, y_eqPP, if_pos, if_neg, ite_true, ite_false, not_true_eq_false, not_false_eq_true, and_true, true_and, and_false, false_and, or_true, true_or, or_false, false_or]
        · simp (disch := omega) only [y_lit, y_n1, nI_add, pk_mul, j_lt, j_b1_s, j_b2_s, j_b3_s, j_b0_s, y_bo, y_bo1, y_bo0, y_i0, y_i1, Classical.not_not, nI_clamp, y_ix, y_lt, y_le, y_eq, y_nP, y_nPs, y_ltP, y_ltQ, y_ltPP, y_eqP, y_eqQ, y_eqPP, if_pos, if_neg, ite_true, ite_false, not_true_eq_false, not_false_eq_true, and_true, true_and, and_false, false_and, or_true, true_or, or_false, false_or]
theorem ym_lets (hM : y_M τ b) (hW : y_W b) (h9 : 0 < b 9) {l h one two : Nat} {B L : Int32} (hl : l < 4) (hh : h < 12) (h1 : one ≤ 12) (h2 : two ≤ 12) (eB : B = nP two) (eL : L = nP one) : f_X12_lets (nI l) (nI h) L B τ = some (nI (if y_sh b h = 1 then 0 else y_lz b l h one two)) := by
  subst eB eL
  unfold f_X12_lets
  simp (disch := omega) only [y_lit, y_n1, nI_add, pk_mul, j_lt, j_b1_s, j_b2_s, j_b3_s, j_b0_s, y_bo, y_bo1, y_bo0, y_i0, y_i1, Classical.not_not, nI_clamp, y_ix, y_lt, y_le, y_eq, y_nP, y_nPs, y_ltP, y_ltQ, y_ltPP, y_eqP, y_eqQ, y_eqPP, if_pos, if_neg, ite_true, ite_false, not_true_eq_false, not_false_eq_true, and_true, true_and, and_false, false_and, or_true, true_or, or_false, false_or, ym_isShut hM hW]
  by_cases s : y_sh b h = 1
  · simp (disch := omega) only [y_lit, y_n1, nI_add, pk_mul, j_lt, j_b1_s, j_b2_s, j_b3_s, j_b0_s, y_bo, y_bo1, y_bo0, y_i0, y_i1, Classical.not_not, nI_clamp, y_ix, y_lt, y_le, y_eq, y_nP, y_nPs, y_ltP, y_ltQ, y_ltPP, y_eqP, y_eqQ, y_eqPP, if_pos, if_neg, ite_true, ite_false, not_true_eq_false, not_false_eq_true, and_true, true_and, and_false, false_and, or_true, true_or, or_false, false_or]
  · rw [if_neg s, if_neg s]
    unfold y_lz
    obtain rfl | rfl | rfl | rfl : l = 0 ∨ l = 1 ∨ l = 2 ∨ l = 3 := by omega
    · simp (disch := omega) only [y_lit, y_n1, nI_add, pk_mul, j_lt, j_b1_s, j_b2_s, j_b3_s, j_b0_s, y_bo, y_bo1, y_bo0, y_i0, y_i1, Classical.not_not, nI_clamp, y_ix, y_lt, y_le, y_eq, y_nP, y_nPs, y_ltP, y_ltQ, y_ltPP, y_eqP, y_eqQ, y_eqPP, if_pos, if_neg, ite_true, ite_false, not_true_eq_false, not_false_eq_true, and_true, true_and, and_false, false_and, or_true, true_or, or_false, false_or]
    · by_cases c : h + 1 = one
      · simp (disch := omega) only [y_lit, y_n1, nI_add, pk_mul, j_lt, j_b1_s, j_b2_s, j_b3_s, j_b0_s, y_bo, y_bo1, y_bo0, y_i0, y_i1, Classical.not_not, nI_clamp, y_ix, y_lt, y_le, y_eq, y_nP, y_nPs, y_ltP, y_ltQ, y_ltPP, y_eqP, y_eqQ, y_eqPP, if_pos, if_neg, ite_true, ite_false, not_true_eq_false, not_false_eq_true, and_true, true_and, and_false, false_and, or_true, true_or, or_false, false_or]
      · simp (disch := omega) only [y_lit, y_n1, nI_add, pk_mul, j_lt, j_b1_s, j_b2_s, j_b3_s, j_b0_s, y_bo, y_bo1, y_bo0, y_i0, y_i1, Classical.not_not, nI_clamp, y_ix, y_lt, y_le, y_eq, y_nP, y_nPs, y_ltP, y_ltQ, y_ltPP, y_eqP, y_eqQ, y_eqPP, if_pos, if_neg, ite_true, ite_false, not_true_eq_false, not_false_eq_true, and_true, true_and, and_false, false_and, or_true, true_or, or_false, false_or]
    · by_cases z : one = 0
      · simp (disch := omega) only [y_lit, y_n1, nI_add, pk_mul, j_lt, j_b1_s, j_b2_s, j_b3_s, j_b0_s, y_bo, y_bo1, y_bo0, y_i0, y_i1, Classical.not_not, nI_clamp, y_ix, y_lt, y_le, y_eq, y_nP, y_nPs, y_ltP, y_ltQ, y_ltPP, y_eqP, y_eqQ, y_eqPP, if_pos, if_neg, ite_true, ite_false, not_true_eq_false, not_false_eq_true, and_true, true_and, and_false, false_and, or_true, true_or, or_false, false_or]
      · obtain ⟨o, rfl⟩ : ∃ o, one = o + 1 := ⟨one - 1, by omega⟩
        have ap := y_ap_bd (b := b) (a := h) (c := o) (by omega) (by omega)
        rw [y_nPs, Nat.add_sub_cancel]
        simp (disch := omega) only [y_lit, y_n1, nI_add, pk_mul, j_lt, j_b1_s, j_b2_s, j_b3_s, j_b0_s, y_bo, y_bo1, y_bo0, y_i0, y_i1, Classical.not_not, nI_clamp, y_ix, y_lt, y_le, y_eq, y_nP, y_nPs, y_ltP, y_ltQ, y_ltPP, y_eqP, y_eqQ, y_eqPP, if_pos, if_neg, ite_true, ite_false, not_true_eq_false, not_false_eq_true, and_true, true_and, and_false, false_and, or_true, true_or, or_false, false_or, ym_stepsOf hM hW h9]
        by_cases c : 1 < y_ap b h o
        · simp (disch := omega) only [y_lit, y_n1, nI_add, pk_mul, j_lt, j_b1_s, j_b2_s, j_b3_s, j_b0_s, y_bo, y_bo1, y_bo0, y_i0, y_i1, Classical.not_not, nI_clamp, y_ix, y_lt, y_le, y_eq, y_nP, y_nPs, y_ltP, y_ltQ, y_ltPP, y_eqP, y_eqQ, y_eqPP, if_pos, if_neg, ite_true, ite_false, not_true_eq_false, not_false_eq_true, and_true, true_and, and_false, false_and, or_true, true_or, or_false, false_or]
        · simp (disch := omega) only [y_lit, y_n1, nI_add, pk_mul, j_lt, j_b1_s, j_b2_s, j_b3_s, j_b0_s, y_bo, y_bo1, y_bo0, y_i0, y_i1, Classical.not_not, nI_clamp, y_ix, y_lt, y_le, y_eq, y_nP, y_nPs, y_ltP, y_ltQ, y_ltPP, y_eqP, y_eqQ, y_eqPP, if_pos, if_neg, ite_true, ite_false, not_true_eq_false, not_false_eq_true, and_true, true_and, and_false, false_and, or_true, true_or, or_false, false_or]
    · by_cases c : h + 1 = one
      · simp (disch := omega) only [y_lit, y_n1, nI_add, pk_mul, j_lt, j_b1_s, j_b2_s, j_b3_s, j_b0_s, y_bo, y_bo1, y_bo0, y_i0, y_i1, Classical.not_not, nI_clamp, y_ix, y_lt, y_le, y_eq, y_nP, y_nPs, y_ltP, y_ltQ, y_ltPP, y_eqP, y_eqQ, y_eqPP, if_pos, if_neg, ite_true, ite_false, not_true_eq_false, not_false_eq_true, and_true, true_and, and_false, false_and, or_true, true_or, or_false, false_or]
      · by_cases d : h + 1 = two
        · simp (disch := omega) only [y_lit, y_n1, nI_add, pk_mul, j_lt, j_b1_s, j_b2_s, j_b3_s, j_b0_s, y_bo, y_bo1, y_bo0, y_i0, y_i1, Classical.not_not, nI_clamp, y_ix, y_lt, y_le, y_eq, y_nP, y_nPs, y_ltP, y_ltQ, y_ltPP, y_eqP, y_eqQ, y_eqPP, if_pos, if_neg, ite_true, ite_false, not_true_eq_false, not_false_eq_true, and_true, true_and, and_false, false_and, or_true, true_or, or_false, false_or]
        · simp (disch := omega) only [y_lit, y_n1, nI_add, pk_mul, j_lt, j_b1_s, j_b2_s, j_b3_s, j_b0_s, y_bo, y_bo1, y_bo0, y_i0, y_i1, Classical.not_not, nI_clamp, y_ix, y_lt, y_le, y_eq, y_nP, y_nPs, y_ltP, y_ltQ, y_ltPP, y_eqP, y_eqQ, y_eqPP, if_pos, if_neg, ite_true, ite_false, not_true_eq_false, not_false_eq_true, and_true, true_and, and_false, false_and, or_true, true_or, or_false, false_or]
def y_pf (b : Nat → Nat) : Nat → Nat := fun k => y_ap b (y_rd b k) (y_rd b (k + 1))
def y_pa (b : Nat → Nat) : Nat := y_su (y_pf b) (b 5) 0 0
theorem y_pa_le (hW : y_W b) : y_pa b ≤ 576 := by
  have b5 := hW.b5
  have h4 := hW.ho
  rcases Nat.eq_zero_or_pos (b 5) with z | z
  · unfold y_pa; rw [z]; exact Nat.zero_le _
  · have := y_su_bd (f := y_pf b) (c := 24) (b 5) 0 (fun j _ _ => y_ap_bd (by have := y_rd_lt hW z j; omega) (by have := y_rd_lt hW z (j + 1); omega))
    unfold y_pa; omega
theorem yc_path (hN : y_N σ b) (hW : y_W b) : f_X2_pathRound σ = some (nI (y_pa b)) := by
  have b5 := hW.b5
  have h4 := hW.ho
  have key : ∀ m i n v, i + m = b 5 → m < n → p_X2_pathRound_4 σ n (nI v) (nI i) = some (nI (y_su (y_pf b) m i v)) := by
    intro m
    induction m with
    | zero =>
      intro i n v h hn
      obtain ⟨n, rfl⟩ := y_pos hn
      unfold p_X2_pathRound_4 y_su; simp (disch := omega) only [y_lit, y_n1, nI_add, pk_mul, j_lt, j_b1_s, j_b2_s, j_b3_s, j_b0_s, y_bo, y_bo1, y_bo0, y_i0, y_i1, Classical.not_not, nI_clamp, y_ix, y_lt, y_le, y_eq, y_nP, y_nPs, y_ltP, y_ltQ, y_ltPP, y_eqP, y_eqQ, y_eqPP, if_pos, if_neg, ite_true, ite_false, not_true_eq_false, not_false_eq_true, and_true, true_and, and_false, false_and, or_true, true_or, or_false, false_or, hN.d0]
    | succ m ih =>
      intro i n v h hn
      obtain ⟨n, rfl⟩ := y_pos hn
      have h5 : 0 < b 5 := by omega
      have h9 := hW.on0 (Or.inr (Or.inr (Or.inl h5)))
      have r1 := y_rd_lt hW h5 i
      have r2 := y_rd_lt hW h5 (i + 1)
      unfold p_X2_pathRound_4 y_su; simp (disch := omega) only [y_lit, y_n1, nI_add, pk_mul, j_lt, j_b1_s, j_b2_s, j_b3_s, j_b0_s, y_bo, y_bo1, y_bo0, y_i0, y_i1, Classical.not_not, nI_clamp, y_ix, y_lt, y_le, y_eq, y_nP, y_nPs, y_ltP, y_ltQ, y_ltPP, y_eqP, y_eqQ, y_eqPP, if_pos, if_neg, ite_true, ite_false, not_true_eq_false, not_false_eq_true, and_true, true_and, and_false, false_and, or_true, true_or, or_false, false_or, hN.d0, yc_round hN hW h5, yc_apart hN hW h9]
      exact ih (i + 1) n _ (by omega) (by omega)
  unfold f_X2_pathRound
  rw [y_lit, key (b 5) 0 j_F 0 (by omega) (y_F (by omega))]
  rfl
theorem ym_path (hM : y_M τ b) (hW : y_W b) : f_X12_pathOf τ = some (nI (y_pa b)) := by
  have b5 := hW.b5
  have h4 := hW.ho
  have key : ∀ m i n v, i + m = b 5 → m < n → p_X12_pathOf_4 τ n (nI v) (nI i) = some (nI (y_su (y_pf b) m i v)) := by
    intro m
    induction m with
    | zero =>
      intro i n v h hn
      obtain ⟨n, rfl⟩ := y_pos hn
      unfold p_X12_pathOf_4 y_su; simp (disch := omega) only [y_lit, y_n1, nI_add, pk_mul, j_lt, j_b1_s, j_b2_s, j_b3_s, j_b0_s, y_bo, y_bo1, y_bo0, y_i0, y_i1, Classical.not_not, nI_clamp, y_ix, y_lt, y_le, y_eq, y_nP, y_nPs, y_ltP, y_ltQ, y_ltPP, y_eqP, y_eqQ, y_eqPP, if_pos, if_neg, ite_true, ite_false, not_true_eq_false, not_false_eq_true, and_true, true_and, and_false, false_and, or_true, true_or, or_false, false_or, hM.f]
    | succ m ih =>
      intro i n v h hn
      obtain ⟨n, rfl⟩ := y_pos hn
      have h5 : 0 < b 5 := by omega
      have h9 := hW.on0 (Or.inr (Or.inr (Or.inl h5)))
      have r1 := y_rd_lt hW h5 i
      have r2 := y_rd_lt hW h5 (i + 1)
      unfold p_X12_pathOf_4 y_su; simp (disch := omega) only [y_lit, y_n1, nI_add, pk_mul, j_lt, j_b1_s, j_b2_s, j_b3_s, j_b0_s, y_bo, y_bo1, y_bo0, y_i0, y_i1, Classical.not_not, nI_clamp, y_ix, y_lt, y_le, y_eq, y_nP, y_nPs, y_ltP, y_ltQ, y_ltPP, y_eqP, y_eqQ, y_eqPP, if_pos, if_neg, ite_true, ite_false, not_true_eq_false, not_false_eq_true, and_true, true_and, and_false, false_and, or_true, true_or, or_false, false_or, hM.f, ym_holeAt hM hW h5, ym_stepsOf hM hW h9]
      exact ih (i + 1) n _ (by omega) (by omega)
  unfold f_X12_pathOf
  rw [y_lit, key (b 5) 0 j_F 0 (by omega) (y_F (by omega))]
  rfl
theorem yc_isLaw {x : Int32} : f_X11_isLaw x = if y_rg x 4 then nI 1 else nI 0 := by
  unfold f_X11_isLaw; simp only [y_lit]; simp (disch := omega) only [y_c1]
theorem ym_isLaw {x : Int32} : f_X12_isLaw x = if y_rg x 4 then nI 1 else nI 0 := by
  unfold f_X12_isLaw; simp (disch := omega) only [y_lit, y_n1, nI_add, pk_mul, j_lt, j_b1_s, j_b2_s, j_b3_s, j_b0_s, y_bo, y_bo1, y_bo0, y_i0, y_i1, Classical.not_not, nI_clamp, y_ix, y_lt, y_le, y_eq, y_nP, y_nPs, y_ltP, y_ltQ, y_ltPP, y_eqP, y_eqQ, y_eqPP, if_pos, if_neg, ite_true, ite_false, not_true_eq_false, not_false_eq_true, and_true, true_and, and_false, false_and, or_true, true_or, or_false, false_or, y_lit64, y_in, y_c3]
end C
section Z
variable {σ τ : j_G}
theorem z_path (hR : j_Rel σ τ) : ∃ v, f_X11_path σ = some v ∧ f_X12_path τ = some v := by
  obtain ⟨b, hW, hN, hM, hK⟩ := id hR
  by_cases h9 : 0 < b 9
  · refine ⟨nI (y_pa b), ?_, ?_⟩
    · unfold f_X11_path; simp (disch := omega) only [y_lit, y_n1, nI_add, pk_mul, j_lt, j_b1_s, j_b2_s, j_b3_s, j_b0_s, y_bo, y_bo1, y_bo0, y_i0, y_i1, Classical.not_not, nI_clamp, y_ix, y_lt, y_le, y_eq, y_nP, y_nPs, y_ltP, y_ltQ, y_ltPP, y_eqP, y_eqQ, y_eqPP, if_pos, if_neg, ite_true, ite_false, not_true_eq_false, not_false_eq_true, and_true, true_and, and_false, false_and, or_true, true_or, or_false, false_or, yc_isTold hN hW, yc_path hN hW]
    · unfold f_X12_path; simp (disch := omega) only [y_lit, y_n1, nI_add, pk_mul, j_lt, j_b1_s, j_b2_s, j_b3_s, j_b0_s, y_bo, y_bo1, y_bo0, y_i0, y_i1, Classical.not_not, nI_clamp, y_ix, y_lt, y_le, y_eq, y_nP, y_nPs, y_ltP, y_ltQ, y_ltPP, y_eqP, y_eqQ, y_eqPP, if_pos, if_neg, ite_true, ite_false, not_true_eq_false, not_false_eq_true, and_true, true_and, and_false, false_and, or_true, true_or, or_false, false_or, ym_isBoard hM hW, ym_path hM hW]
  · refine ⟨-2, ?_, ?_⟩
    · unfold f_X11_path; simp (disch := omega) only [y_lit, y_n1, nI_add, pk_mul, j_lt, j_b1_s, j_b2_s, j_b3_s, j_b0_s, y_bo, y_bo1, y_bo0, y_i0, y_i1, Classical.not_not, nI_clamp, y_ix, y_lt, y_le, y_eq, y_nP, y_nPs, y_ltP, y_ltQ, y_ltPP, y_eqP, y_eqQ, y_eqPP, if_pos, if_neg, ite_true, ite_false, not_true_eq_false, not_false_eq_true, and_true, true_and, and_false, false_and, or_true, true_or, or_false, false_or, yc_isTold hN hW]
    · unfold f_X12_path; simp (disch := omega) only [y_lit, y_n1, nI_add, pk_mul, j_lt, j_b1_s, j_b2_s, j_b3_s, j_b0_s, y_bo, y_bo1, y_bo0, y_i0, y_i1, Classical.not_not, nI_clamp, y_ix, y_lt, y_le, y_eq, y_nP, y_nPs, y_ltP, y_ltQ, y_ltPP, y_eqP, y_eqQ, y_eqPP, if_pos, if_neg, ite_true, ite_false, not_true_eq_false, not_false_eq_true, and_true, true_and, and_false, false_and, or_true, true_or, or_false, false_or, ym_isBoard hM hW]
theorem z_breaks (hR : j_Rel σ τ) (a1 : Int32) : ∃ v, f_X11_breaks a1 σ = some v ∧ f_X12_breaks a1 τ = some v := by
  obtain ⟨b, hW, hN, hM, hK⟩ := id hR
  have b5 := hW.b5
  have h4 := hW.ho
  by_cases h9 : 0 < b 9
  · by_cases h : y_rg a1 4
    · obtain ⟨l, hl, rfl⟩ := y_of _ _ h.1 h.2
      have both : ∀ m i n, i + m = b 5 → m < n → ∃ v, p_X11_breaks_30 (nI l) σ n (nI i) = some v ∧ p_X12_breaks_19 (nI l) τ n (nI i) = some v := by
        intro m
        induction m with
        | zero =>
          intro i n h hn
          obtain ⟨n, rfl⟩ := y_pos hn
          refine ⟨-1, ?_, ?_⟩
          · unfold p_X11_breaks_30; simp (disch := omega) only [y_lit, y_n1, nI_add, pk_mul, j_lt, j_b1_s, j_b2_s, j_b3_s, j_b0_s, y_bo, y_bo1, y_bo0, y_i0, y_i1, Classical.not_not, nI_clamp, y_ix, y_lt, y_le, y_eq, y_nP, y_nPs, y_ltP, y_ltQ, y_ltPP, y_eqP, y_eqQ, y_eqPP, if_pos, if_neg, ite_true, ite_false, not_true_eq_false, not_false_eq_true, and_true, true_and, and_false, false_and, or_true, true_or, or_false, false_or, hN.d0]
          · unfold p_X12_breaks_19; simp (disch := omega) only [y_lit, y_n1, nI_add, pk_mul, j_lt, j_b1_s, j_b2_s, j_b3_s, j_b0_s, y_bo, y_bo1, y_bo0, y_i0, y_i1, Classical.not_not, nI_clamp, y_ix, y_lt, y_le, y_eq, y_nP, y_nPs, y_ltP, y_ltQ, y_ltPP, y_eqP, y_eqQ, y_eqPP, if_pos, if_neg, ite_true, ite_false, not_true_eq_false, not_false_eq_true, and_true, true_and, and_false, false_and, or_true, true_or, or_false, false_or, hM.f]
        | succ m ih =>
          intro i n h hn
          obtain ⟨n, rfl⟩ := y_pos hn
          have h5 : 0 < b 5 := by omega
          have r0 := y_rd_lt hW h5 i
          have r1 := y_rd_lt hW h5 (i + 2 * b 5 - 1)
          have r2 := y_rd_lt hW h5 (i + 2 * b 5 - 2)
          obtain ⟨v, v1, v2⟩ := ih (i + 1) n (by omega) (by omega)
          have sh0 : ¬ y_sh b (y_rd b i) = 1 := by
            have q := (hW.co (Nat.mod_lt i h5)).2.2.2.2.2.1
            have : y_sh b (y_rd b i) = 0 := q
            omega
          have cl := yc_lets hN hW h9 (l := l) (h := y_rd b i) (one := y_rd b (i + 2 * b 5 - 1) + 1) (two := y_rd b (i + 2 * b 5 - 2) + 1) hl (by omega) (by omega) (by omega) (fun z => by omega) (y_nPs _).symm (y_nPs _).symm
          have ml := ym_lets hM hW h9 (l := l) (h := y_rd b i) (one := y_rd b (i + 2 * b 5 - 1) + 1) (two := y_rd b (i + 2 * b 5 - 2) + 1) hl (by omega) (by omega) (by omega) (y_nPs _).symm (y_nPs _).symm
          rw [if_neg sh0] at ml
          have le := y_lz_le b l (y_rd b i) (y_rd b (i + 2 * b 5 - 1) + 1) (y_rd b (i + 2 * b 5 - 2) + 1)
          have hlt : nI i < nI (b 5) := (y_lt (by omega) (by omega)).mpr (by omega)
          have e5 := hM.f (j := 5) (by omega)
          have kc : p_X11_breaks_30 (nI l) σ (n + 1) (nI i) = if nI (y_lz b l (y_rd b i) (y_rd b (i + 2 * b 5 - 1) + 1) (y_rd b (i + 2 * b 5 - 2) + 1)) = nI 0 then some (nI i) else p_X11_breaks_30 (nI l) σ n (nI (i + 1)) := by
            rw [p_X11_breaks_30, hN.d0, if_pos hlt, show (2 : Int32) = nI 2 from rfl, show (1 : Int32) = nI 1 from rfl, yc_roundm hN hW h5 (by omega) (Or.inr rfl), j_b1_s, yc_roundm hN hW h5 (by omega) (Or.inl rfl), j_b1_s, yc_round hN hW h5 (by omega), j_b1_s, cl, j_b1_s, nI_add]
            rfl
          have km : p_X12_breaks_19 (nI l) τ (n + 1) (nI i) = if nI (y_lz b l (y_rd b i) (y_rd b (i + 2 * b 5 - 1) + 1) (y_rd b (i + 2 * b 5 - 2) + 1)) = nI 0 then some (nI i) else p_X12_breaks_19 (nI l) τ n (nI (i + 1)) := by
            rw [p_X12_breaks_19, show (5 : Int32) = nI 5 from rfl, y_ix (by omega) (by omega), nI_clamp (by omega), e5, if_pos hlt, show (2 : Int32) = nI 2 from rfl, show (1 : Int32) = nI 1 from rfl, ym_holeAt hM hW h5 (by omega), j_b1_s, ym_holeAtm hM hW h5 (by omega) (Or.inl rfl), j_b1_s, ym_holeAtm hM hW h5 (by omega) (Or.inr rfl), j_b1_s, ml, j_b1_s, nI_add]
            rfl
          rw [kc, km]
          generalize y_lz b l (y_rd b i) (y_rd b (i + 2 * b 5 - 1) + 1) (y_rd b (i + 2 * b 5 - 2) + 1) = X at *
          by_cases c : nI X = nI 0
          · rw [if_pos c, if_pos c]; exact ⟨nI i, rfl, rfl⟩
          · rw [if_neg c, if_neg c]; exact ⟨v, v1, v2⟩
      obtain ⟨v, v1, v2⟩ := both (b 5) 0 j_F (by omega) (y_F (by omega))
      refine ⟨v, ?_, ?_⟩
      · unfold f_X11_breaks; simp (disch := omega) only [y_lit, y_n1, nI_add, pk_mul, j_lt, j_b1_s, j_b2_s, j_b3_s, j_b0_s, y_bo, y_bo1, y_bo0, y_i0, y_i1, Classical.not_not, nI_clamp, y_ix, y_lt, y_le, y_eq, y_nP, y_nPs, y_ltP, y_ltQ, y_ltPP, y_eqP, y_eqQ, y_eqPP, if_pos, if_neg, ite_true, ite_false, not_true_eq_false, not_false_eq_true, and_true, true_and, and_false, false_and, or_true, true_or, or_false, false_or, yc_isTold hN hW, yc_isLaw, y_rn]; exact v1
      · unfold f_X12_breaks; simp (disch := omega) only [y_lit, y_n1, nI_add, pk_mul, j_lt, j_b1_s, j_b2_s, j_b3_s, j_b0_s, y_bo, y_bo1, y_bo0, y_i0, y_i1, Classical.not_not, nI_clamp, y_ix, y_lt, y_le, y_eq, y_nP, y_nPs, y_ltP, y_ltQ, y_ltPP, y_eqP, y_eqQ, y_eqPP, if_pos, if_neg, ite_true, ite_false, not_true_eq_false, not_false_eq_true, and_true, true_and, and_false, false_and, or_true, true_or, or_false, false_or, ym_isBoard hM hW, ym_isLaw, y_rn]; exact v2
    · refine ⟨-2, ?_, ?_⟩
      · unfold f_X11_breaks; simp (disch := omega) only [y_lit, y_n1, nI_add, pk_mul, j_lt, j_b1_s, j_b2_s, j_b3_s, j_b0_s, y_bo, y_bo1, y_bo0, y_i0, y_i1, Classical.not_not, nI_clamp, y_ix, y_lt, y_le, y_eq, y_nP, y_nPs, y_ltP, y_ltQ, y_ltPP, y_eqP, y_eqQ, y_eqPP, if_pos, if_neg, ite_true, ite_false, not_true_eq_false, not_false_eq_true, and_true, true_and, and_false, false_and, or_true, true_or, or_false, false_or, yc_isTold hN hW, yc_isLaw, h]
      · unfold f_X12_breaks; simp (disch := omega) only [y_lit, y_n1, nI_add, pk_mul, j_lt, j_b1_s, j_b2_s, j_b3_s, j_b0_s, y_bo, y_bo1, y_bo0, y_i0, y_i1, Classical.not_not, nI_clamp, y_ix, y_lt, y_le, y_eq, y_nP, y_nPs, y_ltP, y_ltQ, y_ltPP, y_eqP, y_eqQ, y_eqPP, if_pos, if_neg, ite_true, ite_false, not_true_eq_false, not_false_eq_true, and_true, true_and, and_false, false_and, or_true, true_or, or_false, false_or, ym_isBoard hM hW, ym_isLaw, h]
  · refine ⟨-2, ?_, ?_⟩
    · unfold f_X11_breaks; simp (disch := omega) only [y_lit, y_n1, nI_add, pk_mul, j_lt, j_b1_s, j_b2_s, j_b3_s, j_b0_s, y_bo, y_bo1, y_bo0, y_i0, y_i1, Classical.not_not, nI_clamp, y_ix, y_lt, y_le, y_eq, y_nP, y_nPs, y_ltP, y_ltQ, y_ltPP, y_eqP, y_eqQ, y_eqPP, if_pos, if_neg, ite_true, ite_false, not_true_eq_false, not_false_eq_true, and_true, true_and, and_false, false_and, or_true, true_or, or_false, false_or, yc_isTold hN hW]
    · unfold f_X12_breaks; simp (disch := omega) only [y_lit, y_n1, nI_add, pk_mul, j_lt, j_b1_s, j_b2_s, j_b3_s, j_b0_s, y_bo, y_bo1, y_bo0, y_i0, y_i1, Classical.not_not, nI_clamp, y_ix, y_lt, y_le, y_eq, y_nP, y_nPs, y_ltP, y_ltQ, y_ltPP, y_eqP, y_eqQ, y_eqPP, if_pos, if_neg, ite_true, ite_false, not_true_eq_false, not_false_eq_true, and_true, true_and, and_false, false_and, or_true, true_or, or_false, false_or, ym_isBoard hM hW]
end Z
