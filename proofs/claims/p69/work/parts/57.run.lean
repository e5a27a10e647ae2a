/-! ===== a run: R 0 hits, 1 steps, 2 where, 3 free, 4 red hits, 8 + 2k the tick, 9 + 2k the hole of a strike, 1000 + 2i the tick and 1 of a coming, 1001 + 2i its hits ===== -/
def y_u (R : Nat → Nat) (k v : Nat) : Nat → Nat := fun j => if j = k then v else R j
theorem y_ue {R : Nat → Nat} {k v : Nat} : y_u R k v k = v := if_pos rfl
theorem y_un {R : Nat → Nat} {k v j : Nat} (h : j ≠ k) : y_u R k v j = R j := if_neg h
def y_pc (q : Nat → Nat) (t : Nat) : Nat := q 0 + t / q 2
def y_aw (b q : Nat → Nat) (i : Nat) : Nat := if q 3 = 0 then y_from b i + q 1 else if (if i < q 3 then 0 else y_from b (i - q 3)) < y_from b i + q 1 then (if i < q 3 then 0 else y_from b (i - q 3)) else y_from b i + q 1
def y_th (b q : Nat → Nat) (a c t : Nat) : Nat := t + y_ap b a c * y_pc q t
def y_mx (a c : Nat) : Nat := if a < c then c else a
def y_at (b q : Nat → Nat) (i to : Nat) (R : Nat → Nat) : Nat := y_mx (y_th b q (R 2) to (y_mx (R 3) (y_aw b q i))) (y_from b i)
def y_set (b g : Nat → Nat) (i to t : Nat) (R : Nat → Nat) : Nat → Nat := y_u (y_u (y_u (y_u (y_u (y_u (y_u (y_u (y_u R (8 + 2 * R 0) t) (9 + 2 * R 0) to) 0 (R 0 + 1)) (1000 + 2 * i) (t + 1)) (1001 + 2 * i) (R (1001 + 2 * i) + 1)) 1 (R 1 + y_ap b (R 2) to)) 2 to) 3 (t + 1)) 4 (R 4 + g (3 * i + 2))
def y_go (b g q : Nat → Nat) (i to : Nat) (R : Nat → Nat) : Nat → Nat := if y_at b q i to R ≤ y_last b i then y_set b g i to (y_at b q i to R) R else R
def y_go2 (b g q : Nat → Nat) (i to th : Nat) (R : Nat → Nat) : Nat → Nat := if y_at b q i to R ≤ y_last b i then y_go b g q i th (y_go b g q i to R) else R
/-- what is asked of a player's numbers -/
def y_vq (b q : Nat → Nat) : Prop := q 0 ≤ 9 ∧ q 1 ≤ 40 ∧ q 2 ≤ 99 ∧ q 3 ≤ 9 ∧ q 4 < y_ho b
def y_cp (σ : j_G) (a : Nat) (q : Nat → Nat) : Prop := ∀ j, j < 5 → σ.1 a j = nI (q j)
def y_mp (τ : j_G) (b : Nat → Nat) (p : Nat) (q : Nat → Nat) : Prop := τ.1 75 19 = nI p ∧ τ.1 75 20 = nI (q 1) ∧ τ.1 75 21 = nI (q 3) ∧ τ.1 75 22 = nI (q 4) ∧ p < b 6 ∧ b (96 + 5 * p) = q 0 ∧ b (98 + 5 * p) = q 2
def y_cr (σ : j_G) (R : Nat → Nat) (s : Nat) : Prop := (σ.1 30 0 = nI (R 0) ∧ σ.1 30 1 = nI (R 1) ∧ σ.1 30 7 = nI (R 2) ∧ σ.1 30 8 = nI (R 3)) ∧ (∀ k, k < R 0 → σ.1 33 k = nI (R (8 + 2 * k)) ∧ σ.1 34 k = nI (R (9 + 2 * k))) ∧ (∀ i, i < s → σ.1 31 i = nP (R (1000 + 2 * i)) ∧ σ.1 32 i = nI (R (1001 + 2 * i)))
def y_mr (τ : j_G) (R : Nat → Nat) (s : Nat) : Prop := (τ.1 75 29 = nI (R 0) ∧ τ.1 75 33 = nI (R 1) ∧ τ.1 75 31 = nI (R 2) ∧ τ.1 75 32 = nI (R 3) ∧ τ.1 75 30 = nI (R 4)) ∧ (∀ k, k < R 0 → τ.1 87 k = nI (R (8 + 2 * k)) ∧ τ.1 88 k = nI (R (9 + 2 * k))) ∧ (∀ i, i < s → τ.1 86 i = nP (R (1000 + 2 * i)) ∧ τ.1 85 i = nI (R (1001 + 2 * i)))
/-- bounds of a run -/
def y_br (b R : Nat → Nat) (m : Nat) : Prop := R 0 ≤ m ∧ R 1 ≤ 24 * m ∧ R 2 < y_ho b ∧ R 3 ≤ 200 ∧ R 4 ≤ m ∧ (∀ k, k < R 0 → R (8 + 2 * k) < 200 ∧ R (9 + 2 * k) < y_ho b) ∧ (∀ j, R (1000 + 2 * j) ≤ 200) ∧ (∀ j, R (1001 + 2 * j) ≤ m)
theorem y_ap_bd {b : Nat → Nat} {a c : Nat} (ha : a < 12) (hc : c < 12) : y_ap b a c ≤ 24 := by
  have h1 := Nat.div_le_self a (b 0); have h2 := Nat.div_le_self c (b 0)
  have h3 := Nat.mod_le a (b 0); have h4 := Nat.mod_le c (b 0)
  unfold y_ap y_df
  generalize a / b 0 = x1 at *; generalize c / b 0 = x2 at *; generalize a % b 0 = x3 at *; generalize c % b 0 = x4 at *
  omega
theorem y_pc_bd {b q : Nat → Nat} (hq : y_vq b q) (t : Nat) : y_pc q t ≤ 9 + t := by
  have := hq.1
  have h1 := Nat.div_le_self t (q 2)
  unfold y_pc; omega
theorem y_aw_bd {b q : Nat → Nat} (hq : y_vq b q) {i : Nat} : y_aw b q i ≤ y_from b i + 40 := by
  have := hq.2.1
  unfold y_aw
  split
  · omega
  · generalize (if i < q 3 then 0 else y_from b (i - q 3)) = z
    split <;> omega
theorem y_th_bd {b q : Nat → Nat} (hq : y_vq b q) {a c t : Nat} (ha : a < 12) (hc : c < 12) (ht : t ≤ 1000) : y_th b q a c t ≤ 30000 := by
  have h1 := y_ap_bd (b := b) ha hc
  have h2 := y_pc_bd hq t
  have h3 : y_ap b a c * y_pc q t ≤ 24 * (9 + t) := Nat.mul_le_mul h1 h2
  unfold y_th; omega
theorem y_rs {a b n : Nat} (ha : a < 2 ^ 30) (hb : b < 2 ^ 30) : y_rg (nI a - nI b) n ↔ b ≤ a ∧ a < n + b := by
  unfold y_rg; rw [pk_sub_toInt ha hb]; omega
theorem y_mxI {a c : Nat} : (if a < c then nI c else nI a) = nI (y_mx a c) := by
  unfold y_mx
  split <;> rfl
theorem y_pI {p : Prop} [Decidable p] {a c : Nat} : (if p then nI a else nI c) = nI (if p then a else c) := by
  split <;> rfl
section C
variable {σ : j_G} {b g q : Nat → Nat} {s a : Nat}
theorem yc_ghas (hc : y_cg σ b s g) (hs : s ≤ 60) (x : Int32) : f_X4_has x σ = if y_rg x s then nI 1 else nI 0 := by
  unfold f_X4_has; rw [hc.1]; simp only [y_lit]; simp (disch := omega) only [y_c1]
theorem yc_pace (hp : y_cp σ a q) (hq : y_vq b q) {t : Nat} (ht : t < 2 ^ 30) : f_X6_paceIn a (nI t) σ = some (nI (y_pc q t)) := by
  have h0 := hq.1; have h2 := hq.2.2.1
  have e0 := hp 0 (by omega); have e2 := hp 2 (by omega)
  have := Nat.div_le_self t (q 2)
  unfold f_X6_paceIn y_pc; simp (disch := omega) only [y_lit, y_n1, nI_add, pk_mul, j_lt, j_b1_s, j_b2_s, j_b3_s, j_b0_s, y_bo, y_bo1, y_bo0, y_i0, y_i1, Classical.not_not, nI_clamp, y_ix, y_lt, y_le, y_eq, y_nP, y_nPs, y_ltP, y_ltQ, y_ltPP, y_eqP, y_eqQ, y_eqPP, if_pos, if_neg, ite_true, ite_false, not_true_eq_false, not_false_eq_true, and_true, true_and, and_false, false_and, or_true, true_or, or_false, false_or, e0, e2]
  by_cases z : q 2 = 0
  · simp (disch := omega) only [z, Nat.div_zero, Nat.add_zero, y_lit, y_n1, nI_add, pk_mul, j_lt, j_b1_s, j_b2_s, j_b3_s, j_b0_s, y_bo, y_bo1, y_bo0, y_i0, y_i1, Classical.not_not, nI_clamp, y_ix, y_lt, y_le, y_eq, y_nP, y_nPs, y_ltP, y_ltQ, y_ltPP, y_eqP, y_eqQ, y_eqPP, if_pos, if_neg, ite_true, ite_false, not_true_eq_false, not_false_eq_true, and_true, true_and, and_false, false_and, or_true, true_or, or_false, false_or]
  · simp (disch := omega) only [y_lit, y_n1, nI_add, pk_mul, j_lt, j_b1_s, j_b2_s, j_b3_s, j_b0_s, y_bo, y_bo1, y_bo0, y_i0, y_i1, Classical.not_not, nI_clamp, y_ix, y_lt, y_le, y_eq, y_nP, y_nPs, y_ltP, y_ltQ, y_ltPP, y_eqP, y_eqQ, y_eqPP, if_pos, if_neg, ite_true, ite_false, not_true_eq_false, not_false_eq_true, and_true, true_and, and_false, false_and, or_true, true_or, or_false, false_or, pk_div]
theorem yc_awareOf (hc : y_cg σ b s g) (hv : y_vg b s g) (hp : y_cp σ a q) (hq : y_vq b q) (hW : y_W b) {i : Nat} (hi : i < s) : f_X6_awareOf 26 a (nI i) σ = some (nI (y_aw b q i)) := by
  have hs := hv.1
  have h2 := hW.b2
  have h1 := hq.2.1; have h3 := hq.2.2.2.1
  have e1 := hp 1 (by omega); have e3 := hp 3 (by omega)
  have ei := (hc.2 i hi).2.2.2.1
  have li := (hv.2 i hi).2.2.2.2.2
  have le := y_last_le hW i
  unfold f_X6_awareOf y_aw
  simp (disch := omega) only [y_lit, y_n1, nI_add, pk_mul, j_lt, j_b1_s, j_b2_s, j_b3_s, j_b0_s, y_bo, y_bo1, y_bo0, y_i0, y_i1, Classical.not_not, nI_clamp, y_ix, y_lt, y_le, y_eq, y_nP, y_nPs, y_ltP, y_ltQ, y_ltPP, y_eqP, y_eqQ, y_eqPP, if_pos, if_neg, ite_true, ite_false, not_true_eq_false, not_false_eq_true, and_true, true_and, and_false, false_and, or_true, true_or, or_false, false_or, yc_ghas hc hs, y_rn, e1, e3, ei, y_rs]
  by_cases z : q 3 = 0
  · simp (disch := omega) only [y_lit, y_n1, nI_add, pk_mul, j_lt, j_b1_s, j_b2_s, j_b3_s, j_b0_s, y_bo, y_bo1, y_bo0, y_i0, y_i1, Classical.not_not, nI_clamp, y_ix, y_lt, y_le, y_eq, y_nP, y_nPs, y_ltP, y_ltQ, y_ltPP, y_eqP, y_eqQ, y_eqPP, if_pos, if_neg, ite_true, ite_false, not_true_eq_false, not_false_eq_true, and_true, true_and, and_false, false_and, or_true, true_or, or_false, false_or]
  · by_cases y : i < q 3
    · simp (disch := omega) only [y_lit, y_n1, nI_add, pk_mul, j_lt, j_b1_s, j_b2_s, j_b3_s, j_b0_s, y_bo, y_bo1, y_bo0, y_i0, y_i1, Classical.not_not, nI_clamp, y_ix, y_lt, y_le, y_eq, y_nP, y_nPs, y_ltP, y_ltQ, y_ltPP, y_eqP, y_eqQ, y_eqPP, if_pos, if_neg, ite_true, ite_false, not_true_eq_false, not_false_eq_true, and_true, true_and, and_false, false_and, or_true, true_or, or_false, false_or, y_pI]
    · have ej := (hc.2 (i - q 3) (by omega)).2.2.2.1
      have lj := (hv.2 (i - q 3) (by omega)).2.2.2.2.2
      have lf := y_last_le hW (i - q 3)
      have hh : (q 3 ≤ i ∧ i < s + q 3) := ⟨by omega, by omega⟩
      simp (disch := omega) only [y_lit, y_n1, nI_add, pk_mul, j_lt, j_b1_s, j_b2_s, j_b3_s, j_b0_s, y_bo, y_bo1, y_bo0, y_i0, y_i1, Classical.not_not, nI_clamp, y_ix, y_lt, y_le, y_eq, y_nP, y_nPs, y_ltP, y_ltQ, y_ltPP, y_eqP, y_eqQ, y_eqPP, if_pos, if_neg, ite_true, ite_false, not_true_eq_false, not_false_eq_true, and_true, true_and, and_false, false_and, or_true, true_or, or_false, false_or, pk_sub, ej, if_pos hh, y_pI]
theorem yc_there (hN : y_N σ b) (hW : y_W b) (h9 : 0 < b 9) (hp : y_cp σ a q) (hq : y_vq b q) {h to t : Nat} (hh : h < 12) (hto : to < 12) (ht : t ≤ 1000) : f_X6_there a (nI h) (nI to) (nI t) σ = some (nI (y_th b q h to t)) := by
  unfold f_X6_there y_th
  rw [yc_apart hN hW h9 (by omega) (by omega), yc_pace hp hq (by omega)]
  simp (disch := omega) only [y_lit, y_n1, nI_add, pk_mul, j_lt, j_b1_s, j_b2_s, j_b3_s, j_b0_s, y_bo, y_bo1, y_bo0, y_i0, y_i1, Classical.not_not, nI_clamp, y_ix, y_lt, y_le, y_eq, y_nP, y_nPs, y_ltP, y_ltQ, y_ltPP, y_eqP, y_eqQ, y_eqPP, if_pos, if_neg, ite_true, ite_false, not_true_eq_false, not_false_eq_true, and_true, true_and, and_false, false_and, or_true, true_or, or_false, false_or]
theorem yc_strikeG (hc : y_cg σ b s g) (hv : y_vg b s g) (hW : y_W b) {i t : Nat} (hi : i < s) (ht : t < 2 ^ 30) : f_X4_strike (nI i) (nI t) σ = some (if y_mx t (y_from b i) ≤ y_last b i then nI (y_mx t (y_from b i)) else nP 0) := by
  have hs := hv.1
  have h2 := hW.b2
  have ei := (hc.2 i hi).2.2.2.1
  have el := (hc.2 i hi).2.2.2.2
  have li := (hv.2 i hi).2.2.2.2.2
  have le := y_last_le hW i
  have hm : y_mx t (y_from b i) < 2 ^ 31 := by unfold y_mx; split <;> omega
  unfold f_X4_strike
  simp (disch := omega) only [y_lit, y_n1, nI_add, pk_mul, j_lt, j_b1_s, j_b2_s, j_b3_s, j_b0_s, y_bo, y_bo1, y_bo0, y_i0, y_i1, Classical.not_not, nI_clamp, y_ix, y_lt, y_le, y_eq, y_nP, y_nPs, y_ltP, y_ltQ, y_ltPP, y_eqP, y_eqQ, y_eqPP, if_pos, if_neg, ite_true, ite_false, not_true_eq_false, not_false_eq_true, and_true, true_and, and_false, false_and, or_true, true_or, or_false, false_or, yc_ghas hc hs, y_rn, ei, el, y_mxI, Nat.not_lt]
  split <;> rfl
end C
