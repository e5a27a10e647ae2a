/-! ===== stays, and the game laid out ===== -/
def y_st (b : Nat → Nat) (t : Nat) : Nat → Nat → Nat → Nat → Nat
  | 0, _, _, v => v
  | m + 1, i, s, v => if b (12 + 2 * i) ≤ t ∧ s ≤ b (12 + 2 * i) then y_st b t m (i + 1) (b (12 + 2 * i) + 1) (b (13 + 2 * i)) else y_st b t m (i + 1) s v
def y_stay (b : Nat → Nat) (t : Nat) : Nat := y_st b t (b 4) 0 0 7
theorem y_st_bd {b : Nat → Nat} (hW : y_W b) (t : Nat) : ∀ m i s v, i + m = b 4 → 1 ≤ v → v ≤ 40 → 1 ≤ y_st b t m i s v ∧ y_st b t m i s v ≤ 40 := by
  intro m
  induction m with
  | zero => intro i s v _ h1 h2; exact ⟨h1, h2⟩
  | succ m ih =>
    intro i s v h h1 h2
    unfold y_st
    have q := hW.st (k := i) (by omega)
    split
    · exact ih _ _ _ (by omega) q.2.1 q.2.2
    · exact ih _ _ _ (by omega) h1 h2
theorem y_stay_bd {b : Nat → Nat} (hW : y_W b) (t : Nat) : 1 ≤ y_stay b t ∧ y_stay b t ≤ 40 := y_st_bd hW t _ _ _ _ (by omega) (by omega) (by omega)
theorem yc_stay_l {σ : j_G} {b : Nat → Nat} (hN : y_N σ b) (hW : y_W b) {t : Nat} (ht : t < 1000000) : ∀ m i s v n, i + m = b 4 → m < n → s < 1000 → p_X2_stayIn_8 (nI t) σ n (nP s) (nI v) (nI i) = some (nI (y_st b t m i s v)) := by
  have h4 := hW.b4
  have h2 := hW.b2
  intro m
  induction m with
  | zero =>
    intro i s v n h hn hs
    obtain ⟨n, rfl⟩ := y_pos hn
    unfold p_X2_stayIn_8 y_st
    rw [hN.f10]; simp (disch := omega) only [y_lit, y_n1, nI_add, pk_mul, j_lt, j_b1_s, j_b2_s, j_b3_s, j_b0_s, y_bo, y_bo1, y_bo0, y_i0, y_i1, Classical.not_not, nI_clamp, y_ix, y_lt, y_le, y_eq, y_nP, y_nPs, y_ltP, y_ltQ, y_ltPP, y_eqP, y_eqQ, y_eqPP, if_pos, if_neg, ite_true, ite_false, not_true_eq_false, not_false_eq_true, and_true, true_and, and_false, false_and, or_true, true_or, or_false, false_or]
  | succ m ih =>
    intro i s v n h hn hs
    obtain ⟨n, rfl⟩ := y_pos hn
    have q := hW.st (k := i) (by omega)
    have e1 := hN.s1 (k := i) (by omega)
    have e2 := hN.s2 (k := i) (by omega)
    unfold p_X2_stayIn_8 y_st
    rw [hN.f10]; simp (disch := omega) only [y_lit, y_n1, nI_add, pk_mul, j_lt, j_b1_s, j_b2_s, j_b3_s, j_b0_s, y_bo, y_bo1, y_bo0, y_i0, y_i1, Classical.not_not, nI_clamp, y_ix, y_lt, y_le, y_eq, y_nP, y_nPs, y_ltP, y_ltQ, y_ltPP, y_eqP, y_eqQ, y_eqPP, if_pos, if_neg, ite_true, ite_false, not_true_eq_false, not_false_eq_true, and_true, true_and, and_false, false_and, or_true, true_or, or_false, false_or, e1, e2]
    by_cases c1 : b (12 + 2 * i) ≤ t
    · by_cases c2 : s ≤ b (12 + 2 * i)
      · simp (disch := omega) only [y_lit, y_n1, nI_add, pk_mul, j_lt, j_b1_s, j_b2_s, j_b3_s, j_b0_s, y_bo, y_bo1, y_bo0, y_i0, y_i1, Classical.not_not, nI_clamp, y_ix, y_lt, y_le, y_eq, y_nP, y_nPs, y_ltP, y_ltQ, y_ltPP, y_eqP, y_eqQ, y_eqPP, if_pos, if_neg, ite_true, ite_false, not_true_eq_false, not_false_eq_true, and_true, true_and, and_false, false_and, or_true, true_or, or_false, false_or]
        have w := ih (i + 1) (b (12 + 2 * i) + 1) (b (13 + 2 * i)) n (by omega) (by omega) (by omega)
        rw [y_nPs] at w
        exact w
      · simp (disch := omega) only [y_lit, y_n1, nI_add, pk_mul, j_lt, j_b1_s, j_b2_s, j_b3_s, j_b0_s, y_bo, y_bo1, y_bo0, y_i0, y_i1, Classical.not_not, nI_clamp, y_ix, y_lt, y_le, y_eq, y_nP, y_nPs, y_ltP, y_ltQ, y_ltPP, y_eqP, y_eqQ, y_eqPP, if_pos, if_neg, ite_true, ite_false, not_true_eq_false, not_false_eq_true, and_true, true_and, and_false, false_and, or_true, true_or, or_false, false_or]
        exact ih _ _ _ _ (by omega) (by omega) (by omega)
    · simp (disch := omega) only [y_lit, y_n1, nI_add, pk_mul, j_lt, j_b1_s, j_b2_s, j_b3_s, j_b0_s, y_bo, y_bo1, y_bo0, y_i0, y_i1, Classical.not_not, nI_clamp, y_ix, y_lt, y_le, y_eq, y_nP, y_nPs, y_ltP, y_ltQ, y_ltPP, y_eqP, y_eqQ, y_eqPP, if_pos, if_neg, ite_true, ite_false, not_true_eq_false, not_false_eq_true, and_true, true_and, and_false, false_and, or_true, true_or, or_false, false_or]
      exact ih _ _ _ _ (by omega) (by omega) (by omega)
theorem yc_stay {σ : j_G} {b : Nat → Nat} (hN : y_N σ b) (hW : y_W b) {t : Nat} (ht : t < 1000000) : f_X2_stayIn (nI t) σ = some (nI (y_stay b t)) := by
  have h4 := hW.b4
  unfold f_X2_stayIn
  rw [y_m1, y_lit, y_lit, yc_stay_l hN hW ht _ _ _ _ _ (Nat.zero_add (b 4)) (y_F (by omega)) (by omega)]
  rfl
theorem ym_stay_l {τ : j_G} {b : Nat → Nat} (hM : y_M τ b) (hW : y_W b) {t : Nat} (ht : t < 1000000) : ∀ m i s v n, i + m = b 4 → m < n → s < 1000 → (∀ j, i ≤ j → j < b 4 → s ≠ b (12 + 2 * j) + 1) → p_X12_stayIn_8 (nI t) τ n (nP s) (nI v) (nI i) = some (nI (y_st b t m i s v)) := by
  have h4 := hW.b4
  have h2 := hW.b2
  intro m
  induction m with
  | zero =>
    intro i s v n h hn hs _
    obtain ⟨n, rfl⟩ := y_pos hn
    unfold p_X12_stayIn_8 y_st
    simp (disch := omega) only [y_lit, y_n1, nI_add, pk_mul, j_lt, j_b1_s, j_b2_s, j_b3_s, j_b0_s, y_bo, y_bo1, y_bo0, y_i0, y_i1, Classical.not_not, nI_clamp, y_ix, y_lt, y_le, y_eq, y_nP, y_nPs, y_ltP, y_ltQ, y_ltPP, y_eqP, y_eqQ, y_eqPP, if_pos, if_neg, ite_true, ite_false, not_true_eq_false, not_false_eq_true, and_true, true_and, and_false, false_and, or_true, true_or, or_false, false_or, hM.f]
  | succ m ih =>
    intro i s v n h hn hs hd
    obtain ⟨n, rfl⟩ := y_pos hn
    have q := hW.st (k := i) (by omega)
    have d := hd i (by omega) (by omega)
    unfold p_X12_stayIn_8 y_st
    simp (disch := omega) only [y_lit, y_n1, nI_add, pk_mul, j_lt, j_b1_s, j_b2_s, j_b3_s, j_b0_s, y_bo, y_bo1, y_bo0, y_i0, y_i1, Classical.not_not, nI_clamp, y_ix, y_lt, y_le, y_eq, y_nP, y_nPs, y_ltP, y_ltQ, y_ltPP, y_eqP, y_eqQ, y_eqPP, if_pos, if_neg, ite_true, ite_false, not_true_eq_false, not_false_eq_true, and_true, true_and, and_false, false_and, or_true, true_or, or_false, false_or, hM.f, Nat.add_right_comm 12 _ 1]
    by_cases c1 : b (12 + 2 * i) ≤ t
    · by_cases c2 : s ≤ b (12 + 2 * i)
      · simp (disch := omega) only [y_lit, y_n1, nI_add, pk_mul, j_lt, j_b1_s, j_b2_s, j_b3_s, j_b0_s, y_bo, y_bo1, y_bo0, y_i0, y_i1, Classical.not_not, nI_clamp, y_ix, y_lt, y_le, y_eq, y_nP, y_nPs, y_ltP, y_ltQ, y_ltPP, y_eqP, y_eqQ, y_eqPP, if_pos, if_neg, ite_true, ite_false, not_true_eq_false, not_false_eq_true, and_true, true_and, and_false, false_and, or_true, true_or, or_false, false_or]
        have w := ih (i + 1) (b (12 + 2 * i) + 1) (b (13 + 2 * i)) n (by omega) (by omega) (by omega) (fun j h1 h2 z => by
          have := hW.sd (k := i) (l := j) (by omega) (by omega)
          omega)
        rw [y_nPs] at w
        exact w
      · simp (disch := omega) only [y_lit, y_n1, nI_add, pk_mul, j_lt, j_b1_s, j_b2_s, j_b3_s, j_b0_s, y_bo, y_bo1, y_bo0, y_i0, y_i1, Classical.not_not, nI_clamp, y_ix, y_lt, y_le, y_eq, y_nP, y_nPs, y_ltP, y_ltQ, y_ltPP, y_eqP, y_eqQ, y_eqPP, if_pos, if_neg, ite_true, ite_false, not_true_eq_false, not_false_eq_true, and_true, true_and, and_false, false_and, or_true, true_or, or_false, false_or]
        exact ih _ _ _ _ (by omega) (by omega) (by omega) (fun j h1 h2 => hd j (by omega) h2)
    · simp (disch := omega) only [y_lit, y_n1, nI_add, pk_mul, j_lt, j_b1_s, j_b2_s, j_b3_s, j_b0_s, y_bo, y_bo1, y_bo0, y_i0, y_i1, Classical.not_not, nI_clamp, y_ix, y_lt, y_le, y_eq, y_nP, y_nPs, y_ltP, y_ltQ, y_ltPP, y_eqP, y_eqQ, y_eqPP, if_pos, if_neg, ite_true, ite_false, not_true_eq_false, not_false_eq_true, and_true, true_and, and_false, false_and, or_true, true_or, or_false, false_or]
      exact ih _ _ _ _ (by omega) (by omega) (by omega) (fun j h1 h2 => hd j (by omega) h2)
theorem ym_stay {τ : j_G} {b : Nat → Nat} (hM : y_M τ b) (hW : y_W b) {t : Nat} (ht : t < 1000000) : f_X12_stayIn (nI t) τ = some (nI (y_stay b t)) := by
  have h4 := hW.b4
  unfold f_X12_stayIn
  rw [y_m1, y_lit, y_lit, ym_stay_l hM hW ht _ _ _ _ _ (Nat.zero_add (b 4)) (y_F (by omega)) (by omega) (fun j _ _ z => by omega)]
  rfl
