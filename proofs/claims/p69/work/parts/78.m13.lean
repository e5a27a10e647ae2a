/-! ===== swap, better ===== -/
def y_tr (k l i : Nat) : Nat := if i = k then l else if i = l then k else i
def y_sw (b : Nat → Nat) (k l : Nat) : Nat → Nat := fun j => if 24 ≤ j ∧ j < 96 then b (24 + 3 * y_tr k l ((j - 24) / 3) + (j - 24) % 3) else b j
theorem y_sw_o {b : Nat → Nat} {k l j : Nat} (h : j < 24 ∨ 96 ≤ j) : y_sw b k l j = b j := if_neg (by omega)
theorem y_sw0 {b : Nat → Nat} {k l i : Nat} (h : i < 24) : y_sw b k l (24 + 3 * i) = b (24 + 3 * y_tr k l i) := by
  unfold y_sw; rw [if_pos (by omega), show (24 + 3 * i - 24) / 3 = i from by omega, show (24 + 3 * i - 24) % 3 = 0 from by omega]; rfl
theorem y_sw1 {b : Nat → Nat} {k l i : Nat} (h : i < 24) : y_sw b k l (25 + 3 * i) = b (25 + 3 * y_tr k l i) := by
  unfold y_sw; rw [if_pos (by omega), show (25 + 3 * i - 24) / 3 = i from by omega, show (25 + 3 * i - 24) % 3 = 1 from by omega]; congr 1; omega
theorem y_sw2 {b : Nat → Nat} {k l i : Nat} (h : i < 24) : y_sw b k l (26 + 3 * i) = b (26 + 3 * y_tr k l i) := by
  unfold y_sw; rw [if_pos (by omega), show (26 + 3 * i - 24) / 3 = i from by omega, show (26 + 3 * i - 24) % 3 = 2 from by omega]; congr 1; omega
theorem y_tr_lt {k l i n : Nat} (hk : k < n) (hl : l < n) (hi : i < n) : y_tr k l i < n := by
  unfold y_tr; split
  · exact hl
  · split
    · exact hk
    · exact hi
theorem y_tr_tr {k l i : Nat} : y_tr k l (y_tr k l i) = i := by
  unfold y_tr
  by_cases h1 : i = k
  · rw [if_pos h1]
    by_cases h2 : l = k
    · rw [if_pos h2]; omega
    · rw [if_neg h2, if_pos rfl]; omega
  · rw [if_neg h1]
    by_cases h2 : i = l
    · rw [if_pos h2, if_pos rfl]; omega
    · rw [if_neg h2, if_neg h1, if_neg h2]
theorem y_sw_sw {b : Nat → Nat} {k l : Nat} (hk : k < 24) (hl : l < 24) : y_sw (y_sw b k l) k l = b := by
  funext j
  by_cases h : 24 ≤ j ∧ j < 96
  · have hi : (j - 24) / 3 < 24 := by omega
    have ht := y_tr_lt hk hl hi
    have q : (j - 24) % 3 = 0 ∨ (j - 24) % 3 = 1 ∨ (j - 24) % 3 = 2 := by omega
    have e : y_sw (y_sw b k l) k l j = y_sw b k l (24 + 3 * y_tr k l ((j - 24) / 3) + (j - 24) % 3) := if_pos h
    rw [e]
    rcases q with q | q | q
    · rw [q, Nat.add_zero, y_sw0 ht, y_tr_tr]; congr 1; omega
    · rw [q, show 24 + 3 * y_tr k l ((j - 24) / 3) + 1 = 25 + 3 * y_tr k l ((j - 24) / 3) from by omega, y_sw1 ht, y_tr_tr]; congr 1; omega
    · rw [q, show 24 + 3 * y_tr k l ((j - 24) / 3) + 2 = 26 + 3 * y_tr k l ((j - 24) / 3) from by omega, y_sw2 ht, y_tr_tr]; congr 1; omega
  · rw [y_sw_o (by omega), y_sw_o (by omega)]
theorem y_W.sw {b : Nat → Nat} {k l : Nat} (h : y_W b) (hk : k < b 5) (hl : l < b 5) : y_W (y_sw b k l) := by
  have b5 := h.b5; have b4 := h.b4; have b6 := h.b6
  obtain ⟨h1, h2, h3, h4, h5, h6, h7, h8, h9⟩ := h
  unfold y_W y_ho at *
  refine ⟨?_, ?_, ?_, ?_, ?_, fun j hj => ?_, fun j l' hj hl' => ?_, fun j hj => ?_, fun j hj => ?_⟩
  · simp (disch := omega) only [y_sw_o]; exact h1
  · simp (disch := omega) only [y_sw_o]; exact h2
  · simp (disch := omega) only [y_sw_o]; exact h3
  · simp (disch := omega) only [y_sw_o]; exact h4
  · simp (disch := omega) only [y_sw_o]; exact h5
  · simp (disch := omega) only [y_sw_o] at hj; simp (disch := omega) only [y_sw_o]; exact h6 j hj
  · simp (disch := omega) only [y_sw_o] at hl'; simp (disch := omega) only [y_sw_o]; exact h7 j l' hj hl'
  · simp (disch := omega) only [y_sw_o] at hj
    have q := h8 _ (y_tr_lt hk hl hj)
    rw [y_sw0 (by omega), y_sw1 (by omega), y_sw2 (by omega)]
    simp (disch := omega) only [y_sw_o]
    exact q
  · simp (disch := omega) only [y_sw_o] at hj; simp (disch := omega) only [y_sw_o]; exact h9 j hj
section C
variable {σ τ : j_G} {b : Nat → Nat} {k l : Nat}
theorem yc_exIn {a : Nat} {x : Nat → Int32} (hk : k < 24) (hl : l < 24) (hx : ∀ j, σ.1 a j = x j) : f_X3_exchangeIn a (nI k) (nI l) σ = some (j_si (j_si σ a k (x l)) a l (x k)) := by
  unfold f_X3_exchangeIn
  simp (disch := omega) only [y_lit, y_n1, nI_add, pk_mul, j_lt, j_b1_s, j_b2_s, j_b3_s, j_b0_s, y_bo, y_bo1, y_bo0, y_i0, y_i1, Classical.not_not, nI_clamp, y_ix, y_lt, y_le, y_eq, y_nP, y_nPs, y_ltP, y_ltQ, y_ltPP, y_eqP, y_eqQ, y_eqPP, if_pos, if_neg, ite_true, ite_false, not_true_eq_false, not_false_eq_true, and_true, true_and, and_false, false_and, or_true, true_or, or_false, false_or, hx]
theorem y_exr {a c j k l : Nat} {x y : Int32} {σ : j_G} (h : c ≠ a) : (j_si (j_si σ a k x) a l y).1 c j = σ.1 c j := by rw [j_r_ne h, j_r_ne h]
theorem y_exs {a k l j : Nat} {σ : j_G} : (j_si (j_si σ a k (σ.1 a l)) a l (σ.1 a k)).1 a j = σ.1 a (y_tr k l j) := by
  unfold y_tr
  by_cases h : j = l
  · subst h
    rw [j_r_eq]
    by_cases h2 : j = k
    · rw [if_pos h2, h2]
    · rw [if_neg h2, if_pos rfl]
  · rw [j_r_nj h]
    by_cases h2 : j = k
    · subst h2; rw [j_r_eq, if_pos rfl]
    · rw [j_r_nj h2, if_neg h2, if_neg h]
theorem yc_ex (hN : y_N σ b) (hW : y_W b) (hk : k < b 5) (hl : l < b 5) : ∃ σ', f_X3_exchange (nI k) (nI l) σ = some σ' ∧ y_N σ' (y_sw b k l) ∧ y_fr 6 8 σ σ' := by
  have b5 := hW.b5; have b4 := hW.b4; have b6 := hW.b6
  unfold f_X3_exchange
  simp (disch := omega) only [y_lit, y_n1, nI_add, pk_mul, j_lt, j_b1_s, j_b2_s, j_b3_s, j_b0_s, y_bo, y_bo1, y_bo0, y_i0, y_i1, Classical.not_not, nI_clamp, y_ix, y_lt, y_le, y_eq, y_nP, y_nPs, y_ltP, y_ltQ, y_ltPP, y_eqP, y_eqQ, y_eqPP, if_pos, if_neg, ite_true, ite_false, not_true_eq_false, not_false_eq_true, and_true, true_and, and_false, false_and, or_true, true_or, or_false, false_or, yc_has hN hW, y_rn]
  rw [yc_exIn (x := fun j => σ.1 6 j) (by omega) (by omega) (fun _ => rfl), j_b1_s]
  rw [yc_exIn (x := fun j => σ.1 7 j) (by omega) (by omega) (fun _ => y_exr (by omega)), j_b1_s]
  rw [yc_exIn (x := fun j => σ.1 8 j) (by omega) (by omega) (fun _ => by rw [y_exr (by omega), y_exr (by omega)]), j_b1_s]
  refine ⟨_, rfl, ?_, (((((y_fr.refl.si (by omega) (by omega)).si (by omega) (by omega)).si (by omega) (by omega)).si (by omega) (by omega)).si (by omega) (by omega)).si (by omega) (by omega)⟩
  obtain ⟨⟨f1, f2, f3, f4, f5, f6, f7, f10, d0, d1⟩, f8, s, t, c⟩ := hN
  unfold y_N y_cb
  refine ⟨?_, ?_, fun j hj => ?_, fun p q hp hq => ?_, fun j hj => ?_⟩
  · simp (disch := omega) only [y_exr, y_sw_o]
    exact ⟨f1, f2, f3, f4, f5, f6, f7, f10, d0, d1⟩
  · simp (disch := omega) only [y_exr, y_sw_o]; exact f8
  · simp (disch := omega) only [y_sw_o] at hj; simp (disch := omega) only [y_exr, y_sw_o]; exact s j hj
  · simp (disch := omega) only [y_sw_o] at hp; simp (disch := omega) only [y_exr, y_sw_o]; exact t p q hp hq
  · simp (disch := omega) only [y_sw_o] at hj
    have q := c _ (y_tr_lt hk hl hj)
    rw [y_sw0 (by omega), y_sw1 (by omega), y_sw2 (by omega)]
    refine ⟨?_, ?_, ?_⟩
    · rw [y_exr (by omega), y_exr (by omega), y_exs]; exact q.1
    · rw [y_exr (by omega)]
      have e : (j_si (j_si (j_si (j_si σ 6 k (σ.1 6 l)) 6 l (σ.1 6 k)) 7 k (σ.1 7 l)) 7 l (σ.1 7 k)).1 7 j = σ.1 7 (y_tr k l j) := by
        rw [show σ.1 7 l = (j_si (j_si σ 6 k (σ.1 6 l)) 6 l (σ.1 6 k)).1 7 l from (y_exr (by omega)).symm, show σ.1 7 k = (j_si (j_si σ 6 k (σ.1 6 l)) 6 l (σ.1 6 k)).1 7 k from (y_exr (by omega)).symm, y_exs, y_exr (by omega)]
      rw [e]; exact q.2.1
    · have e : ∀ s2 : j_G, (∀ j, s2.1 8 j = σ.1 8 j) → (j_si (j_si s2 8 k (σ.1 8 l)) 8 l (σ.1 8 k)).1 8 j = σ.1 8 (y_tr k l j) := by
        intro s2 h2
        rw [← h2 l, ← h2 k, y_exs, h2]
      rw [e _ (fun j => by rw [y_exr (by omega), y_exr (by omega)])]; exact q.2.2
theorem ym_ex (hM : y_M τ b) (hk : k < 24) (hl : l < 24) : ∃ τ', f_X12_trade (nI k) (nI l) τ = some τ' ∧ y_M τ' (y_sw b k l) ∧ y_km τ τ' := by
  unfold f_X12_trade
  rw [show j_F = 4996 + 1 + 1 + 1 + 1 from rfl]
  unfold p_X12_trade_2 f_X12_ofComing
  simp (disch := omega) only [y_lit, y_n1, nI_add, pk_mul, j_lt, j_b1_s, j_b2_s, j_b3_s, j_b0_s, y_bo, y_bo1, y_bo0, y_i0, y_i1, Classical.not_not, nI_clamp, y_ix, y_lt, y_le, y_eq, y_nP, y_nPs, y_ltP, y_ltQ, y_ltPP, y_eqP, y_eqQ, y_eqPP, if_pos, if_neg, ite_true, ite_false, not_true_eq_false, not_false_eq_true, and_true, true_and, and_false, false_and, or_true, true_or, or_false, false_or, j_r_ne, j_r_eq, j_r_nj]
  unfold p_X12_trade_2 f_X12_ofComing
  simp (disch := omega) only [y_lit, y_n1, nI_add, pk_mul, j_lt, j_b1_s, j_b2_s, j_b3_s, j_b0_s, y_bo, y_bo1, y_bo0, y_i0, y_i1, Classical.not_not, nI_clamp, y_ix, y_lt, y_le, y_eq, y_nP, y_nPs, y_ltP, y_ltQ, y_ltPP, y_eqP, y_eqQ, y_eqPP, if_pos, if_neg, ite_true, ite_false, not_true_eq_false, not_false_eq_true, and_true, true_and, and_false, false_and, or_true, true_or, or_false, false_or, j_r_ne, j_r_eq, j_r_nj]
  unfold p_X12_trade_2 f_X12_ofComing
  simp (disch := omega) only [y_lit, y_n1, nI_add, pk_mul, j_lt, j_b1_s, j_b2_s, j_b3_s, j_b0_s, y_bo, y_bo1, y_bo0, y_i0, y_i1, Classical.not_not, nI_clamp, y_ix, y_lt, y_le, y_eq, y_nP, y_nPs, y_ltP, y_ltQ, y_ltPP, y_eqP, y_eqQ, y_eqPP, if_pos, if_neg, ite_true, ite_false, not_true_eq_false, not_false_eq_true, and_true, true_and, and_false, false_and, or_true, true_or, or_false, false_or, j_r_ne, j_r_eq, j_r_nj]
  unfold p_X12_trade_2
  simp (disch := omega) only [y_lit, y_n1, nI_add, pk_mul, j_lt, j_b1_s, j_b2_s, j_b3_s, j_b0_s, y_bo, y_bo1, y_bo0, y_i0, y_i1, Classical.not_not, nI_clamp, y_ix, y_lt, y_le, y_eq, y_nP, y_nPs, y_ltP, y_ltQ, y_ltPP, y_eqP, y_eqQ, y_eqPP, if_pos, if_neg, ite_true, ite_false, not_true_eq_false, not_false_eq_true, and_true, true_and, and_false, false_and, or_true, true_or, or_false, false_or, j_r_ne, j_r_eq, j_r_nj]
  refine ⟨_, rfl, fun j hj => ?_, ((((y_km.w.trans y_km.w).trans y_km.w).trans y_km.w).trans y_km.w).trans y_km.w⟩
  have e0 := fun {i : Nat} (h : i < 24) => y_mb.k0 hM h
  have e1 := fun {i : Nat} (h : i < 24) => y_mb.k1 hM h
  have e2 := fun {i : Nat} (h : i < 24) => y_mb.k2 hM h
  by_cases h : 24 ≤ j ∧ j < 96
  · obtain ⟨i, hi⟩ : ∃ i, i = (j - 24) / 3 := ⟨_, rfl⟩
    have hi24 : i < 24 := by omega
    have q : j = 24 + 3 * i ∨ j = 25 + 3 * i ∨ j = 26 + 3 * i := by omega
    rcases q with rfl | rfl | rfl
    · rw [if_neg (by omega), y_sw0 hi24]
      unfold y_tr
      by_cases c1 : i = l
      · subst c1
        by_cases c2 : i = k
        · subst c2; rw [if_pos rfl]; simp (disch := omega) only [j_r_ne, j_r_eq, j_r_nj, Nat.add_zero, e0]
        · rw [if_neg c2, if_pos rfl]; simp (disch := omega) only [j_r_ne, j_r_eq, j_r_nj, Nat.add_zero, e0]
      · by_cases c2 : i = k
        · subst c2; rw [if_pos rfl]; simp (disch := omega) only [j_r_ne, j_r_eq, j_r_nj, Nat.add_zero, e0]
        · rw [if_neg c2, if_neg c1]; simp (disch := omega) only [j_r_ne, j_r_eq, j_r_nj, Nat.add_zero, e0]
    · rw [if_pos (by omega), y_sw1 hi24]
      unfold y_tr
      by_cases c1 : i = l
      · subst c1
        by_cases c2 : i = k
        · subst c2; rw [if_pos rfl]; simp (disch := omega) only [j_r_ne, j_r_eq, j_r_nj, Nat.add_right_comm 24 _ 1, e1]
        · rw [if_neg c2, if_pos rfl]; simp (disch := omega) only [j_r_ne, j_r_eq, j_r_nj, Nat.add_right_comm 24 _ 1, e1]
      · by_cases c2 : i = k
        · subst c2; rw [if_pos rfl]; simp (disch := omega) only [j_r_ne, j_r_eq, j_r_nj, Nat.add_right_comm 24 _ 1, e1]
        · rw [if_neg c2, if_neg c1]; simp (disch := omega) only [j_r_ne, j_r_eq, j_r_nj, Nat.add_right_comm 24 _ 1, e1]
    · rw [if_neg (by omega), y_sw2 hi24]
      unfold y_tr
      by_cases c1 : i = l
      · subst c1
        by_cases c2 : i = k
        · subst c2; rw [if_pos rfl]; simp (disch := omega) only [j_r_ne, j_r_eq, j_r_nj, Nat.add_right_comm 24 _ 2, e2]
        · rw [if_neg c2, if_pos rfl]; simp (disch := omega) only [j_r_ne, j_r_eq, j_r_nj, Nat.add_right_comm 24 _ 2, e2]
      · by_cases c2 : i = k
        · subst c2; rw [if_pos rfl]; simp (disch := omega) only [j_r_ne, j_r_eq, j_r_nj, Nat.add_right_comm 24 _ 2, e2]
        · rw [if_neg c2, if_neg c1]; simp (disch := omega) only [j_r_ne, j_r_eq, j_r_nj, Nat.add_right_comm 24 _ 2, e2]
  · rw [y_sw_o (by omega)]
    have := hM j hj
    simp (disch := omega) only [j_r_ne, j_r_eq, j_r_nj]
    exact this
end C
section Z
variable {σ τ : j_G}
theorem z_swap (hR : j_Rel σ τ) (a1 a2 : Int32) : ∃ v σ1 τ1, f_X11_swap a1 a2 σ = some (v, σ1) ∧ f_X12_swap a1 a2 τ = some (v, τ1) ∧ j_Rel σ1 τ1 := by
  obtain ⟨b, hW, hN, hM, hK⟩ := id hR
  have h5 := hW.b5
  by_cases h : y_rg a1 (b 5)
  · by_cases h2 : y_rg a2 (b 5)
    · obtain ⟨k, hk, rfl⟩ := y_of _ _ h.1 h.2
      obtain ⟨l, hl, rfl⟩ := y_of _ _ h2.1 h2.2
      obtain ⟨σ1, e1, e2, e3⟩ := yc_ex hN hW hk hl
      obtain ⟨τ1, f1, f2, f3⟩ := ym_ex (k := k) (l := l) hM (by omega) (by omega)
      refine ⟨0, σ1, τ1, ?_, ?_, y_sw b k l, hW.sw hk hl, e2, f2, hK.fr2 (y_kc.of e3 (by omega) (by omega)) f3⟩
      · unfold f_X11_swap; simp (disch := omega) only [y_lit, y_n1, nI_add, pk_mul, j_lt, j_b1_s, j_b2_s, j_b3_s, j_b0_s, y_bo, y_bo1, y_bo0, y_i0, y_i1, Classical.not_not, nI_clamp, y_ix, y_lt, y_le, y_eq, y_nP, y_nPs, y_ltP, y_ltQ, y_ltPP, y_eqP, y_eqQ, y_eqPP, if_pos, if_neg, ite_true, ite_false, not_true_eq_false, not_false_eq_true, and_true, true_and, and_false, false_and, or_true, true_or, or_false, false_or, yc_has hN hW, y_rn, e1]
      · unfold f_X12_swap; simp (disch := omega) only [y_lit, y_n1, nI_add, pk_mul, j_lt, j_b1_s, j_b2_s, j_b3_s, j_b0_s, y_bo, y_bo1, y_bo0, y_i0, y_i1, Classical.not_not, nI_clamp, y_ix, y_lt, y_le, y_eq, y_nP, y_nPs, y_ltP, y_ltQ, y_ltPP, y_eqP, y_eqQ, y_eqPP, if_pos, if_neg, ite_true, ite_false, not_true_eq_false, not_false_eq_true, and_true, true_and, and_false, false_and, or_true, true_or, or_false, false_or, ym_isComing hM hW, y_rn, f1]
    · refine ⟨-2, σ, τ, ?_, ?_, hR⟩
      · unfold f_X11_swap; simp (disch := omega) only [y_lit, y_n1, nI_add, pk_mul, j_lt, j_b1_s, j_b2_s, j_b3_s, j_b0_s, y_bo, y_bo1, y_bo0, y_i0, y_i1, Classical.not_not, nI_clamp, y_ix, y_lt, y_le, y_eq, y_nP, y_nPs, y_ltP, y_ltQ, y_ltPP, y_eqP, y_eqQ, y_eqPP, if_pos, if_neg, ite_true, ite_false, not_true_eq_false, not_false_eq_true, and_true, true_and, and_false, false_and, or_true, true_or, or_false, false_or, yc_has hN hW, h2]
      · unfold f_X12_swap; simp (disch := omega) only [y_lit, y_n1, nI_add, pk_mul, j_lt, j_b1_s, j_b2_s, j_b3_s, j_b0_s, y_bo, y_bo1, y_bo0, y_i0, y_i1, Classical.not_not, nI_clamp, y_ix, y_lt, y_le, y_eq, y_nP, y_nPs, y_ltP, y_ltQ, y_ltPP, y_eqP, y_eqQ, y_eqPP, if_pos, if_neg, ite_true, ite_false, not_true_eq_false, not_false_eq_true, and_true, true_and, and_false, false_and, or_true, true_or, or_false, false_or, ym_isComing hM hW, h, h2]
  · refine ⟨-2, σ, τ, ?_, ?_, hR⟩
    · unfold f_X11_swap; simp (disch := omega) only [y_lit, y_n1, nI_add, pk_mul, j_lt, j_b1_s, j_b2_s, j_b3_s, j_b0_s, y_bo, y_bo1, y_bo0, y_i0, y_i1, Classical.not_not, nI_clamp, y_ix, y_lt, y_le, y_eq, y_nP, y_nPs, y_ltP, y_ltQ, y_ltPP, y_eqP, y_eqQ, y_eqPP, if_pos, if_neg, ite_true, ite_false, not_true_eq_false, not_false_eq_true, and_true, true_and, and_false, false_and, or_true, true_or, or_false, false_or, yc_has hN hW, h]
    · unfold f_X12_swap; simp (disch := omega) only [y_lit, y_n1, nI_add, pk_mul, j_lt, j_b1_s, j_b2_s, j_b3_s, j_b0_s, y_bo, y_bo1, y_bo0, y_i0, y_i1, Classical.not_not, nI_clamp, y_ix, y_lt, y_le, y_eq, y_nP, y_nPs, y_ltP, y_ltQ, y_ltPP, y_eqP, y_eqQ, y_eqPP, if_pos, if_neg, ite_true, ite_false, not_true_eq_false, not_false_eq_true, and_true, true_and, and_false, false_and, or_true, true_or, or_false, false_or, ym_isComing hM hW, h]
theorem z_better (hR : j_Rel σ τ) (a1 : Int32) : ∃ v σ1 τ1, f_X11_better a1 σ = some (v, σ1) ∧ f_X12_better a1 τ = some (v, τ1) ∧ j_Rel σ1 τ1 := by
  obtain ⟨b, hW, hN, hM, hK⟩ := id hR
  have h5 := hW.b5
  by_cases h9 : 0 < b 9
  · by_cases h : y_rg a1 2
    · have inner : ∀ k, k < b 5 → ∀ m l n f x σ' τ', l + m = b 5 → m < n → x ≤ 576 → y_N σ' b → y_M τ' b → ∃ f' x' σ'' τ'', x' ≤ 576 ∧ p_X11_better_56 a1 (nI k) n f (nI x) (nI l) σ' = some (f', nI x', σ'') ∧ p_X12_better_47 a1 (nI k) n f (nI x) (nI l) τ' = some (f', nI x', τ'') ∧ y_N σ'' b ∧ y_M τ'' b ∧ y_kc σ' σ'' ∧ y_km τ' τ'' := by
        intro k hk m
        induction m with
        | zero =>
          intro l n f x σ' τ' h hn hx hN hM
          obtain ⟨n, rfl⟩ := y_pos hn
          refine ⟨f, x, σ', τ', hx, ?_, ?_, hN, hM, y_kc.refl, y_km.refl⟩
          · unfold p_X11_better_56; simp (disch := omega) only [y_lit, y_n1, nI_add, pk_mul, j_lt, j_b1_s, j_b2_s, j_b3_s, j_b0_s, y_bo, y_bo1, y_bo0, y_i0, y_i1, Classical.not_not, nI_clamp, y_ix, y_lt, y_le, y_eq, y_nP, y_nPs, y_ltP, y_ltQ, y_ltPP, y_eqP, y_eqQ, y_eqPP, if_pos, if_neg, ite_true, ite_false, not_true_eq_false, not_false_eq_true, and_true, true_and, and_false, false_and, or_true, true_or, or_false, false_or, hN.d0]
          · unfold p_X12_better_47; simp (disch := omega) only [y_lit, y_n1, nI_add, pk_mul, j_lt, j_b1_s, j_b2_s, j_b3_s, j_b0_s, y_bo, y_bo1, y_bo0, y_i0, y_i1, Classical.not_not, nI_clamp, y_ix, y_lt, y_le, y_eq, y_nP, y_nPs, y_ltP, y_ltQ, y_ltPP, y_eqP, y_eqQ, y_eqPP, if_pos, if_neg, ite_true, ite_false, not_true_eq_false, not_false_eq_true, and_true, true_and, and_false, false_and, or_true, true_or, or_false, false_or, hM.f]
        | succ m ih =>
          intro l n f x σ' τ' h hn hx hN hM
          obtain ⟨n, rfl⟩ := y_pos hn
          have hl : l < b 5 := by omega
          obtain ⟨σ1, e1, e2, e3⟩ := yc_ex hN hW hk hl
          obtain ⟨τ1, f1, f2, f3⟩ := ym_ex (k := k) (l := l) hM (by omega) (by omega)
          have hW1 := hW.sw hk hl
          have s5 : y_sw b k l 5 = b 5 := y_sw_o (by omega)
          obtain ⟨σ2, g1, g2, g3⟩ := yc_ex e2 hW1 (k := k) (l := l) (by omega) (by omega)
          obtain ⟨τ2, k1, k2, k3⟩ := ym_ex (k := k) (l := l) f2 (by omega) (by omega)
          rw [y_sw_sw (by omega) (by omega)] at g2 k2
          have pl := y_pa_le hW1
          have pc := yc_path e2 hW1
          have pm := ym_path f2 hW1
          generalize y_pa (y_sw b k l) = X at *
          have c1 : y_kc σ' σ2 := (y_kc.of e3 (by omega) (by omega)).trans (y_kc.of g3 (by omega) (by omega))
          have c2 := f3.trans k3
          have hlt : nI l < nI (b 5) := (y_lt (by omega) (by omega)).mpr hl
          have e5 := hM.f (j := 5) (by omega)
          have kc : p_X11_better_56 a1 (nI k) (n + 1) f (nI x) (nI l) σ' = p_X11_better_56 a1 (nI k) n (if a1 = nI 0 then (if nI x < nI X then (nI 100 * nI k + nI l, nI X) else (f, nI x)) else (if nI X < nI x then (nI 100 * nI k + nI l, nI X) else (f, nI x))).1 (if a1 = nI 0 then (if nI x < nI X then (nI 100 * nI k + nI l, nI X) else (f, nI x)) else (if nI X < nI x then (nI 100 * nI k + nI l, nI X) else (f, nI x))).2 (nI (l + 1)) σ2 := by
            rw [p_X11_better_56, hN.d0, if_pos hlt, e1, j_b1_s, pc, j_b1_s, g1, j_b1_s, show (1 : Int32) = nI 1 from rfl, nI_add]
            rfl
          have km : p_X12_better_47 a1 (nI k) (n + 1) f (nI x) (nI l) τ' = p_X12_better_47 a1 (nI k) n (if a1 = nI 0 then (if ¬ nI x < nI X then (f, nI x) else (nI 100 * nI k + nI l, nI X)) else (if ¬ nI X < nI x then (f, nI x) else (nI 100 * nI k + nI l, nI X))).1 (if a1 = nI 0 then (if ¬ nI x < nI X then (f, nI x) else (nI 100 * nI k + nI l, nI X)) else (if ¬ nI X < nI x then (f, nI x) else (nI 100 * nI k + nI l, nI X))).2 (nI (l + 1)) τ2 := by
            rw [p_X12_better_47, show (5 : Int32) = nI 5 from rfl, y_ix (by omega) (by omega), nI_clamp (by omega), e5, if_pos hlt, f1, j_b1_s, pm, j_b1_s, k1, j_b1_s, show (1 : Int32) = nI 1 from rfl, nI_add]
            rfl
          rw [kc, km]
          have go : ∀ f x, x ≤ 576 → ∃ f' x' σ'' τ'', x' ≤ 576 ∧ p_X11_better_56 a1 (nI k) n f (nI x) (nI (l + 1)) σ2 = some (f', nI x', σ'') ∧ p_X12_better_47 a1 (nI k) n f (nI x) (nI (l + 1)) τ2 = some (f', nI x', τ'') ∧ y_N σ'' b ∧ y_M τ'' b ∧ y_kc σ' σ'' ∧ y_km τ' τ'' := by
            intro f x hx
            obtain ⟨f', x', σ'', τ'', r0, r1, r2, r3, r4, r5, r6⟩ := ih (l + 1) n f x σ2 τ2 (by omega) (by omega) hx g2 k2
            exact ⟨f', x', σ'', τ'', r0, r1, r2, r3, r4, c1.trans r5, c2.trans r6⟩
          by_cases a0 : a1 = nI 0
          · simp only [if_pos a0]
            by_cases c : nI x < nI X
            · rw [if_pos c, if_neg (fun z => z c)]; exact go _ _ pl
            · rw [if_neg c, if_pos c]; exact go _ _ hx
          · simp only [if_neg a0]
            by_cases c : nI X < nI x
            · rw [if_pos c, if_neg (fun z => z c)]; exact go _ _ pl
            · rw [if_neg c, if_pos c]; exact go _ _ hx
      have outer : ∀ m k n f x σ' τ', k + m = b 5 → m < n → x ≤ 576 → y_N σ' b → y_M τ' b → ∃ v σ'' τ'', p_X11_better_35 a1 n f (nI x) (nI k) σ' = some (v, σ'') ∧ p_X12_better_30 a1 n f (nI x) (nI k) τ' = some (v, τ'') ∧ y_N σ'' b ∧ y_M τ'' b ∧ y_kc σ' σ'' ∧ y_km τ' τ'' := by
        intro m
        induction m with
        | zero =>
          intro k n f x σ' τ' h hn hx hN hM
          obtain ⟨n, rfl⟩ := y_pos hn
          refine ⟨f, σ', τ', ?_, ?_, hN, hM, y_kc.refl, y_km.refl⟩
          · unfold p_X11_better_35; simp (disch := omega) only [y_lit, y_n1, nI_add, pk_mul, j_lt, j_b1_s, j_b2_s, j_b3_s, j_b0_s, y_bo, y_bo1, y_bo0, y_i0, y_i1, Classical.not_not, nI_clamp, y_ix, y_lt, y_le, y_eq, y_nP, y_nPs, y_ltP, y_ltQ, y_ltPP, y_eqP, y_eqQ, y_eqPP, if_pos, if_neg, ite_true, ite_false, not_true_eq_false, not_false_eq_true, and_true, true_and, and_false, false_and, or_true, true_or, or_false, false_or, hN.d0]
          · unfold p_X12_better_30; simp (disch := omega) only [y_lit, y_n1, nI_add, pk_mul, j_lt, j_b1_s, j_b2_s, j_b3_s, j_b0_s, y_bo, y_bo1, y_bo0, y_i0, y_i1, Classical.not_not, nI_clamp, y_ix, y_lt, y_le, y_eq, y_nP, y_nPs, y_ltP, y_ltQ, y_ltPP, y_eqP, y_eqQ, y_eqPP, if_pos, if_neg, ite_true, ite_false, not_true_eq_false, not_false_eq_true, and_true, true_and, and_false, false_and, or_true, true_or, or_false, false_or, hM.f]
        | succ m ih =>
          intro k n f x σ' τ' h hn hx hN hM
          obtain ⟨n, rfl⟩ := y_pos hn
          obtain ⟨f', x', σ1, τ1, r0, r1, r2, r3, r4, r5, r6⟩ := inner k (by omega) m (k + 1) j_F f x σ' τ' (by omega) (y_F (by omega)) hx hN hM
          obtain ⟨v, σ2, τ2, s1, s2, s3, s4, s5, s6⟩ := ih (k + 1) n f' x' σ1 τ1 (by omega) (by omega) r0 r3 r4
          have hlt : nI k < nI (b 5) := (y_lt (by omega) (by omega)).mpr (by omega)
          have e5 := hM.f (j := 5) (by omega)
          refine ⟨v, σ2, τ2, ?_, ?_, s3, s4, r5.trans s5, r6.trans s6⟩
          · rw [p_X11_better_35, hN.d0, if_pos hlt, show (1 : Int32) = nI 1 from rfl, nI_add]
            simp only [j_lt]
            rw [r1, j_b3_s]; exact s1
          · rw [p_X12_better_30, show (5 : Int32) = nI 5 from rfl, y_ix (by omega) (by omega), nI_clamp (by omega), e5, if_pos hlt, show (1 : Int32) = nI 1 from rfl, nI_add]
            simp only [j_lt]
            rw [r2, j_b3_s]; exact s2
      obtain ⟨v, σ1, τ1, r1, r2, r3, r4, r5, r6⟩ := outer (b 5) 0 j_F (nP 0) (y_pa b) σ τ (by omega) (y_F (by omega)) (y_pa_le hW) hN hM
      refine ⟨v, σ1, τ1, ?_, ?_, b, hW, r3, r4, hK.fr2 r5 r6⟩
      · unfold f_X11_better; simp (disch := omega) only [y_lit, y_n1, nI_add, pk_mul, j_lt, j_b1_s, j_b2_s, j_b3_s, j_b0_s, y_bo, y_bo1, y_bo0, y_i0, y_i1, Classical.not_not, nI_clamp, y_ix, y_lt, y_le, y_eq, y_nP, y_nPs, y_ltP, y_ltQ, y_ltPP, y_eqP, y_eqQ, y_eqPP, if_pos, if_neg, ite_true, ite_false, not_true_eq_false, not_false_eq_true, and_true, true_and, and_false, false_and, or_true, true_or, or_false, false_or, yc_isTold hN hW, y_c5, h, yc_path hN hW, r1]
      · unfold f_X12_better; simp (disch := omega) only [y_lit, y_n1, nI_add, pk_mul, j_lt, j_b1_s, j_b2_s, j_b3_s, j_b0_s, y_bo, y_bo1, y_bo0, y_i0, y_i1, Classical.not_not, nI_clamp, y_ix, y_lt, y_le, y_eq, y_nP, y_nPs, y_ltP, y_ltQ, y_ltPP, y_eqP, y_eqQ, y_eqPP, if_pos, if_neg, ite_true, ite_false, not_true_eq_false, not_false_eq_true, and_true, true_and, and_false, false_and, or_true, true_or, or_false, false_or, ym_isBoard hM hW, y_lit64, y_in, y_c3, h, ym_path hM hW, r2]
    · refine ⟨-2, σ, τ, ?_, ?_, hR⟩
      · unfold f_X11_better; simp (disch := omega) only [y_lit, y_n1, nI_add, pk_mul, j_lt, j_b1_s, j_b2_s, j_b3_s, j_b0_s, y_bo, y_bo1, y_bo0, y_i0, y_i1, Classical.not_not, nI_clamp, y_ix, y_lt, y_le, y_eq, y_nP, y_nPs, y_ltP, y_ltQ, y_ltPP, y_eqP, y_eqQ, y_eqPP, if_pos, if_neg, ite_true, ite_false, not_true_eq_false, not_false_eq_true, and_true, true_and, and_false, false_and, or_true, true_or, or_false, false_or, yc_isTold hN hW, y_c5, h]
      · unfold f_X12_better; simp (disch := omega) only [y_lit, y_n1, nI_add, pk_mul, j_lt, j_b1_s, j_b2_s, j_b3_s, j_b0_s, y_bo, y_bo1, y_bo0, y_i0, y_i1, Classical.not_not, nI_clamp, y_ix, y_lt, y_le, y_eq, y_nP, y_nPs, y_ltP, y_ltQ, y_ltPP, y_eqP, y_eqQ, y_eqPP, if_pos, if_neg, ite_true, ite_false, not_true_eq_false, not_false_eq_true, and_true, true_and, and_false, false_and, or_true, true_or, or_false, false_or, ym_isBoard hM hW, y_lit64, y_in, y_c3, h]
  · refine ⟨-2, σ, τ, ?_, ?_, hR⟩
    · unfold f_X11_better; simp (disch := omega) only [y_lit, y_n1, nI_add, pk_mul, j_lt, j_b1_s, j_b2_s, j_b3_s, j_b0_s, y_bo, y_bo1, y_bo0, y_i0, y_i1, Classical.not_not, nI_clamp, y_ix, y_lt, y_le, y_eq, y_nP, y_nPs, y_ltP, y_ltQ, y_ltPP, y_eqP, y_eqQ, y_eqPP, if_pos, if_neg, ite_true, ite_false, not_true_eq_false, not_false_eq_true, and_true, true_and, and_false, false_and, or_true, true_or, or_false, false_or, yc_isTold hN hW]
    · unfold f_X12_better; simp (disch := omega) only [y_lit, y_n1, nI_add, pk_mul, j_lt, j_b1_s, j_b2_s, j_b3_s, j_b0_s, y_bo, y_bo1, y_bo0, y_i0, y_i1, Classical.not_not, nI_clamp, y_ix, y_lt, y_le, y_eq, y_nP, y_nPs, y_ltP, y_ltQ, y_ltPP, y_eqP, y_eqQ, y_eqPP, if_pos, if_neg, ite_true, ite_false, not_true_eq_false, not_false_eq_true, and_true, true_and, and_false, false_and, or_true, true_or, or_false, false_or, ym_isBoard hM hW]
end Z
