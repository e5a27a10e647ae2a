/-! ===== fits, place, next ===== -/
section Z
variable {σ τ : j_G}
theorem z_fits (hR : j_Rel σ τ) (a1 : Int32) : ∃ v, f_X11_fits a1 σ = some v ∧ f_X12_fits a1 τ = some v := by
  obtain ⟨b, hW, hN, hM, hK⟩ := id hR
  have b5 := hW.b5
  rcases y_why hW hN hM hK a1 with ⟨k, k1, k2, k3, k4⟩ | ⟨k3, k4, h9, s, c, d, n, e, rfl, h, he⟩
  · refine ⟨k, ?_, ?_⟩
    · unfold f_X11_fits; rw [k3, j_b1_s, if_pos k2]
    · unfold f_X12_fits; rw [k4, j_b1_s, if_pos k1]
  · have both : ∀ m k f v, k + m = b 5 → m < f → ∃ w, p_X11_fits_17 c d σ f (nI v) (nI k) = some w ∧ p_X12_fits_17 (nI s) τ f (nI v) (nI k) = some w := by
      intro m
      induction m with
      | zero =>
        intro k f v hh hf
        obtain ⟨f, rfl⟩ := y_pos hf
        refine ⟨nI v, ?_, ?_⟩
        · unfold p_X11_fits_17; simp (disch := omega) only [y_lit, y_n1, nI_add, pk_mul, j_lt, j_b1_s, j_b2_s, j_b3_s, j_b0_s, y_bo, y_bo1, y_bo0, y_i0, y_i1, Classical.not_not, nI_clamp, y_ix, y_lt, y_le, y_eq, y_nP, y_nPs, y_ltP, y_ltQ, y_ltPP, y_eqP, y_eqQ, y_eqPP, if_pos, if_neg, ite_true, ite_false, not_true_eq_false, not_false_eq_true, and_true, true_and, and_false, false_and, or_true, true_or, or_false, false_or, hN.d0]
        · unfold p_X12_fits_17; simp (disch := omega) only [y_lit, y_n1, nI_add, pk_mul, j_lt, j_b1_s, j_b2_s, j_b3_s, j_b0_s, y_bo, y_bo1, y_bo0, y_i0, y_i1, Classical.not_not, nI_clamp, y_ix, y_lt, y_le, y_eq, y_nP, y_nPs, y_ltP, y_ltQ, y_ltPP, y_eqP, y_eqQ, y_eqPP, if_pos, if_neg, ite_true, ite_false, not_true_eq_false, not_false_eq_true, and_true, true_and, and_false, false_and, or_true, true_or, or_false, false_or, hM.f]
      | succ m ih =>
        intro k f v hh hf
        obtain ⟨f, rfl⟩ := y_pos hf
        have h5 : 0 < b 5 := by omega
        have le := y_gt_le (b := b) (e := e) (k := k) n 0
        obtain ⟨w, w1, w2⟩ := ih (k + 1) f (v + y_gt b e k n 0) (by omega) (by omega)
        refine ⟨w, ?_, ?_⟩
        · unfold p_X11_fits_17; simp (disch := omega) only [y_lit, y_n1, nI_add, pk_mul, j_lt, j_b1_s, j_b2_s, j_b3_s, j_b0_s, y_bo, y_bo1, y_bo0, y_i0, y_i1, Classical.not_not, nI_clamp, y_ix, y_lt, y_le, y_eq, y_nP, y_nPs, y_ltP, y_ltQ, y_ltPP, y_eqP, y_eqQ, y_eqPP, if_pos, if_neg, ite_true, ite_false, not_true_eq_false, not_false_eq_true, and_true, true_and, and_false, false_and, or_true, true_or, or_false, false_or, hN.d0, yc_goesSo h hN hW h5]
          by_cases q : y_gt b e k n 0 = 0
          · rw [q] at w1; simp (disch := omega) only [y_lit, y_n1, nI_add, pk_mul, j_lt, j_b1_s, j_b2_s, j_b3_s, j_b0_s, y_bo, y_bo1, y_bo0, y_i0, y_i1, Classical.not_not, nI_clamp, y_ix, y_lt, y_le, y_eq, y_nP, y_nPs, y_ltP, y_ltQ, y_ltPP, y_eqP, y_eqQ, y_eqPP, if_pos, if_neg, ite_true, ite_false, not_true_eq_false, not_false_eq_true, and_true, true_and, and_false, false_and, or_true, true_or, or_false, false_or]; exact w1
          · have q1 : y_gt b e k n 0 = 1 := by omega
            rw [q1] at w1; simp (disch := omega) only [y_lit, y_n1, nI_add, pk_mul, j_lt, j_b1_s, j_b2_s, j_b3_s, j_b0_s, y_bo, y_bo1, y_bo0, y_i0, y_i1, Classical.not_not, nI_clamp, y_ix, y_lt, y_le, y_eq, y_nP, y_nPs, y_ltP, y_ltQ, y_ltPP, y_eqP, y_eqQ, y_eqPP, if_pos, if_neg, ite_true, ite_false, not_true_eq_false, not_false_eq_true, and_true, true_and, and_false, false_and, or_true, true_or, or_false, false_or]; exact w1
        · unfold p_X12_fits_17; simp (disch := omega) only [y_lit, y_n1, nI_add, pk_mul, j_lt, j_b1_s, j_b2_s, j_b3_s, j_b0_s, y_bo, y_bo1, y_bo0, y_i0, y_i1, Classical.not_not, nI_clamp, y_ix, y_lt, y_le, y_eq, y_nP, y_nPs, y_ltP, y_ltQ, y_ltPP, y_eqP, y_eqQ, y_eqPP, if_pos, if_neg, ite_true, ite_false, not_true_eq_false, not_false_eq_true, and_true, true_and, and_false, false_and, or_true, true_or, or_false, false_or, hM.f, ym_fitsFrom h hM hW h5]
          by_cases q : y_gt b e k n 0 = 0
          · rw [q] at w2; simp (disch := omega) only [y_lit, y_n1, nI_add, pk_mul, j_lt, j_b1_s, j_b2_s, j_b3_s, j_b0_s, y_bo, y_bo1, y_bo0, y_i0, y_i1, Classical.not_not, nI_clamp, y_ix, y_lt, y_le, y_eq, y_nP, y_nPs, y_ltP, y_ltQ, y_ltPP, y_eqP, y_eqQ, y_eqPP, if_pos, if_neg, ite_true, ite_false, not_true_eq_false, not_false_eq_true, and_true, true_and, and_false, false_and, or_true, true_or, or_false, false_or]; exact w2
          · have q1 : y_gt b e k n 0 = 1 := by omega
            rw [q1] at w2; simp (disch := omega) only [y_lit, y_n1, nI_add, pk_mul, j_lt, j_b1_s, j_b2_s, j_b3_s, j_b0_s, y_bo, y_bo1, y_bo0, y_i0, y_i1, Classical.not_not, nI_clamp, y_ix, y_lt, y_le, y_eq, y_nP, y_nPs, y_ltP, y_ltQ, y_ltPP, y_eqP, y_eqQ, y_eqPP, if_pos, if_neg, ite_true, ite_false, not_true_eq_false, not_false_eq_true, and_true, true_and, and_false, false_and, or_true, true_or, or_false, false_or]; exact w2
    obtain ⟨w, w1, w2⟩ := both (b 5) 0 j_F 0 (by omega) (y_F (by omega))
    refine ⟨w, ?_, ?_⟩
    · unfold f_X11_fits
      rcases h.1 with ⟨rfl, rfl, rfl⟩ | ⟨rfl, rfl, rfl⟩ | ⟨rfl, rfl, rfl⟩ | ⟨rfl, rfl, rfl⟩
      · simp (disch := omega) only [y_lit, y_n1, nI_add, pk_mul, j_lt, j_b1_s, j_b2_s, j_b3_s, j_b0_s, y_bo, y_bo1, y_bo0, y_i0, y_i1, Classical.not_not, nI_clamp, y_ix, y_lt, y_le, y_eq, y_nP, y_nPs, y_ltP, y_ltQ, y_ltPP, y_eqP, y_eqQ, y_eqPP, if_pos, if_neg, ite_true, ite_false, not_true_eq_false, not_false_eq_true, and_true, true_and, and_false, false_and, or_true, true_or, or_false, false_or, k3, w1]
      · simp (disch := omega) only [y_lit, y_n1, nI_add, pk_mul, j_lt, j_b1_s, j_b2_s, j_b3_s, j_b0_s, y_bo, y_bo1, y_bo0, y_i0, y_i1, Classical.not_not, nI_clamp, y_ix, y_lt, y_le, y_eq, y_nP, y_nPs, y_ltP, y_ltQ, y_ltPP, y_eqP, y_eqQ, y_eqPP, if_pos, if_neg, ite_true, ite_false, not_true_eq_false, not_false_eq_true, and_true, true_and, and_false, false_and, or_true, true_or, or_false, false_or, k3, w1]
      · simp (disch := omega) only [y_lit, y_n1, nI_add, pk_mul, j_lt, j_b1_s, j_b2_s, j_b3_s, j_b0_s, y_bo, y_bo1, y_bo0, y_i0, y_i1, Classical.not_not, nI_clamp, y_ix, y_lt, y_le, y_eq, y_nP, y_nPs, y_ltP, y_ltQ, y_ltPP, y_eqP, y_eqQ, y_eqPP, if_pos, if_neg, ite_true, ite_false, not_true_eq_false, not_false_eq_true, and_true, true_and, and_false, false_and, or_true, true_or, or_false, false_or, k3, w1]
      · simp (disch := omega) only [y_lit, y_n1, nI_add, pk_mul, j_lt, j_b1_s, j_b2_s, j_b3_s, j_b0_s, y_bo, y_bo1, y_bo0, y_i0, y_i1, Classical.not_not, nI_clamp, y_ix, y_lt, y_le, y_eq, y_nP, y_nPs, y_ltP, y_ltQ, y_ltPP, y_eqP, y_eqQ, y_eqPP, if_pos, if_neg, ite_true, ite_false, not_true_eq_false, not_false_eq_true, and_true, true_and, and_false, false_and, or_true, true_or, or_false, false_or, k3, w1]
    · unfold f_X12_fits; simp (disch := omega) only [y_lit, y_n1, nI_add, pk_mul, j_lt, j_b1_s, j_b2_s, j_b3_s, j_b0_s, y_bo, y_bo1, y_bo0, y_i0, y_i1, Classical.not_not, nI_clamp, y_ix, y_lt, y_le, y_eq, y_nP, y_nPs, y_ltP, y_ltQ, y_ltPP, y_eqP, y_eqQ, y_eqPP, if_pos, if_neg, ite_true, ite_false, not_true_eq_false, not_false_eq_true, and_true, true_and, and_false, false_and, or_true, true_or, or_false, false_or, k4, w2]
theorem z_place (hR : j_Rel σ τ) (a1 a2 : Int32) : ∃ v, f_X11_place a1 a2 σ = some v ∧ f_X12_place a1 a2 τ = some v := by
  obtain ⟨b, hW, hN, hM, hK⟩ := id hR
  have b5 := hW.b5
  rcases y_why hW hN hM hK a1 with ⟨k, k1, k2, k3, k4⟩ | ⟨k3, k4, h9, s, c, d, n, e, rfl, h, he⟩
  · refine ⟨k, ?_, ?_⟩
    · unfold f_X11_place; rw [k3, j_b1_s, if_pos k2]
    · unfold f_X12_place; rw [k4, j_b1_s, if_pos k1]
  · have ep : ∀ v, 0 < v → nI v + nP 0 = nI (v - 1) := by
      intro v hv
      obtain ⟨w, rfl⟩ : ∃ w, v = w + 1 := ⟨v - 1, by omega⟩
      exact pk_m1 w
    have done : (∃ w, p_X11_place_18 c d a2 σ j_F (nI 0) (nI 0) = some w ∧ p_X12_place_18 (nI s) τ j_F a2 (nI 0) = some w) → ∃ v, f_X11_place (nI s) a2 σ = some v ∧ f_X12_place (nI s) a2 τ = some v := by
      rintro ⟨w, w1, w2⟩
      refine ⟨w, ?_, ?_⟩
      · unfold f_X11_place
        rcases h.1 with ⟨rfl, rfl, rfl⟩ | ⟨rfl, rfl, rfl⟩ | ⟨rfl, rfl, rfl⟩ | ⟨rfl, rfl, rfl⟩
        · simp (disch := omega) only [y_lit, y_n1, nI_add, pk_mul, j_lt, j_b1_s, j_b2_s, j_b3_s, j_b0_s, y_bo, y_bo1, y_bo0, y_i0, y_i1, Classical.not_not, nI_clamp, y_ix, y_lt, y_le, y_eq, y_nP, y_nPs, y_ltP, y_ltQ, y_ltPP, y_eqP, y_eqQ, y_eqPP, if_pos, if_neg, ite_true, ite_false, not_true_eq_false, not_false_eq_true, and_true, true_and, and_false, false_and, or_true, true_or, or_false, false_or, k3, w1]
        · simp (disch := omega) only [y_lit, y_n1, nI_add, pk_mul, j_lt, j_b1_s, j_b2_s, j_b3_s, j_b0_s, y_bo, y_bo1, y_bo0, y_i0, y_i1, Classical.not_not, nI_clamp, y_ix, y_lt, y_le, y_eq, y_nP, y_nPs, y_ltP, y_ltQ, y_ltPP, y_eqP, y_eqQ, y_eqPP, if_pos, if_neg, ite_true, ite_false, not_true_eq_false, not_false_eq_true, and_true, true_and, and_false, false_and, or_true, true_or, or_false, false_or, k3, w1]
        · simp (disch := omega) only [y_lit, y_n1, nI_add, pk_mul, j_lt, j_b1_s, j_b2_s, j_b3_s, j_b0_s, y_bo, y_bo1, y_bo0, y_i0, y_i1, Classical.not_not, nI_clamp, y_ix, y_lt, y_le, y_eq, y_nP, y_nPs, y_ltP, y_ltQ, y_ltPP, y_eqP, y_eqQ, y_eqPP, if_pos, if_neg, ite_true, ite_false, not_true_eq_false, not_false_eq_true, and_true, true_and, and_false, false_and, or_true, true_or, or_false, false_or, k3, w1]
        · simp (disch := omega) only [y_lit, y_n1, nI_add, pk_mul, j_lt, j_b1_s, j_b2_s, j_b3_s, j_b0_s, y_bo, y_bo1, y_bo0, y_i0, y_i1, Classical.not_not, nI_clamp, y_ix, y_lt, y_le, y_eq, y_nP, y_nPs, y_ltP, y_ltQ, y_ltPP, y_eqP, y_eqQ, y_eqPP, if_pos, if_neg, ite_true, ite_false, not_true_eq_false, not_false_eq_true, and_true, true_and, and_false, false_and, or_true, true_or, or_false, false_or, k3, w1]
      · unfold f_X12_place; simp (disch := omega) only [y_lit, y_n1, nI_add, pk_mul, j_lt, j_b1_s, j_b2_s, j_b3_s, j_b0_s, y_bo, y_bo1, y_bo0, y_i0, y_i1, Classical.not_not, nI_clamp, y_ix, y_lt, y_le, y_eq, y_nP, y_nPs, y_ltP, y_ltQ, y_ltPP, y_eqP, y_eqQ, y_eqPP, if_pos, if_neg, ite_true, ite_false, not_true_eq_false, not_false_eq_true, and_true, true_and, and_false, false_and, or_true, true_or, or_false, false_or, k4, w2]
    by_cases neg : a2 < nI 0
    · refine done ⟨-1, ?_, ?_⟩
      · have key : ∀ m k f v, k + m = b 5 → m < f → v ≤ k → p_X11_place_18 c d a2 σ f (nI v) (nI k) = some (-1) := by
          intro m
          induction m with
          | zero =>
            intro k f v hh hf hv
            obtain ⟨f, rfl⟩ := y_pos hf
            unfold p_X11_place_18; simp (disch := omega) only [y_lit, y_n1, nI_add, pk_mul, j_lt, j_b1_s, j_b2_s, j_b3_s, j_b0_s, y_bo, y_bo1, y_bo0, y_i0, y_i1, Classical.not_not, nI_clamp, y_ix, y_lt, y_le, y_eq, y_nP, y_nPs, y_ltP, y_ltQ, y_ltPP, y_eqP, y_eqQ, y_eqPP, if_pos, if_neg, ite_true, ite_false, not_true_eq_false, not_false_eq_true, and_true, true_and, and_false, false_and, or_true, true_or, or_false, false_or, hN.d0]
          | succ m ih =>
            intro k f v hh hf hv
            obtain ⟨f, rfl⟩ := y_pos hf
            have h5 : 0 < b 5 := by omega
            have le := y_gt_le (b := b) (e := e) (k := k) n 0
            have hne : ¬ nI v = a2 := fun z => by rw [← z] at neg; exact absurd neg (nI_pos (by omega))
            have i1 := ih (k + 1) f v (by omega) (by omega) (by omega)
            have i2 := ih (k + 1) f (v + 1) (by omega) (by omega) (by omega)
            rw [y_m1] at i1 i2
            unfold p_X11_place_18; simp (disch := omega) only [y_lit, y_n1, nI_add, pk_mul, j_lt, j_b1_s, j_b2_s, j_b3_s, j_b0_s, y_bo, y_bo1, y_bo0, y_i0, y_i1, Classical.not_not, nI_clamp, y_ix, y_lt, y_le, y_eq, y_nP, y_nPs, y_ltP, y_ltQ, y_ltPP, y_eqP, y_eqQ, y_eqPP, if_pos, if_neg, ite_true, ite_false, not_true_eq_false, not_false_eq_true, and_true, true_and, and_false, false_and, or_true, true_or, or_false, false_or, hN.d0, yc_goesSo h hN hW h5, hne, i1, i2]
            split <;> rfl
        exact key (b 5) 0 j_F 0 (by omega) (y_F (by omega)) (by omega)
      · rw [show j_F = 4999 + 1 from rfl]
        unfold p_X12_place_18; simp (disch := omega) only [y_lit, y_n1, nI_add, pk_mul, j_lt, j_b1_s, j_b2_s, j_b3_s, j_b0_s, y_bo, y_bo1, y_bo0, y_i0, y_i1, Classical.not_not, nI_clamp, y_ix, y_lt, y_le, y_eq, y_nP, y_nPs, y_ltP, y_ltQ, y_ltPP, y_eqP, y_eqQ, y_eqPP, if_pos, if_neg, ite_true, ite_false, not_true_eq_false, not_false_eq_true, and_true, true_and, and_false, false_and, or_true, true_or, or_false, false_or, hM.f, neg]
    · obtain ⟨z, hz, rfl⟩ := nI_of (x := a2) neg
      refine done ?_
      have both : ∀ m k f v, k + m = b 5 → m < f → v ≤ z → v ≤ k → ∃ w, p_X11_place_18 c d (nI z) σ f (nI v) (nI k) = some w ∧ p_X12_place_18 (nI s) τ f (nI (z - v)) (nI k) = some w := by
        intro m
        induction m with
        | zero =>
          intro k f v hh hf hv hvk
          obtain ⟨f, rfl⟩ := y_pos hf
          refine ⟨-1, ?_, ?_⟩
          · unfold p_X11_place_18; simp (disch := omega) only [y_lit, y_n1, nI_add, pk_mul, j_lt, j_b1_s, j_b2_s, j_b3_s, j_b0_s, y_bo, y_bo1, y_bo0, y_i0, y_i1, Classical.not_not, nI_clamp, y_ix, y_lt, y_le, y_eq, y_nP, y_nPs, y_ltP, y_ltQ, y_ltPP, y_eqP, y_eqQ, y_eqPP, if_pos, if_neg, ite_true, ite_false, not_true_eq_false, not_false_eq_true, and_true, true_and, and_false, false_and, or_true, true_or, or_false, false_or, hN.d0]
          · unfold p_X12_place_18; simp (disch := omega) only [y_lit, y_n1, nI_add, pk_mul, j_lt, j_b1_s, j_b2_s, j_b3_s, j_b0_s, y_bo, y_bo1, y_bo0, y_i0, y_i1, Classical.not_not, nI_clamp, y_ix, y_lt, y_le, y_eq, y_nP, y_nPs, y_ltP, y_ltQ, y_ltPP, y_eqP, y_eqQ, y_eqPP, if_pos, if_neg, ite_true, ite_false, not_true_eq_false, not_false_eq_true, and_true, true_and, and_false, false_and, or_true, true_or, or_false, false_or, hM.f]
        | succ m ih =>
          intro k f v hh hf hv hvk
          obtain ⟨f, rfl⟩ := y_pos hf
          have h5 : 0 < b 5 := by omega
          have le := y_gt_le (b := b) (e := e) (k := k) n 0
          unfold p_X11_place_18 p_X12_place_18; simp (disch := omega) only [y_lit, y_n1, nI_add, pk_mul, j_lt, j_b1_s, j_b2_s, j_b3_s, j_b0_s, y_bo, y_bo1, y_bo0, y_i0, y_i1, Classical.not_not, nI_clamp, y_ix, y_lt, y_le, y_eq, y_nP, y_nPs, y_ltP, y_ltQ, y_ltPP, y_eqP, y_eqQ, y_eqPP, if_pos, if_neg, ite_true, ite_false, not_true_eq_false, not_false_eq_true, and_true, true_and, and_false, false_and, or_true, true_or, or_false, false_or, hN.d0, yc_goesSo h hN hW h5, hM.f, ym_fitsFrom h hM hW h5]
          by_cases q : y_gt b e k n 0 = 0
          · simp (disch := omega) only [y_lit, y_n1, nI_add, pk_mul, j_lt, j_b1_s, j_b2_s, j_b3_s, j_b0_s, y_bo, y_bo1, y_bo0, y_i0, y_i1, Classical.not_not, nI_clamp, y_ix, y_lt, y_le, y_eq, y_nP, y_nPs, y_ltP, y_ltQ, y_ltPP, y_eqP, y_eqQ, y_eqPP, if_pos, if_neg, ite_true, ite_false, not_true_eq_false, not_false_eq_true, and_true, true_and, and_false, false_and, or_true, true_or, or_false, false_or]
            exact ih (k + 1) f v (by omega) (by omega) hv (by omega)
          · simp (disch := omega) only [y_lit, y_n1, nI_add, pk_mul, j_lt, j_b1_s, j_b2_s, j_b3_s, j_b0_s, y_bo, y_bo1, y_bo0, y_i0, y_i1, Classical.not_not, nI_clamp, y_ix, y_lt, y_le, y_eq, y_nP, y_nPs, y_ltP, y_ltQ, y_ltPP, y_eqP, y_eqQ, y_eqPP, if_pos, if_neg, ite_true, ite_false, not_true_eq_false, not_false_eq_true, and_true, true_and, and_false, false_and, or_true, true_or, or_false, false_or]
            by_cases y : v = z
            · simp (disch := omega) only [y_lit, y_n1, nI_add, pk_mul, j_lt, j_b1_s, j_b2_s, j_b3_s, j_b0_s, y_bo, y_bo1, y_bo0, y_i0, y_i1, Classical.not_not, nI_clamp, y_ix, y_lt, y_le, y_eq, y_nP, y_nPs, y_ltP, y_ltQ, y_ltPP, y_eqP, y_eqQ, y_eqPP, if_pos, if_neg, ite_true, ite_false, not_true_eq_false, not_false_eq_true, and_true, true_and, and_false, false_and, or_true, true_or, or_false, false_or]
              exact ⟨nI k, rfl, rfl⟩
            · simp (disch := omega) only [y_lit, y_n1, nI_add, pk_mul, j_lt, j_b1_s, j_b2_s, j_b3_s, j_b0_s, y_bo, y_bo1, y_bo0, y_i0, y_i1, Classical.not_not, nI_clamp, y_ix, y_lt, y_le, y_eq, y_nP, y_nPs, y_ltP, y_ltQ, y_ltPP, y_eqP, y_eqQ, y_eqPP, if_pos, if_neg, ite_true, ite_false, not_true_eq_false, not_false_eq_true, and_true, true_and, and_false, false_and, or_true, true_or, or_false, false_or, ep]
              obtain ⟨w, w1, w2⟩ := ih (k + 1) f (v + 1) (by omega) (by omega) (by omega) (by omega)
              rw [show z - (v + 1) = z - v - 1 from by omega] at w2
              exact ⟨w, w1, w2⟩
      exact both (b 5) 0 j_F 0 (by omega) (y_F (by omega)) (by omega) (by omega)
theorem z_next (hR : j_Rel σ τ) (a1 : Int32) : ∃ v, f_X11_next a1 σ = some v ∧ f_X12_next a1 τ = some v := by
  obtain ⟨b, hW, hN, hM, hK⟩ := id hR
  have b5 := hW.b5
  have h4 := hW.ho
  rcases y_why hW hN hM hK a1 with ⟨k, k1, k2, k3, k4⟩ | ⟨k3, k4, h9, s, c, d, n, e, rfl, h, he⟩
  · refine ⟨k, ?_, ?_⟩
    · unfold f_X11_next; rw [k3, j_b1_s, if_pos k2]
    · unfold f_X12_next; rw [k4, j_b1_s, if_pos k1]
  · have s4 := h.s4
    have hn := h.2.1
    have both : ∀ m k f v, k + m = b 5 → m < f → v ≤ 12 → ∃ w, p_X11_next_17 c d c σ f (nP v) (nI k) = some w ∧ p_X12_next_17 (nI s) τ f (nP v) (nI k) = some w := by
      intro m
      induction m with
      | zero =>
        intro k f v hh hf hv
        obtain ⟨f, rfl⟩ := y_pos hf
        refine ⟨nP v, ?_, ?_⟩
        · unfold p_X11_next_17; simp (disch := omega) only [y_lit, y_n1, nI_add, pk_mul, j_lt, j_b1_s, j_b2_s, j_b3_s, j_b0_s, y_bo, y_bo1, y_bo0, y_i0, y_i1, Classical.not_not, nI_clamp, y_ix, y_lt, y_le, y_eq, y_nP, y_nPs, y_ltP, y_ltQ, y_ltPP, y_eqP, y_eqQ, y_eqPP, if_pos, if_neg, ite_true, ite_false, not_true_eq_false, not_false_eq_true, and_true, true_and, and_false, false_and, or_true, true_or, or_false, false_or, hN.d0]
        · unfold p_X12_next_17; simp (disch := omega) only [y_lit, y_n1, nI_add, pk_mul, j_lt, j_b1_s, j_b2_s, j_b3_s, j_b0_s, y_bo, y_bo1, y_bo0, y_i0, y_i1, Classical.not_not, nI_clamp, y_ix, y_lt, y_le, y_eq, y_nP, y_nPs, y_ltP, y_ltQ, y_ltPP, y_eqP, y_eqQ, y_eqPP, if_pos, if_neg, ite_true, ite_false, not_true_eq_false, not_false_eq_true, and_true, true_and, and_false, false_and, or_true, true_or, or_false, false_or, hM.f]
      | succ m ih =>
        intro k f v hh hf hv
        obtain ⟨f, rfl⟩ := y_pos hf
        have h5 : 0 < b 5 := by omega
        have le := y_gt_le (b := b) (e := e) (k := k) n 0
        have r := y_rd_lt hW h5 (k + n)
        unfold p_X11_next_17 p_X12_next_17; simp (disch := omega) only [y_lit, y_n1, nI_add, pk_mul, j_lt, j_b1_s, j_b2_s, j_b3_s, j_b0_s, y_bo, y_bo1, y_bo0, y_i0, y_i1, Classical.not_not, nI_clamp, y_ix, y_lt, y_le, y_eq, y_nP, y_nPs, y_ltP, y_ltQ, y_ltPP, y_eqP, y_eqQ, y_eqPP, if_pos, if_neg, ite_true, ite_false, not_true_eq_false, not_false_eq_true, and_true, true_and, and_false, false_and, or_true, true_or, or_false, false_or, hN.d0, yc_goesSo h hN hW h5, hM.f, ym_fitsFrom h hM hW h5, h.2.2.1, h.2.2.2.1, yc_round hN hW h5, ym_holeAt hM hW h5]
        by_cases q : y_gt b e k n 0 = 0
        · simp (disch := omega) only [y_lit, y_n1, nI_add, pk_mul, j_lt, j_b1_s, j_b2_s, j_b3_s, j_b0_s, y_bo, y_bo1, y_bo0, y_i0, y_i1, Classical.not_not, nI_clamp, y_ix, y_lt, y_le, y_eq, y_nP, y_nPs, y_ltP, y_ltQ, y_ltPP, y_eqP, y_eqQ, y_eqPP, if_pos, if_neg, ite_true, ite_false, not_true_eq_false, not_false_eq_true, and_true, true_and, and_false, false_and, or_true, true_or, or_false, false_or]
          exact ih (k + 1) f v (by omega) (by omega) hv
        · simp (disch := omega) only [y_lit, y_n1, nI_add, pk_mul, j_lt, j_b1_s, j_b2_s, j_b3_s, j_b0_s, y_bo, y_bo1, y_bo0, y_i0, y_i1, Classical.not_not, nI_clamp, y_ix, y_lt, y_le, y_eq, y_nP, y_nPs, y_ltP, y_ltQ, y_ltPP, y_eqP, y_eqQ, y_eqPP, if_pos, if_neg, ite_true, ite_false, not_true_eq_false, not_false_eq_true, and_true, true_and, and_false, false_and, or_true, true_or, or_false, false_or]
          by_cases y : v = 0
          · obtain ⟨w, w1, w2⟩ := ih (k + 1) f (y_rd b (k + n) + 1) (by omega) (by omega) (by omega)
            rw [y_nPs] at w1 w2
            simp (disch := omega) only [y_lit, y_n1, nI_add, pk_mul, j_lt, j_b1_s, j_b2_s, j_b3_s, j_b0_s, y_bo, y_bo1, y_bo0, y_i0, y_i1, Classical.not_not, nI_clamp, y_ix, y_lt, y_le, y_eq, y_nP, y_nPs, y_ltP, y_ltQ, y_ltPP, y_eqP, y_eqQ, y_eqPP, if_pos, if_neg, ite_true, ite_false, not_true_eq_false, not_false_eq_true, and_true, true_and, and_false, false_and, or_true, true_or, or_false, false_or]
            exact ⟨w, w1, w2⟩
          · by_cases x : v = y_rd b (k + n) + 1
            · obtain ⟨w, w1, w2⟩ := ih (k + 1) f (y_rd b (k + n) + 1) (by omega) (by omega) (by omega)
              rw [y_nPs] at w1 w2
              simp (disch := omega) only [y_lit, y_n1, nI_add, pk_mul, j_lt, j_b1_s, j_b2_s, j_b3_s, j_b0_s, y_bo, y_bo1, y_bo0, y_i0, y_i1, Classical.not_not, nI_clamp, y_ix, y_lt, y_le, y_eq, y_nP, y_nPs, y_ltP, y_ltQ, y_ltPP, y_eqP, y_eqQ, y_eqPP, if_pos, if_neg, ite_true, ite_false, not_true_eq_false, not_false_eq_true, and_true, true_and, and_false, false_and, or_true, true_or, or_false, false_or]
              exact ⟨w, w1, w2⟩
            · simp (disch := omega) only [y_lit, y_n1, nI_add, pk_mul, j_lt, j_b1_s, j_b2_s, j_b3_s, j_b0_s, y_bo, y_bo1, y_bo0, y_i0, y_i1, Classical.not_not, nI_clamp, y_ix, y_lt, y_le, y_eq, y_nP, y_nPs, y_ltP, y_ltQ, y_ltPP, y_eqP, y_eqQ, y_eqPP, if_pos, if_neg, ite_true, ite_false, not_true_eq_false, not_false_eq_true, and_true, true_and, and_false, false_and, or_true, true_or, or_false, false_or]
              exact ⟨nP 0, rfl, rfl⟩
    obtain ⟨w, w1, w2⟩ := both (b 5) 0 j_F 0 (by omega) (y_F (by omega)) (by omega)
    refine ⟨w, ?_, ?_⟩
    · unfold f_X11_next
      rcases h.1 with ⟨rfl, rfl, rfl⟩ | ⟨rfl, rfl, rfl⟩ | ⟨rfl, rfl, rfl⟩ | ⟨rfl, rfl, rfl⟩
      · simp (disch := omega) only [y_lit, y_n1, nI_add, pk_mul, j_lt, j_b1_s, j_b2_s, j_b3_s, j_b0_s, y_bo, y_bo1, y_bo0, y_i0, y_i1, Classical.not_not, nI_clamp, y_ix, y_lt, y_le, y_eq, y_nP, y_nPs, y_ltP, y_ltQ, y_ltPP, y_eqP, y_eqQ, y_eqPP, if_pos, if_neg, ite_true, ite_false, not_true_eq_false, not_false_eq_true, and_true, true_and, and_false, false_and, or_true, true_or, or_false, false_or, k3, w1]
      · simp (disch := omega) only [y_lit, y_n1, nI_add, pk_mul, j_lt, j_b1_s, j_b2_s, j_b3_s, j_b0_s, y_bo, y_bo1, y_bo0, y_i0, y_i1, Classical.not_not, nI_clamp, y_ix, y_lt, y_le, y_eq, y_nP, y_nPs, y_ltP, y_ltQ, y_ltPP, y_eqP, y_eqQ, y_eqPP, if_pos, if_neg, ite_true, ite_false, not_true_eq_false, not_false_eq_true, and_true, true_and, and_false, false_and, or_true, true_or, or_false, false_or, k3, w1]
      · simp (disch := omega) only [y_lit, y_n1, nI_add, pk_mul, j_lt, j_b1_s, j_b2_s, j_b3_s, j_b0_s, y_bo, y_bo1, y_bo0, y_i0, y_i1, Classical.not_not, nI_clamp, y_ix, y_lt, y_le, y_eq, y_nP, y_nPs, y_ltP, y_ltQ, y_ltPP, y_eqP, y_eqQ, y_eqPP, if_pos, if_neg, ite_true, ite_false, not_true_eq_false, not_false_eq_true, and_true, true_and, and_false, false_and, or_true, true_or, or_false, false_or, k3, w1]
      · simp (disch := omega) only [y_lit, y_n1, nI_add, pk_mul, j_lt, j_b1_s, j_b2_s, j_b3_s, j_b0_s, y_bo, y_bo1, y_bo0, y_i0, y_i1, Classical.not_not, nI_clamp, y_ix, y_lt, y_le, y_eq, y_nP, y_nPs, y_ltP, y_ltQ, y_ltPP, y_eqP, y_eqQ, y_eqPP, if_pos, if_neg, ite_true, ite_false, not_true_eq_false, not_false_eq_true, and_true, true_and, and_false, false_and, or_true, true_or, or_false, false_or, k3, w1]
    · unfold f_X12_next; simp (disch := omega) only [y_lit, y_n1, nI_add, pk_mul, j_lt, j_b1_s, j_b2_s, j_b3_s, j_b0_s, y_bo, y_bo1, y_bo0, y_i0, y_i1, Classical.not_not, nI_clamp, y_ix, y_lt, y_le, y_eq, y_nP, y_nPs, y_ltP, y_ltQ, y_ltPP, y_eqP, y_eqQ, y_eqPP, if_pos, if_neg, ite_true, ite_false, not_true_eq_false, not_false_eq_true, and_true, true_and, and_false, false_and, or_true, true_or, or_false, false_or, k4, w2]
end Z
/-! ===== needed, known ===== -/
def y_al (b : Nat → Nat) (k l : Nat) : Nat → Nat → Nat
  | 0, i => i
  | m + 1, i => if y_rd b (k + i) = y_rd b (l + i) then y_al b k l m (i + 1) else i
def y_A (b : Nat → Nat) (k l : Nat) : Nat := y_al b k l (b 5) 0
theorem y_al_bd {b : Nat → Nat} {k l : Nat} : ∀ m i, i ≤ y_al b k l m i ∧ y_al b k l m i ≤ i + m := by
  intro m
  induction m with
  | zero => intro i; exact ⟨Nat.le_refl _, Nat.le_refl _⟩
  | succ m ih => intro i; unfold y_al; have := ih (i + 1); split <;> omega
theorem y_al_self {b : Nat → Nat} {k : Nat} : ∀ m i, y_al b k k m i = i + m := by
  intro m
  induction m with
  | zero => intro i; rfl
  | succ m ih => intro i; unfold y_al; rw [if_pos rfl, ih]; omega
/-- all the same up to n -/
theorem y_al_ge {b : Nat → Nat} {k l : Nat} : ∀ m i n, n ≤ i + m → i ≤ n → (n ≤ y_al b k l m i ↔ ∀ j, i ≤ j → j < n → y_rd b (k + j) = y_rd b (l + j)) := by
  intro m
  induction m with
  | zero => intro i n h1 h2; exact ⟨fun _ j a c => by omega, fun _ => by unfold y_al; omega⟩
  | succ m ih =>
    intro i n h1 h2
    unfold y_al
    by_cases e : i = n
    · subst e
      refine ⟨fun _ j a c => by omega, fun _ => ?_⟩
      split
      · have := (y_al_bd (b := b) (k := k) (l := l) m (i + 1)).1; omega
      · omega
    · by_cases c : y_rd b (k + i) = y_rd b (l + i)
      · rw [if_pos c, ih (i + 1) n (by omega) (by omega)]
        refine ⟨fun h j a d => ?_, fun h j a d => h j (by omega) d⟩
        by_cases f : j = i
        · subst f; exact c
        · exact h j (by omega) d
      · rw [if_neg c]
        exact ⟨fun h => by omega, fun h => absurd (h i (by omega) (by omega)) c⟩
theorem y_su_one {f : Nat → Nat} : ∀ m i j, i ≤ j → j < i + m → f j ≤ y_su f m i 0 := by
  intro m
  induction m with
  | zero => intro i j h1 h2; omega
  | succ m ih =>
    intro i j h1 h2
    rw [y_su_s]
    by_cases e : j = i
    · subst e; omega
    · have := ih (i + 1) j (by omega) (by omega); omega
theorem y_su_two {f : Nat → Nat} : ∀ m i j k, i ≤ j → j < k → k < i + m → f j + f k ≤ y_su f m i 0 := by
  intro m
  induction m with
  | zero => intro i j k h1 h2 h3; omega
  | succ m ih =>
    intro i j k h1 h2 h3
    rw [y_su_s]
    by_cases e : j = i
    · subst e; have := y_su_one (f := f) m (j + 1) k (by omega) (by omega); omega
    · have := ih (i + 1) j k (by omega) h2 (by omega); omega
theorem y_su_z {f : Nat → Nat} : ∀ m i, (∀ j, i ≤ j → j < i + m → f j = 0) → y_su f m i 0 = 0 := by
  intro m
  induction m with
  | zero => intro i _; rfl
  | succ m ih => intro i h; rw [y_su_s, ih (i + 1) (fun j a c => h j (by omega) (by omega)), h i (by omega) (by omega)]
theorem y_su_k {f : Nat → Nat} {k : Nat} : ∀ m i, i ≤ k → k < i + m → (∀ j, i ≤ j → j < i + m → j ≠ k → f j = 0) → y_su f m i 0 = f k := by
  intro m
  induction m with
  | zero => intro i h1 h2; omega
  | succ m ih =>
    intro i h1 h2 h
    rw [y_su_s]
    by_cases e : i = k
    · subst e; rw [y_su_z m (i + 1) (fun j a c => h j (by omega) (by omega) (by omega))]; omega
    · rw [ih (i + 1) (by omega) (by omega) (fun j a c d => h j (by omega) (by omega) d), h i (by omega) (by omega) e]; omega
def y_nd (b : Nat → Nat) (k : Nat) : Nat → Nat → Nat → Nat
  | 0, _, v => v
  | m + 1, l, v => y_nd b k m (l + 1) (if l = k then v else if v < y_A b k l + 1 then y_A b k l + 1 else v)
theorem y_nd_le {b : Nat → Nat} {k n : Nat} : ∀ m l v, (y_nd b k m l v ≤ n ↔ v ≤ n ∧ ∀ o, l ≤ o → o < l + m → o ≠ k → y_A b k o < n) := by
  intro m
  induction m with
  | zero => intro l v; exact ⟨fun h => ⟨h, fun o a c => by omega⟩, fun h => h.1⟩
  | succ m ih =>
    intro l v
    unfold y_nd
    rw [ih]
    constructor
    · rintro ⟨h1, h2⟩
      by_cases e : l = k
      · rw [if_pos e] at h1
        exact ⟨h1, fun o a c d => h2 o (by omega) (by omega) d⟩
      · rw [if_neg e] at h1
        have h3 : v ≤ n ∧ y_A b k l < n := by split at h1 <;> omega
        refine ⟨h3.1, fun o a c d => ?_⟩
        by_cases f : o = l
        · subst f; exact h3.2
        · exact h2 o (by omega) (by omega) d
    · rintro ⟨h1, h2⟩
      refine ⟨?_, fun o a c d => h2 o (by omega) (by omega) d⟩
      by_cases e : l = k
      · rw [if_pos e]; exact h1
      · rw [if_neg e]
        have := h2 l (by omega) (by omega) e
        split <;> omega
def y_M0 (b : Nat → Nat) (k : Nat) : Nat := y_nd b k (b 5) 0 0
section C
variable {σ τ : j_G} {b : Nat → Nat} {k l : Nat}
theorem y_M0_le (k : Nat) : y_M0 b k ≤ b 5 + 1 := by
  refine (y_nd_le (b 5) 0 0).mpr ⟨by omega, fun o _ _ _ => ?_⟩
  have := (y_al_bd (b := b) (k := k) (l := o) (b 5) 0).2
  unfold y_A; omega
theorem y_cnt {n : Nat} (hk : k < b 5) (hn : n ≤ b 5) : y_su (fun o => if n ≤ y_A b k o then 1 else 0) (b 5) 0 0 = 1 ↔ y_M0 b k ≤ n := by
  have hkk : y_A b k k = b 5 := by unfold y_A; rw [y_al_self]; omega
  have fk : (fun o => if n ≤ y_A b k o then 1 else 0) k = 1 := by show (if n ≤ y_A b k k then 1 else 0) = 1; rw [hkk, if_pos hn]
  unfold y_M0
  rw [y_nd_le]
  constructor
  · intro h
    refine ⟨by omega, fun o _ ho hne => ?_⟩
    by_cases c : n ≤ y_A b k o
    · exfalso
      have fo : (fun o => if n ≤ y_A b k o then 1 else 0) o = 1 := if_pos c
      rcases Nat.lt_or_gt_of_ne hne with q | q
      · have := y_su_two (f := fun o => if n ≤ y_A b k o then 1 else 0) (b 5) 0 o k (by omega) q (by omega)
        rw [if_pos c, if_pos (show n ≤ y_A b k k by omega)] at this; omega
      · have := y_su_two (f := fun o => if n ≤ y_A b k o then 1 else 0) (b 5) 0 k o (by omega) q (by omega)
        rw [if_pos c, if_pos (show n ≤ y_A b k k by omega)] at this; omega
    · omega
  · rintro ⟨_, h⟩
    rw [y_su_k (k := k) (b 5) 0 (by omega) (by omega) (fun j _ hj hne => if_neg (by have := h j (by omega) hj hne; omega))]
    exact fk
theorem yc_alike (hN : y_N σ b) (hW : y_W b) (h5 : 0 < b 5) (hk : k < 100) (hl : l < 100) : f_X3_alike (nI k) (nI l) σ = some (nI (y_A b k l)) := by
  have b5 := hW.b5
  have h4 := hW.ho
  have key : ∀ m i f, i + m = b 5 → m < f → p_X3_alike_2 (nI k) (nI l) σ f (nI i) = some (nI (y_al b k l m i)) := by
    intro m
    induction m with
    | zero =>
      intro i f hh hf
      obtain ⟨f, rfl⟩ := y_pos hf
      unfold p_X3_alike_2 y_al; simp (disch := omega) only [y_lit, y_n1, nI_add, pk_mul, j_lt, j_b1_s, j_b2_s, j_b3_s, j_b0_s, y_bo, y_bo1, y_bo0, y_i0, y_i1, Classical.not_not, nI_clamp, y_ix, y_lt, y_le, y_eq, y_nP, y_nPs, y_ltP, y_ltQ, y_ltPP, y_eqP, y_eqQ, y_eqPP, if_pos, if_neg, ite_true, ite_false, not_true_eq_false, not_false_eq_true, and_true, true_and, and_false, false_and, or_true, true_or, or_false, false_or, hN.d0]
    | succ m ih =>
      intro i f hh hf
      obtain ⟨f, rfl⟩ := y_pos hf
      have r1 := y_rd_lt hW h5 (k + i)
      have r2 := y_rd_lt hW h5 (l + i)
      unfold p_X3_alike_2 y_al; simp (disch := omega) only [y_lit, y_n1, nI_add, pk_mul, j_lt, j_b1_s, j_b2_s, j_b3_s, j_b0_s, y_bo, y_bo1, y_bo0, y_i0, y_i1, Classical.not_not, nI_clamp, y_ix, y_lt, y_le, y_eq, y_nP, y_nPs, y_ltP, y_ltQ, y_ltPP, y_eqP, y_eqQ, y_eqPP, if_pos, if_neg, ite_true, ite_false, not_true_eq_false, not_false_eq_true, and_true, true_and, and_false, false_and, or_true, true_or, or_false, false_or, hN.d0, yc_round hN hW h5]
      by_cases q : y_rd b (k + i) = y_rd b (l + i)
      · simp (disch := omega) only [y_lit, y_n1, nI_add, pk_mul, j_lt, j_b1_s, j_b2_s, j_b3_s, j_b0_s, y_bo, y_bo1, y_bo0, y_i0, y_i1, Classical.not_not, nI_clamp, y_ix, y_lt, y_le, y_eq, y_nP, y_nPs, y_ltP, y_ltQ, y_ltPP, y_eqP, y_eqQ, y_eqPP, if_pos, if_neg, ite_true, ite_false, not_true_eq_false, not_false_eq_true, and_true, true_and, and_false, false_and, or_true, true_or, or_false, false_or]; exact ih (i + 1) f (by omega) (by omega)
      · simp (disch := omega) only [y_lit, y_n1, nI_add, pk_mul, j_lt, j_b1_s, j_b2_s, j_b3_s, j_b0_s, y_bo, y_bo1, y_bo0, y_i0, y_i1, Classical.not_not, nI_clamp, y_ix, y_lt, y_le, y_eq, y_nP, y_nPs, y_ltP, y_ltQ, y_ltPP, y_eqP, y_eqQ, y_eqPP, if_pos, if_neg, ite_true, ite_false, not_true_eq_false, not_false_eq_true, and_true, true_and, and_false, false_and, or_true, true_or, or_false, false_or]
  unfold f_X3_alike
  rw [show (0 : Int32) = nI 0 from rfl, key (b 5) 0 j_F (by omega) (y_F (by omega))]
  rfl
theorem yc_needed (hN : y_N σ b) (hW : y_W b) (hk : k < b 5) : f_X3_neededFrom (nI k) σ = some (if y_M0 b k ≤ b 5 then nI (y_M0 b k) else nP 0) := by
  have b5 := hW.b5
  have h5 : 0 < b 5 := by omega
  have ml := y_M0_le (b := b) k
  have key : ∀ m l f v, l + m = b 5 → m < f → v ≤ 25 → p_X3_neededFrom_4 (nI k) σ f (nI v) (nI l) = some (nI (y_nd b k m l v)) := by
    intro m
    induction m with
    | zero =>
      intro l f v hh hf hv
      obtain ⟨f, rfl⟩ := y_pos hf
      unfold p_X3_neededFrom_4 y_nd; simp (disch := omega) only [y_lit, y_n1, nI_add, pk_mul, j_lt, j_b1_s, j_b2_s, j_b3_s, j_b0_s, y_bo, y_bo1, y_bo0, y_i0, y_i1, Classical.not_not, nI_clamp, y_ix, y_lt, y_le, y_eq, y_nP, y_nPs, y_ltP, y_ltQ, y_ltPP, y_eqP, y_eqQ, y_eqPP, if_pos, if_neg, ite_true, ite_false, not_true_eq_false, not_false_eq_true, and_true, true_and, and_false, false_and, or_true, true_or, or_false, false_or, hN.d0]
    | succ m ih =>
      intro l f v hh hf hv
      obtain ⟨f, rfl⟩ := y_pos hf
      have al := (y_al_bd (b := b) (k := k) (l := l) (b 5) 0).2
      have al' : y_A b k l ≤ 24 := by unfold y_A; omega
      unfold p_X3_neededFrom_4 y_nd; simp (disch := omega) only [y_lit, y_n1, nI_add, pk_mul, j_lt, j_b1_s, j_b2_s, j_b3_s, j_b0_s, y_bo, y_bo1, y_bo0, y_i0, y_i1, Classical.not_not, nI_clamp, y_ix, y_lt, y_le, y_eq, y_nP, y_nPs, y_ltP, y_ltQ, y_ltPP, y_eqP, y_eqQ, y_eqPP, if_pos, if_neg, ite_true, ite_false, not_true_eq_false, not_false_eq_true, and_true, true_and, and_false, false_and, or_true, true_or, or_false, false_or, hN.d0, yc_alike hN hW h5]
      by_cases q : l = k
      · rw [if_pos q]; simp (disch := omega) only [y_lit, y_n1, nI_add, pk_mul, j_lt, j_b1_s, j_b2_s, j_b3_s, j_b0_s, y_bo, y_bo1, y_bo0, y_i0, y_i1, Classical.not_not, nI_clamp, y_ix, y_lt, y_le, y_eq, y_nP, y_nPs, y_ltP, y_ltQ, y_ltPP, y_eqP, y_eqQ, y_eqPP, if_pos, if_neg, ite_true, ite_false, not_true_eq_false, not_false_eq_true, and_true, true_and, and_false, false_and, or_true, true_or, or_false, false_or]; exact ih (l + 1) f v (by omega) (by omega) hv
      · rw [if_neg q]
        by_cases y : v < y_A b k l + 1
        · simp (disch := omega) only [y_lit, y_n1, nI_add, pk_mul, j_lt, j_b1_s, j_b2_s, j_b3_s, j_b0_s, y_bo, y_bo1, y_bo0, y_i0, y_i1, Classical.not_not, nI_clamp, y_ix, y_lt, y_le, y_eq, y_nP, y_nPs, y_ltP, y_ltQ, y_ltPP, y_eqP, y_eqQ, y_eqPP, if_pos, if_neg, ite_true, ite_false, not_true_eq_false, not_false_eq_true, and_true, true_and, and_false, false_and, or_true, true_or, or_false, false_or]; exact ih (l + 1) f _ (by omega) (by omega) (by omega)
        · simp (disch := omega) only [y_lit, y_n1, nI_add, pk_mul, j_lt, j_b1_s, j_b2_s, j_b3_s, j_b0_s, y_bo, y_bo1, y_bo0, y_i0, y_i1, Classical.not_not, nI_clamp, y_ix, y_lt, y_le, y_eq, y_nP, y_nPs, y_ltP, y_ltQ, y_ltPP, y_eqP, y_eqQ, y_eqPP, if_pos, if_neg, ite_true, ite_false, not_true_eq_false, not_false_eq_true, and_true, true_and, and_false, false_and, or_true, true_or, or_false, false_or]; exact ih (l + 1) f _ (by omega) (by omega) (by omega)
  unfold f_X3_neededFrom
  rw [show (0 : Int32) = nI 0 from rfl, key (b 5) 0 j_F 0 (by omega) (y_F (by omega)) (by omega)]
  rw [show y_nd b k (b 5) 0 0 = y_M0 b k from rfl]
  simp (disch := omega) only [y_lit, y_n1, nI_add, pk_mul, j_lt, j_b1_s, j_b2_s, j_b3_s, j_b0_s, y_bo, y_bo1, y_bo0, y_i0, y_i1, Classical.not_not, nI_clamp, y_ix, y_lt, y_le, y_eq, y_nP, y_nPs, y_ltP, y_ltQ, y_ltPP, y_eqP, y_eqQ, y_eqPP, if_pos, if_neg, ite_true, ite_false, not_true_eq_false, not_false_eq_true, and_true, true_and, and_false, false_and, or_true, true_or, or_false, false_or, hN.d0]
  by_cases c : y_M0 b k ≤ b 5
  · simp (disch := omega) only [y_lit, y_n1, nI_add, pk_mul, j_lt, j_b1_s, j_b2_s, j_b3_s, j_b0_s, y_bo, y_bo1, y_bo0, y_i0, y_i1, Classical.not_not, nI_clamp, y_ix, y_lt, y_le, y_eq, y_nP, y_nPs, y_ltP, y_ltQ, y_ltPP, y_eqP, y_eqQ, y_eqPP, if_pos, if_neg, ite_true, ite_false, not_true_eq_false, not_false_eq_true, and_true, true_and, and_false, false_and, or_true, true_or, or_false, false_or]
  · simp (disch := omega) only [y_lit, y_n1, nI_add, pk_mul, j_lt, j_b1_s, j_b2_s, j_b3_s, j_b0_s, y_bo, y_bo1, y_bo0, y_i0, y_i1, Classical.not_not, nI_clamp, y_ix, y_lt, y_le, y_eq, y_nP, y_nPs, y_ltP, y_ltQ, y_ltPP, y_eqP, y_eqQ, y_eqPP, if_pos, if_neg, ite_true, ite_false, not_true_eq_false, not_false_eq_true, and_true, true_and, and_false, false_and, or_true, true_or, or_false, false_or]
theorem ym_alike (hM : y_M τ b) (hW : y_W b) (h5 : 0 < b 5) (hk : k < 100) (hl : l < 100) {n : Nat} (hn : n ≤ b 5) : f_X12_goesAlike (nI k) (nI l) (nI n) τ = some (nI (if n ≤ y_A b k l then 1 else 0)) := by
  have b5 := hW.b5
  have h4 := hW.ho
  have key : ∀ m i f, i + m = n → m < f → p_X12_goesAlike_3 (nI k) (nI l) (nI n) τ f (nI i) = some (nI (if n ≤ y_al b k l (b 5 - i) i then 1 else 0)) := by
    intro m
    induction m with
    | zero =>
      intro i f hh hf
      obtain ⟨f, rfl⟩ := y_pos hf
      have := (y_al_bd (b := b) (k := k) (l := l) (b 5 - i) i).1
      rw [if_pos (by omega)]
      unfold p_X12_goesAlike_3; simp (disch := omega) only [y_lit, y_n1, nI_add, pk_mul, j_lt, j_b1_s, j_b2_s, j_b3_s, j_b0_s, y_bo, y_bo1, y_bo0, y_i0, y_i1, Classical.not_not, nI_clamp, y_ix, y_lt, y_le, y_eq, y_nP, y_nPs, y_ltP, y_ltQ, y_ltPP, y_eqP, y_eqQ, y_eqPP, if_pos, if_neg, ite_true, ite_false, not_true_eq_false, not_false_eq_true, and_true, true_and, and_false, false_and, or_true, true_or, or_false, false_or]
    | succ m ih =>
      intro i f hh hf
      obtain ⟨f, rfl⟩ := y_pos hf
      have r1 := y_rd_lt hW h5 (k + i)
      have r2 := y_rd_lt hW h5 (l + i)
      obtain ⟨t, ht⟩ : ∃ t, b 5 - i = t + 1 := ⟨b 5 - i - 1, by omega⟩
      rw [ht]
      unfold p_X12_goesAlike_3 y_al; simp (disch := omega) only [y_lit, y_n1, nI_add, pk_mul, j_lt, j_b1_s, j_b2_s, j_b3_s, j_b0_s, y_bo, y_bo1, y_bo0, y_i0, y_i1, Classical.not_not, nI_clamp, y_ix, y_lt, y_le, y_eq, y_nP, y_nPs, y_ltP, y_ltQ, y_ltPP, y_eqP, y_eqQ, y_eqPP, if_pos, if_neg, ite_true, ite_false, not_true_eq_false, not_false_eq_true, and_true, true_and, and_false, false_and, or_true, true_or, or_false, false_or, ym_holeAt hM hW h5]
      by_cases q : y_rd b (k + i) = y_rd b (l + i)
      · rw [if_pos q, if_neg (fun z => z q), ih (i + 1) f (by omega) (by omega), show b 5 - (i + 1) = t from by omega]
      · rw [if_neg q, if_pos q, if_neg (by omega)]
  unfold f_X12_goesAlike
  rw [show (0 : Int32) = nI 0 from rfl, key n 0 j_F (by omega) (y_F (by omega))]
  rfl
theorem ym_needed (hM : y_M τ b) (hW : y_W b) (hk : k < b 5) : f_X12_neededFrom (nI k) τ = some (if y_M0 b k ≤ b 5 then nI (y_M0 b k) else nP 0) := by
  have b5 := hW.b5
  have h5 : 0 < b 5 := by omega
  have ml := y_M0_le (b := b) k
  have cnt : ∀ n, n ≤ b 5 → p_X12_neededFrom_17 (nI k) (nI n) τ j_F (nI 0) (nI 0) = some (nI (y_su (fun o => if n ≤ y_A b k o then 1 else 0) (b 5) 0 0)) := by
    intro n hn
    have key : ∀ m l f v, l + m = b 5 → m < f → p_X12_neededFrom_17 (nI k) (nI n) τ f (nI v) (nI l) = some (nI (y_su (fun o => if n ≤ y_A b k o then 1 else 0) m l v)) := by
      intro m
      induction m with
      | zero =>
        intro l f v hh hf
        obtain ⟨f, rfl⟩ := y_pos hf
        unfold p_X12_neededFrom_17 y_su; simp (disch := omega) only [y_lit, y_n1, nI_add, pk_mul, j_lt, j_b1_s, j_b2_s, j_b3_s, j_b0_s, y_bo, y_bo1, y_bo0, y_i0, y_i1, Classical.not_not, nI_clamp, y_ix, y_lt, y_le, y_eq, y_nP, y_nPs, y_ltP, y_ltQ, y_ltPP, y_eqP, y_eqQ, y_eqPP, if_pos, if_neg, ite_true, ite_false, not_true_eq_false, not_false_eq_true, and_true, true_and, and_false, false_and, or_true, true_or, or_false, false_or, hM.f]
      | succ m ih =>
        intro l f v hh hf
        obtain ⟨f, rfl⟩ := y_pos hf
        unfold p_X12_neededFrom_17 y_su; simp (disch := omega) only [y_lit, y_n1, nI_add, pk_mul, j_lt, j_b1_s, j_b2_s, j_b3_s, j_b0_s, y_bo, y_bo1, y_bo0, y_i0, y_i1, Classical.not_not, nI_clamp, y_ix, y_lt, y_le, y_eq, y_nP, y_nPs, y_ltP, y_ltQ, y_ltPP, y_eqP, y_eqQ, y_eqPP, if_pos, if_neg, ite_true, ite_false, not_true_eq_false, not_false_eq_true, and_true, true_and, and_false, false_and, or_true, true_or, or_false, false_or, hM.f, ym_alike hM hW h5 (show k < 100 by omega) (show l < 100 by omega) hn]
        by_cases c : n ≤ y_A b k l
        · rw [if_pos c]; simp (disch := omega) only [y_lit, y_n1, nI_add, pk_mul, j_lt, j_b1_s, j_b2_s, j_b3_s, j_b0_s, y_bo, y_bo1, y_bo0, y_i0, y_i1, Classical.not_not, nI_clamp, y_ix, y_lt, y_le, y_eq, y_nP, y_nPs, y_ltP, y_ltQ, y_ltPP, y_eqP, y_eqQ, y_eqPP, if_pos, if_neg, ite_true, ite_false, not_true_eq_false, not_false_eq_true, and_true, true_and, and_false, false_and, or_true, true_or, or_false, false_or]; exact ih (l + 1) f _ (by omega) (by omega)
        · rw [if_neg c]; simp (disch := omega) only [y_lit, y_n1, nI_add, pk_mul, j_lt, j_b1_s, j_b2_s, j_b3_s, j_b0_s, y_bo, y_bo1, y_bo0, y_i0, y_i1, Classical.not_not, nI_clamp, y_ix, y_lt, y_le, y_eq, y_nP, y_nPs, y_ltP, y_ltQ, y_ltPP, y_eqP, y_eqQ, y_eqPP, if_pos, if_neg, ite_true, ite_false, not_true_eq_false, not_false_eq_true, and_true, true_and, and_false, false_and, or_true, true_or, or_false, false_or]; exact ih (l + 1) f _ (by omega) (by omega)
    exact key (b 5) 0 j_F 0 (by omega) (y_F (by omega))
  have key : ∀ m n f, n + m = b 5 + 1 → m < f → n ≤ y_M0 b k → p_X12_neededFrom_2 (nI k) τ f (nI n) = some (if y_M0 b k ≤ b 5 then nI (y_M0 b k) else nP 0) := by
    intro m
    induction m with
    | zero =>
      intro n f hh hf hn
      obtain ⟨f, rfl⟩ := y_pos hf
      rw [if_neg (by omega)]
      unfold p_X12_neededFrom_2; simp (disch := omega) only [y_lit, y_n1, nI_add, pk_mul, j_lt, j_b1_s, j_b2_s, j_b3_s, j_b0_s, y_bo, y_bo1, y_bo0, y_i0, y_i1, Classical.not_not, nI_clamp, y_ix, y_lt, y_le, y_eq, y_nP, y_nPs, y_ltP, y_ltQ, y_ltPP, y_eqP, y_eqQ, y_eqPP, if_pos, if_neg, ite_true, ite_false, not_true_eq_false, not_false_eq_true, and_true, true_and, and_false, false_and, or_true, true_or, or_false, false_or, hM.f]
    | succ m ih =>
      intro n f hh hf hn
      obtain ⟨f, rfl⟩ := y_pos hf
      have q := y_cnt (n := n) hk (by omega)
      have sb := y_su_bd (f := fun o => if n ≤ y_A b k o then 1 else 0) (c := 1) (b 5) 0 (fun j _ _ => by split <;> omega)
      unfold p_X12_neededFrom_2; simp (disch := omega) only [y_lit, y_n1, nI_add, pk_mul, j_lt, j_b1_s, j_b2_s, j_b3_s, j_b0_s, y_bo, y_bo1, y_bo0, y_i0, y_i1, Classical.not_not, nI_clamp, y_ix, y_lt, y_le, y_eq, y_nP, y_nPs, y_ltP, y_ltQ, y_ltPP, y_eqP, y_eqQ, y_eqPP, if_pos, if_neg, ite_true, ite_false, not_true_eq_false, not_false_eq_true, and_true, true_and, and_false, false_and, or_true, true_or, or_false, false_or, hM.f, cnt]
      by_cases c : y_M0 b k ≤ n
      · rw [if_pos (q.mpr c), if_pos (by omega), show n = y_M0 b k from by omega]
      · rw [if_neg (fun z => c (q.mp z))]
        exact ih (n + 1) f (by omega) (by omega) (by omega)
  unfold f_X12_neededFrom
  exact key (b 5 + 1) 0 j_F (by omega) (y_F (by omega)) (Nat.zero_le _)
end C
section Z
variable {σ τ : j_G}
theorem z_needed (hR : j_Rel σ τ) (a1 : Int32) : ∃ v, f_X11_needed a1 σ = some v ∧ f_X12_needed a1 τ = some v := by
  obtain ⟨b, hW, hN, hM, hK⟩ := id hR
  have b5 := hW.b5
  by_cases h : y_rg a1 (b 5)
  · obtain ⟨k, hk, rfl⟩ := y_of _ _ h.1 h.2
    refine ⟨if y_M0 b k ≤ b 5 then nI (y_M0 b k) else nP 0, ?_, ?_⟩
    · unfold f_X11_needed; simp (disch := omega) only [y_lit, y_n1, nI_add, pk_mul, j_lt, j_b1_s, j_b2_s, j_b3_s, j_b0_s, y_bo, y_bo1, y_bo0, y_i0, y_i1, Classical.not_not, nI_clamp, y_ix, y_lt, y_le, y_eq, y_nP, y_nPs, y_ltP, y_ltQ, y_ltPP, y_eqP, y_eqQ, y_eqPP, if_pos, if_neg, ite_true, ite_false, not_true_eq_false, not_false_eq_true, and_true, true_and, and_false, false_and, or_true, true_or, or_false, false_or, yc_has hN hW, y_rn, yc_needed hN hW]
    · unfold f_X12_needed; simp (disch := omega) only [y_lit, y_n1, nI_add, pk_mul, j_lt, j_b1_s, j_b2_s, j_b3_s, j_b0_s, y_bo, y_bo1, y_bo0, y_i0, y_i1, Classical.not_not, nI_clamp, y_ix, y_lt, y_le, y_eq, y_nP, y_nPs, y_ltP, y_ltQ, y_ltPP, y_eqP, y_eqQ, y_eqPP, if_pos, if_neg, ite_true, ite_false, not_true_eq_false, not_false_eq_true, and_true, true_and, and_false, false_and, or_true, true_or, or_false, false_or, ym_isComing hM hW, y_rn, ym_needed hM hW]
  · refine ⟨-2, ?_, ?_⟩
    · unfold f_X11_needed; simp (disch := omega) only [y_lit, y_n1, nI_add, pk_mul, j_lt, j_b1_s, j_b2_s, j_b3_s, j_b0_s, y_bo, y_bo1, y_bo0, y_i0, y_i1, Classical.not_not, nI_clamp, y_ix, y_lt, y_le, y_eq, y_nP, y_nPs, y_ltP, y_ltQ, y_ltPP, y_eqP, y_eqQ, y_eqPP, if_pos, if_neg, ite_true, ite_false, not_true_eq_false, not_false_eq_true, and_true, true_and, and_false, false_and, or_true, true_or, or_false, false_or, yc_has hN hW, h]
    · unfold f_X12_needed; simp (disch := omega) only [y_lit, y_n1, nI_add, pk_mul, j_lt, j_b1_s, j_b2_s, j_b3_s, j_b0_s, y_bo, y_bo1, y_bo0, y_i0, y_i1, Classical.not_not, nI_clamp, y_ix, y_lt, y_le, y_eq, y_nP, y_nPs, y_ltP, y_ltQ, y_ltPP, y_eqP, y_eqQ, y_eqPP, if_pos, if_neg, ite_true, ite_false, not_true_eq_false, not_false_eq_true, and_true, true_and, and_false, false_and, or_true, true_or, or_false, false_or, ym_isComing hM hW, h]
theorem z_known (hR : j_Rel σ τ) : ∃ v, f_X11_known σ = some v ∧ f_X12_known τ = some v := by
  obtain ⟨b, hW, hN, hM, hK⟩ := id hR
  have b5 := hW.b5
  by_cases h9 : 0 < b 9
  · have both : ∀ m k f x, k + m = b 5 → m < f → ∃ w, p_X11_known_17 σ f x (nI k) = some w ∧ p_X12_known_14 τ f x (nI k) = some w := by
      intro m
      induction m with
      | zero =>
        intro k f x hh hf
        obtain ⟨f, rfl⟩ := y_pos hf
        refine ⟨x, ?_, ?_⟩
        · unfold p_X11_known_17; simp (disch := omega) only [y_lit, y_n1, nI_add, pk_mul, j_lt, j_b1_s, j_b2_s, j_b3_s, j_b0_s, y_bo, y_bo1, y_bo0, y_i0, y_i1, Classical.not_not, nI_clamp, y_ix, y_lt, y_le, y_eq, y_nP, y_nPs, y_ltP, y_ltQ, y_ltPP, y_eqP, y_eqQ, y_eqPP, if_pos, if_neg, ite_true, ite_false, not_true_eq_false, not_false_eq_true, and_true, true_and, and_false, false_and, or_true, true_or, or_false, false_or, hN.d0]
        · unfold p_X12_known_14; simp (disch := omega) only [y_lit, y_n1, nI_add, pk_mul, j_lt, j_b1_s, j_b2_s, j_b3_s, j_b0_s, y_bo, y_bo1, y_bo0, y_i0, y_i1, Classical.not_not, nI_clamp, y_ix, y_lt, y_le, y_eq, y_nP, y_nPs, y_ltP, y_ltQ, y_ltPP, y_eqP, y_eqQ, y_eqPP, if_pos, if_neg, ite_true, ite_false, not_true_eq_false, not_false_eq_true, and_true, true_and, and_false, false_and, or_true, true_or, or_false, false_or, hM.f]
      | succ m ih =>
        intro k f x hh hf
        obtain ⟨f, rfl⟩ := y_pos hf
        have hlt : nI k < nI (b 5) := (y_lt (by omega) (by omega)).mpr (by omega)
        have e5 := hM.f (j := 5) (by omega)
        have c := yc_needed hN hW (k := k) (by omega)
        have m' := ym_needed hM hW (k := k) (by omega)
        generalize (if y_M0 b k ≤ b 5 then nI (y_M0 b k) else nP 0) = X at *
        have c1 : p_X11_known_17 σ (f + 1) x (nI k) = if X = -1 then some (-1) else p_X11_known_17 σ f (if x < X then X else x) (nI (k + 1)) := by
          rw [p_X11_known_17, hN.d0, if_pos hlt, c, j_b1_s, show (1 : Int32) = nI 1 from rfl, nI_add]
          rfl
        have c2 : p_X12_known_14 τ (f + 1) x (nI k) = if X = -1 then some (-1) else p_X12_known_14 τ f (if x < X then X else x) (nI (k + 1)) := by
          rw [p_X12_known_14, show (5 : Int32) = nI 5 from rfl, y_ix (by omega) (by omega), nI_clamp (by omega), e5, if_pos hlt, m', j_b1_s, show (1 : Int32) = nI 1 from rfl, nI_add]
          rfl
        rw [c1, c2]
        by_cases z : X = -1
        · rw [if_pos z, if_pos z]; exact ⟨-1, rfl, rfl⟩
        · rw [if_neg z, if_neg z]; exact ih (k + 1) f _ (by omega) (by omega)
    obtain ⟨w, w1, w2⟩ := both (b 5) 0 j_F (nP 0) (by omega) (y_F (by omega))
    refine ⟨w, ?_, ?_⟩
    · unfold f_X11_known; simp (disch := omega) only [y_lit, y_n1, nI_add, pk_mul, j_lt, j_b1_s, j_b2_s, j_b3_s, j_b0_s, y_bo, y_bo1, y_bo0, y_i0, y_i1, Classical.not_not, nI_clamp, y_ix, y_lt, y_le, y_eq, y_nP, y_nPs, y_ltP, y_ltQ, y_ltPP, y_eqP, y_eqQ, y_eqPP, if_pos, if_neg, ite_true, ite_false, not_true_eq_false, not_false_eq_true, and_true, true_and, and_false, false_and, or_true, true_or, or_false, false_or, yc_isTold hN hW]; exact w1
    · unfold f_X12_known; simp (disch := omega) only [y_lit, y_n1, nI_add, pk_mul, j_lt, j_b1_s, j_b2_s, j_b3_s, j_b0_s, y_bo, y_bo1, y_bo0, y_i0, y_i1, Classical.not_not, nI_clamp, y_ix, y_lt, y_le, y_eq, y_nP, y_nPs, y_ltP, y_ltQ, y_ltPP, y_eqP, y_eqQ, y_eqPP, if_pos, if_neg, ite_true, ite_false, not_true_eq_false, not_false_eq_true, and_true, true_and, and_false, false_and, or_true, true_or, or_false, false_or, ym_isBoard hM hW]; exact w2
  · refine ⟨-2, ?_, ?_⟩
    · unfold f_X11_known; simp (disch := omega) only [y_lit, y_n1, nI_add, pk_mul, j_lt, j_b1_s, j_b2_s, j_b3_s, j_b0_s, y_bo, y_bo1, y_bo0, y_i0, y_i1, Classical.not_not, nI_clamp, y_ix, y_lt, y_le, y_eq, y_nP, y_nPs, y_ltP, y_ltQ, y_ltPP, y_eqP, y_eqQ, y_eqPP, if_pos, if_neg, ite_true, ite_false, not_true_eq_false, not_false_eq_true, and_true, true_and, and_false, false_and, or_true, true_or, or_false, false_or, yc_isTold hN hW]
    · unfold f_X12_known; simp (disch := omega) only [y_lit, y_n1, nI_add, pk_mul, j_lt, j_b1_s, j_b2_s, j_b3_s, j_b0_s, y_bo, y_bo1, y_bo0, y_i0, y_i1, Classical.not_not, nI_clamp, y_ix, y_lt, y_le, y_eq, y_nP, y_nPs, y_ltP, y_ltQ, y_ltPP, y_eqP, y_eqQ, y_eqPP, if_pos, if_neg, ite_true, ite_false, not_true_eq_false, not_false_eq_true, and_true, true_and, and_false, false_and, or_true, true_or, or_false, false_or, ym_isBoard hM hW]
end Z
