/-! ===== counted, scored, early ===== -/
theorem y_k1000 {k : Int32} : k * nI 1000 = nI 1000 * k := Int32.mul_comm _ _
section Z
variable {σ τ : j_G}
theorem y_blows {b : Nat → Nat} (hR : j_Rel σ τ) (hW : y_W b) (hN : y_N σ b) (hM : y_M τ b) (hK : y_K σ τ) {a1 : Int32} {lag : Nat} (hlag : lag ≤ 20) : (∃ k : Int32, k < 0 ∧ ¬ k = 0 ∧ f_X11_whyNoBlows a1 σ = some (k, σ) ∧ f_X12_asksBlows a1 τ = some k) ∨ (∃ σ1 σ2 τ2 s c d x y z, y_sc s c d ∧ a1 = nI s ∧ f_X11_whyNoBlows a1 σ = some (nI 0, σ1) ∧ f_X1_judge 40 22 41 c d (nI lag) σ1 = some σ2 ∧ σ2.1 40 0 = nI x ∧ σ2.1 40 1 = nI y ∧ σ2.1 40 2 = nI z ∧ f_X12_asksBlows a1 τ = some (nI 0) ∧ f_X12_layBlows a1 (nI lag) τ = some τ2 ∧ τ2.1 75 39 = nI x ∧ τ2.1 75 40 = nI y ∧ τ2.1 75 41 = nI z ∧ j_Rel σ2 τ2) := by
  rcases y_whyB hW hN hM hK a1 with ⟨k, k1, k2, k3, k4⟩ | ⟨k4, h9, σ1, s, c, d, n, e, e1, e2, e3, rfl, ev, h, he⟩
  · exact Or.inl ⟨k, k1, k2, k3, k4⟩
  · have hcd : 41 < c ∧ 41 < d := by have := h.1; unfold y_sc at this; omega
    obtain ⟨σ2, g1, g2, g3, g4, g5⟩ := yc_judge (lag := lag) hW e2 (y_dg_vg hW _) hlag h he ev (fun j => e3.i c j (by omega)) (fun j => e3.l d j (by omega))
    obtain ⟨τ2, f1, f2, f3, f4, f5⟩ := ym_judge (lag := lag) hM hW hlag h he ev
    exact Or.inr ⟨σ1, σ2, τ2, s, c, d, _, _, _, h.1, rfl, e1, g1, g2, g3, g4, k4, f1, f2, f3, f4, y_done hR ((e3.wide (by omega) (by omega)).trans (g5.wide (by omega) (by omega))) f5⟩
theorem z_counted (hR : j_Rel σ τ) (a1 : Int32) : ∃ v σ1 τ1, f_X11_counted a1 σ = some (v, σ1) ∧ f_X12_counted a1 τ = some (v, τ1) ∧ j_Rel σ1 τ1 := by
  obtain ⟨b, hW, hN, hM, hK⟩ := id hR
  rcases y_blows (a1 := a1) (lag := 0) hR hW hN hM hK (by omega) with ⟨k, k1, k2, k3, k4⟩ | ⟨σ1, σ2, τ2, s, c, d, x, y, z, hc, rfl, e1, g1, g2, g3, g4, k4, f1, f2, f3, f4, hr⟩
  · refine ⟨k, σ, τ, ?_, ?_, hR⟩
    · unfold f_X11_counted; rw [k3, j_b2_s, if_pos k2]
    · unfold f_X12_counted; rw [k4, j_b1_s, if_pos k1]
  · refine ⟨nI x, σ2, τ2, ?_, ?_, hr⟩
    · unfold f_X11_counted
      rcases hc with ⟨rfl, rfl, rfl⟩ | ⟨rfl, rfl, rfl⟩ | ⟨rfl, rfl, rfl⟩ | ⟨rfl, rfl, rfl⟩
      · simp (disch := omega) only [y_lit, y_n1, nI_add, pk_mul, j_lt, j_b1_s, j_b2_s, j_b3_s, j_b0_s, y_bo, y_bo1, y_bo0, y_i0, y_i1, Classical.not_not, nI_clamp, y_ix, y_lt, y_le, y_eq, y_nP, y_nPs, y_ltP, y_ltQ, y_ltPP, y_eqP, y_eqQ, y_eqPP, if_pos, if_neg, ite_true, ite_false, not_true_eq_false, not_false_eq_true, and_true, true_and, and_false, false_and, or_true, true_or, or_false, false_or, e1, g1, g2]
      · simp (disch := omega) only [y_lit, y_n1, nI_add, pk_mul, j_lt, j_b1_s, j_b2_s, j_b3_s, j_b0_s, y_bo, y_bo1, y_bo0, y_i0, y_i1, Classical.not_not, nI_clamp, y_ix, y_lt, y_le, y_eq, y_nP, y_nPs, y_ltP, y_ltQ, y_ltPP, y_eqP, y_eqQ, y_eqPP, if_pos, if_neg, ite_true, ite_false, not_true_eq_false, not_false_eq_true, and_true, true_and, and_false, false_and, or_true, true_or, or_false, false_or, e1, g1, g2]
      · simp (disch := omega) only [y_lit, y_n1, nI_add, pk_mul, j_lt, j_b1_s, j_b2_s, j_b3_s, j_b0_s, y_bo, y_bo1, y_bo0, y_i0, y_i1, Classical.not_not, nI_clamp, y_ix, y_lt, y_le, y_eq, y_nP, y_nPs, y_ltP, y_ltQ, y_ltPP, y_eqP, y_eqQ, y_eqPP, if_pos, if_neg, ite_true, ite_false, not_true_eq_false, not_false_eq_true, and_true, true_and, and_false, false_and, or_true, true_or, or_false, false_or, e1, g1, g2]
      · simp (disch := omega) only [y_lit, y_n1, nI_add, pk_mul, j_lt, j_b1_s, j_b2_s, j_b3_s, j_b0_s, y_bo, y_bo1, y_bo0, y_i0, y_i1, Classical.not_not, nI_clamp, y_ix, y_lt, y_le, y_eq, y_nP, y_nPs, y_ltP, y_ltQ, y_ltPP, y_eqP, y_eqQ, y_eqPP, if_pos, if_neg, ite_true, ite_false, not_true_eq_false, not_false_eq_true, and_true, true_and, and_false, false_and, or_true, true_or, or_false, false_or, e1, g1, g2]
    · unfold f_X12_counted; simp (disch := omega) only [y_lit, y_n1, nI_add, pk_mul, j_lt, j_b1_s, j_b2_s, j_b3_s, j_b0_s, y_bo, y_bo1, y_bo0, y_i0, y_i1, Classical.not_not, nI_clamp, y_ix, y_lt, y_le, y_eq, y_nP, y_nPs, y_ltP, y_ltQ, y_ltPP, y_eqP, y_eqQ, y_eqPP, if_pos, if_neg, ite_true, ite_false, not_true_eq_false, not_false_eq_true, and_true, true_and, and_false, false_and, or_true, true_or, or_false, false_or, k4, f1, f2]
theorem z_scored (hR : j_Rel σ τ) (a1 : Int32) : ∃ v σ1 τ1, f_X11_scored a1 σ = some (v, σ1) ∧ f_X12_scored a1 τ = some (v, τ1) ∧ j_Rel σ1 τ1 := by
  obtain ⟨b, hW, hN, hM, hK⟩ := id hR
  rcases y_blows (a1 := a1) (lag := 0) hR hW hN hM hK (by omega) with ⟨k, k1, k2, k3, k4⟩ | ⟨σ1, σ2, τ2, s, c, d, x, y, z, hc, rfl, e1, g1, g2, g3, g4, k4, f1, f2, f3, f4, hr⟩
  · refine ⟨1000 * k, σ, τ, ?_, ?_, hR⟩
    · unfold f_X11_scored; rw [k3, j_b2_s, if_pos k2, Int32.mul_comm]
    · unfold f_X12_scored; rw [k4, j_b1_s, if_pos k1]
  · refine ⟨nI 10 * nI x - nI 20 * nI y, σ2, τ2, ?_, ?_, hr⟩
    · unfold f_X11_scored
      rcases hc with ⟨rfl, rfl, rfl⟩ | ⟨rfl, rfl, rfl⟩ | ⟨rfl, rfl, rfl⟩ | ⟨rfl, rfl, rfl⟩
      · simp (disch := omega) only [y_lit, y_n1, nI_add, pk_mul, j_lt, j_b1_s, j_b2_s, j_b3_s, j_b0_s, y_bo, y_bo1, y_bo0, y_i0, y_i1, Classical.not_not, nI_clamp, y_ix, y_lt, y_le, y_eq, y_nP, y_nPs, y_ltP, y_ltQ, y_ltPP, y_eqP, y_eqQ, y_eqPP, if_pos, if_neg, ite_true, ite_false, not_true_eq_false, not_false_eq_true, and_true, true_and, and_false, false_and, or_true, true_or, or_false, false_or, e1, g1, g2, g3]
      · simp (disch := omega) only [y_lit, y_n1, nI_add, pk_mul, j_lt, j_b1_s, j_b2_s, j_b3_s, j_b0_s, y_bo, y_bo1, y_bo0, y_i0, y_i1, Classical.not_not, nI_clamp, y_ix, y_lt, y_le, y_eq, y_nP, y_nPs, y_ltP, y_ltQ, y_ltPP, y_eqP, y_eqQ, y_eqPP, if_pos, if_neg, ite_true, ite_false, not_true_eq_false, not_false_eq_true, and_true, true_and, and_false, false_and, or_true, true_or, or_false, false_or, e1, g1, g2, g3]
      · simp (disch := omega) only [y_lit, y_n1, nI_add, pk_mul, j_lt, j_b1_s, j_b2_s, j_b3_s, j_b0_s, y_bo, y_bo1, y_bo0, y_i0, y_i1, Classical.not_not, nI_clamp, y_ix, y_lt, y_le, y_eq, y_nP, y_nPs, y_ltP, y_ltQ, y_ltPP, y_eqP, y_eqQ, y_eqPP, if_pos, if_neg, ite_true, ite_false, not_true_eq_false, not_false_eq_true, and_true, true_and, and_false, false_and, or_true, true_or, or_false, false_or, e1, g1, g2, g3]
      · simp (disch := omega) only [y_lit, y_n1, nI_add, pk_mul, j_lt, j_b1_s, j_b2_s, j_b3_s, j_b0_s, y_bo, y_bo1, y_bo0, y_i0, y_i1, Classical.not_not, nI_clamp, y_ix, y_lt, y_le, y_eq, y_nP, y_nPs, y_ltP, y_ltQ, y_ltPP, y_eqP, y_eqQ, y_eqPP, if_pos, if_neg, ite_true, ite_false, not_true_eq_false, not_false_eq_true, and_true, true_and, and_false, false_and, or_true, true_or, or_false, false_or, e1, g1, g2, g3]
    · unfold f_X12_scored; simp (disch := omega) only [y_lit, y_n1, nI_add, pk_mul, j_lt, j_b1_s, j_b2_s, j_b3_s, j_b0_s, y_bo, y_bo1, y_bo0, y_i0, y_i1, Classical.not_not, nI_clamp, y_ix, y_lt, y_le, y_eq, y_nP, y_nPs, y_ltP, y_ltQ, y_ltPP, y_eqP, y_eqQ, y_eqPP, if_pos, if_neg, ite_true, ite_false, not_true_eq_false, not_false_eq_true, and_true, true_and, and_false, false_and, or_true, true_or, or_false, false_or, k4, f1, f2, f3]
theorem z_early (hR : j_Rel σ τ) (a1 a2 : Int32) : ∃ v σ1 τ1, f_X11_early a1 a2 σ = some (v, σ1) ∧ f_X12_early a1 a2 τ = some (v, τ1) ∧ j_Rel σ1 τ1 := by
  obtain ⟨b, hW, hN, hM, hK⟩ := id hR
  by_cases h : y_rg a2 21
  · obtain ⟨lag, hlag, rfl⟩ := y_of _ _ h.1 h.2
    rcases y_blows (a1 := a1) (lag := lag) hR hW hN hM hK (by omega) with ⟨k, k1, k2, k3, k4⟩ | ⟨σ1, σ2, τ2, s, c, d, x, y, z, hc, rfl, e1, g1, g2, g3, g4, k4, f1, f2, f3, f4, hr⟩
    · refine ⟨k, σ, τ, ?_, ?_, hR⟩
      · have k2' : ¬ k = nI 0 := k2
        unfold f_X11_early; simp (disch := omega) only [y_lit, y_n1, nI_add, pk_mul, j_lt, j_b1_s, j_b2_s, j_b3_s, j_b0_s, y_bo, y_bo1, y_bo0, y_i0, y_i1, Classical.not_not, nI_clamp, y_ix, y_lt, y_le, y_eq, y_nP, y_nPs, y_ltP, y_ltQ, y_ltPP, y_eqP, y_eqQ, y_eqPP, if_pos, if_neg, ite_true, ite_false, not_true_eq_false, not_false_eq_true, and_true, true_and, and_false, false_and, or_true, true_or, or_false, false_or, k3, k2']
      · have k1' : k < nI 0 := k1
        unfold f_X12_early; simp (disch := omega) only [y_lit, y_n1, nI_add, pk_mul, j_lt, j_b1_s, j_b2_s, j_b3_s, j_b0_s, y_bo, y_bo1, y_bo0, y_i0, y_i1, Classical.not_not, nI_clamp, y_ix, y_lt, y_le, y_eq, y_nP, y_nPs, y_ltP, y_ltQ, y_ltPP, y_eqP, y_eqQ, y_eqPP, if_pos, if_neg, ite_true, ite_false, not_true_eq_false, not_false_eq_true, and_true, true_and, and_false, false_and, or_true, true_or, or_false, false_or, y_lit64, y_in, k4, k1']
    · refine ⟨nI z, σ2, τ2, ?_, ?_, hr⟩
      · unfold f_X11_early
        rcases hc with ⟨rfl, rfl, rfl⟩ | ⟨rfl, rfl, rfl⟩ | ⟨rfl, rfl, rfl⟩ | ⟨rfl, rfl, rfl⟩
        · simp (disch := omega) only [y_lit, y_n1, nI_add, pk_mul, j_lt, j_b1_s, j_b2_s, j_b3_s, j_b0_s, y_bo, y_bo1, y_bo0, y_i0, y_i1, Classical.not_not, nI_clamp, y_ix, y_lt, y_le, y_eq, y_nP, y_nPs, y_ltP, y_ltQ, y_ltPP, y_eqP, y_eqQ, y_eqPP, if_pos, if_neg, ite_true, ite_false, not_true_eq_false, not_false_eq_true, and_true, true_and, and_false, false_and, or_true, true_or, or_false, false_or, y_c5, h, e1, g1, g4]
        · simp (disch := omega) only [y_lit, y_n1, nI_add, pk_mul, j_lt, j_b1_s, j_b2_s, j_b3_s, j_b0_s, y_bo, y_bo1, y_bo0, y_i0, y_i1, Classical.not_not, nI_clamp, y_ix, y_lt, y_le, y_eq, y_nP, y_nPs, y_ltP, y_ltQ, y_ltPP, y_eqP, y_eqQ, y_eqPP, if_pos, if_neg, ite_true, ite_false, not_true_eq_false, not_false_eq_true, and_true, true_and, and_false, false_and, or_true, true_or, or_false, false_or, y_c5, h, e1, g1, g4]
        · simp (disch := omega) only [y_lit, y_n1, nI_add, pk_mul, j_lt, j_b1_s, j_b2_s, j_b3_s, j_b0_s, y_bo, y_bo1, y_bo0, y_i0, y_i1, Classical.not_not, nI_clamp, y_ix, y_lt, y_le, y_eq, y_nP, y_nPs, y_ltP, y_ltQ, y_ltPP, y_eqP, y_eqQ, y_eqPP, if_pos, if_neg, ite_true, ite_false, not_true_eq_false, not_false_eq_true, and_true, true_and, and_false, false_and, or_true, true_or, or_false, false_or, y_c5, h, e1, g1, g4]
        · simp (disch := omega) only [y_lit, y_n1, nI_add, pk_mul, j_lt, j_b1_s, j_b2_s, j_b3_s, j_b0_s, y_bo, y_bo1, y_bo0, y_i0, y_i1, Classical.not_not, nI_clamp, y_ix, y_lt, y_le, y_eq, y_nP, y_nPs, y_ltP, y_ltQ, y_ltPP, y_eqP, y_eqQ, y_eqPP, if_pos, if_neg, ite_true, ite_false, not_true_eq_false, not_false_eq_true, and_true, true_and, and_false, false_and, or_true, true_or, or_false, false_or, y_c5, h, e1, g1, g4]
      · unfold f_X12_early; simp (disch := omega) only [y_lit, y_n1, nI_add, pk_mul, j_lt, j_b1_s, j_b2_s, j_b3_s, j_b0_s, y_bo, y_bo1, y_bo0, y_i0, y_i1, Classical.not_not, nI_clamp, y_ix, y_lt, y_le, y_eq, y_nP, y_nPs, y_ltP, y_ltQ, y_ltPP, y_eqP, y_eqQ, y_eqPP, if_pos, if_neg, ite_true, ite_false, not_true_eq_false, not_false_eq_true, and_true, true_and, and_false, false_and, or_true, true_or, or_false, false_or, y_lit64, y_in, k4, f1, f4]
  · refine ⟨-2, σ, τ, ?_, ?_, hR⟩
    · unfold f_X11_early; simp (disch := omega) only [y_lit, y_n1, nI_add, pk_mul, j_lt, j_b1_s, j_b2_s, j_b3_s, j_b0_s, y_bo, y_bo1, y_bo0, y_i0, y_i1, Classical.not_not, nI_clamp, y_ix, y_lt, y_le, y_eq, y_nP, y_nPs, y_ltP, y_ltQ, y_ltPP, y_eqP, y_eqQ, y_eqPP, if_pos, if_neg, ite_true, ite_false, not_true_eq_false, not_false_eq_true, and_true, true_and, and_false, false_and, or_true, true_or, or_false, false_or, y_c5, h]
    · unfold f_X12_early; simp (disch := omega) only [y_lit, y_n1, nI_add, pk_mul, j_lt, j_b1_s, j_b2_s, j_b3_s, j_b0_s, y_bo, y_bo1, y_bo0, y_i0, y_i1, Classical.not_not, nI_clamp, y_ix, y_lt, y_le, y_eq, y_nP, y_nPs, y_ltP, y_ltQ, y_ltPP, y_eqP, y_eqQ, y_eqPP, if_pos, if_neg, ite_true, ite_false, not_true_eq_false, not_false_eq_true, and_true, true_and, and_false, false_and, or_true, true_or, or_false, false_or, y_lit64, y_in, y_c3, h]
end Z
