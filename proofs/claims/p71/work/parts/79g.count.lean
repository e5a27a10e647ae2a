/-! ===== counted, scored, early ===== -/
theorem y_k1000 {k : Int32} : k * nI 1000 = nI 1000 * k := Int32.mul_comm _ _
section Z
variable {σ τ : j_G}
theorem y_blows {b : Nat → Nat} (hR : j_Rel σ τ) (hW : y_W b) (hN : y_N σ b) (hM : y_M τ b) (hK : y_K σ τ) {a1 : Int32} {lag : Nat} (hlag : lag ≤ 20) : (∃ k : Int32, k < 0 ∧ ¬ k = 0 ∧ f_X11_whyNoBlows a1 σ = some (k, σ) ∧ f_X12_asksBlows a1 τ = some k) ∨ (∃ σ1 σ2 τ2 s c d x y z, y_sc s c d ∧ a1 = nI s ∧ f_X11_whyNoBlows a1 σ = some (nI 0, σ1) ∧ f_X1_judge 40 22 41 c d (nI lag) σ1 = some σ2 ∧ σ2.1 40 0 = nI x ∧ σ2.1 40 1 = nI y ∧ σ2.1 40 2 = nI z ∧ f_X12_asksBlows a1 τ = some (nI 0) ∧ f_X12_layBlows a1 (nI lag) τ = some τ2 ∧ τ2.1 75 39 = nI x ∧ τ2.1 75 40 = nI y ∧ τ2.1 75 41 = nI z ∧ j_Rel σ2 τ2) := by
  rcases y_whyB hW hN hM hK a1 with ⟨k, k1, k2, k3, k4⟩ | ⟨k4, h9, σ1, s, c, d, n, e, e1, e2, e3, rfl, ev, h, he⟩
  · exact Or.inl ⟨k, k1, k2, k3, k4⟩
  · have hcd : 41 < c ∧ 41 < d := by have := h.1; unfold y_sc at this; omega
    obtain ⟨σ2, g1, g2, g3, g4, g5⟩ := yc_judge (lag := lag) hW e2 (y_dg_vg hW _) hlag h he ev (fun j => e3.i c j (by omega)) (fun j => e3.l d j (by omega))
    obtain ⟨τ2, f1, f2, f3, f4, f5⟩ := ym_judge (lag := lag) hM hW hlag h he ev
    exact Or.inr ⟨σ1, σ2, τ2, s, c, d, _, _, _, h.1, rfl, e1, g1, g2, g3, g4, k4, f1, f2, f3, f4, y_done hR ((e3.wide (by omega) (by omega)).trans (g5.wide (by omega) (by omega))) f5⟩
theorem z_counted (hR : j_Rel σ τ) (a1 : Int32) : ∃ v σ1 τ1, f_X11_counted a1 σ = some (v, σ1) ∧ f_X12_counted a1 τ = some (v, τ1) ∧ j_Rel σ1 τ1 := by
  obtain ⟨b, hW, hN, hM, hK⟩ := id hR
  rcases y_blows (a1 := a1) (lag := 0) hR hW hN hM hK (by omega) with ⟨k, k1, k2, k3, k4⟩ | ⟨σ1, σ2, τ2, s, c, d, x, y, z, hc, rfl, e1, g1, g2, g3, g4, k4, f1, f2, f3, f4, hr⟩
  · refine ⟨k, σ, τ, ?_, ?_, hR⟩
    · unfold f_X11_counted; rw [k3, j_b2_s, if_pos k2]
    · unfold f_X12_counted; rw [k4, j_b1_s, if_pos k1]
  · refine ⟨nI x, σ2, τ2, ?_, ?_, hr⟩
    · unfold f_X11_counted
      rcases hc with ⟨rfl, rfl, rfl⟩ | ⟨rfl, rfl, rfl⟩ | ⟨rfl, rfl, rfl⟩ | ⟨rfl, rfl, rfl⟩
      · simp (disch := omega) only [y_lit, y_n1, nI_add, pk_mul, j_lt, j_b1_s, j_b2_s, j_b3_s, j_b0_s, y_bo, y_bo1, y_bo0, y_i0, y_i1, Classical.not_not, nI_clamp, y_ix, y_lt, y_le, y_eq, y_nP, y_nPs, y_ltP, y_ltQ, y_ltPP, y_eqP, y_eqQ, y_eqPP, if_pos, if_neg, ite_true, ite_false, not_true_eq_false, not_false_eq_true, and_true, true_and, and_false, false_and, or_true, true_or, or_false, false_or, e1, g1, g2]
      · simp (disch := omega) only [y_lit, y_n1, nI_add, pk_mul, j_lt, j_b1_s, j_b2_s, j_b3_s, j_b0_s, y_bo, y_bo1, y_bo0, y_i0, y_i1, Classical.not_not, nI_clamp, y_ix, y_lt, y_le, y_eq, y_nP, y_nPs, y_ltP, y_ltQ, y_ltPP, y_eqP, y_eqQ, y_eqPP, if_pos, if_neg, ite_true, ite_false, not_true_eq_false, not_false_eq_true, and_true, true_and, and_false, false_and, or_true, true_or, or_false, false_or, e1, g1, g2]
      · simp (disch := omega) only [y_lit, y_n1, nI_add, pk_mul, j_lt, j_b1_s, j_b2_s, j_b3_s, j_b0_s, y_bo, y_bo1, y_bo0, y_i0, y_i1, Classical.not_not, nI_clamp, y_ix, y_lt, y_le, y_eq, y_nP, y_nPs, y_ltP, y_ltQ, y_ltPP, y_eqP, y_eqQ, y_eqPP, if_pos, if_neg, ite_true, ite_false, not_true_eq_false, not_false_eq_true, and_true, true_and, and_false, false_and, or_true, true_or, or_false, false_or, e1, g1, g2]
      · simp (disch := omega) only [y_lit, y_n1, nI_add, pk_mul, j_lt, j_b1_s, j_b2_s, j_b3_s, j_b0_s, y_bo, y_bo1, y_bo0, y_i0, y_i1, Classical.not_not, nI_clamp, y_ix, y_lt, y_le, y_eq, y_nP, y_nPs, y_ltP, y_ltQ, y_ltPP, y_eqP, y_eqQ, y_eqPP, if_pos, if_neg, ite_true, ite_false, not_true_eq_false, not_false_eq_true, and_true, true_and, and_false, false_and, or_true, true_or, or_false, false_or, e1, g1, g2]
    · unfold f_X12_counted; simp (disch := omega) only [y_lit, y_n1, nI_add, pk_mul, j_lt, j_b1_s, j_b2_s, j_b3_s, j_b0_s, y_bo, y_bo1, y_bo0, y_i0, y_i1, Classical.not_not, nI_clamp, y_ix, y_lt, y_le, y_eq, y_nP, y_nPs, y_ltP, y_ltQ, y_ltPP, y_eqP, y_eqQ, y_eqPP, if_pos, if_neg, ite_true, ite_false, not_true_eq_false, not_false_eq_true, and_true, true_and, and_false, false_and, or_true, true_or, or_false, false_or, k4, f1, f2]
theorem z_scored (hR : j_Rel σ τ) (a1 : Int32) : ∃ v σ1 τ1, f_X11_scored a1 σ = some (v, σ1) ∧ f_X12_scored a1 τ = some (v, τ1) ∧ j_Rel σ1 τ1 := by
  obtain ⟨b, hW, hN, hM, hK⟩ := id hR
  rcases y_blows (a1 := a1) (lag := 0) hR hW hN hM hK (by omega) with ⟨k, k1, k2, k3, k4⟩ | ⟨σ1, σ2, τ2, s, c, d, x, y, z, hc, rfl, e1, g1, g2, g3, g4, k4, f1, f2, f3, f4, hr⟩
  · refine ⟨1000 * k, σ, τ, ?_, ?_, hR⟩
    · unfold f_X11_scored; rw [k3, j_b2_s, if_pos k2, Int32.mul_comm]
    · unfold f_X12_scored; rw [k4, j_b1_s, if_pos k1]
  · refine ⟨nI 10 * nI x - nI 20 * nI y, σ2, τ2, ?_, ?_, hr⟩
    · unfold f_X11_scored
      rcases hc with ⟨rfl, rfl, rfl⟩ | ⟨rfl, rfl, rfl⟩ | ⟨rfl, rfl, rfl⟩ | ⟨rfl, rfl, rfl⟩
      · simp (disch := omega) only [y_lit, y_n1, nI_add, pk_mul, j_lt, j_b1_s, j_b2_s, j_b3_s, j_b0_s, y_bo, y_bo1, y_bo0, y_i0, y_i1, Classical.not_not, nI_clamp, y_ix, y_lt, y_le, y_eq, y_nP, y_nPs, y_ltP, y_ltQ, y_ltPP, y_eqP, y_eqQ, y_eqPP, if_pos, if_neg, ite_true, ite_false, not_true_eq_false, not_false_eq_true, and_true, true_and, and_false, false_and, or_true, true_or, or_false, false_or, e1, g1, g2, g3]
      · simp (disch := omega) only [y_lit, y_n1, nI_add, pk_mul, j_lt, j_b1_s, j_b2_s, j_b3_s, j_b0_s, y_bo, y_bo1, y_bo0, y_i0, y_i1, Classical.not_not, nI_clamp, y_ix, y_lt, y_le, y_eq, y_nP, y_nPs, y_ltP, y_ltQ, y_ltPP, y_eqP, y_eqQ, y_eqPP, if_pos, if_neg, ite_true, ite_false, not_true_eq_false, not_false_eq_true, and_true, true_and, and_false, false_and, or_true, true_or, or_false, false_or, e1, g1, g2, g3]
      · simp (disch := omega) only [y_lit, y_n1, nI_add, pk_mul, j_lt, j_b1_s, j_b2_s, j_b3_s, j_b0_s, y_bo, y_bo1, y_bo0, y_i0, y_i1, Classical.not_not, nI_clamp, y_ix, y_lt, y_le, y_eq, y_nP, y_nPs, y_ltP, y_ltQ, y_ltPP, y_eqP, y_eqQ, y_eqPP, if_pos, if_neg, ite_true, ite_false, not_true_eq_false, not_false_eq_true, and_true, true_and, and_false, false_and, or_true, true_or, or_false, false_or, e1, g1, g2, g3]
      · simp (disch := omega) only [y_lit, y_n1, nI_add, pk_mul, j_lt, j_b1_s, j_b2_s, j_b3_s, j_b0_s, y_bo, y_bo1, y_bo0, y_i0, y_i1, Classical.not_not, nI_clamp, y_ix, y_lt, y_le, y_eq, y_nP, y_nPs, y_ltP, y_ltQ, y_ltPP, y_eqP, y_eqQ, y_eqPP, if_pos, if_neg, ite_true, ite_false, not_true_eq_false, not_false_eq_true, and_true, true_and, and_false, false_and, or_true, true_or, or_false, false_or, e1, g1, g2, g3]
    · unfold f_X12_scored; simp (disch := omega) only [y_lit, y_n1, nI_add, pk_mul, j_lt, j_b1_s, j_b2_s, j_b3_s, j_b0_s, y_bo, y_bo1, y_bo0, y_i0, y_i1, Classical.not_not, nI_clamp, y_ix, y_lt, y_le, y_eq, y_nP, y_nPs, y_ltP, y_ltQ, y_ltPP, y_eqP, y_eqQ, y_eqPP, if_pos, if_neg, ite_true, ite_false, not_true_eq_false, not_false_eq_true, and_true, true_and, and_false, false_and, or_true, true_or, or_false, false_or, k4, f1, f2, f3]
theorem z_early (hR : j_Rel σ τ) (a1 a2 : Int32) : ∃ v σ1 τ1, f_X11_early a1 a2 σ = some (v, σ1) ∧ f_X12_early a1 a2 τ = some (v, τ1) ∧ j_Rel σ1 τ1 := by
  obtain ⟨b, hW, hN, hM, hK⟩ := id hR
  by_cases h : y_rg a2 21
  · obtain ⟨lag, hlag, rfl⟩ := y_of _ _ h.1 h.2
    rcases y_blows (a1 := a1) (lag := lag) hR hW hN hM hK (by omega) with ⟨k, k1, k2, k3, k4⟩ | ⟨σ1, σ2, τ2, s, c, d, x, y, z, hc, rfl, e1, g1, g2, g3, g4, k4, f1, f2, f3, f4, hr⟩
    · refine ⟨k, σ, τ, ?_, ?_, hR⟩
      · have k2' : ¬ k = nI 0 := k2
        unfold f_X11_early; simp (disch := omega) only [y_lit, y_n1, nI_add, pk_mul, j_lt, j_b1_s, j_b2_s, j_b3_s, j_b0_s, y_bo, y_bo1, y_bo0, y_i0, y_i1, Classical.not_not, nI_clamp, y_ix, y_lt, y_le, y_eq, y_nP, y_nPs, y_ltP, y_ltQ, y_ltPP, y_eqP, y_eqQ, y_eqPP, if_pos, if_neg, ite_true, ite_false, not_true_eq_false, not_false_eq_true, and_true, true_and, and_false, false_and, or_true, true_or, or_false, false_or, k3, k2']
      · have k1' : k < nI 0 := k1
        unfold f_X12_early; simp (disch := omega) only [y_lit, y_n1, nI_add, pk_mul, j_lt, j_b1_s, j_b2_s, j_b3_s, j_b0_s, y_bo, y_bo1, y_bo0, y_i0, y_i1, Classical.not_not, nI_clamp, y_ix, y_lt, y_le, y_eq, y_nP, y_nPs, y_ltP, y_ltQ, y_ltPP, y_eqP, y_eqQ, y_eqPP, if_pos, if_neg, ite_true, ite_false, not_true_eq_false, not_false_eq_true, and_true, true_and, and_false, false_and, or_true, true_or, or_false, false_or, y_lit64, y_in, k4, k1']
    · refine ⟨nI z, σ2, τ2, ?_, ?_, hr⟩
      · unfold f_X11_early
        rcases hc with ⟨rfl, rfl, rfl⟩ | ⟨rfl, rfl, rfl⟩ | ⟨rfl, rfl, rfl⟩ | ⟨rfl, rfl, rfl⟩
        · simp (disch := omega) only [y_lit, y_n1, nI_add, pk_mul, j_lt, j_b1_s, j_b2_s, j_b3_s, j_b0_s, y_bo, y_bo1, y_bo0, y_i0, y_i1, Classical.not_not, nI_clamp, y_ix, y_lt, y_le, y_eq, y_nP, y_nPs, y_ltP, y_ltQ, y_ltPP, y_eqP, y_eqQ, y_eqPP, if_pos, if_neg, ite_true, ite_false, not_true_eq_false, not_false_eq_true, and_true, true_and, and_false, false_and, or_true, true_or, or_false, false_or, y_c5, h, e1, g1, g4]
        · simp (disch := omega) only [y_lit, y_n1, nI_add, pk_mul, j_lt, j_b1_s, j_b2_s, j_b3_s, j_b0_s, y_bo, y_bo1, y_bo0, y_i0, y_i1, Classical.not_not, nI_clamp, y_ix, y_lt, y_le, y_eq, y_nP, y_nPs, y_ltP, y_ltQ, y_ltPP, y_eqP, y_eqQ, y_eqPP, if_pos, if_neg, ite_true, ite_false, not_true_eq_false, not_false_eq_true, and_true, true_and, and_false, false_and, or_true, true_or, or_false, false_or, y_c5, h, e1, g1, g4]
        · simp (disch := omega) only [y_lit, y_n1, nI_add, pk_mul, j_lt, j_b1_s, j_b2_s, j_b3_s, j_b0_s, y_bo, y_bo1, y_bo0, y_i0, y_i1, Classical.not_not, nI_clamp, y_ix, y_lt, y_le, y_eq, y_nP, y_nPs, y_ltP, y_ltQ, y_ltPP, y_eqP, y_eqQ, y_eqPP, if_pos, if_neg, ite_true, ite_false, not_true_eq_false, not_false_eq_true, and_true, true_and, and_false, false_and, or_true, true_or, or_false, false_or, y_c5, h, e1, g1, g4]
        · simp (disch := omega) only [y_lit, y_n1, nI_add, pk_mul, j_lt, j_b1_s, j_b2_s, j_b3_s, j_b0_s, y_bo, y_bo1, y_bo0, y_i0, y_i1, Classical.not_not, nI_clamp, y_ix, y_lt, y_le, y_eq, y_nP, y_nPs, y_ltP, y_ltQ, y_ltPP, y_eqP, y_eqQ, y_eqPP, if_pos, if_neg, ite_true, ite_false, not_true_eq_false, not_false_eq_true, and_true, true_and, and_false, false_and, or_true, true_or, or_false, false_or, y_c5, h, e1, g1, g4]
      · unfold f_X12_early; simp (disch := omega) only [y_lit, y_n1, nI_add, pk_mul, j_lt, j_b1_s, j_b2_s, j_b3_s, j_b0_s, y_bo, y_bo1, y_bo0, y_i0, y_i1, Classical.not_not, nI_clamp, y_ix, y_lt, y_le, y_eq, y_nP, y_nPs, y_ltP, y_ltQ, y_ltPP, y_eqP, y_eqQ, y_eqPP, if_pos, if_neg, ite_true, ite_false, not_true_eq_false, not_false_eq_true, and_true, true_and, and_false, false_and, or_true, true_or, or_false, false_or, y_lit64, y_in, k4, f1, f4]
  · refine ⟨-2, σ, τ, ?_, ?_, hR⟩
    · unfold f_X11_early; simp (disch := omega) only [y_lit, y_n1, nI_add, pk_mul, j_lt, j_b1_s, j_b2_s, j_b3_s, j_b0_s, y_bo, y_bo1, y_bo0, y_i0, y_i1, Classical.not_not, nI_clamp, y_ix, y_lt, y_le, y_eq, y_nP, y_nPs, y_ltP, y_ltQ, y_ltPP, y_eqP, y_eqQ, y_eqPP, if_pos, if_neg, ite_true, ite_false, not_true_eq_false, not_false_eq_true, and_true, true_and, and_false, false_and, or_true, true_or, or_false, false_or, y_c5, h]
    · unfold f_X12_early; simp (disch := omega) only [y_lit, y_n1, nI_add, pk_mul, j_lt, j_b1_s, j_b2_s, j_b3_s, j_b0_s, y_bo, y_bo1, y_bo0, y_i0, y_i1, Classical.not_not, nI_clamp, y_ix, y_lt, y_le, y_eq, y_nP, y_nPs, y_ltP, y_ltQ, y_ltPP, y_eqP, y_eqQ, y_eqPP, if_pos, if_neg, ite_true, ite_false, not_true_eq_false, not_false_eq_true, and_true, true_and, and_false, false_and, or_true, true_or, or_false, false_or, y_lit64, y_in, y_c3, h]
end Z
/-! ===== count, row, write, paste ===== -/
/-- one slot's cells may be others -/
def y_ks (σ σ' τ τ' : j_G) (s c d : Nat) : Prop := (∀ x, x ≠ c → σ'.1 x = σ.1 x) ∧ (∀ x, x ≠ d → σ'.2 x = σ.2 x) ∧ (∀ x, x ≠ 94 → x ≠ 95 → τ'.1 x = τ.1 x) ∧ (∀ x, x ≠ 96 → x ≠ 97 → τ'.2 x = τ.2 x) ∧ (∀ j, j ≠ s → τ'.1 94 j = τ.1 94 j ∧ τ'.1 95 j = τ.1 95 j) ∧ ∀ j, j < 60 * s ∨ 60 * s + 60 ≤ j → τ'.2 96 j = τ.2 96 j
theorem y_sl.fr2 {σ τ σ' τ' : j_G} {s c d : Nat} (h : y_sl σ τ s c d) (e : σ'.1 c = σ.1 c) (e' : σ'.2 d = σ.2 d) (e1 : τ'.1 94 s = τ.1 94 s) (e2 : τ'.1 95 s = τ.1 95 s) (e3 : ∀ j, 60 * s ≤ j → j < 60 * s + 60 → τ'.2 96 j = τ.2 96 j) : y_sl σ' τ' s c d := by
  rcases h with ⟨h1, h2⟩ | ⟨n, w, h1, h2, h3, h4, h5, h6, h7⟩
  · exact Or.inl ⟨by rw [e]; exact h1, by rw [e1]; exact h2⟩
  · refine Or.inr ⟨n, w, h1, h2, by rw [e]; exact h3, by rw [e1]; exact h4, by rw [e]; exact h5, by rw [e2]; exact h6, fun i hi => ?_⟩
    rw [e', e3 _ (by omega) (by omega)]; exact h7 i hi
theorem y_K.slots {σ τ σ' τ' : j_G} {s c d : Nat} (h : y_K σ τ) (hc : y_sc s c d) (k : y_ks σ σ' τ τ' s c d) (hl : y_sl σ' τ' s c d) : y_K σ' τ' := by
  obtain ⟨⟨i0, i1, i2⟩, ⟨s0, s1, s2, s3⟩, ht, hf⟩ := h
  obtain ⟨k1, k2, k3, k4, k5, k6⟩ := k
  have hcc : 67 ≤ c ∧ c ≤ 73 := by unfold y_sc at hc; omega
  have e77 := k3 77 (by omega) (by omega)
  have e78 := k3 78 (by omega) (by omega)
  refine ⟨⟨i0.fr (fun x hx => k1 x (by omega)) e77 e78, i1.fr (fun x hx => k1 x (by omega)) e77 e78, i2.fr (fun x hx => k1 x (by omega)) e77 e78⟩, ⟨?_, ?_, ?_, ?_⟩, ?_, ?_⟩
  · by_cases e : s = 0
    · obtain ⟨rfl, rfl, rfl⟩ : s = 0 ∧ c = 67 ∧ d = 68 := by unfold y_sc at hc; omega
      exact hl
    · exact s0.fr2 (k1 67 (by unfold y_sc at hc; omega)) (k2 68 (by unfold y_sc at hc; omega)) (k5 0 (by omega)).1 (k5 0 (by omega)).2 (fun j a b => k6 j (by omega))
  · by_cases e : s = 1
    · obtain ⟨rfl, rfl, rfl⟩ : s = 1 ∧ c = 69 ∧ d = 70 := by unfold y_sc at hc; omega
      exact hl
    · exact s1.fr2 (k1 69 (by unfold y_sc at hc; omega)) (k2 70 (by unfold y_sc at hc; omega)) (k5 1 (by omega)).1 (k5 1 (by omega)).2 (fun j a b => k6 j (by omega))
  · by_cases e : s = 2
    · obtain ⟨rfl, rfl, rfl⟩ : s = 2 ∧ c = 71 ∧ d = 72 := by unfold y_sc at hc; omega
      exact hl
    · exact s2.fr2 (k1 71 (by unfold y_sc at hc; omega)) (k2 72 (by unfold y_sc at hc; omega)) (k5 2 (by omega)).1 (k5 2 (by omega)).2 (fun j a b => k6 j (by omega))
  · by_cases e : s = 3
    · obtain ⟨rfl, rfl, rfl⟩ : s = 3 ∧ c = 73 ∧ d = 74 := by unfold y_sc at hc; omega
      exact hl
    · exact s3.fr2 (k1 73 (by unfold y_sc at hc; omega)) (k2 74 (by unfold y_sc at hc; omega)) (k5 3 (by omega)).1 (k5 3 (by omega)).2 (fun j a b => k6 j (by omega))
  · unfold y_tp at *
    rw [k1 19 (by omega), k1 20 (by omega), k3 75 (by omega) (by omega), k3 79 (by omega) (by omega)]
    exact ht
  · unfold y_ft at *
    rw [k1 10 (by omega), k3 75 (by omega) (by omega)]
    exact hf
theorem y_slots {σ τ σ' τ' : j_G} {s c d : Nat} (hR : j_Rel σ τ) (hc : y_sc s c d) (k : y_ks σ σ' τ τ' s c d) (hl : y_sl σ' τ' s c d) : j_Rel σ' τ' := by
  obtain ⟨b, hW, hN, hM, hK⟩ := hR
  have hcc : 67 ≤ c ∧ c ≤ 73 := by unfold y_sc at hc; omega
  refine ⟨b, hW, ?_, ?_, hK.slots hc k hl⟩
  · unfold y_N y_cb at *
    rw [k.1 1 (by omega), k.1 2 (by omega), k.1 3 (by omega), k.1 4 (by omega), k.1 5 (by omega), k.1 6 (by omega), k.1 7 (by omega), k.1 8 (by omega)]
    exact hN
  · unfold y_M; rw [k.2.2.1 76 (by omega) (by omega)]; exact hM
section Z
variable {σ τ : j_G}
theorem z_count (hR : j_Rel σ τ) (a1 : Int32) : ∃ v, f_X11_count a1 σ = some v ∧ f_X12_count a1 τ = some v := by
  obtain ⟨b, hW, hN, hM, hK⟩ := id hR
  obtain ⟨n, hn, t1, t2, t3⟩ := hK.2.2.1
  have mk : ∀ s, s < 4 → ∃ c v, v ≤ 1 ∧ (∃ d, y_sc s c d) ∧ f_X8_isMade c σ = nI v ∧ (if τ.1 94 s = nP 0 then nI 0 else nI 1) = nI v := by
    intro s hs
    obtain ⟨c, d, hc, hk⟩ := hK.slot s hs
    rcases hk with ⟨k1, k2⟩ | ⟨m, w, hr⟩
    · refine ⟨c, 0, by omega, ⟨d, hc⟩, ?_, ?_⟩
      · unfold f_X8_isMade; simp (disch := omega) only [y_lit, y_n1, nI_add, pk_mul, j_lt, j_b1_s, j_b2_s, j_b3_s, j_b0_s, y_bo, y_bo1, y_bo0, y_i0, y_i1, Classical.not_not, nI_clamp, y_ix, y_lt, y_le, y_eq, y_nP, y_nPs, y_ltP, y_ltQ, y_ltPP, y_eqP, y_eqQ, y_eqPP, if_pos, if_neg, ite_true, ite_false, not_true_eq_false, not_false_eq_true, and_true, true_and, and_false, false_and, or_true, true_or, or_false, false_or, k1]
      · rw [k2, if_pos rfl]
    · obtain ⟨_, h1, h2, h3, h4, _⟩ := hr
      refine ⟨c, 1, by omega, ⟨d, hc⟩, ?_, ?_⟩
      · unfold f_X8_isMade; simp (disch := omega) only [y_lit, y_n1, nI_add, pk_mul, j_lt, j_b1_s, j_b2_s, j_b3_s, j_b0_s, y_bo, y_bo1, y_bo0, y_i0, y_i1, Classical.not_not, nI_clamp, y_ix, y_lt, y_le, y_eq, y_nP, y_nPs, y_ltP, y_ltQ, y_ltPP, y_eqP, y_eqQ, y_eqPP, if_pos, if_neg, ite_true, ite_false, not_true_eq_false, not_false_eq_true, and_true, true_and, and_false, false_and, or_true, true_or, or_false, false_or, h3]
      · rw [h4, if_neg (by rw [y_eqQ (by omega) (by omega)]; omega)]
  obtain ⟨c0, v0, l0, ⟨d0, q0⟩, x0, y0⟩ := mk 0 (by omega)
  obtain ⟨c1, v1, l1, ⟨d1, q1⟩, x1, y1⟩ := mk 1 (by omega)
  obtain ⟨c2, v2, l2, ⟨d2, q2⟩, x2, y2⟩ := mk 2 (by omega)
  obtain ⟨c3, v3, l3, ⟨d3, q3⟩, x3, y3⟩ := mk 3 (by omega)
  obtain rfl : c0 = 67 := by unfold y_sc at q0; omega
  obtain rfl : c1 = 69 := by unfold y_sc at q1; omega
  obtain rfl : c2 = 71 := by unfold y_sc at q2; omega
  obtain rfl : c3 = 73 := by unfold y_sc at q3; omega
  have st : ∀ v a, v ≤ 1 → (if ¬ nI v = nI 0 then nI a + nI 1 else nI a) = nI (a + v) := by
    intro v a hv
    by_cases z : v = 0
    · subst z; rw [if_neg (fun q => q rfl)]; rfl
    · obtain rfl : v = 1 := by omega
      rw [if_pos (by decide), nI_add]
  have rk : f_X11_rowsKept σ = some (nI (0 + v0 + v1 + v2 + v3)) := by
    have s0 : ∀ n a, p_X11_rowsKept_4 σ (n + 1) (nI a) (nI 0) = p_X11_rowsKept_4 σ n (nI (a + v0)) (nI 1) := by
      intro n a
      rw [← st v0 a l0, p_X11_rowsKept_4]; simp (disch := omega) only [y_lit, y_n1, nI_add, pk_mul, j_lt, j_b1_s, j_b2_s, j_b3_s, j_b0_s, y_bo, y_bo1, y_bo0, y_i0, y_i1, Classical.not_not, nI_clamp, y_ix, y_lt, y_le, y_eq, y_nP, y_nPs, y_ltP, y_ltQ, y_ltPP, y_eqP, y_eqQ, y_eqPP, if_pos, if_neg, ite_true, ite_false, not_true_eq_false, not_false_eq_true, and_true, true_and, and_false, false_and, or_true, true_or, or_false, false_or, x0]
    have s1 : ∀ n a, p_X11_rowsKept_4 σ (n + 1) (nI a) (nI 1) = p_X11_rowsKept_4 σ n (nI (a + v1)) (nI 2) := by
      intro n a
      rw [← st v1 a l1, p_X11_rowsKept_4]; simp (disch := omega) only [y_lit, y_n1, nI_add, pk_mul, j_lt, j_b1_s, j_b2_s, j_b3_s, j_b0_s, y_bo, y_bo1, y_bo0, y_i0, y_i1, Classical.not_not, nI_clamp, y_ix, y_lt, y_le, y_eq, y_nP, y_nPs, y_ltP, y_ltQ, y_ltPP, y_eqP, y_eqQ, y_eqPP, if_pos, if_neg, ite_true, ite_false, not_true_eq_false, not_false_eq_true, and_true, true_and, and_false, false_and, or_true, true_or, or_false, false_or, x1]
    have s2 : ∀ n a, p_X11_rowsKept_4 σ (n + 1) (nI a) (nI 2) = p_X11_rowsKept_4 σ n (nI (a + v2)) (nI 3) := by
      intro n a
      rw [← st v2 a l2, p_X11_rowsKept_4]; simp (disch := omega) only [y_lit, y_n1, nI_add, pk_mul, j_lt, j_b1_s, j_b2_s, j_b3_s, j_b0_s, y_bo, y_bo1, y_bo0, y_i0, y_i1, Classical.not_not, nI_clamp, y_ix, y_lt, y_le, y_eq, y_nP, y_nPs, y_ltP, y_ltQ, y_ltPP, y_eqP, y_eqQ, y_eqPP, if_pos, if_neg, ite_true, ite_false, not_true_eq_false, not_false_eq_true, and_true, true_and, and_false, false_and, or_true, true_or, or_false, false_or, x2]
    have s3 : ∀ n a, p_X11_rowsKept_4 σ (n + 1) (nI a) (nI 3) = p_X11_rowsKept_4 σ n (nI (a + v3)) (nI 4) := by
      intro n a
      rw [← st v3 a l3, p_X11_rowsKept_4]; simp (disch := omega) only [y_lit, y_n1, nI_add, pk_mul, j_lt, j_b1_s, j_b2_s, j_b3_s, j_b0_s, y_bo, y_bo1, y_bo0, y_i0, y_i1, Classical.not_not, nI_clamp, y_ix, y_lt, y_le, y_eq, y_nP, y_nPs, y_ltP, y_ltQ, y_ltPP, y_eqP, y_eqQ, y_eqPP, if_pos, if_neg, ite_true, ite_false, not_true_eq_false, not_false_eq_true, and_true, true_and, and_false, false_and, or_true, true_or, or_false, false_or, x3]
    have s4 : ∀ n a, p_X11_rowsKept_4 σ (n + 1) (nI a) (nI 4) = some (nI a) := by
      intro n a
      rw [p_X11_rowsKept_4]; simp (disch := omega) only [y_lit, y_n1, nI_add, pk_mul, j_lt, j_b1_s, j_b2_s, j_b3_s, j_b0_s, y_bo, y_bo1, y_bo0, y_i0, y_i1, Classical.not_not, nI_clamp, y_ix, y_lt, y_le, y_eq, y_nP, y_nPs, y_ltP, y_ltQ, y_ltPP, y_eqP, y_eqQ, y_eqPP, if_pos, if_neg, ite_true, ite_false, not_true_eq_false, not_false_eq_true, and_true, true_and, and_false, false_and, or_true, true_or, or_false, false_or]
    unfold f_X11_rowsKept
    rw [show j_F = 4995 + 1 + 1 + 1 + 1 + 1 from rfl, show (0 : Int32) = nI 0 from rfl, s0, s1, s2, s3, s4, j_b1_s]
  have mm : p_X12_count_134 τ j_F (nI 0) (nI 0) = some (nI (0 + v0 + v1 + v2 + v3)) := by
    rw [show j_F = 4995 + 1 + 1 + 1 + 1 + 1 from rfl]
    have stp : ∀ n a i v, i < 4 → (if τ.1 94 i = nP 0 then nI 0 else nI 1) = nI v → p_X12_count_134 τ (n + 1) (nI a) (nI i) = p_X12_count_134 τ n (nI (a + v)) (nI (i + 1)) := by
      intro n a i v hi hv
      rw [p_X12_count_134, show (4 : Int32) = nI 4 from rfl, if_pos ((y_lt (by omega) (by omega)).mpr hi), y_ix (by omega) (by omega), nI_clamp (by omega), y_m1, show (0 : Int32) = nI 0 from rfl, show (1 : Int32) = nI 1 from rfl]
      simp only [j_lt]
      rw [hv, nI_add, nI_add]
    rw [stp _ _ _ _ (by omega) y0, stp _ _ _ _ (by omega) y1, stp _ _ _ _ (by omega) y2, stp _ _ _ _ (by omega) y3]
    rw [p_X12_count_134, if_neg (by decide)]
  unfold f_X11_count f_X12_count
  rw [rk]
  have ee : ∀ j, j < 24 → j_ix (nI j) 116 (some (τ.1 76 (nI j).toNatClampNeg)) = some (nI (b j)) := fun j hj => by
    rw [y_ix (by omega) (by omega), nI_clamp (by omega), hM.f hj]
  have r0 : j_ix (0 : Int32) 116 (some (τ.1 76 ((0 : Int32)).toNatClampNeg)) = some (nI (b 0)) := ee 0 (by omega)
  have r1 : j_ix (1 : Int32) 116 (some (τ.1 76 ((1 : Int32)).toNatClampNeg)) = some (nI (b 1)) := ee 1 (by omega)
  have r2 : j_ix (2 : Int32) 116 (some (τ.1 76 ((2 : Int32)).toNatClampNeg)) = some (nI (b 2)) := ee 2 (by omega)
  have r3 : j_ix (3 : Int32) 116 (some (τ.1 76 ((3 : Int32)).toNatClampNeg)) = some (nI (b 3)) := ee 3 (by omega)
  have r5 : j_ix (5 : Int32) 116 (some (τ.1 76 ((5 : Int32)).toNatClampNeg)) = some (nI (b 5)) := ee 5 (by omega)
  have r6 : j_ix (6 : Int32) 116 (some (τ.1 76 ((6 : Int32)).toNatClampNeg)) = some (nI (b 6)) := ee 6 (by omega)
  have r7 : j_ix (7 : Int32) 116 (some (τ.1 76 ((7 : Int32)).toNatClampNeg)) = some (nI (b 7)) := ee 7 (by omega)
  have r8 : j_ix (8 : Int32) 116 (some (τ.1 76 ((8 : Int32)).toNatClampNeg)) = some (nI (b 8)) := ee 8 (by omega)
  have r9 : j_ix (9 : Int32) 116 (some (τ.1 76 ((9 : Int32)).toNatClampNeg)) = some (nI (b 9)) := ee 9 (by omega)
  have mm' : p_X12_count_134 τ j_F (0 : Int32) (0 : Int32) = some (nI (0 + v0 + v1 + v2 + v3)) := by rw [show (0 : Int32) = nI 0 from rfl]; exact mm
  rw [r0, r1, r2, r3, r5, r6, r7, r8, r9, mm', hN.f2, hN.f3, hN.f4, hN.f5, hN.f7, hN.f6, hN.d0, hN.d1, hN.f1, t1, t2]
  have go : ∀ (p : Prop) [Decidable p] (A B : Option Int32), (∃ v, A = some v) → (∃ v, B = some v) → ∃ v, (if p then A else B) = some v := by
    intro p _ A B hA hB
    by_cases h : p
    · rw [if_pos h]; exact hA
    · rw [if_neg h]; exact hB
  refine (fun (E : Option Int32) (h : ∃ v, E = some v) => (⟨h.choose, h.choose_spec, h.choose_spec⟩ : ∃ v, E = some v ∧ E = some v)) _ ?_
  refine go _ _ _ ⟨_, rfl⟩ ?_
  refine go _ _ _ ⟨_, rfl⟩ ?_
  refine go _ _ _ ⟨_, rfl⟩ ?_
  refine go _ _ _ ⟨_, rfl⟩ ?_
  refine go _ _ _ ⟨_, rfl⟩ ?_
  refine go _ _ _ ⟨_, rfl⟩ ?_
  refine go _ _ _ ⟨_, rfl⟩ ?_
  refine go _ _ _ ⟨_, rfl⟩ ?_
  refine go _ _ _ ⟨_, rfl⟩ ?_
  refine go _ _ _ ⟨_, rfl⟩ ?_
  exact go _ _ _ ⟨_, rfl⟩ ⟨_, rfl⟩
end Z
section R
theorem yc_zero {d : Nat} : ∀ (m i n : Nat) (σ : j_G), i + m = 60 → m < n → ∃ σ', p_X8_make_23 d n (nI i) σ = some σ' ∧ σ'.1 = σ.1 ∧ (∀ x, x ≠ d → σ'.2 x = σ.2 x) ∧ (∀ j, j < i → σ'.2 d j = σ.2 d j) ∧ ∀ j, i ≤ j → j < 60 → σ'.2 d j = 0 := by
  intro m
  induction m with
  | zero =>
    intro i n σ h hn
    obtain ⟨n, rfl⟩ := y_pos hn
    refine ⟨σ, ?_, rfl, fun _ _ => rfl, fun _ _ => rfl, fun j a c => by omega⟩
    unfold p_X8_make_23; simp (disch := omega) only [y_lit, y_n1, nI_add, pk_mul, j_lt, j_b1_s, j_b2_s, j_b3_s, j_b0_s, y_bo, y_bo1, y_bo0, y_i0, y_i1, Classical.not_not, nI_clamp, y_ix, y_lt, y_le, y_eq, y_nP, y_nPs, y_ltP, y_ltQ, y_ltPP, y_eqP, y_eqQ, y_eqPP, if_pos, if_neg, ite_true, ite_false, not_true_eq_false, not_false_eq_true, and_true, true_and, and_false, false_and, or_true, true_or, or_false, false_or]
  | succ m ih =>
    intro i n σ h hn
    obtain ⟨n, rfl⟩ := y_pos hn
    obtain ⟨σ', e1, e2, e3, e4, e5⟩ := ih (i + 1) n (j_sl σ d i 0) (by omega) (by omega)
    refine ⟨σ', ?_, e2, fun x hx => ?_, fun j hj => ?_, fun j a c => ?_⟩
    · unfold p_X8_make_23; simp (disch := omega) only [y_lit, y_n1, nI_add, pk_mul, j_lt, j_b1_s, j_b2_s, j_b3_s, j_b0_s, y_bo, y_bo1, y_bo0, y_i0, y_i1, Classical.not_not, nI_clamp, y_ix, y_lt, y_le, y_eq, y_nP, y_nPs, y_ltP, y_ltQ, y_ltPP, y_eqP, y_eqQ, y_eqPP, if_pos, if_neg, ite_true, ite_false, not_true_eq_false, not_false_eq_true, and_true, true_and, and_false, false_and, or_true, true_or, or_false, false_or]; exact e1
    · rw [e3 x hx]; funext j; exact j_l_ne hx
    · rw [e4 j (by omega), j_l_nj (by omega)]
    · by_cases e : j = i
      · subst e; rw [e4 j (by omega), j_l_eq]
      · exact e5 j (by omega) c
theorem ym_zero {s : Nat} (hs : s < 4) : ∀ (m i n : Nat) (τ : j_G), i + m = 60 → m < n → ∃ τ', p_X12_row_52 (nI s) n (nI i) τ = some τ' ∧ τ'.1 = τ.1 ∧ (∀ x, x ≠ 96 → τ'.2 x = τ.2 x) ∧ (∀ j, j < 60 * s + i ∨ 60 * s + 60 ≤ j → τ'.2 96 j = τ.2 96 j) ∧ ∀ j, i ≤ j → j < 60 → τ'.2 96 (60 * s + j) = 0 := by
  intro m
  induction m with
  | zero =>
    intro i n τ h hn
    obtain ⟨n, rfl⟩ := y_pos hn
    refine ⟨τ, ?_, rfl, fun _ _ => rfl, fun _ _ => rfl, fun j a c => by omega⟩
    unfold p_X12_row_52; simp (disch := omega) only [y_lit, y_n1, nI_add, pk_mul, j_lt, j_b1_s, j_b2_s, j_b3_s, j_b0_s, y_bo, y_bo1, y_bo0, y_i0, y_i1, Classical.not_not, nI_clamp, y_ix, y_lt, y_le, y_eq, y_nP, y_nPs, y_ltP, y_ltQ, y_ltPP, y_eqP, y_eqQ, y_eqPP, if_pos, if_neg, ite_true, ite_false, not_true_eq_false, not_false_eq_true, and_true, true_and, and_false, false_and, or_true, true_or, or_false, false_or]
  | succ m ih =>
    intro i n τ h hn
    obtain ⟨n, rfl⟩ := y_pos hn
    obtain ⟨τ', e1, e2, e3, e4, e5⟩ := ih (i + 1) n (j_sl τ 96 (60 * s + i) 0) (by omega) (by omega)
    refine ⟨τ', ?_, e2, fun x hx => ?_, fun j hj => ?_, fun j a c => ?_⟩
    · unfold p_X12_row_52; simp (disch := omega) only [y_lit, y_n1, nI_add, pk_mul, j_lt, j_b1_s, j_b2_s, j_b3_s, j_b0_s, y_bo, y_bo1, y_bo0, y_i0, y_i1, Classical.not_not, nI_clamp, y_ix, y_lt, y_le, y_eq, y_nP, y_nPs, y_ltP, y_ltQ, y_ltPP, y_eqP, y_eqQ, y_eqPP, if_pos, if_neg, ite_true, ite_false, not_true_eq_false, not_false_eq_true, and_true, true_and, and_false, false_and, or_true, true_or, or_false, false_or]; exact e1
    · rw [e3 x hx]; funext j; exact j_l_ne hx
    · rw [e4 j (by omega), j_l_nj (by omega)]
    · by_cases e : j = i
      · subst e; rw [e4 _ (by omega), j_l_eq]
      · exact e5 j (by omega) c
variable {σ τ : j_G}
theorem z_row (hR : j_Rel σ τ) (a1 a2 a3 : Int32) : ∃ v σ1 τ1, f_X11_row a1 a2 a3 σ = some (v, σ1) ∧ f_X12_row a1 a2 a3 τ = some (v, τ1) ∧ j_Rel σ1 τ1 := by
  have c60 : ∀ x : Int32, nI 60 < x ↔ 60 < x.toInt := fun x => by rw [j_ltI, nI_toInt (by omega)]; rfl
  have c0 : ∀ x : Int32, x < nI 0 ↔ x.toInt < 0 := fun x => by rw [j_ltI, nI_toInt (by omega)]; rfl
  have c3 : ∀ x : Int32, (¬ x < nI 0 ∧ ¬ nI 3 < x) ↔ y_rg x 4 := fun x => y_c3 (by omega)
  have c3' : ∀ x : Int32, ∀ P : Prop, (x < nI 0 ∨ nI 3 < x ∨ P) ↔ (¬ y_rg x 4 ∨ P) := fun x P => by
    rw [← or_assoc, y_c5 (by omega)]
  by_cases h : y_rg a1 4
  · by_cases h2 : y_rg a2 4
    · by_cases h3 : 60 < a3.toInt
      · refine ⟨-2, σ, τ, ?_, ?_, hR⟩
        · unfold f_X11_row; simp (disch := omega) only [y_lit, y_n1, nI_add, pk_mul, j_lt, j_b1_s, j_b2_s, j_b3_s, j_b0_s, y_bo, y_bo1, y_bo0, y_i0, y_i1, Classical.not_not, nI_clamp, y_ix, y_lt, y_le, y_eq, y_nP, y_nPs, y_ltP, y_ltQ, y_ltPP, y_eqP, y_eqQ, y_eqPP, if_pos, if_neg, ite_true, ite_false, not_true_eq_false, not_false_eq_true, and_true, true_and, and_false, false_and, or_true, true_or, or_false, false_or, yc_isSlot, c3', h, h2, c60 a3, h3]
        · unfold f_X12_row; simp (disch := omega) only [y_lit, y_n1, nI_add, pk_mul, j_lt, j_b1_s, j_b2_s, j_b3_s, j_b0_s, y_bo, y_bo1, y_bo0, y_i0, y_i1, Classical.not_not, nI_clamp, y_ix, y_lt, y_le, y_eq, y_nP, y_nPs, y_ltP, y_ltQ, y_ltPP, y_eqP, y_eqQ, y_eqPP, if_pos, if_neg, ite_true, ite_false, not_true_eq_false, not_false_eq_true, and_true, true_and, and_false, false_and, or_true, true_or, or_false, false_or, ym_isSlot, y_lit64, y_in, c3, h, h2, c60 a3, h3]
      · by_cases h4 : a3.toInt < 0
        · refine ⟨-3, σ, τ, ?_, ?_, hR⟩
          · unfold f_X11_row; simp (disch := omega) only [y_lit, y_n1, nI_add, pk_mul, j_lt, j_b1_s, j_b2_s, j_b3_s, j_b0_s, y_bo, y_bo1, y_bo0, y_i0, y_i1, Classical.not_not, nI_clamp, y_ix, y_lt, y_le, y_eq, y_nP, y_nPs, y_ltP, y_ltQ, y_ltPP, y_eqP, y_eqQ, y_eqPP, if_pos, if_neg, ite_true, ite_false, not_true_eq_false, not_false_eq_true, and_true, true_and, and_false, false_and, or_true, true_or, or_false, false_or, yc_isSlot, c3', y_c5, h, h2, c60 a3, h3, c0 a3, h4]
          · unfold f_X12_row; simp (disch := omega) only [y_lit, y_n1, nI_add, pk_mul, j_lt, j_b1_s, j_b2_s, j_b3_s, j_b0_s, y_bo, y_bo1, y_bo0, y_i0, y_i1, Classical.not_not, nI_clamp, y_ix, y_lt, y_le, y_eq, y_nP, y_nPs, y_ltP, y_ltQ, y_ltPP, y_eqP, y_eqQ, y_eqPP, if_pos, if_neg, ite_true, ite_false, not_true_eq_false, not_false_eq_true, and_true, true_and, and_false, false_and, or_true, true_or, or_false, false_or, ym_isSlot, y_lit64, y_in, c3, h, h2, c60 a3, h3, c0 a3, h4]
        · obtain ⟨s, hs, rfl⟩ := y_of _ _ h.1 h.2
          obtain ⟨w, hw, rfl⟩ := y_of _ _ h2.1 h2.2
          obtain ⟨n, hn, rfl⟩ := y_of a3 61 (by omega) (by omega)
          obtain ⟨b, hW, hN, hM, hK⟩ := id hR
          obtain ⟨c, d, hc, _⟩ := hK.slot s hs
          have hcd : c ≠ d := by unfold y_sc at hc; omega
          obtain ⟨σ1, e1, e2, e3, e4, e5⟩ := yc_zero (d := d) 60 0 j_F (j_si (j_si σ c 1 (nI w)) c 0 (nI n)) (by omega) (y_F (by omega))
          obtain ⟨τ1, f1, f2, f3, f4, f5⟩ := ym_zero hs 60 0 j_F (j_si (j_si τ 94 s (nI n)) 95 s (nI w)) (by omega) (y_F (by omega))
          refine ⟨0, σ1, τ1, ?_, ?_, y_slots hR hc ⟨fun x hx => ?_, fun x hx => ?_, fun x h1 h2 => ?_, fun x h1 h2 => ?_, fun j hj => ?_, fun j hj => ?_⟩ (Or.inr ⟨n, w, by omega, by omega, ?_, ?_, ?_, ?_, fun i hi => ?_⟩)⟩
          · unfold f_X11_row f_X8_make
            rcases hc with ⟨rfl, rfl, rfl⟩ | ⟨rfl, rfl, rfl⟩ | ⟨rfl, rfl, rfl⟩ | ⟨rfl, rfl, rfl⟩
            · simp (disch := omega) only [y_lit, y_n1, nI_add, pk_mul, j_lt, j_b1_s, j_b2_s, j_b3_s, j_b0_s, y_bo, y_bo1, y_bo0, y_i0, y_i1, Classical.not_not, nI_clamp, y_ix, y_lt, y_le, y_eq, y_nP, y_nPs, y_ltP, y_ltQ, y_ltPP, y_eqP, y_eqQ, y_eqPP, if_pos, if_neg, ite_true, ite_false, not_true_eq_false, not_false_eq_true, and_true, true_and, and_false, false_and, or_true, true_or, or_false, false_or, yc_isSlot, y_rn, e1]
            · simp (disch := omega) only [y_lit, y_n1, nI_add, pk_mul, j_lt, j_b1_s, j_b2_s, j_b3_s, j_b0_s, y_bo, y_bo1, y_bo0, y_i0, y_i1, Classical.not_not, nI_clamp, y_ix, y_lt, y_le, y_eq, y_nP, y_nPs, y_ltP, y_ltQ, y_ltPP, y_eqP, y_eqQ, y_eqPP, if_pos, if_neg, ite_true, ite_false, not_true_eq_false, not_false_eq_true, and_true, true_and, and_false, false_and, or_true, true_or, or_false, false_or, yc_isSlot, y_rn, e1]
            · simp (disch := omega) only [y_lit, y_n1, nI_add, pk_mul, j_lt, j_b1_s, j_b2_s, j_b3_s, j_b0_s, y_bo, y_bo1, y_bo0, y_i0, y_i1, Classical.not_not, nI_clamp, y_ix, y_lt, y_le, y_eq, y_nP, y_nPs, y_ltP, y_ltQ, y_ltPP, y_eqP, y_eqQ, y_eqPP, if_pos, if_neg, ite_true, ite_false, not_true_eq_false, not_false_eq_true, and_true, true_and, and_false, false_and, or_true, true_or, or_false, false_or, yc_isSlot, y_rn, e1]
            · simp (disch := omega) only [y_lit, y_n1, nI_add, pk_mul, j_lt, j_b1_s, j_b2_s, j_b3_s, j_b0_s, y_bo, y_bo1, y_bo0, y_i0, y_i1, Classical.not_not, nI_clamp, y_ix, y_lt, y_le, y_eq, y_nP, y_nPs, y_ltP, y_ltQ, y_ltPP, y_eqP, y_eqQ, y_eqPP, if_pos, if_neg, ite_true, ite_false, not_true_eq_false, not_false_eq_true, and_true, true_and, and_false, false_and, or_true, true_or, or_false, false_or, yc_isSlot, y_rn, e1]
          · unfold f_X12_row; simp (disch := omega) only [y_lit, y_n1, nI_add, pk_mul, j_lt, j_b1_s, j_b2_s, j_b3_s, j_b0_s, y_bo, y_bo1, y_bo0, y_i0, y_i1, Classical.not_not, nI_clamp, y_ix, y_lt, y_le, y_eq, y_nP, y_nPs, y_ltP, y_ltQ, y_ltPP, y_eqP, y_eqQ, y_eqPP, if_pos, if_neg, ite_true, ite_false, not_true_eq_false, not_false_eq_true, and_true, true_and, and_false, false_and, or_true, true_or, or_false, false_or, ym_isSlot, y_rn, y_lit64, y_in, f1]
          · rw [e2]; funext j; rw [j_r_ne hx, j_r_ne hx]
          · rw [e3 x hx]; rfl
          · rw [f2]; funext j; rw [j_r_ne h2, j_r_ne h1]
          · rw [f3 x h1]; rfl
          · rw [f2]; exact ⟨by rw [j_r_ne (by omega), j_r_nj hj], by rw [j_r_nj hj, j_r_ne (by omega)]⟩
          · rw [f4 j (by omega)]; rfl
          · rw [e2, j_r_eq]
          · rw [f2, j_r_ne (by omega), j_r_eq]
          · rw [e2, j_r_nj (by omega), j_r_eq]
          · rw [f2, j_r_eq]
          · rw [e5 i (by omega) (by omega), f5 i (by omega) (by omega)]
    · refine ⟨-2, σ, τ, ?_, ?_, hR⟩
      · unfold f_X11_row; simp (disch := omega) only [y_lit, y_n1, nI_add, pk_mul, j_lt, j_b1_s, j_b2_s, j_b3_s, j_b0_s, y_bo, y_bo1, y_bo0, y_i0, y_i1, Classical.not_not, nI_clamp, y_ix, y_lt, y_le, y_eq, y_nP, y_nPs, y_ltP, y_ltQ, y_ltPP, y_eqP, y_eqQ, y_eqPP, if_pos, if_neg, ite_true, ite_false, not_true_eq_false, not_false_eq_true, and_true, true_and, and_false, false_and, or_true, true_or, or_false, false_or, yc_isSlot, c3', h2]
      · unfold f_X12_row; simp (disch := omega) only [y_lit, y_n1, nI_add, pk_mul, j_lt, j_b1_s, j_b2_s, j_b3_s, j_b0_s, y_bo, y_bo1, y_bo0, y_i0, y_i1, Classical.not_not, nI_clamp, y_ix, y_lt, y_le, y_eq, y_nP, y_nPs, y_ltP, y_ltQ, y_ltPP, y_eqP, y_eqQ, y_eqPP, if_pos, if_neg, ite_true, ite_false, not_true_eq_false, not_false_eq_true, and_true, true_and, and_false, false_and, or_true, true_or, or_false, false_or, ym_isSlot, y_lit64, y_in, c3, h2]
  · refine ⟨-2, σ, τ, ?_, ?_, hR⟩
    · unfold f_X11_row; simp (disch := omega) only [y_lit, y_n1, nI_add, pk_mul, j_lt, j_b1_s, j_b2_s, j_b3_s, j_b0_s, y_bo, y_bo1, y_bo0, y_i0, y_i1, Classical.not_not, nI_clamp, y_ix, y_lt, y_le, y_eq, y_nP, y_nPs, y_ltP, y_ltQ, y_ltPP, y_eqP, y_eqQ, y_eqPP, if_pos, if_neg, ite_true, ite_false, not_true_eq_false, not_false_eq_true, and_true, true_and, and_false, false_and, or_true, true_or, or_false, false_or, yc_isSlot, h]
    · unfold f_X12_row; simp (disch := omega) only [y_lit, y_n1, nI_add, pk_mul, j_lt, j_b1_s, j_b2_s, j_b3_s, j_b0_s, y_bo, y_bo1, y_bo0, y_i0, y_i1, Classical.not_not, nI_clamp, y_ix, y_lt, y_le, y_eq, y_nP, y_nPs, y_ltP, y_ltQ, y_ltPP, y_eqP, y_eqQ, y_eqPP, if_pos, if_neg, ite_true, ite_false, not_true_eq_false, not_false_eq_true, and_true, true_and, and_false, false_and, or_true, true_or, or_false, false_or, ym_isSlot, h]
end R
/-! ===== write ===== -/
theorem y_cutB (v : BitVec 64) (k : Nat) (hk : 0 < k) (hk2 : k ≤ 64) (i : Nat) (hi : i < 64) : ((v <<< (64 - k)).sshiftRight (64 - k)).getLsbD i = if i < k then v.getLsbD i else v.getLsbD (k - 1) := by
  rw [BitVec.getLsbD_sshiftRight, BitVec.msb_eq_getLsbD_last, BitVec.getLsbD_shiftLeft, BitVec.getLsbD_shiftLeft]
  by_cases h : i < k
  · rw [if_pos h, if_pos (by omega)]
    have e : 64 - k + i - (64 - k) = i := by omega
    rw [e]
    simp [show ¬ 64 ≤ i by omega, show 64 - k + i < 64 by omega]
  · rw [if_neg h, if_neg (by omega)]
    have e : 64 - 1 - (64 - k) = k - 1 := by omega
    rw [e]
    simp [show ¬ 64 ≤ i by omega, show 64 - k ≤ 63 by omega]
theorem y_sx {m k : Nat} (x : BitVec m) (i : Nat) (hi : i < k) (hm : 0 < m) : (x.signExtend k).getLsbD i = if i < m then x.getLsbD i else x.getLsbD (m - 1) := by
  rw [BitVec.getLsbD_signExtend, BitVec.msb_eq_getLsbD_last]
  simp [hi]
theorem y_shlr (v K : Int64) (k : Nat) (hK : (K.toBitVec.smod 64).toNat = k) : ((v <<< K) >>> K).toBitVec = (v.toBitVec <<< k).sshiftRight k := by
  show BitVec.sshiftRight' (v.toBitVec <<< (K.toBitVec.smod 64)) (K.toBitVec.smod 64) = _
  rw [BitVec.sshiftRight_eq', BitVec.shiftLeft_eq', hK]
theorem y_cut0 (v : Int64) : f_X12_cut v (nI 0) = ((v.toInt32).toInt8.toInt32).toInt64 := by
  unfold f_X12_cut
  simp only [j_lt]
  rw [show ((64 : Int32) - ((8 : Int32) <<< (nI 0 &&& 31))).toInt64 &&& 63 = (56 : Int64) from by decide]
  apply Int64.toBitVec_inj.mp
  rw [y_shlr v 56 56 (by decide)]
  apply BitVec.eq_of_getLsbD_eq
  intro i hi
  rw [show (56 : Nat) = 64 - 8 from rfl, y_cutB v.toBitVec 8 (by omega) (by omega) i hi]
  show _ = ((((v.toBitVec.signExtend 32).signExtend 8).signExtend 32).signExtend 64).getLsbD i
  rw [y_sx _ i hi (by omega)]
  by_cases h : i < 8
  · rw [if_pos h, if_pos (by omega), y_sx _ i (by omega) (by omega), if_pos h, y_sx _ i h (by omega), if_pos (by omega), y_sx _ i (by omega) (by omega), if_pos (by omega)]
  · rw [if_neg h]
    by_cases h2 : i < 32
    · rw [if_pos h2, y_sx _ i h2 (by omega), if_neg h, y_sx _ _ (by omega) (by omega), if_pos (by omega), y_sx _ _ (by omega) (by omega), if_pos (by omega)]
    · rw [if_neg h2, y_sx _ _ (by omega) (by omega), if_neg (by omega), y_sx _ _ (by omega) (by omega), if_pos (by omega), y_sx _ _ (by omega) (by omega), if_pos (by omega)]
theorem y_cut1 (v : Int64) : f_X12_cut v (nI 1) = ((v.toInt32).toInt16.toInt32).toInt64 := by
  unfold f_X12_cut
  simp only [j_lt]
  rw [show ((64 : Int32) - ((8 : Int32) <<< (nI 1 &&& 31))).toInt64 &&& 63 = (48 : Int64) from by decide]
  apply Int64.toBitVec_inj.mp
  rw [y_shlr v 48 48 (by decide)]
  apply BitVec.eq_of_getLsbD_eq
  intro i hi
  rw [show (48 : Nat) = 64 - 16 from rfl, y_cutB v.toBitVec 16 (by omega) (by omega) i hi]
  show _ = ((((v.toBitVec.signExtend 32).signExtend 16).signExtend 32).signExtend 64).getLsbD i
  rw [y_sx _ i hi (by omega)]
  by_cases h : i < 16
  · rw [if_pos h, if_pos (by omega), y_sx _ i (by omega) (by omega), if_pos h, y_sx _ i h (by omega), if_pos (by omega), y_sx _ i (by omega) (by omega), if_pos (by omega)]
  · rw [if_neg h]
    by_cases h2 : i < 32
    · rw [if_pos h2, y_sx _ i h2 (by omega), if_neg h, y_sx _ _ (by omega) (by omega), if_pos (by omega), y_sx _ _ (by omega) (by omega), if_pos (by omega)]
    · rw [if_neg h2, y_sx _ _ (by omega) (by omega), if_neg (by omega), y_sx _ _ (by omega) (by omega), if_pos (by omega), y_sx _ _ (by omega) (by omega), if_pos (by omega)]
theorem y_cut2 (v : Int64) : f_X12_cut v (nI 2) = (v.toInt32).toInt64 := by
  unfold f_X12_cut
  simp only [j_lt]
  rw [show ((64 : Int32) - ((8 : Int32) <<< (nI 2 &&& 31))).toInt64 &&& 63 = (32 : Int64) from by decide]
  apply Int64.toBitVec_inj.mp
  rw [y_shlr v 32 32 (by decide)]
  apply BitVec.eq_of_getLsbD_eq
  intro i hi
  rw [show (32 : Nat) = 64 - 32 from rfl, y_cutB v.toBitVec 32 (by omega) (by omega) i hi]
  show _ = ((v.toBitVec.signExtend 32).signExtend 64).getLsbD i
  rw [y_sx _ i hi (by omega)]
  by_cases h : i < 32
  · rw [if_pos h, if_pos h, y_sx _ i h (by omega), if_pos (by omega)]
  · rw [if_neg h, if_neg h, y_sx _ _ (by omega) (by omega), if_pos (by omega)]
theorem y_cut3 (v : Int64) : f_X12_cut v (nI 3) = v := by
  unfold f_X12_cut
  simp only [j_lt]
  rw [show ((64 : Int32) - ((8 : Int32) <<< (nI 3 &&& 31))).toInt64 &&& 63 = (0 : Int64) from by decide]
  apply Int64.toBitVec_inj.mp
  rw [y_shlr v 0 0 (by decide)]
  simp
section Z
variable {σ τ : j_G}
theorem y_ro.sl {s c d n w : Nat} (h : y_ro σ τ s c d n w) : y_sl σ τ s c d := Or.inr ⟨n, w, h.2.1, h.2.2.1, h.2.2.2.1, h.2.2.2.2.1, h.2.2.2.2.2.1, h.2.2.2.2.2.2.1, h.2.2.2.2.2.2.2⟩
theorem z_write (hR : j_Rel σ τ) (a1 a2 : Int32) (a3 : Int64) : ∃ v σ1 τ1, f_X11_write a1 a2 a3 σ = some (v, σ1) ∧ f_X12_write a1 a2 a3 τ = some (v, τ1) ∧ j_Rel σ1 τ1 := by
  obtain ⟨b, hW, hN, hM, hK⟩ := id hR
  by_cases h : y_rg a1 4
  · obtain ⟨s, hs, rfl⟩ := y_of _ _ h.1 h.2
    obtain ⟨c, d, hc, hk⟩ := hK.slot s hs
    rcases hk with ⟨k1, k2⟩ | ⟨n, w, hr⟩
    · refine ⟨-6, σ, τ, ?_, ?_, hR⟩
      · unfold f_X11_write f_X8_isMade
        rcases hc with ⟨rfl, rfl, rfl⟩ | ⟨rfl, rfl, rfl⟩ | ⟨rfl, rfl, rfl⟩ | ⟨rfl, rfl, rfl⟩
        · simp (disch := omega) only [y_lit, y_n1, nI_add, pk_mul, j_lt, j_b1_s, j_b2_s, j_b3_s, j_b0_s, y_bo, y_bo1, y_bo0, y_i0, y_i1, Classical.not_not, nI_clamp, y_ix, y_lt, y_le, y_eq, y_nP, y_nPs, y_ltP, y_ltQ, y_ltPP, y_eqP, y_eqQ, y_eqPP, if_pos, if_neg, ite_true, ite_false, not_true_eq_false, not_false_eq_true, and_true, true_and, and_false, false_and, or_true, true_or, or_false, false_or, yc_isSlot, y_rn, k1]
        · simp (disch := omega) only [y_lit, y_n1, nI_add, pk_mul, j_lt, j_b1_s, j_b2_s, j_b3_s, j_b0_s, y_bo, y_bo1, y_bo0, y_i0, y_i1, Classical.not_not, nI_clamp, y_ix, y_lt, y_le, y_eq, y_nP, y_nPs, y_ltP, y_ltQ, y_ltPP, y_eqP, y_eqQ, y_eqPP, if_pos, if_neg, ite_true, ite_false, not_true_eq_false, not_false_eq_true, and_true, true_and, and_false, false_and, or_true, true_or, or_false, false_or, yc_isSlot, y_rn, k1]
        · simp (disch := omega) only [y_lit, y_n1, nI_add, pk_mul, j_lt, j_b1_s, j_b2_s, j_b3_s, j_b0_s, y_bo, y_bo1, y_bo0, y_i0, y_i1, Classical.not_not, nI_clamp, y_ix, y_lt, y_le, y_eq, y_nP, y_nPs, y_ltP, y_ltQ, y_ltPP, y_eqP, y_eqQ, y_eqPP, if_pos, if_neg, ite_true, ite_false, not_true_eq_false, not_false_eq_true, and_true, true_and, and_false, false_and, or_true, true_or, or_false, false_or, yc_isSlot, y_rn, k1]
        · simp (disch := omega) only [y_lit, y_n1, nI_add, pk_mul, j_lt, j_b1_s, j_b2_s, j_b3_s, j_b0_s, y_bo, y_bo1, y_bo0, y_i0, y_i1, Classical.not_not, nI_clamp, y_ix, y_lt, y_le, y_eq, y_nP, y_nPs, y_ltP, y_ltQ, y_ltPP, y_eqP, y_eqQ, y_eqPP, if_pos, if_neg, ite_true, ite_false, not_true_eq_false, not_false_eq_true, and_true, true_and, and_false, false_and, or_true, true_or, or_false, false_or, yc_isSlot, y_rn, k1]
      · unfold f_X12_write; simp (disch := omega) only [y_lit, y_n1, nI_add, pk_mul, j_lt, j_b1_s, j_b2_s, j_b3_s, j_b0_s, y_bo, y_bo1, y_bo0, y_i0, y_i1, Classical.not_not, nI_clamp, y_ix, y_lt, y_le, y_eq, y_nP, y_nPs, y_ltP, y_ltQ, y_ltPP, y_eqP, y_eqQ, y_eqPP, if_pos, if_neg, ite_true, ite_false, not_true_eq_false, not_false_eq_true, and_true, true_and, and_false, false_and, or_true, true_or, or_false, false_or, ym_isSlot, y_rn, k2]
    · obtain ⟨_, hn, hw, r1, r2, r3, r4, r5⟩ := id hr
      have hcd : c ≠ d := by unfold y_sc at hc; omega
      by_cases h2 : y_rg a2 n
      · obtain ⟨i, hi, rfl⟩ := y_of _ _ h2.1 h2.2
        have put : ∃ x, f_X8_put c d (nI i) a3 σ = some (j_sl σ d i x) ∧ f_X12_cut a3 (nI w) = x := by
          have q : f_X8_put c d (nI i) a3 σ = if nI w = nI 0 then some (j_sl σ d i (((a3).toInt32).toInt8.toInt32).toInt64) else if nI w = nI 1 then some (j_sl σ d i (((a3).toInt32).toInt16.toInt32).toInt64) else if nI w = nI 2 then some (j_sl σ d i ((a3).toInt32).toInt64) else some (j_sl σ d i a3) := by
            unfold f_X8_put
            rw [r1, r3, y_ix (by omega) (by omega), y_ix (by omega) (by omega), y_ix (by omega) (by omega), y_ix (by omega) (by omega), nI_clamp (by omega), if_neg]
            · rfl
            · rw [show (0 : Int32) = nI 0 from rfl, y_lt (by omega) (by omega), y_lt (by omega) (by omega)]; omega
          obtain rfl | rfl | rfl | rfl : w = 0 ∨ w = 1 ∨ w = 2 ∨ w = 3 := by omega
          · exact ⟨_, by rw [q, if_pos rfl], y_cut0 a3⟩
          · exact ⟨_, by rw [q, if_neg (by decide), if_pos rfl], y_cut1 a3⟩
          · exact ⟨_, by rw [q, if_neg (by decide), if_neg (by decide), if_pos rfl], y_cut2 a3⟩
          · exact ⟨_, by rw [q, if_neg (by decide), if_neg (by decide), if_neg (by decide)], y_cut3 a3⟩
        obtain ⟨x, p1, p2⟩ := put
        have hsl : y_ro (j_sl σ d i x) (j_sl τ 96 (60 * s + i) x) s c d n w := by
          refine ⟨hc, hn, hw, r1, r2, r3, r4, fun j hj => ?_⟩
          by_cases e : j = i
          · subst e; rw [j_l_eq, j_l_eq]
          · rw [j_l_nj e, j_l_nj (by omega)]; exact r5 j hj
        refine ⟨0, j_sl σ d i x, j_sl τ 96 (60 * s + i) x, ?_, ?_, y_slots hR hc ⟨fun _ _ => rfl, fun y hy => funext fun j => j_l_ne hy, fun _ _ _ => rfl, fun y hy _ => funext fun j => j_l_ne hy, fun _ _ => ⟨rfl, rfl⟩, fun j hj => j_l_nj (by omega)⟩ hsl.sl⟩
        · unfold f_X11_write f_X8_isMade
          rcases hc with ⟨rfl, rfl, rfl⟩ | ⟨rfl, rfl, rfl⟩ | ⟨rfl, rfl, rfl⟩ | ⟨rfl, rfl, rfl⟩
          · simp (disch := omega) only [y_lit, y_n1, nI_add, pk_mul, j_lt, j_b1_s, j_b2_s, j_b3_s, j_b0_s, y_bo, y_bo1, y_bo0, y_i0, y_i1, Classical.not_not, nI_clamp, y_ix, y_lt, y_le, y_eq, y_nP, y_nPs, y_ltP, y_ltQ, y_ltPP, y_eqP, y_eqQ, y_eqPP, if_pos, if_neg, ite_true, ite_false, not_true_eq_false, not_false_eq_true, and_true, true_and, and_false, false_and, or_true, true_or, or_false, false_or, yc_isSlot, y_rn, r1, p1]
          · simp (disch := omega) only [y_lit, y_n1, nI_add, pk_mul, j_lt, j_b1_s, j_b2_s, j_b3_s, j_b0_s, y_bo, y_bo1, y_bo0, y_i0, y_i1, Classical.not_not, nI_clamp, y_ix, y_lt, y_le, y_eq, y_nP, y_nPs, y_ltP, y_ltQ, y_ltPP, y_eqP, y_eqQ, y_eqPP, if_pos, if_neg, ite_true, ite_false, not_true_eq_false, not_false_eq_true, and_true, true_and, and_false, false_and, or_true, true_or, or_false, false_or, yc_isSlot, y_rn, r1, p1]
          · simp (disch := omega) only [y_lit, y_n1, nI_add, pk_mul, j_lt, j_b1_s, j_b2_s, j_b3_s, j_b0_s, y_bo, y_bo1, y_bo0, y_i0, y_i1, Classical.not_not, nI_clamp, y_ix, y_lt, y_le, y_eq, y_nP, y_nPs, y_ltP, y_ltQ, y_ltPP, y_eqP, y_eqQ, y_eqPP, if_pos, if_neg, ite_true, ite_false, not_true_eq_false, not_false_eq_true, and_true, true_and, and_false, false_and, or_true, true_or, or_false, false_or, yc_isSlot, y_rn, r1, p1]
          · simp (disch := omega) only [y_lit, y_n1, nI_add, pk_mul, j_lt, j_b1_s, j_b2_s, j_b3_s, j_b0_s, y_bo, y_bo1, y_bo0, y_i0, y_i1, Classical.not_not, nI_clamp, y_ix, y_lt, y_le, y_eq, y_nP, y_nPs, y_ltP, y_ltQ, y_ltPP, y_eqP, y_eqQ, y_eqPP, if_pos, if_neg, ite_true, ite_false, not_true_eq_false, not_false_eq_true, and_true, true_and, and_false, false_and, or_true, true_or, or_false, false_or, yc_isSlot, y_rn, r1, p1]
        · unfold f_X12_write; simp (disch := omega) only [y_lit, y_n1, nI_add, pk_mul, j_lt, j_b1_s, j_b2_s, j_b3_s, j_b0_s, y_bo, y_bo1, y_bo0, y_i0, y_i1, Classical.not_not, nI_clamp, y_ix, y_lt, y_le, y_eq, y_nP, y_nPs, y_ltP, y_ltQ, y_ltPP, y_eqP, y_eqQ, y_eqPP, if_pos, if_neg, ite_true, ite_false, not_true_eq_false, not_false_eq_true, and_true, true_and, and_false, false_and, or_true, true_or, or_false, false_or, ym_isSlot, y_rn, r2, r4, y_lit64, y_in, p2]
      · refine ⟨-7, σ, τ, ?_, ?_, hR⟩
        · have q : a2 < nI 0 ∨ ¬ a2 < nI n := (y_c4 (by omega)).mpr h2
          unfold f_X11_write f_X8_isMade
          rcases hc with ⟨rfl, rfl, rfl⟩ | ⟨rfl, rfl, rfl⟩ | ⟨rfl, rfl, rfl⟩ | ⟨rfl, rfl, rfl⟩
          · simp (disch := omega) only [y_lit, y_n1, nI_add, pk_mul, j_lt, j_b1_s, j_b2_s, j_b3_s, j_b0_s, y_bo, y_bo1, y_bo0, y_i0, y_i1, Classical.not_not, nI_clamp, y_ix, y_lt, y_le, y_eq, y_nP, y_nPs, y_ltP, y_ltQ, y_ltPP, y_eqP, y_eqQ, y_eqPP, if_pos, if_neg, ite_true, ite_false, not_true_eq_false, not_false_eq_true, and_true, true_and, and_false, false_and, or_true, true_or, or_false, false_or, yc_isSlot, y_rn, r1]
            rcases q with q | q
            · rw [if_neg (fun z => z q)]
            · rw [if_pos q]; split <;> rfl
          · simp (disch := omega) only [y_lit, y_n1, nI_add, pk_mul, j_lt, j_b1_s, j_b2_s, j_b3_s, j_b0_s, y_bo, y_bo1, y_bo0, y_i0, y_i1, Classical.not_not, nI_clamp, y_ix, y_lt, y_le, y_eq, y_nP, y_nPs, y_ltP, y_ltQ, y_ltPP, y_eqP, y_eqQ, y_eqPP, if_pos, if_neg, ite_true, ite_false, not_true_eq_false, not_false_eq_true, and_true, true_and, and_false, false_and, or_true, true_or, or_false, false_or, yc_isSlot, y_rn, r1]
            rcases q with q | q
            · rw [if_neg (fun z => z q)]
            · rw [if_pos q]; split <;> rfl
          · simp (disch := omega) only [y_lit, y_n1, nI_add, pk_mul, j_lt, j_b1_s, j_b2_s, j_b3_s, j_b0_s, y_bo, y_bo1, y_bo0, y_i0, y_i1, Classical.not_not, nI_clamp, y_ix, y_lt, y_le, y_eq, y_nP, y_nPs, y_ltP, y_ltQ, y_ltPP, y_eqP, y_eqQ, y_eqPP, if_pos, if_neg, ite_true, ite_false, not_true_eq_false, not_false_eq_true, and_true, true_and, and_false, false_and, or_true, true_or, or_false, false_or, yc_isSlot, y_rn, r1]
            rcases q with q | q
            · rw [if_neg (fun z => z q)]
            · rw [if_pos q]; split <;> rfl
          · simp (disch := omega) only [y_lit, y_n1, nI_add, pk_mul, j_lt, j_b1_s, j_b2_s, j_b3_s, j_b0_s, y_bo, y_bo1, y_bo0, y_i0, y_i1, Classical.not_not, nI_clamp, y_ix, y_lt, y_le, y_eq, y_nP, y_nPs, y_ltP, y_ltQ, y_ltPP, y_eqP, y_eqQ, y_eqPP, if_pos, if_neg, ite_true, ite_false, not_true_eq_false, not_false_eq_true, and_true, true_and, and_false, false_and, or_true, true_or, or_false, false_or, yc_isSlot, y_rn, r1]
            rcases q with q | q
            · rw [if_neg (fun z => z q)]
            · rw [if_pos q]; split <;> rfl
        · unfold f_X12_write; simp (disch := omega) only [y_lit, y_n1, nI_add, pk_mul, j_lt, j_b1_s, j_b2_s, j_b3_s, j_b0_s, y_bo, y_bo1, y_bo0, y_i0, y_i1, Classical.not_not, nI_clamp, y_ix, y_lt, y_le, y_eq, y_nP, y_nPs, y_ltP, y_ltQ, y_ltPP, y_eqP, y_eqQ, y_eqPP, if_pos, if_neg, ite_true, ite_false, not_true_eq_false, not_false_eq_true, and_true, true_and, and_false, false_and, or_true, true_or, or_false, false_or, ym_isSlot, y_rn, r2, y_lit64, y_in, y_c2, h2]
  · refine ⟨-2, σ, τ, ?_, ?_, hR⟩
    · unfold f_X11_write; simp (disch := omega) only [y_lit, y_n1, nI_add, pk_mul, j_lt, j_b1_s, j_b2_s, j_b3_s, j_b0_s, y_bo, y_bo1, y_bo0, y_i0, y_i1, Classical.not_not, nI_clamp, y_ix, y_lt, y_le, y_eq, y_nP, y_nPs, y_ltP, y_ltQ, y_ltPP, y_eqP, y_eqQ, y_eqPP, if_pos, if_neg, ite_true, ite_false, not_true_eq_false, not_false_eq_true, and_true, true_and, and_false, false_and, or_true, true_or, or_false, false_or, yc_isSlot, h]
    · unfold f_X12_write; simp (disch := omega) only [y_lit, y_n1, nI_add, pk_mul, j_lt, j_b1_s, j_b2_s, j_b3_s, j_b0_s, y_bo, y_bo1, y_bo0, y_i0, y_i1, Classical.not_not, nI_clamp, y_ix, y_lt, y_le, y_eq, y_nP, y_nPs, y_ltP, y_ltQ, y_ltPP, y_eqP, y_eqQ, y_eqPP, if_pos, if_neg, ite_true, ite_false, not_true_eq_false, not_false_eq_true, and_true, true_and, and_false, false_and, or_true, true_or, or_false, false_or, ym_isSlot, h]
end Z
/-! ===== image, back ===== -/
section C
variable {σ : j_G} {b : Nat → Nat}
theorem yc_copy {c c1 c2 c3 c4 c5 c6 c7 e e1 e2 e3 e4 e5 e6 e7 : Nat} (hW : y_W b) (h : y_cb σ c c1 c2 c3 c4 c5 c6 c7 b) (hc : c1 = c + 1 ∧ c2 = c + 2 ∧ c3 = c + 3 ∧ c4 = c + 4 ∧ c5 = c + 5 ∧ c6 = c + 6 ∧ c7 = c + 7) (he : e1 = e + 1 ∧ e2 = e + 2 ∧ e3 = e + 3 ∧ e4 = e + 4 ∧ e5 = e + 5 ∧ e6 = e + 6 ∧ e7 = e + 7) (hd : c + 7 < e ∨ e + 7 < c) : ∃ σ', f_X2_copy c e c1 e1 c2 e2 c3 e3 c4 e4 c5 e5 c6 e6 c7 e7 σ = some σ' ∧ y_cb σ' e e1 e2 e3 e4 e5 e6 e7 b ∧ (∀ x, x < e ∨ e + 7 < x → σ'.1 x = σ.1 x) ∧ σ'.2 = σ.2 ∧ σ'.1 e 0 = σ.1 e 0 := by
  have b4 := hW.b4; have b5 := hW.b5; have b6 := hW.b6
  have cg : ∀ {α : Type} (n : Nat) (o : Option α), n < 100 → j_cg (nI 0) (nI 0) (nI n) n n o = o := by
    intro α n o hn
    unfold j_cg
    rw [nI_clamp (by omega), nI_clamp (by omega), if_neg]
    simp only [y_lit]
    rw [y_lt (by omega) (by omega), y_lt (by omega) (by omega)]
    omega
  have cg6 : ∀ {α : Type} (o : Option α), j_cg (0 : Int32) (0 : Int32) (6 : Int32) 6 6 o = o := fun o => cg 6 o (by omega)
  have cg20 : ∀ {α : Type} (o : Option α), j_cg (0 : Int32) (0 : Int32) (20 : Int32) 20 20 o = o := fun o => cg 20 o (by omega)
  have cg24 : ∀ {α : Type} (o : Option α), j_cg (0 : Int32) (0 : Int32) (24 : Int32) 24 24 o = o := fun o => cg 24 o (by omega)
  obtain ⟨rfl, rfl, rfl, rfl, rfl, rfl, rfl⟩ := hc
  obtain ⟨rfl, rfl, rfl, rfl, rfl, rfl, rfl⟩ := he
  obtain ⟨⟨f1, f2, f3, f4, f5, f6, f7, f10, d0, d1⟩, f8, s, t, k⟩ := h
  unfold f_X2_copy f_X3_copy
  simp only [j_lt, cg6, cg20, cg24, j_b1_s]
  refine ⟨_, rfl, ⟨⟨?_, ?_, ?_, ?_, ?_, ?_, ?_, ?_, ?_, ?_⟩, fun h9 => ⟨?_, ?_⟩, fun j hj => ⟨?_, ?_⟩, fun p q hp hq => ?_, fun j hj => ⟨?_, ?_, ?_⟩⟩, fun x hx => ?_, rfl, ?_⟩
  · simp (disch := omega) only [j_c_ne, j_r_ne, j_r_eq, j_r_nj]; exact f1
  · simp (disch := omega) only [j_c_ne, j_r_ne, j_r_eq, j_r_nj]; exact f2
  · simp (disch := omega) only [j_c_ne, j_r_ne, j_r_eq, j_r_nj]; exact f3
  · simp (disch := omega) only [j_c_ne, j_r_ne, j_r_eq, j_r_nj]; exact f4
  · simp (disch := omega) only [j_c_ne, j_r_ne, j_r_eq, j_r_nj]; exact f5
  · simp (disch := omega) only [j_c_ne, j_r_ne, j_r_eq, j_r_nj]; exact f6
  · simp (disch := omega) only [j_c_ne, j_r_ne, j_r_eq, j_r_nj]; exact f7
  · simp (disch := omega) only [j_c_ne, j_r_ne, j_r_eq, j_r_nj]; exact f10
  · simp (disch := omega) only [j_c_ne, j_r_ne, j_r_eq, j_r_nj]; exact d0
  · simp (disch := omega) only [j_c_ne, j_r_ne, j_r_eq, j_r_nj]; exact d1
  · simp (disch := omega) only [j_c_ne, j_r_ne, j_r_eq, j_r_nj]; exact (f8 h9).1
  · simp (disch := omega) only [j_c_ne, j_r_ne, j_r_eq, j_r_nj]; exact (f8 h9).2
  · simp (disch := omega) only [j_c_ne, j_r_ne, j_c_eq, y_lit, nI_clamp, pk_cpy_in, Nat.zero_add, Nat.sub_zero]; exact (s j hj).1
  · simp (disch := omega) only [j_c_ne, j_r_ne, j_c_eq, y_lit, nI_clamp, pk_cpy_in, Nat.zero_add, Nat.sub_zero]; exact (s j hj).2
  · simp (disch := omega) only [j_c_ne, j_r_ne, j_c_eq, y_lit, nI_clamp, pk_cpy_in, Nat.zero_add, Nat.sub_zero]; exact t p q hp hq
  · simp (disch := omega) only [j_c_ne, j_r_ne, j_c_eq, y_lit, nI_clamp, pk_cpy_in, Nat.zero_add, Nat.sub_zero]; exact (k j hj).1
  · simp (disch := omega) only [j_c_ne, j_r_ne, j_c_eq, y_lit, nI_clamp, pk_cpy_in, Nat.zero_add, Nat.sub_zero]; exact (k j hj).2.1
  · simp (disch := omega) only [j_c_ne, j_r_ne, j_c_eq, y_lit, nI_clamp, pk_cpy_in, Nat.zero_add, Nat.sub_zero]; exact (k j hj).2.2
  · funext j; simp (disch := omega) only [j_c_ne, j_r_ne]
  · simp (disch := omega) only [j_c_ne, j_r_ne, j_r_nj]
end C
theorem ym_save {k : Nat} (hk : k < 3) : ∀ (m i n : Nat) (τ : j_G), i + m = 116 → m < n → ∃ τ', p_X12_image_17 (nI k) n (nI i) τ = some τ' ∧ τ'.2 = τ.2 ∧ (∀ x, x ≠ 77 → τ'.1 x = τ.1 x) ∧ (∀ j, j < 116 * k + i ∨ 116 * k + 116 ≤ j → τ'.1 77 j = τ.1 77 j) ∧ ∀ j, i ≤ j → j < 116 → τ'.1 77 (116 * k + j) = τ.1 76 j := by
  intro m
  induction m with
  | zero =>
    intro i n τ h hn
    obtain ⟨n, rfl⟩ := y_pos hn
    refine ⟨τ, ?_, rfl, fun _ _ => rfl, fun _ _ => rfl, fun j a c => by omega⟩
    unfold p_X12_image_17; simp (disch := omega) only [y_lit, y_n1, nI_add, pk_mul, j_lt, j_b1_s, j_b2_s, j_b3_s, j_b0_s, y_bo, y_bo1, y_bo0, y_i0, y_i1, Classical.not_not, nI_clamp, y_ix, y_lt, y_le, y_eq, y_nP, y_nPs, y_ltP, y_ltQ, y_ltPP, y_eqP, y_eqQ, y_eqPP, if_pos, if_neg, ite_true, ite_false, not_true_eq_false, not_false_eq_true, and_true, true_and, and_false, false_and, or_true, true_or, or_false, false_or]
  | succ m ih =>
    intro i n τ h hn
    obtain ⟨n, rfl⟩ := y_pos hn
    obtain ⟨τ', e1, e2, e3, e4, e5⟩ := ih (i + 1) n (j_si τ 77 (116 * k + i) (τ.1 76 i)) (by omega) (by omega)
    refine ⟨τ', ?_, e2, fun x hx => ?_, fun j hj => ?_, fun j a c => ?_⟩
    · unfold p_X12_image_17; simp (disch := omega) only [y_lit, y_n1, nI_add, pk_mul, j_lt, j_b1_s, j_b2_s, j_b3_s, j_b0_s, y_bo, y_bo1, y_bo0, y_i0, y_i1, Classical.not_not, nI_clamp, y_ix, y_lt, y_le, y_eq, y_nP, y_nPs, y_ltP, y_ltQ, y_ltPP, y_eqP, y_eqQ, y_eqPP, if_pos, if_neg, ite_true, ite_false, not_true_eq_false, not_false_eq_true, and_true, true_and, and_false, false_and, or_true, true_or, or_false, false_or]; exact e1
    · rw [e3 x hx]; funext j; exact j_r_ne hx
    · rw [e4 j (by omega), j_r_nj (by omega)]
    · by_cases e : j = i
      · subst e; rw [e4 _ (by omega), j_r_eq]
      · rw [e5 j (by omega) c, j_r_ne (by omega)]
theorem ym_load {k : Nat} (hk : k < 3) : ∀ (m i n : Nat) (τ : j_G), i + m = 116 → m < n → ∃ τ', p_X12_back_29 (nI k) n (nI i) τ = some τ' ∧ τ'.2 = τ.2 ∧ (∀ x, x ≠ 76 → τ'.1 x = τ.1 x) ∧ (∀ j, j < i → τ'.1 76 j = τ.1 76 j) ∧ ∀ j, i ≤ j → j < 116 → τ'.1 76 j = τ.1 77 (116 * k + j) := by
  intro m
  induction m with
  | zero =>
    intro i n τ h hn
    obtain ⟨n, rfl⟩ := y_pos hn
    refine ⟨τ, ?_, rfl, fun _ _ => rfl, fun _ _ => rfl, fun j a c => by omega⟩
    unfold p_X12_back_29; simp (disch := omega) only [y_lit, y_n1, nI_add, pk_mul, j_lt, j_b1_s, j_b2_s, j_b3_s, j_b0_s, y_bo, y_bo1, y_bo0, y_i0, y_i1, Classical.not_not, nI_clamp, y_ix, y_lt, y_le, y_eq, y_nP, y_nPs, y_ltP, y_ltQ, y_ltPP, y_eqP, y_eqQ, y_eqPP, if_pos, if_neg, ite_true, ite_false, not_true_eq_false, not_false_eq_true, and_true, true_and, and_false, false_and, or_true, true_or, or_false, false_or]
  | succ m ih =>
    intro i n τ h hn
    obtain ⟨n, rfl⟩ := y_pos hn
    obtain ⟨τ', e1, e2, e3, e4, e5⟩ := ih (i + 1) n (j_si τ 76 i (τ.1 77 (116 * k + i))) (by omega) (by omega)
    refine ⟨τ', ?_, e2, fun x hx => ?_, fun j hj => ?_, fun j a c => ?_⟩
    · unfold p_X12_back_29; simp (disch := omega) only [y_lit, y_n1, nI_add, pk_mul, j_lt, j_b1_s, j_b2_s, j_b3_s, j_b0_s, y_bo, y_bo1, y_bo0, y_i0, y_i1, Classical.not_not, nI_clamp, y_ix, y_lt, y_le, y_eq, y_nP, y_nPs, y_ltP, y_ltQ, y_ltPP, y_eqP, y_eqQ, y_eqPP, if_pos, if_neg, ite_true, ite_false, not_true_eq_false, not_false_eq_true, and_true, true_and, and_false, false_and, or_true, true_or, or_false, false_or]; exact e1
    · rw [e3 x hx]; funext j; exact j_r_ne hx
    · rw [e4 j (by omega), j_r_nj (by omega)]
    · by_cases e : j = i
      · subst e; rw [e4 _ (by omega), j_r_eq]
      · rw [e5 j (by omega) c, j_r_ne (by omega)]
theorem y_im.fr2 {σ τ σ' τ' : j_G} {k c c1 c2 c3 c4 c5 c6 c7 : Nat} (h : y_im σ τ k c c1 c2 c3 c4 c5 c6 c7) (e : ∀ x, x = c ∨ x = c1 ∨ x = c2 ∨ x = c3 ∨ x = c4 ∨ x = c5 ∨ x = c6 ∨ x = c7 → σ'.1 x = σ.1 x) (e1 : ∀ j, j < 116 → τ'.1 77 (116 * k + j) = τ.1 77 (116 * k + j)) (e2 : τ'.1 78 k = τ.1 78 k) : y_im σ' τ' k c c1 c2 c3 c4 c5 c6 c7 := by
  rcases h with ⟨h1, h2⟩ | ⟨h1, h2, b, hW, hc, hm⟩
  · exact Or.inl ⟨by rw [e c (by omega)]; exact h1, by rw [e2]; exact h2⟩
  · refine Or.inr ⟨by rw [e c (by omega)]; exact h1, by rw [e2]; exact h2, b, hW, ?_, fun j hj => ?_⟩
    · unfold y_cb at *
      rw [e c (by omega), e c1 (by omega), e c2 (by omega), e c3 (by omega), e c4 (by omega), e c5 (by omega), e c6 (by omega), e c7 (by omega)]
      exact hc
    · show τ'.1 77 (116 * k + j) = _
      rw [e1 j hj]; exact hm j hj
section Z
variable {σ τ : j_G}
theorem z_image (hR : j_Rel σ τ) (a1 : Int32) : ∃ v σ1 τ1, f_X11_image a1 σ = some (v, σ1) ∧ f_X12_image a1 τ = some (v, τ1) ∧ j_Rel σ1 τ1 := by
  obtain ⟨b, hW, hN, hM, hK⟩ := id hR
  by_cases h : y_rg a1 3
  · obtain ⟨k, hk, rfl⟩ := y_of _ _ h.1 h.2
    obtain ⟨τ1, g1, g2, g3, g4, g5⟩ := ym_save hk 116 0 j_F τ (by omega) (y_F (by omega))
    have hm : f_X12_image (nI k) τ = some (0, j_si τ1 78 k (nI 1)) := by
      have e1 : vp_nar .boolean (1 : Int32) = nI 1 := rfl
      have n3 : ¬ f_X12_in (nI k).toInt64 (0 : Int64) (2 : Int64) = 0 := by
        have : f_X12_in (nI k).toInt64 (0 : Int64) (2 : Int64) = nI 1 := by simp (disch := omega) only [y_lit, y_n1, nI_add, pk_mul, j_lt, j_b1_s, j_b2_s, j_b3_s, j_b0_s, y_bo, y_bo1, y_bo0, y_i0, y_i1, Classical.not_not, nI_clamp, y_ix, y_lt, y_le, y_eq, y_nP, y_nPs, y_ltP, y_ltQ, y_ltPP, y_eqP, y_eqQ, y_eqPP, if_pos, if_neg, ite_true, ite_false, not_true_eq_false, not_false_eq_true, and_true, true_and, and_false, false_and, or_true, true_or, or_false, false_or, y_lit64, y_in]
        rw [this]; decide
      unfold f_X12_image
      rw [if_neg n3, show (0 : Int32) = nI 0 from rfl, g1, j_b1_s, y_ix (by omega) (by omega), nI_clamp (by omega), e1]
      rfl
    obtain ⟨⟨i0, i1, i2⟩, ⟨s0, s1, s2, s3⟩, ht, hf⟩ := id hK
    have fin : ∀ e e1 e2 e3 e4 e5 e6 e7 (σ1 : j_G), e = 43 + 8 * k → e1 = e + 1 ∧ e2 = e + 2 ∧ e3 = e + 3 ∧ e4 = e + 4 ∧ e5 = e + 5 ∧ e6 = e + 6 ∧ e7 = e + 7 → y_cb σ1 e e1 e2 e3 e4 e5 e6 e7 b → (∀ x, x < e ∨ e + 7 < x → σ1.1 x = σ.1 x) → σ1.2 = σ.2 → y_im (j_si σ1 e 0 (nI 1)) (j_si τ1 78 k (nI 1)) k e e1 e2 e3 e4 e5 e6 e7 ∧ j_Rel (j_si σ1 e 0 (nI 1)) (j_si τ1 78 k (nI 1)) := by
      intro e e1 e2 e3 e4 e5 e6 e7 σ1 he hee hcb hx h2
      obtain ⟨q1, q2, q3, q4, q5, q6, q7⟩ := hee
      have im : y_im (j_si σ1 e 0 (nI 1)) (j_si τ1 78 k (nI 1)) k e e1 e2 e3 e4 e5 e6 e7 := by
        refine Or.inr ⟨j_r_eq, j_r_eq, b, hW, ?_, fun j hj => ?_⟩
        · obtain ⟨⟨f1, f2, f3, f4, f5, f6, f7, f10, d0, d1⟩, f8, s, t, kk⟩ := hcb
          unfold y_cb
          refine ⟨?_, ?_, ?_, ?_, ?_⟩
          · simp (disch := omega) only [j_r_ne, j_r_nj]; exact ⟨f1, f2, f3, f4, f5, f6, f7, f10, d0, d1⟩
          · simp (disch := omega) only [j_r_ne, j_r_nj]; exact f8
          · simp (disch := omega) only [j_r_ne, j_r_nj]; exact s
          · simp (disch := omega) only [j_r_ne, j_r_nj]; exact t
          · simp (disch := omega) only [j_r_ne, j_r_nj]; exact kk
        · show (j_si τ1 78 k (nI 1)).1 77 (116 * k + j) = _
          rw [j_r_ne (by omega), g5 j (by omega) hj]; exact hM j hj
      have ox : ∀ x, x < e ∨ e + 7 < x → (j_si σ1 e 0 (nI 1)).1 x = σ.1 x := fun x hxx => by
        rw [← hx x hxx]; funext j; exact j_r_ne (by omega)
      have o2 : (j_si σ1 e 0 (nI 1)).2 = σ.2 := h2
      have t1 : ∀ x, x ≠ 77 → x ≠ 78 → (j_si τ1 78 k (nI 1)).1 x = τ.1 x := fun x a c => by
        rw [← g3 x a]; funext j; exact j_r_ne c
      have t2 : (j_si τ1 78 k (nI 1)).2 = τ.2 := g2
      have t7 : ∀ k', k' ≠ k → ∀ j, j < 116 → (j_si τ1 78 k (nI 1)).1 77 (116 * k' + j) = τ.1 77 (116 * k' + j) := fun k' hkk j hj => by
        rw [j_r_ne (by omega)]
        refine g4 _ ?_
        rcases Nat.lt_or_gt_of_ne hkk with q | q
        · left; have : 116 * k' + 116 ≤ 116 * k := by omega
          omega
        · right; omega
      have t8 : ∀ k', k' ≠ k → (j_si τ1 78 k (nI 1)).1 78 k' = τ.1 78 k' := fun k' hkk => by
        rw [j_r_nj hkk, g3 78 (by omega)]
      refine ⟨im, b, hW, ?_, ?_, ⟨⟨?_, ?_, ?_⟩, ⟨?_, ?_, ?_, ?_⟩, ?_, ?_⟩⟩
      · unfold y_N y_cb at *
        rw [ox 1 (by omega), ox 2 (by omega), ox 3 (by omega), ox 4 (by omega), ox 5 (by omega), ox 6 (by omega), ox 7 (by omega), ox 8 (by omega)]
        exact hN
      · unfold y_M; rw [t1 76 (by omega) (by omega)]; exact hM
      · by_cases c : k = 0
        · subst c
          obtain rfl : e = 43 := by omega
          subst q1 q2 q3 q4 q5 q6 q7; exact im
        · exact i0.fr2 (fun x hxx => ox x (by omega)) (t7 0 (by omega)) (t8 0 (by omega))
      · by_cases c : k = 1
        · subst c
          obtain rfl : e = 51 := by omega
          subst q1 q2 q3 q4 q5 q6 q7; exact im
        · exact i1.fr2 (fun x hxx => ox x (by omega)) (t7 1 (by omega)) (t8 1 (by omega))
      · by_cases c : k = 2
        · subst c
          obtain rfl : e = 59 := by omega
          subst q1 q2 q3 q4 q5 q6 q7; exact im
        · exact i2.fr2 (fun x hxx => ox x (by omega)) (t7 2 (by omega)) (t8 2 (by omega))
      · exact s0.fr (ox 67 (by omega)) (by rw [o2]) (t1 94 (by omega) (by omega)) (t1 95 (by omega) (by omega)) (by rw [t2])
      · exact s1.fr (ox 69 (by omega)) (by rw [o2]) (t1 94 (by omega) (by omega)) (t1 95 (by omega) (by omega)) (by rw [t2])
      · exact s2.fr (ox 71 (by omega)) (by rw [o2]) (t1 94 (by omega) (by omega)) (t1 95 (by omega) (by omega)) (by rw [t2])
      · exact s3.fr (ox 73 (by omega)) (by rw [o2]) (t1 94 (by omega) (by omega)) (t1 95 (by omega) (by omega)) (by rw [t2])
      · unfold y_tp at *
        rw [ox 19 (by omega), ox 20 (by omega), t1 75 (by omega) (by omega), t1 79 (by omega) (by omega)]
        exact ht
      · unfold y_ft at *
        rw [ox 10 (by omega), t1 75 (by omega) (by omega)]
        exact hf
    obtain rfl | rfl | rfl : k = 0 ∨ k = 1 ∨ k = 2 := by omega
    · obtain ⟨σ1, e1, e2, e3, e4, _⟩ := yc_copy (e := 43) hW hN ⟨rfl, rfl, rfl, rfl, rfl, rfl, rfl⟩ ⟨rfl, rfl, rfl, rfl, rfl, rfl, rfl⟩ (by omega)
      refine ⟨0, j_si σ1 43 0 (nI 1), j_si τ1 78 0 (nI 1), ?_, hm, (fin 43 44 45 46 47 48 49 50 σ1 rfl ⟨rfl, rfl, rfl, rfl, rfl, rfl, rfl⟩ e2 e3 e4).2⟩
      unfold f_X11_image
      rw [if_neg (by decide), if_pos (by decide), e1]; rfl
    · obtain ⟨σ1, e1, e2, e3, e4, _⟩ := yc_copy (e := 51) hW hN ⟨rfl, rfl, rfl, rfl, rfl, rfl, rfl⟩ ⟨rfl, rfl, rfl, rfl, rfl, rfl, rfl⟩ (by omega)
      refine ⟨0, j_si σ1 51 0 (nI 1), j_si τ1 78 1 (nI 1), ?_, hm, (fin 51 52 53 54 55 56 57 58 σ1 rfl ⟨rfl, rfl, rfl, rfl, rfl, rfl, rfl⟩ e2 e3 e4).2⟩
      unfold f_X11_image
      rw [if_neg (by decide), if_neg (by decide), if_pos (by decide), e1]; rfl
    · obtain ⟨σ1, e1, e2, e3, e4, _⟩ := yc_copy (e := 59) hW hN ⟨rfl, rfl, rfl, rfl, rfl, rfl, rfl⟩ ⟨rfl, rfl, rfl, rfl, rfl, rfl, rfl⟩ (by omega)
      refine ⟨0, j_si σ1 59 0 (nI 1), j_si τ1 78 2 (nI 1), ?_, hm, (fin 59 60 61 62 63 64 65 66 σ1 rfl ⟨rfl, rfl, rfl, rfl, rfl, rfl, rfl⟩ e2 e3 e4).2⟩
      unfold f_X11_image
      rw [if_neg (by decide), if_neg (by decide), if_neg (by decide), if_pos (by decide), e1]; rfl
  · refine ⟨-2, σ, τ, ?_, ?_, hR⟩
    · unfold f_X11_image; simp (disch := omega) only [y_lit, y_n1, nI_add, pk_mul, j_lt, j_b1_s, j_b2_s, j_b3_s, j_b0_s, y_bo, y_bo1, y_bo0, y_i0, y_i1, Classical.not_not, nI_clamp, y_ix, y_lt, y_le, y_eq, y_nP, y_nPs, y_ltP, y_ltQ, y_ltPP, y_eqP, y_eqQ, y_eqPP, if_pos, if_neg, ite_true, ite_false, not_true_eq_false, not_false_eq_true, and_true, true_and, and_false, false_and, or_true, true_or, or_false, false_or, y_c4, h]
    · unfold f_X12_image; simp (disch := omega) only [y_lit, y_n1, nI_add, pk_mul, j_lt, j_b1_s, j_b2_s, j_b3_s, j_b0_s, y_bo, y_bo1, y_bo0, y_i0, y_i1, Classical.not_not, nI_clamp, y_ix, y_lt, y_le, y_eq, y_nP, y_nPs, y_ltP, y_ltQ, y_ltPP, y_eqP, y_eqQ, y_eqPP, if_pos, if_neg, ite_true, ite_false, not_true_eq_false, not_false_eq_true, and_true, true_and, and_false, false_and, or_true, true_or, or_false, false_or, y_lit64, y_in, y_c3, h]
theorem z_back (hR : j_Rel σ τ) (a1 : Int32) : ∃ v σ1 τ1, f_X11_back a1 σ = some (v, σ1) ∧ f_X12_back a1 τ = some (v, τ1) ∧ j_Rel σ1 τ1 := by
  obtain ⟨b, hW, hN, hM, hK⟩ := id hR
  by_cases h : y_rg a1 3
  · obtain ⟨k, hk, rfl⟩ := y_of _ _ h.1 h.2
    have n3 : ¬ f_X12_in (nI k).toInt64 (0 : Int64) (2 : Int64) = 0 := by
      have : f_X12_in (nI k).toInt64 (0 : Int64) (2 : Int64) = nI 1 := by simp (disch := omega) only [y_lit, y_n1, nI_add, pk_mul, j_lt, j_b1_s, j_b2_s, j_b3_s, j_b0_s, y_bo, y_bo1, y_bo0, y_i0, y_i1, Classical.not_not, nI_clamp, y_ix, y_lt, y_le, y_eq, y_nP, y_nPs, y_ltP, y_ltQ, y_ltPP, y_eqP, y_eqQ, y_eqPP, if_pos, if_neg, ite_true, ite_false, not_true_eq_false, not_false_eq_true, and_true, true_and, and_false, false_and, or_true, true_or, or_false, false_or, y_lit64, y_in]
      rw [this]; decide
    obtain ⟨⟨i0, i1, i2⟩, ⟨s0, s1, s2, s3⟩, ht, hf⟩ := id hK
    have no : τ.1 78 k = nI 0 → f_X12_back (nI k) τ = some (-6, τ) := by
      intro e
      unfold f_X12_back
      rw [if_neg n3, y_ix (by omega) (by omega), nI_clamp (by omega), e, if_pos (show nI 0 = (0 : Int32) from rfl)]
    obtain ⟨τ1, g1, g2, g3, g4, g5⟩ := ym_load hk 116 0 j_F τ (by omega) (y_F (by omega))
    have yes : τ.1 78 k = nI 1 → f_X12_back (nI k) τ = some (0, τ1) := by
      intro e
      unfold f_X12_back
      rw [if_neg n3, y_ix (by omega) (by omega), nI_clamp (by omega), e, if_neg (by decide), show (0 : Int32) = nI 0 from rfl, g1]; rfl
    have fin : ∀ b' σ1, y_W b' → y_N σ1 b' → (∀ x, x < 1 ∨ 1 + 7 < x → σ1.1 x = σ.1 x) → σ1.2 = σ.2 → y_mb (fun j => τ.1 77 (116 * k + j)) b' → j_Rel σ1 τ1 := by
      intro b' σ1 hW' hN' ox o2 hmb
      refine ⟨b', hW', hN', fun j hj => ?_, hK.fr2 (fun c hc => ⟨ox c (by omega), by rw [o2]⟩) ⟨fun j hj => by rw [g3 75 (by omega)], fun c hc => ⟨g3 c (by omega), by rw [g2]⟩⟩⟩
      rw [g5 j (by omega) hj]; exact hmb j hj
    obtain rfl | rfl | rfl : k = 0 ∨ k = 1 ∨ k = 2 := by omega
    · rcases i0 with ⟨j1, j2⟩ | ⟨j1, j2, b', hW', hc', hm'⟩
      · refine ⟨-6, σ, τ, ?_, no j2, hR⟩
        unfold f_X11_back
        rw [if_neg (by decide), if_pos (by decide), j1, if_pos (by decide)]
      · obtain ⟨σ1, e1, e2, e3, e4, _⟩ := yc_copy (e := 1) hW' hc' ⟨rfl, rfl, rfl, rfl, rfl, rfl, rfl⟩ ⟨rfl, rfl, rfl, rfl, rfl, rfl, rfl⟩ (by omega)
        refine ⟨0, σ1, τ1, ?_, yes j2, fin b' σ1 hW' e2 e3 e4 hm'⟩
        unfold f_X11_back
        rw [if_neg (by decide), if_pos (by decide), j1, if_neg (by decide), e1]; rfl
    · rcases i1 with ⟨j1, j2⟩ | ⟨j1, j2, b', hW', hc', hm'⟩
      · refine ⟨-6, σ, τ, ?_, no j2, hR⟩
        unfold f_X11_back
        rw [if_neg (by decide), if_neg (by decide), if_pos (by decide), j1, if_pos (by decide)]
      · obtain ⟨σ1, e1, e2, e3, e4, _⟩ := yc_copy (e := 1) hW' hc' ⟨rfl, rfl, rfl, rfl, rfl, rfl, rfl⟩ ⟨rfl, rfl, rfl, rfl, rfl, rfl, rfl⟩ (by omega)
        refine ⟨0, σ1, τ1, ?_, yes j2, fin b' σ1 hW' e2 e3 e4 hm'⟩
        unfold f_X11_back
        rw [if_neg (by decide), if_neg (by decide), if_pos (by decide), j1, if_neg (by decide), e1]; rfl
    · rcases i2 with ⟨j1, j2⟩ | ⟨j1, j2, b', hW', hc', hm'⟩
      · refine ⟨-6, σ, τ, ?_, no j2, hR⟩
        unfold f_X11_back
        rw [if_neg (by decide), if_neg (by decide), if_neg (by decide), if_pos (by decide), j1, if_pos (by decide)]
      · obtain ⟨σ1, e1, e2, e3, e4, _⟩ := yc_copy (e := 1) hW' hc' ⟨rfl, rfl, rfl, rfl, rfl, rfl, rfl⟩ ⟨rfl, rfl, rfl, rfl, rfl, rfl, rfl⟩ (by omega)
        refine ⟨0, σ1, τ1, ?_, yes j2, fin b' σ1 hW' e2 e3 e4 hm'⟩
        unfold f_X11_back
        rw [if_neg (by decide), if_neg (by decide), if_neg (by decide), if_pos (by decide), j1, if_neg (by decide), e1]; rfl
  · refine ⟨-2, σ, τ, ?_, ?_, hR⟩
    · unfold f_X11_back; simp (disch := omega) only [y_lit, y_n1, nI_add, pk_mul, j_lt, j_b1_s, j_b2_s, j_b3_s, j_b0_s, y_bo, y_bo1, y_bo0, y_i0, y_i1, Classical.not_not, nI_clamp, y_ix, y_lt, y_le, y_eq, y_nP, y_nPs, y_ltP, y_ltQ, y_ltPP, y_eqP, y_eqQ, y_eqPP, if_pos, if_neg, ite_true, ite_false, not_true_eq_false, not_false_eq_true, and_true, true_and, and_false, false_and, or_true, true_or, or_false, false_or, y_c4, h]
    · unfold f_X12_back; simp (disch := omega) only [y_lit, y_n1, nI_add, pk_mul, j_lt, j_b1_s, j_b2_s, j_b3_s, j_b0_s, y_bo, y_bo1, y_bo0, y_i0, y_i1, Classical.not_not, nI_clamp, y_ix, y_lt, y_le, y_eq, y_nP, y_nPs, y_ltP, y_ltQ, y_ltPP, y_eqP, y_eqQ, y_eqPP, if_pos, if_neg, ite_true, ite_false, not_true_eq_false, not_false_eq_true, and_true, true_and, and_false, false_and, or_true, true_or, or_false, false_or, y_lit64, y_in, y_c3, h]
end Z
/-! ===== end, feed, paste ===== -/
/-- the tapes alike -/
theorem y_tape {σ τ σ' τ' : j_G} (hR : j_Rel σ τ) (h1 : ∀ x, x ≠ 19 → x ≠ 20 → σ'.1 x = σ.1 x) (h2 : σ'.2 = σ.2) (h3 : ∀ j, j ≠ 5 → τ'.1 75 j = τ.1 75 j) (h4 : ∀ x, x ≠ 75 → x ≠ 79 → x ≠ 80 → τ'.1 x = τ.1 x) (h5 : τ'.2 = τ.2) (ht : y_tp σ' τ') : j_Rel σ' τ' := by
  obtain ⟨b, hW, hN, hM, ⟨⟨i0, i1, i2⟩, ⟨s0, s1, s2, s3⟩, _, hf⟩⟩ := hR
  have e77 := h4 77 (by omega) (by omega) (by omega)
  have e78 := h4 78 (by omega) (by omega) (by omega)
  have e94 := h4 94 (by omega) (by omega) (by omega)
  have e95 := h4 95 (by omega) (by omega) (by omega)
  refine ⟨b, hW, ?_, ?_, ⟨⟨i0.fr (fun x hx => h1 x (by omega) (by omega)) e77 e78, i1.fr (fun x hx => h1 x (by omega) (by omega)) e77 e78, i2.fr (fun x hx => h1 x (by omega) (by omega)) e77 e78⟩, ⟨s0.fr (h1 67 (by omega) (by omega)) (by rw [h2]) e94 e95 (by rw [h5]), s1.fr (h1 69 (by omega) (by omega)) (by rw [h2]) e94 e95 (by rw [h5]), s2.fr (h1 71 (by omega) (by omega)) (by rw [h2]) e94 e95 (by rw [h5]), s3.fr (h1 73 (by omega) (by omega)) (by rw [h2]) e94 e95 (by rw [h5])⟩, ht, ?_⟩⟩
  · unfold y_N y_cb at *
    rw [h1 1 (by omega) (by omega), h1 2 (by omega) (by omega), h1 3 (by omega) (by omega), h1 4 (by omega) (by omega), h1 5 (by omega) (by omega), h1 6 (by omega) (by omega), h1 7 (by omega) (by omega), h1 8 (by omega) (by omega)]
    exact hN
  · unfold y_M; rw [h4 76 (by omega) (by omega) (by omega)]; exact hM
  · unfold y_ft at *
    rw [h1 10 (by omega) (by omega), h3 12 (by omega), h3 13 (by omega)]
    exact hf
/-- a byte of a number -/
def y_by (x : Int32) (m : Nat) : Int32 := vp_nar .byte (x >>> (nI (24 - 8 * m) &&& nI 31)).toInt8.toInt32
theorem y_by_bd (x : Int32) (m : Nat) : -128 ≤ (y_by x m).toInt ∧ (y_by x m).toInt ≤ 127 := by
  unfold y_by
  rw [vp_nar_byte, Int8.toInt_toInt32]
  exact ⟨Int8.le_toInt _, Int8.toInt_le _⟩
section F
theorem yc_put1 (x : Int32) : ∀ (m i n t : Nat) (σ : j_G), i + m = 4 → m < n → σ.1 19 0 = nI t → t + m ≤ 1200 → ∃ σ', p_X10_put_3 x n (nI 24 - nI (8 * i)) σ = some σ' ∧ σ'.1 19 0 = nI (t + m) ∧ (∀ c, c ≠ 19 → c ≠ 20 → σ'.1 c = σ.1 c) ∧ σ'.2 = σ.2 ∧ (∀ j, j < t ∨ t + m ≤ j → σ'.1 20 j = σ.1 20 j) ∧ ∀ j, j < m → σ'.1 20 (t + j) = y_by x (i + j) := by
  intro m
  induction m with
  | zero =>
    intro i n t σ h hn h0 ht
    obtain ⟨n, rfl⟩ := y_pos hn
    obtain rfl : i = 4 := by omega
    refine ⟨σ, ?_, h0, fun _ _ _ => rfl, rfl, fun _ _ => rfl, fun j hj => by omega⟩
    unfold p_X10_put_3
    exact if_neg (fun z => z.1 (by decide))
  | succ m ih =>
    intro i n t σ h hn h0 ht
    obtain ⟨n, rfl⟩ := y_pos hn
    obtain ⟨σ', e1, e2, e3, e4, e5, e6⟩ := ih (i + 1) n (t + 1) (j_si (j_si σ 20 t (y_by x i)) 19 0 (nI (t + 1))) (by omega) (by omega) j_r_eq (by omega)
    have sh : nI 24 - nI (8 * i) = nI (24 - 8 * i) := pk_sub (by omega)
    have nx : nI (24 - 8 * i) + (-8 : Int32) = nI 24 - nI (8 * (i + 1)) := by
      rw [← sh, show 8 * (i + 1) = 8 * i + 8 from by omega, ← y_subsub, Int32.sub_eq_add_neg (nI 24 - nI (8 * i))]
      rfl
    refine ⟨σ', ?_, by rw [e2]; congr 1; omega, fun c h1 h2 => ?_, e4, fun j hj => ?_, fun j hj => ?_⟩
    · rw [sh, p_X10_put_3, h0, show (1200 : Int32) = nI 1200 from rfl, if_pos ⟨nI_pos (by omega), (y_lt (by omega) (by omega)).mpr (by omega)⟩, y_ix (by omega) (by omega), nI_clamp (by omega)]
      simp only [j_lt]
      rw [j_r_ne (by omega), h0, show (1 : Int32) = nI 1 from rfl, nI_add, nx]
      exact e1
    · rw [e3 c h1 h2]; funext j; rw [j_r_ne h1, j_r_ne h2]
    · rw [e5 j (by omega), j_r_ne (by omega), j_r_nj (by omega)]
    · obtain _ | j := j
      · rw [Nat.add_zero, Nat.add_zero, e5 t (by omega), j_r_ne (by omega), j_r_eq]
      · have := e6 j (by omega)
        rw [show t + (j + 1) = t + 1 + j from by omega, this, show i + 1 + j = i + (j + 1) from by omega]
theorem yc_put (x : Int32) (t : Nat) (σ : j_G) (h0 : σ.1 19 0 = nI t) (ht : t + 4 ≤ 1200) : ∃ σ', f_X10_put x σ = some σ' ∧ σ'.1 19 0 = nI (t + 4) ∧ (∀ c, c ≠ 19 → c ≠ 20 → σ'.1 c = σ.1 c) ∧ σ'.2 = σ.2 ∧ (∀ j, j < t ∨ t + 4 ≤ j → σ'.1 20 j = σ.1 20 j) ∧ ∀ j, j < 4 → σ'.1 20 (t + j) = y_by x j := by
  obtain ⟨σ', e1, e2, e3, e4, e5, e6⟩ := yc_put1 x 4 0 j_F t σ (by omega) (y_F (by omega)) h0 ht
  refine ⟨σ', ?_, e2, e3, e4, e5, fun j hj => by rw [e6 j hj, Nat.zero_add]⟩
  unfold f_X10_put
  rw [show nI 24 - nI (8 * 0) = (24 : Int32) from by decide] at e1
  rw [e1]; rfl
theorem ym_put (f : Nat → Int32) (t : Nat) (ht : t + 20 ≤ 1200) : ∀ (m i n : Nat) (τ : j_G), i + m = 20 → m < n → τ.1 75 5 = nI t → (∀ q, q < 5 → τ.1 80 q = f q) → ∃ τ', p_X12_feed_55 n (nI i) τ = some τ' ∧ (∀ c, c ≠ 79 → τ'.1 c = τ.1 c) ∧ τ'.2 = τ.2 ∧ (∀ j, j < t + i ∨ t + 20 ≤ j → τ'.1 79 j = τ.1 79 j) ∧ ∀ j, i ≤ j → j < 20 → τ'.1 79 (t + j) = y_by (f (j / 4)) (j % 4) := by
  intro m
  induction m with
  | zero =>
    intro i n τ h hn h0 hf
    obtain ⟨n, rfl⟩ := y_pos hn
    refine ⟨τ, ?_, fun _ _ => rfl, rfl, fun _ _ => rfl, fun j a c => by omega⟩
    unfold p_X12_feed_55; simp (disch := omega) only [y_lit, y_n1, nI_add, pk_mul, j_lt, j_b1_s, j_b2_s, j_b3_s, j_b0_s, y_bo, y_bo1, y_bo0, y_i0, y_i1, Classical.not_not, nI_clamp, y_ix, y_lt, y_le, y_eq, y_nP, y_nPs, y_ltP, y_ltQ, y_ltPP, y_eqP, y_eqQ, y_eqPP, if_pos, if_neg, ite_true, ite_false, not_true_eq_false, not_false_eq_true, and_true, true_and, and_false, false_and, or_true, true_or, or_false, false_or]
  | succ m ih =>
    intro i n τ h hn h0 hf
    obtain ⟨n, rfl⟩ := y_pos hn
    have hby : vp_nar .byte ((τ.1 80 (i / 4)) >>> ((nI 24 - nI (8 * (i % 4))) &&& nI 31)).toInt8.toInt32 = y_by (f (i / 4)) (i % 4) := by
      rw [hf _ (by omega), pk_sub (by omega)]; rfl
    have em : nI i - nI (i / 4 * 4) = nI (i % 4) := by
      rw [← pk_mul, ← pk_div (by omega) (by omega) (by omega), pk_rem (by omega) (by omega) (by omega)]
    obtain ⟨τ', e1, e2, e3, e4, e5⟩ := ih (i + 1) n (j_si τ 79 (t + i) (y_by (f (i / 4)) (i % 4))) (by omega) (by omega) (by simp (disch := omega) only [j_r_ne, j_r_eq, j_r_nj]; exact h0) (fun q hq => by simp (disch := omega) only [j_r_ne, j_r_eq, j_r_nj]; exact hf q hq)
    refine ⟨τ', ?_, fun c hc => ?_, e3, fun j hj => ?_, fun j a c => ?_⟩
    · unfold p_X12_feed_55
      simp (disch := omega) only [y_lit, y_n1, nI_add, pk_mul, j_lt, j_b1_s, j_b2_s, j_b3_s, j_b0_s, y_bo, y_bo1, y_bo0, y_i0, y_i1, Classical.not_not, nI_clamp, y_ix, y_lt, y_le, y_eq, y_nP, y_nPs, y_ltP, y_ltQ, y_ltPP, y_eqP, y_eqQ, y_eqPP, if_pos, if_neg, ite_true, ite_false, not_true_eq_false, not_false_eq_true, and_true, true_and, and_false, false_and, or_true, true_or, or_false, false_or, h0, pk_div]
      rw [em]
      simp (disch := omega) only [pk_mul]
      rw [hby]
      exact e1
    · rw [e2 c hc]; funext j; exact j_r_ne hc
    · rw [e4 j (by omega), j_r_nj (by omega)]
    · by_cases e : j = i
      · subst e; rw [e4 _ (by omega), j_r_eq]
      · exact e5 j (by omega) c
end F
section Z
variable {σ τ : j_G}
theorem z_end (hR : j_Rel σ τ) (a1 : Int32) : ∃ v σ1 τ1, f_X11_end a1 σ = some (v, σ1) ∧ f_X12_end a1 τ = some (v, τ1) ∧ j_Rel σ1 τ1 := by
  obtain ⟨b, hW, hN, hM, hK⟩ := id hR
  obtain ⟨n, hn, t1, t2, t3⟩ := hK.2.2.1
  by_cases h : y_rg a1 (n + 1)
  · obtain ⟨k, hk, rfl⟩ := y_of _ _ h.1 h.2
    refine ⟨nI k, j_si σ 19 0 (nI k), j_si τ 75 5 (nI k), ?_, ?_, y_tape hR (fun x a c => funext fun j => j_r_ne a) rfl (fun j hj => j_r_nj hj) (fun x a c d => funext fun j => j_r_ne a) rfl ⟨k, by omega, j_r_eq, j_r_eq, fun i hi => ?_⟩⟩
    · unfold f_X11_end; rw [t1]; simp (disch := omega) only [y_lit, y_n1, nI_add, pk_mul, j_lt, j_b1_s, j_b2_s, j_b3_s, j_b0_s, y_bo, y_bo1, y_bo0, y_i0, y_i1, Classical.not_not, nI_clamp, y_ix, y_lt, y_le, y_eq, y_nP, y_nPs, y_ltP, y_ltQ, y_ltPP, y_eqP, y_eqQ, y_eqPP, if_pos, if_neg, ite_true, ite_false, not_true_eq_false, not_false_eq_true, and_true, true_and, and_false, false_and, or_true, true_or, or_false, false_or, y_c5, h]
    · unfold f_X12_end; rw [t2]; simp (disch := omega) only [y_lit, y_n1, nI_add, pk_mul, j_lt, j_b1_s, j_b2_s, j_b3_s, j_b0_s, y_bo, y_bo1, y_bo0, y_i0, y_i1, Classical.not_not, nI_clamp, y_ix, y_lt, y_le, y_eq, y_nP, y_nPs, y_ltP, y_ltQ, y_ltPP, y_eqP, y_eqQ, y_eqPP, if_pos, if_neg, ite_true, ite_false, not_true_eq_false, not_false_eq_true, and_true, true_and, and_false, false_and, or_true, true_or, or_false, false_or, y_lit64, y_in, y_c3, h]
    · rw [j_r_ne (by omega), j_r_ne (by omega)]; exact t3 i (by omega)
  · refine ⟨-1, σ, τ, ?_, ?_, hR⟩
    · unfold f_X11_end; rw [t1]; simp (disch := omega) only [y_lit, y_n1, nI_add, pk_mul, j_lt, j_b1_s, j_b2_s, j_b3_s, j_b0_s, y_bo, y_bo1, y_bo0, y_i0, y_i1, Classical.not_not, nI_clamp, y_ix, y_lt, y_le, y_eq, y_nP, y_nPs, y_ltP, y_ltQ, y_ltPP, y_eqP, y_eqQ, y_eqPP, if_pos, if_neg, ite_true, ite_false, not_true_eq_false, not_false_eq_true, and_true, true_and, and_false, false_and, or_true, true_or, or_false, false_or, y_c5, h]
    · unfold f_X12_end; rw [t2]; simp (disch := omega) only [y_lit, y_n1, nI_add, pk_mul, j_lt, j_b1_s, j_b2_s, j_b3_s, j_b0_s, y_bo, y_bo1, y_bo0, y_i0, y_i1, Classical.not_not, nI_clamp, y_ix, y_lt, y_le, y_eq, y_nP, y_nPs, y_ltP, y_ltQ, y_ltPP, y_eqP, y_eqQ, y_eqPP, if_pos, if_neg, ite_true, ite_false, not_true_eq_false, not_false_eq_true, and_true, true_and, and_false, false_and, or_true, true_or, or_false, false_or, y_lit64, y_in, y_c3, h]
theorem z_feed (hR : j_Rel σ τ) (a1 a2 a3 a4 a5 : Int32) : ∃ v σ1 τ1, f_X11_feed a1 a2 a3 a4 a5 σ = some (v, σ1) ∧ f_X12_feed a1 a2 a3 a4 a5 τ = some (v, τ1) ∧ j_Rel σ1 τ1 := by
  obtain ⟨b, hW, hN, hM, hK⟩ := id hR
  obtain ⟨t, hn, t1, t2, t3⟩ := hK.2.2.1
  by_cases h : t + 20 ≤ 1200
  · obtain ⟨σ1, a1', b1, c1, d1, p1, q1⟩ := yc_put a1 t σ t1 (by omega)
    obtain ⟨σ2, a2', b2, c2, d2, p2, q2⟩ := yc_put a2 _ σ1 b1 (by omega)
    obtain ⟨σ3, a3', b3, c3, d3, p3, q3⟩ := yc_put a3 _ σ2 b2 (by omega)
    obtain ⟨σ4, a4', b4, c4, d4, p4, q4⟩ := yc_put a4 _ σ3 b3 (by omega)
    obtain ⟨σ5, a5', b5, c5, d5, p5, q5⟩ := yc_put a5 _ σ4 b4 (by omega)
    have bytes : ∀ j, j < 20 → σ5.1 20 (t + j) = y_by ((fun q => if q = 0 then a1 else if q = 1 then a2 else if q = 2 then a3 else if q = 3 then a4 else a5) (j / 4)) (j % 4) := by
      intro j hj
      show σ5.1 20 (t + j) = y_by (if j / 4 = 0 then a1 else if j / 4 = 1 then a2 else if j / 4 = 2 then a3 else if j / 4 = 3 then a4 else a5) (j % 4)
      have w : j / 4 = 0 ∨ j / 4 = 1 ∨ j / 4 = 2 ∨ j / 4 = 3 ∨ j / 4 = 4 := by omega
      rcases w with w | w | w | w | w
      · rw [w, if_pos rfl, p5 _ (by omega), p4 _ (by omega), p3 _ (by omega), p2 _ (by omega), show t + j = t + j % 4 from by omega, q1 _ (by omega)]
      · rw [w, if_neg (by omega), if_pos rfl, p5 _ (by omega), p4 _ (by omega), p3 _ (by omega), show t + j = t + 4 + j % 4 from by omega, q2 _ (by omega)]
      · rw [w, if_neg (by omega), if_neg (by omega), if_pos rfl, p5 _ (by omega), p4 _ (by omega), show t + j = t + 4 + 4 + j % 4 from by omega, q3 _ (by omega)]
      · rw [w, if_neg (by omega), if_neg (by omega), if_neg (by omega), if_pos rfl, p5 _ (by omega), show t + j = t + 4 + 4 + 4 + j % 4 from by omega, q4 _ (by omega)]
      · rw [w, if_neg (by omega), if_neg (by omega), if_neg (by omega), if_neg (by omega), show t + j = t + 4 + 4 + 4 + 4 + j % 4 from by omega, q5 _ (by omega)]
    obtain ⟨τ1, g1, g2, g3, g4, g5⟩ := ym_put (fun q => if q = 0 then a1 else if q = 1 then a2 else if q = 2 then a3 else if q = 3 then a4 else a5) t h 20 0 j_F (j_si (j_si (j_si (j_si (j_si τ 80 0 a1) 80 1 a2) 80 2 a3) 80 3 a4) 80 4 a5) (by omega) (y_F (by omega)) (by simp (disch := omega) only [j_r_ne, j_r_eq, j_r_nj]; exact t2) (fun q hq => by
      obtain rfl | rfl | rfl | rfl | rfl : q = 0 ∨ q = 1 ∨ q = 2 ∨ q = 3 ∨ q = 4 := by omega
      · simp (disch := omega) only [j_r_ne, j_r_eq, j_r_nj]; rfl
      · simp (disch := omega) only [j_r_ne, j_r_eq, j_r_nj]; rfl
      · simp (disch := omega) only [j_r_ne, j_r_eq, j_r_nj]; rfl
      · simp (disch := omega) only [j_r_ne, j_r_eq, j_r_nj]; rfl
      · simp (disch := omega) only [j_r_ne, j_r_eq, j_r_nj]; rfl)
    have e5 : τ1.1 75 5 = nI t := by rw [g2 75 (by omega)]; simp (disch := omega) only [j_r_ne, j_r_eq, j_r_nj]; exact t2
    refine ⟨nI (t + 20), σ5, j_si τ1 75 5 (nI (t + 20)), ?_, ?_, y_tape hR (fun x a c => ?_) ?_ (fun j hj => ?_) (fun x a c d => ?_) ?_ ⟨t + 20, h, ?_, j_r_eq, fun i hi => ?_⟩⟩
    · have nl : ¬ nI 1200 < nI (t + 20) := by rw [y_lt (by omega) (by omega)]; omega
      unfold f_X11_feed
      rw [t1, show (20 : Int32) = nI 20 from rfl, show (1200 : Int32) = nI 1200 from rfl, nI_add, if_neg nl]
      rw [a1', j_b1_s, a2', j_b1_s, a3', j_b1_s, a4', j_b1_s, a5', j_b1_s, b5]
    · have nl : ¬ nI 1200 < nI (t + 20) := by rw [y_lt (by omega) (by omega)]; omega
      unfold f_X12_feed
      rw [t2, show (20 : Int32) = nI 20 from rfl, show (1200 : Int32) = nI 1200 from rfl, nI_add, if_neg nl]
      simp only [j_lt]
      rw [j_ixp (by decide), j_ixp (by decide), j_ixp (by decide), j_ixp (by decide), j_ixp (by decide), show (0 : Int32).toNatClampNeg = 0 from by decide, show (1 : Int32).toNatClampNeg = 1 from by decide, show (2 : Int32).toNatClampNeg = 2 from by decide, show (3 : Int32).toNatClampNeg = 3 from by decide, show (4 : Int32).toNatClampNeg = 4 from by decide, show (0 : Int32) = nI 0 from rfl, g1, j_b1_s, e5, nI_add, j_r_eq]
    · rw [c5 x a c, c4 x a c, c3 x a c, c2 x a c, c1 x a c]
    · rw [d5, d4, d3, d2, d1]
    · rw [j_r_nj hj, g2 75 (by omega)]; simp (disch := omega) only [j_r_ne, j_r_eq, j_r_nj]
    · have : (j_si τ1 75 5 (nI (t + 20))).1 x = τ1.1 x := funext fun j => j_r_ne a
      rw [this, g2 x c]; funext j; simp (disch := omega) only [j_r_ne, j_r_eq, j_r_nj]
    · show τ1.2 = τ.2; rw [g3]; rfl
    · rw [b5]
    · rw [j_r_ne (by omega)]
      by_cases c : i < t
      · rw [p5 i (by omega), p4 i (by omega), p3 i (by omega), p2 i (by omega), p1 i (by omega), g4 i (by omega)]
        simp (disch := omega) only [j_r_ne, j_r_eq, j_r_nj]
        exact t3 i c
      · obtain ⟨j, rfl⟩ : ∃ j, i = t + j := ⟨i - t, by omega⟩
        rw [bytes j (by omega), g5 j (by omega) (by omega)]
        exact ⟨rfl, y_by_bd _ _⟩
  · refine ⟨-1, σ, τ, ?_, ?_, hR⟩
    · have nl : nI 1200 < nI (t + 20) := by rw [y_lt (by omega) (by omega)]; omega
      unfold f_X11_feed
      rw [t1, show (20 : Int32) = nI 20 from rfl, show (1200 : Int32) = nI 1200 from rfl, nI_add, if_pos nl]
    · have nl : nI 1200 < nI (t + 20) := by rw [y_lt (by omega) (by omega)]; omega
      unfold f_X12_feed
      rw [t2, show (20 : Int32) = nI 20 from rfl, show (1200 : Int32) = nI 1200 from rfl, nI_add, if_pos nl]
end Z
/-! ===== paste ===== -/
theorem ym_mv1 {s : Nat} (hs : s < 4) {i k t n : Nat} (hi : i + n ≤ 60) (x y : Int32) : ∀ (m q f : Nat) (τ : j_G), q + m = n → m < f → ∃ τ', p_X12_paste_113 (nI s) (nI i) x y (nI n) f (nI q) τ = some τ' ∧ τ'.1 = τ.1 ∧ (∀ c, c ≠ 97 → τ'.2 c = τ.2 c) ∧ (∀ j, j < q → τ'.2 97 j = τ.2 97 j) ∧ ∀ j, q ≤ j → j < n → τ'.2 97 j = τ.2 96 (60 * s + i + j) := by
  intro m
  induction m with
  | zero =>
    intro q f τ h hf
    obtain ⟨f, rfl⟩ := y_pos hf
    refine ⟨τ, ?_, rfl, fun _ _ => rfl, fun _ _ => rfl, fun j a c => by omega⟩
    unfold p_X12_paste_113; simp (disch := omega) only [y_lit, y_n1, nI_add, pk_mul, j_lt, j_b1_s, j_b2_s, j_b3_s, j_b0_s, y_bo, y_bo1, y_bo0, y_i0, y_i1, Classical.not_not, nI_clamp, y_ix, y_lt, y_le, y_eq, y_nP, y_nPs, y_ltP, y_ltQ, y_ltPP, y_eqP, y_eqQ, y_eqPP, if_pos, if_neg, ite_true, ite_false, not_true_eq_false, not_false_eq_true, and_true, true_and, and_false, false_and, or_true, true_or, or_false, false_or]
  | succ m ih =>
    intro q f τ h hf
    obtain ⟨f, rfl⟩ := y_pos hf
    obtain ⟨τ', e1, e2, e3, e4, e5⟩ := ih (q + 1) f (j_sl τ 97 q (τ.2 96 (60 * s + i + q))) (by omega) (by omega)
    refine ⟨τ', ?_, e2, fun c hc => ?_, fun j hj => ?_, fun j a c => ?_⟩
    · unfold p_X12_paste_113; simp (disch := omega) only [y_lit, y_n1, nI_add, pk_mul, j_lt, j_b1_s, j_b2_s, j_b3_s, j_b0_s, y_bo, y_bo1, y_bo0, y_i0, y_i1, Classical.not_not, nI_clamp, y_ix, y_lt, y_le, y_eq, y_nP, y_nPs, y_ltP, y_ltQ, y_ltPP, y_eqP, y_eqQ, y_eqPP, if_pos, if_neg, ite_true, ite_false, not_true_eq_false, not_false_eq_true, and_true, true_and, and_false, false_and, or_true, true_or, or_false, false_or]; exact e1
    · rw [e3 c hc]; funext j; exact j_l_ne hc
    · rw [e4 j (by omega), j_l_nj (by omega)]
    · by_cases e : j = q
      · subst e; rw [e4 _ (by omega), j_l_eq]
      · rw [e5 j (by omega) c, j_l_ne (by omega)]
theorem ym_mv2 {t : Nat} (ht : t < 4) {k n : Nat} (hk : k + n ≤ 60) : ∀ (m q f : Nat) (τ : j_G), q + m = n → m < f → ∃ τ', p_X12_paste_150 (nI t) (nI k) (nI n) f (nI q) τ = some τ' ∧ τ'.1 = τ.1 ∧ (∀ c, c ≠ 96 → τ'.2 c = τ.2 c) ∧ (∀ j, j < 60 * t + k + q ∨ 60 * t + k + n ≤ j → τ'.2 96 j = τ.2 96 j) ∧ ∀ j, q ≤ j → j < n → τ'.2 96 (60 * t + k + j) = τ.2 97 j := by
  intro m
  induction m with
  | zero =>
    intro q f τ h hf
    obtain ⟨f, rfl⟩ := y_pos hf
    refine ⟨τ, ?_, rfl, fun _ _ => rfl, fun _ _ => rfl, fun j a c => by omega⟩
    unfold p_X12_paste_150; simp (disch := omega) only [y_lit, y_n1, nI_add, pk_mul, j_lt, j_b1_s, j_b2_s, j_b3_s, j_b0_s, y_bo, y_bo1, y_bo0, y_i0, y_i1, Classical.not_not, nI_clamp, y_ix, y_lt, y_le, y_eq, y_nP, y_nPs, y_ltP, y_ltQ, y_ltPP, y_eqP, y_eqQ, y_eqPP, if_pos, if_neg, ite_true, ite_false, not_true_eq_false, not_false_eq_true, and_true, true_and, and_false, false_and, or_true, true_or, or_false, false_or]
  | succ m ih =>
    intro q f τ h hf
    obtain ⟨f, rfl⟩ := y_pos hf
    obtain ⟨τ', e1, e2, e3, e4, e5⟩ := ih (q + 1) f (j_sl τ 96 (60 * t + k + q) (τ.2 97 q)) (by omega) (by omega)
    refine ⟨τ', ?_, e2, fun c hc => ?_, fun j hj => ?_, fun j a c => ?_⟩
    · unfold p_X12_paste_150; simp (disch := omega) only [y_lit, y_n1, nI_add, pk_mul, j_lt, j_b1_s, j_b2_s, j_b3_s, j_b0_s, y_bo, y_bo1, y_bo0, y_i0, y_i1, Classical.not_not, nI_clamp, y_ix, y_lt, y_le, y_eq, y_nP, y_nPs, y_ltP, y_ltQ, y_ltPP, y_eqP, y_eqQ, y_eqPP, if_pos, if_neg, ite_true, ite_false, not_true_eq_false, not_false_eq_true, and_true, true_and, and_false, false_and, or_true, true_or, or_false, false_or]; exact e1
    · rw [e3 c hc]; funext j; exact j_l_ne hc
    · rw [e4 j (by omega), j_l_nj (by omega)]
    · by_cases e : j = q
      · subst e; rw [e4 _ (by omega), j_l_eq]
      · rw [e5 j (by omega) c, j_l_ne (by omega)]
/-- the class's paste between two slots -/
def y_pst (c d c2 d2 : Nat) (l2 l4 l5 : Int32) (σ : j_G) : Option (Int32 × j_G) :=
  if ((f_X8_isMade c σ) = nI 0) ∨ ((f_X8_isMade c2 σ) = nI 0) then (some (-2 - 4, σ)) else (if ¬ (σ.1 c 1) = (σ.1 c2 1) then (some (-2 - 6, σ)) else (if ((f_X8_hasPart c l2 l5 σ) = nI 0) ∨ ((f_X8_hasPart c2 l4 l5 σ) = nI 0) then (some (-2 - 5, σ)) else (j_cg l2 l4 l5 60 60 (some (nI 0, j_cl σ d (l2).toNatClampNeg d2 (l4).toNatClampNeg (l5).toNatClampNeg)))))
theorem yc_pst {s t c d c2 d2 : Nat} (hs : y_sc s c d) (ht : y_sc t c2 d2) (l2 l4 l5 : Int32) (σ : j_G) : f_X11_paste (nI s) l2 (nI t) l4 l5 σ = y_pst c d c2 d2 l2 l4 l5 σ := by
  have s4 : s < 4 := by unfold y_sc at hs; omega
  have t4 : t < 4 := by unfold y_sc at ht; omega
  have i4 : ∀ k, k < 4 → f_X11_isSlot (nI k) = nI 1 := fun k hk => by rw [yc_isSlot, if_pos ((y_rn (by omega)).mpr hk)]
  have n1 : ¬ (nI 1 = 0 ∨ nI 1 = 0) := by decide
  have e6 : (-6 : Int32) = -2 - 4 := by decide
  have e8 : (-8 : Int32) = -2 - 6 := by decide
  have e7 : (-7 : Int32) = -2 - 5 := by decide
  unfold f_X11_paste
  rw [i4 s s4, i4 t t4, if_neg n1]
  unfold y_pst
  rcases hs with ⟨rfl, rfl, rfl⟩ | ⟨rfl, rfl, rfl⟩ | ⟨rfl, rfl, rfl⟩ | ⟨rfl, rfl, rfl⟩
  · rw [if_pos (show nI 0 = (0 : Int32) from rfl), e6, e8, e7]
    rcases ht with ⟨rfl, rfl, rfl⟩ | ⟨rfl, rfl, rfl⟩ | ⟨rfl, rfl, rfl⟩ | ⟨rfl, rfl, rfl⟩
    · rw [if_pos (show nI 0 = (0 : Int32) from rfl)]; rfl
    · rw [if_neg (by decide), if_pos (show nI 1 = (1 : Int32) from rfl)]; rfl
    · rw [if_neg (by decide), if_neg (by decide), if_pos (show nI 2 = (2 : Int32) from rfl)]; rfl
    · rw [if_neg (by decide), if_neg (by decide), if_neg (by decide), if_pos (show nI 3 = (3 : Int32) from rfl)]; rfl
  · rw [if_neg (show ¬ nI 1 = (0 : Int32) by decide), if_pos (show nI 1 = (1 : Int32) from rfl), e6, e8, e7]
    rcases ht with ⟨rfl, rfl, rfl⟩ | ⟨rfl, rfl, rfl⟩ | ⟨rfl, rfl, rfl⟩ | ⟨rfl, rfl, rfl⟩
    · rw [if_pos (show nI 0 = (0 : Int32) from rfl)]; rfl
    · rw [if_neg (by decide), if_pos (show nI 1 = (1 : Int32) from rfl)]; rfl
    · rw [if_neg (by decide), if_neg (by decide), if_pos (show nI 2 = (2 : Int32) from rfl)]; rfl
    · rw [if_neg (by decide), if_neg (by decide), if_neg (by decide), if_pos (show nI 3 = (3 : Int32) from rfl)]; rfl
  · rw [if_neg (show ¬ nI 2 = (0 : Int32) by decide), if_neg (show ¬ nI 2 = (1 : Int32) by decide), if_pos (show nI 2 = (2 : Int32) from rfl), e6, e8, e7]
    rcases ht with ⟨rfl, rfl, rfl⟩ | ⟨rfl, rfl, rfl⟩ | ⟨rfl, rfl, rfl⟩ | ⟨rfl, rfl, rfl⟩
    · rw [if_pos (show nI 0 = (0 : Int32) from rfl)]; rfl
    · rw [if_neg (by decide), if_pos (show nI 1 = (1 : Int32) from rfl)]; rfl
    · rw [if_neg (by decide), if_neg (by decide), if_pos (show nI 2 = (2 : Int32) from rfl)]; rfl
    · rw [if_neg (by decide), if_neg (by decide), if_neg (by decide), if_pos (show nI 3 = (3 : Int32) from rfl)]; rfl
  · rw [if_neg (show ¬ nI 3 = (0 : Int32) by decide), if_neg (show ¬ nI 3 = (1 : Int32) by decide), if_neg (show ¬ nI 3 = (2 : Int32) by decide), if_pos (show nI 3 = (3 : Int32) from rfl), e6, e8, e7]
    rcases ht with ⟨rfl, rfl, rfl⟩ | ⟨rfl, rfl, rfl⟩ | ⟨rfl, rfl, rfl⟩ | ⟨rfl, rfl, rfl⟩
    · rw [if_pos (show nI 0 = (0 : Int32) from rfl)]; rfl
    · rw [if_neg (by decide), if_pos (show nI 1 = (1 : Int32) from rfl)]; rfl
    · rw [if_neg (by decide), if_neg (by decide), if_pos (show nI 2 = (2 : Int32) from rfl)]; rfl
    · rw [if_neg (by decide), if_neg (by decide), if_neg (by decide), if_pos (show nI 3 = (3 : Int32) from rfl)]; rfl
/-- a part of a row -/
def y_pt (n : Nat) (i m : Int32) : Prop := 0 ≤ i.toInt ∧ 0 ≤ m.toInt ∧ i.toInt + m.toInt ≤ n
theorem yc_part {σ : j_G} {c n : Nat} (h : σ.1 c 0 = nI n) (hn : n ≤ 60) (i m : Int32) : (f_X8_hasPart c i m σ = nI 0) ↔ ¬ y_pt n i m := by
  have e : ((¬ i < 0) ∧ ((¬ m < 0) ∧ ((¬ (σ.1 c 0) < i) ∧ (¬ ((σ.1 c 0) - i) < m)))) ↔ y_pt n i m := by
    rw [h, j_ltI, j_ltI, j_ltI, j_ltI, show (0 : Int32).toInt = 0 from by decide, nI_toInt (by omega)]
    unfold y_pt
    by_cases z : 0 ≤ i.toInt ∧ i.toInt ≤ n
    · rw [j_sbI (by rw [nI_toInt (by omega)]; omega) (by rw [nI_toInt (by omega)]; omega), nI_toInt (by omega)]; omega
    · constructor
      · intro q; omega
      · intro q; omega
  unfold f_X8_hasPart
  by_cases z : y_pt n i m
  · rw [if_pos (e.mpr z)]
    exact ⟨fun q => absurd q (by decide), fun q => absurd z q⟩
  · rw [if_neg (fun q => z (e.mp q))]
    exact ⟨fun _ => z, fun _ => rfl⟩
section Z
variable {σ τ : j_G}
theorem z_paste (hR : j_Rel σ τ) (a1 a2 a3 a4 a5 : Int32) : ∃ v σ1 τ1, f_X11_paste a1 a2 a3 a4 a5 σ = some (v, σ1) ∧ f_X12_paste a1 a2 a3 a4 a5 τ = some (v, τ1) ∧ j_Rel σ1 τ1 := by
  obtain ⟨b, hW, hN, hM, hK⟩ := id hR
  by_cases h : y_rg a1 4 ∧ y_rg a3 4
  · obtain ⟨s, hs, rfl⟩ := y_of _ _ h.1.1 h.1.2
    obtain ⟨t, ht, rfl⟩ := y_of _ _ h.2.1 h.2.2
    obtain ⟨c, d, hc, hk⟩ := hK.slot s hs
    obtain ⟨c2, d2, hc2, hk2⟩ := hK.slot t ht
    have i4 : ∀ k, k < 4 → f_X12_isSlot (nI k) = nI 1 := fun k hk => by rw [ym_isSlot, if_pos ((y_rn (by omega)).mpr hk)]
    have n1 : ¬ (nI 1 = 0 ∨ nI 1 = 0) := by decide
    have cl := yc_pst hc hc2 a2 a4 a5 σ
    have made : ∀ c n, σ.1 c 0 = nI n → n ≤ 60 → ¬ f_X8_isMade c σ = nI 0 := by
      intro c n e hn; unfold f_X8_isMade; simp (disch := omega) only [y_lit, y_n1, nI_add, pk_mul, j_lt, j_b1_s, j_b2_s, j_b3_s, j_b0_s, y_bo, y_bo1, y_bo0, y_i0, y_i1, Classical.not_not, nI_clamp, y_ix, y_lt, y_le, y_eq, y_nP, y_nPs, y_ltP, y_ltQ, y_ltPP, y_eqP, y_eqQ, y_eqPP, if_pos, if_neg, ite_true, ite_false, not_true_eq_false, not_false_eq_true, and_true, true_and, and_false, false_and, or_true, true_or, or_false, false_or, e]; omega
    have unmade : ∀ c, σ.1 c 0 = nP 0 → f_X8_isMade c σ = nI 0 := by
      intro c e; unfold f_X8_isMade; simp (disch := omega) only [y_lit, y_n1, nI_add, pk_mul, j_lt, j_b1_s, j_b2_s, j_b3_s, j_b0_s, y_bo, y_bo1, y_bo0, y_i0, y_i1, Classical.not_not, nI_clamp, y_ix, y_lt, y_le, y_eq, y_nP, y_nPs, y_ltP, y_ltQ, y_ltPP, y_eqP, y_eqQ, y_eqPP, if_pos, if_neg, ite_true, ite_false, not_true_eq_false, not_false_eq_true, and_true, true_and, and_false, false_and, or_true, true_or, or_false, false_or, e]
    rcases hk with ⟨k1, k2⟩ | ⟨n, w, hr⟩
    · refine ⟨-2 - 4, σ, τ, ?_, ?_, hR⟩
      · rw [cl]; unfold y_pst; rw [if_pos (Or.inl (unmade c k1))]
      · unfold f_X12_paste
        rw [i4 s hs, i4 t ht, if_neg n1, y_ix hs (by omega), nI_clamp (by omega), k2, y_m1, if_neg (fun z => z rfl)]; rfl
    · obtain ⟨_, hn, hw, r1, r2, r3, r4, r5⟩ := id hr
      have np : ¬ nI n = (-1 : Int32) := by rw [y_m1, y_eqQ (by omega) (by omega)]; omega
      rcases hk2 with ⟨k1, k2⟩ | ⟨n2, w2, hr2⟩
      · refine ⟨-2 - 4, σ, τ, ?_, ?_, hR⟩
        · rw [cl]; unfold y_pst; rw [if_pos (Or.inr (unmade c2 k1))]
        · unfold f_X12_paste
          rw [i4 s hs, i4 t ht, if_neg n1, y_ix hs (by omega), nI_clamp (by omega), r2, if_pos np, y_ix ht (by omega), nI_clamp (by omega), k2, y_m1, if_pos rfl]; rfl
      · obtain ⟨_, hn2, hw2, p1, p2, p3, p4, p5⟩ := id hr2
        have np2 : ¬ nI n2 = (-1 : Int32) := by rw [y_m1, y_eqQ (by omega) (by omega)]; omega
        have nm : ¬ (f_X8_isMade c σ = nI 0 ∨ f_X8_isMade c2 σ = nI 0) := fun z => z.elim (made c n r1 hn) (made c2 n2 p1 hn2)
        by_cases ew : w = w2
        · subst ew
          by_cases pp : y_pt n a2 a5 ∧ y_pt n2 a4 a5
          · obtain ⟨⟨x1, x2, x3⟩, ⟨x4, x5, x6⟩⟩ := pp
            obtain ⟨i, hi, rfl⟩ := y_of a2 61 (by omega) (by omega)
            obtain ⟨m, hm, rfl⟩ := y_of a5 61 (by omega) (by omega)
            obtain ⟨k, hk, rfl⟩ := y_of a4 61 (by omega) (by omega)
            have pp1 : y_pt n (nI i) (nI m) := ⟨x1, x2, x3⟩
            have pp2 : y_pt n2 (nI k) (nI m) := ⟨x4, x5, x6⟩
            rw [nI_toInt (by omega), nI_toInt (by omega)] at x3 x6
            obtain ⟨τ1, e1, e2, e3, e4, e5⟩ := ym_mv1 (i := i) (k := k) (t := t) (n := m) hs (by omega) (nI t) (nI k) m 0 j_F τ (by omega) (y_F (by omega))
            obtain ⟨τ2, f1, f2, f3, f4, f5⟩ := ym_mv2 (t := t) (k := k) (n := m) ht (by omega) m 0 j_F τ1 (by omega) (y_F (by omega))
            have hd : ∀ j, j < n2 → (j_cl σ d i d2 k m).2 d2 j = τ2.2 96 (60 * t + j) := by
              intro j hj
              rw [j_cl_eq]
              by_cases q : k ≤ j ∧ j < k + m
              · rw [pk_cpy_in q.1 q.2]
                obtain ⟨x, rfl⟩ : ∃ x, j = k + x := ⟨j - k, by omega⟩
                rw [show i + (k + x - k) = i + x from by omega, r5 (i + x) (by omega), ← Nat.add_assoc (60 * t) k x, f5 x (by omega) (by omega), e5 x (by omega) (by omega), Nat.add_assoc]
              · rw [pk_cpy_out (by omega), p5 j hj, f4 _ (by omega), e3 96 (by omega)]
            refine ⟨nI 0, j_cl σ d i d2 k m, τ2, ?_, ?_, y_slots hR hc2 ⟨fun _ _ => rfl, fun x hx => funext fun j => j_cl_ne hx, fun x _ _ => by rw [f2, e2], fun x hx hx2 => by rw [f3 x hx, e3 x hx2], fun j _ => by rw [f2, e2]; exact ⟨rfl, rfl⟩, fun j hj => by rw [f4 j (by omega), e3 96 (by omega)]⟩ (Or.inr ⟨n2, w, hn2, hw, p1, by rw [f2, e2]; exact p2, p3, by rw [f2, e2]; exact p4, hd⟩)⟩
            · rw [cl]; unfold y_pst
              rw [if_neg nm, r3, p3, if_neg (fun z => z rfl), if_neg (fun z => z.elim (fun q => (yc_part r1 hn _ _).mp q pp1) (fun q => (yc_part p1 hn2 _ _).mp q pp2))]
              unfold j_cg
              rw [nI_clamp (by omega), nI_clamp (by omega), nI_clamp (by omega), if_neg]
              simp only [y_lit]
              rw [y_lt (by omega) (by omega), y_lt (by omega) (by omega), y_lt (by omega) (by omega)]
              omega
            · have l1 : ¬ (nI n).toInt64 < (nI i).toInt64 + (nI m).toInt64 := by
                rw [nI_l (by omega), nI_l (by omega), nI_l (by omega), lN_add, lN_lt (by omega) (by omega)]; omega
              have l2 : ¬ (nI n2).toInt64 < (nI k).toInt64 + (nI m).toInt64 := by
                rw [nI_l (by omega), nI_l (by omega), nI_l (by omega), lN_add, lN_lt (by omega) (by omega)]; omega
              unfold f_X12_paste
              rw [i4 s hs, i4 t ht, if_neg n1, y_ix hs (by omega), nI_clamp (by omega), r2, if_pos np, y_ix ht (by omega), nI_clamp (by omega), p2, if_neg np2, y_ix hs (by omega), y_ix ht (by omega), r4, p4, if_neg (fun z => z rfl), if_pos ⟨nI_pos (by omega), nI_pos (by omega), nI_pos (by omega)⟩, y_ix hs (by omega), if_pos l1, y_ix ht (by omega), if_neg l2, show (0 : Int32) = nI 0 from rfl, e1, j_b1_s, f1]
              rfl
          · refine ⟨-2 - 5, σ, τ, ?_, ?_, hR⟩
            · rw [cl]; unfold y_pst
              rw [if_neg nm, r3, p3, if_neg (fun z => z rfl), if_pos]
              rw [yc_part r1 hn, yc_part p1 hn2]
              by_cases q : y_pt n a2 a5
              · exact Or.inr (fun z => pp ⟨q, z⟩)
              · exact Or.inl q
            · unfold f_X12_paste
              rw [i4 s hs, i4 t ht, if_neg n1, y_ix hs (by omega), nI_clamp (by omega), r2, if_pos np, y_ix ht (by omega), nI_clamp (by omega), p2, if_neg np2, y_ix hs (by omega), y_ix ht (by omega), r4, p4, if_neg (fun z => z rfl), y_ix hs (by omega), y_ix ht (by omega)]
              by_cases q : (¬ a2 < 0) ∧ ((¬ a4 < 0) ∧ (¬ a5 < 0))
              · rw [if_pos q]
                rw [j_ltI, j_ltI, j_ltI, show (0 : Int32).toInt = 0 from by decide] at q
                have b2 := Int32.toInt_lt a2; have b4 := Int32.toInt_lt a4; have b5 := Int32.toInt_lt a5
                have ad : ∀ x y : Int32, 0 ≤ x.toInt → 0 ≤ y.toInt → x.toInt < 2147483648 → y.toInt < 2147483648 → (x.toInt64 + y.toInt64).toInt = x.toInt + y.toInt := by
                  intro x y h1 h2 h3 h4
                  rw [Int64.toInt_add, j_l64, j_l64, Int.bmod_eq_of_le (by omega) (by omega)]
                by_cases q1 : ¬ (nI n).toInt64 < a2.toInt64 + a5.toInt64
                · rw [if_pos q1]
                  rw [Int64.lt_iff_toInt_lt, ad a2 a5 (by omega) (by omega) (by omega) (by omega), j_l64, nI_toInt (by omega)] at q1
                  have q2 : (nI n2).toInt64 < a4.toInt64 + a5.toInt64 := by
                    rw [Int64.lt_iff_toInt_lt, ad a4 a5 (by omega) (by omega) (by omega) (by omega), j_l64, nI_toInt (by omega)]
                    have : ¬ y_pt n2 a4 a5 := fun z => pp ⟨⟨by omega, by omega, by omega⟩, z⟩
                    unfold y_pt at this; omega
                  rw [if_pos q2]; rfl
                · rw [if_neg q1]; rfl
              · rw [if_neg q]; rfl
        · have nw : ¬ nI w = nI w2 := by rw [y_eq (by omega) (by omega)]; exact ew
          refine ⟨-2 - 6, σ, τ, ?_, ?_, hR⟩
          · rw [cl]; unfold y_pst
            rw [if_neg nm, r3, p3, if_pos nw]
          · unfold f_X12_paste
            rw [i4 s hs, i4 t ht, if_neg n1, y_ix hs (by omega), nI_clamp (by omega), r2, if_pos np, y_ix ht (by omega), nI_clamp (by omega), p2, if_neg np2, y_ix hs (by omega), y_ix ht (by omega), r4, p4, if_pos nw]; rfl
  · refine ⟨-2, σ, τ, ?_, ?_, hR⟩
    · unfold f_X11_paste
      rw [if_pos]
      rw [yc_isSlot, yc_isSlot]
      by_cases q : y_rg a1 4
      · refine Or.inr ?_
        rw [if_neg (fun z => h ⟨q, z⟩)]; rfl
      · refine Or.inl ?_
        rw [if_neg q]; rfl
    · unfold f_X12_paste
      rw [if_pos]
      rw [ym_isSlot, ym_isSlot]
      by_cases q : y_rg a1 4
      · refine Or.inr ?_
        rw [if_neg (fun z => h ⟨q, z⟩)]; rfl
      · refine Or.inl ?_
        rw [if_neg q]; rfl
end Z
/-! ===== the tokens of a tape: B its bytes, n how many; a token behind p: its start, its kind (0 the end, 1 a word, 2 a number, 3 ;, 4 none), its end, its value ===== -/
def y_t (B : Nat → Int32) (i : Nat) : Nat := (B i).toBitVec.toNat % 256
def y_cl (B : Nat → Int32) (i : Nat) : Nat := if y_t B i = 32 ∨ y_t B i = 10 then 0 else if 97 ≤ y_t B i ∧ y_t B i ≤ 122 then 1 else if 48 ≤ y_t B i ∧ y_t B i ≤ 57 then 2 else if y_t B i = 59 then 3 else 4
def y_wl (B : Nat → Int32) (k : Nat) : Nat → Nat → Nat
  | 0, p => p
  | m + 1, p => if y_cl B p = k then y_wl B k m (p + 1) else p
def y_s (B : Nat → Int32) (n p : Nat) : Nat := y_wl B 0 (n - p) p
def y_kd (B : Nat → Int32) (n p : Nat) : Nat := if n ≤ y_s B n p then 0 else y_cl B (y_s B n p)
def y_e (B : Nat → Int32) (n p : Nat) : Nat := if n ≤ y_s B n p then y_s B n p else if y_cl B (y_s B n p) = 1 then y_wl B 1 (n - y_s B n p) (y_s B n p) else if y_cl B (y_s B n p) = 2 then y_wl B 2 (n - y_s B n p) (y_s B n p) else y_s B n p + 1
def y_v (B : Nat → Int32) : Nat → Nat → Nat → Nat
  | 0, _, v => v
  | m + 1, p, v => if y_cl B p = 2 then y_v B m (p + 1) (min 1000000 (10 * v + y_t B p - 48)) else v
def y_val (B : Nat → Int32) (n p : Nat) : Nat := if y_kd B n p = 2 then y_v B (n - y_s B n p) (y_s B n p) 0 else 0
theorem y_t_lt (B : Nat → Int32) (i : Nat) : y_t B i < 256 := Nat.mod_lt _ (by omega)
theorem y_wl_bd {B : Nat → Int32} {k : Nat} : ∀ m p, p ≤ y_wl B k m p ∧ y_wl B k m p ≤ p + m := by
  intro m
  induction m with
  | zero => intro p; exact ⟨Nat.le_refl _, Nat.le_refl _⟩
  | succ m ih => intro p; unfold y_wl; have := ih (p + 1); split <;> omega
theorem y_wl_no {B : Nat → Int32} {k : Nat} : ∀ m p, y_wl B k m p < p + m → y_cl B (y_wl B k m p) ≠ k := by
  intro m
  induction m with
  | zero => intro p h; unfold y_wl at h; omega
  | succ m ih =>
    intro p h
    unfold y_wl at h ⊢
    by_cases c : y_cl B p = k
    · rw [if_pos c] at h ⊢; exact ih (p + 1) (by omega)
    · rw [if_neg c]; exact c
theorem y_wl_in {B : Nat → Int32} {k : Nat} : ∀ m p j, p ≤ j → j < y_wl B k m p → y_cl B j = k := by
  intro m
  induction m with
  | zero => intro p j h1 h2; unfold y_wl at h2; omega
  | succ m ih =>
    intro p j h1 h2
    unfold y_wl at h2
    by_cases c : y_cl B p = k
    · rw [if_pos c] at h2
      by_cases e : j = p
      · subst e; exact c
      · exact ih (p + 1) j (by omega) h2
    · rw [if_neg c] at h2; omega
theorem y_s_bd {B : Nat → Int32} {n p : Nat} (h : p ≤ n) : p ≤ y_s B n p ∧ y_s B n p ≤ n := by
  have := y_wl_bd (B := B) (k := 0) (n - p) p
  unfold y_s; omega
theorem y_cl_c (B : Nat → Int32) (i : Nat) : y_cl B i ≤ 4 := by
  unfold y_cl
  repeat' split
  all_goals omega
theorem y_s_ne {B : Nat → Int32} {n p : Nat} (h : p ≤ n) (hs : y_s B n p < n) : y_cl B (y_s B n p) ≠ 0 := y_wl_no (n - p) p (by unfold y_s at hs; omega)
theorem y_e_bd {B : Nat → Int32} {n p : Nat} (h : p ≤ n) : y_s B n p ≤ y_e B n p ∧ y_e B n p ≤ n ∧ (y_s B n p < n → y_s B n p < y_e B n p) := by
  have s := y_s_bd (B := B) h
  unfold y_e
  by_cases c : n ≤ y_s B n p
  · rw [if_pos c]; omega
  · rw [if_neg c]
    generalize y_s B n p = q at *
    obtain ⟨m, hm⟩ : ∃ m, n - q = m + 1 := ⟨n - q - 1, by omega⟩
    by_cases c1 : y_cl B q = 1
    · rw [if_pos c1, hm]
      unfold y_wl; rw [if_pos c1]
      have := y_wl_bd (B := B) (k := 1) m (q + 1); omega
    · rw [if_neg c1]
      by_cases c2 : y_cl B q = 2
      · rw [if_pos c2, hm]
        unfold y_wl; rw [if_pos c2]
        have := y_wl_bd (B := B) (k := 2) m (q + 1); omega
      · rw [if_neg c2]; omega
theorem y_v_le {B : Nat → Int32} : ∀ m p v, v ≤ 1000000 → y_v B m p v ≤ 1000000 := by
  intro m
  induction m with
  | zero => intro p v h; exact h
  | succ m ih => intro p v h; unfold y_v; split; exact ih _ _ (by omega); exact h
theorem y_val_le (B : Nat → Int32) (n p : Nat) : y_val B n p ≤ 1000000 := by
  unfold y_val; split
  · exact y_v_le _ _ _ (by omega)
  · omega
theorem y_byt (x : Int32) : x &&& nI 255 = nI (x.toBitVec.toNat % 256) := by
  rw [show nI 255 = (255 : Int32) from rfl, pk_and x 8 (by decide)]
/-- what a sign is -/
theorem y_clB {B : Nat → Int32} {i : Nat} : (nI (y_t B i) = nI 32 ∨ nI (y_t B i) = nI 10) ↔ y_cl B i = 0 := by
  have := y_t_lt B i
  rw [y_eq (by omega) (by omega), y_eq (by omega) (by omega)]
  unfold y_cl
  generalize y_t B i = x
  by_cases c : x = 32 ∨ x = 10
  · rw [if_pos c]; exact ⟨fun _ => rfl, fun _ => c⟩
  · rw [if_neg c]
    refine ⟨fun z => absurd z c, fun z => ?_⟩
    revert z
    repeat' split
    all_goals omega
theorem y_clL {B : Nat → Int32} {i : Nat} : (97 ≤ y_t B i ∧ y_t B i ≤ 122) ↔ y_cl B i = 1 := by
  unfold y_cl
  generalize y_t B i = x
  constructor
  · intro h
    rw [if_neg (by omega), if_pos h]
  · intro z
    revert z
    repeat' split
    all_goals omega
theorem y_clD {B : Nat → Int32} {i : Nat} : (48 ≤ y_t B i ∧ y_t B i ≤ 57) ↔ y_cl B i = 2 := by
  unfold y_cl
  generalize y_t B i = x
  constructor
  · intro h
    rw [if_neg (by omega), if_neg (by omega), if_pos h]
  · intro z
    revert z
    repeat' split
    all_goals omega
theorem y_clS {B : Nat → Int32} {i : Nat} : y_t B i = 59 ↔ y_cl B i = 3 := by
  unfold y_cl
  generalize y_t B i = x
  constructor
  · intro h
    rw [if_neg (by omega), if_neg (by omega), if_neg (by omega), if_pos h]
  · intro z
    revert z
    repeat' split
    all_goals omega
section C
variable {B : Nat → Int32} {n : Nat}
/-- the class's tape -/
def y_ct (σ : j_G) (B : Nat → Int32) (n : Nat) : Prop := n ≤ 1200 ∧ σ.1 19 0 = nI n ∧ ∀ i, i < n → σ.1 20 i = B i
def y_cf10 (σ σ' : j_G) : Prop := (∀ c, c ≠ 10 → σ'.1 c = σ.1 c) ∧ σ'.2 = σ.2 ∧ σ'.1 10 1 = σ.1 10 1 ∧ σ'.1 10 2 = σ.1 10 2
theorem y_cf10.refl {σ : j_G} : y_cf10 σ σ := ⟨fun _ _ => rfl, rfl, rfl, rfl⟩
theorem y_cf10.trans {σ σ' σ'' : j_G} (h : y_cf10 σ σ') (h' : y_cf10 σ' σ'') : y_cf10 σ σ'' := ⟨fun c hc => (h'.1 c hc).trans (h.1 c hc), h'.2.1.trans h.2.1, h'.2.2.1.trans h.2.2.1, h'.2.2.2.trans h.2.2.2⟩
theorem y_cf10.si {σ σ' : j_G} {j : Nat} {v : Int32} (h : y_cf10 σ σ') (h1 : j ≠ 1) (h2 : j ≠ 2) : y_cf10 σ (j_si σ' 10 j v) :=
  ⟨fun c hc => (funext fun j' => j_r_ne hc).trans (h.1 c hc), h.2.1, (j_r_nj (fun z => h1 z.symm)).trans h.2.2.1, (j_r_nj (fun z => h2 z.symm)).trans h.2.2.2⟩
theorem y_ct.fr {σ σ' : j_G} (h : y_ct σ B n) (hf : y_cf10 σ σ') : y_ct σ' B n := by
  unfold y_ct at *; rw [hf.1 19 (by omega), hf.1 20 (by omega)]; exact h
theorem yc_at {σ : j_G} (h : y_ct σ B n) {i : Nat} (hi : i < n) : f_X10_at (nI i) σ = some (nI (y_t B i)) := by
  have hn := h.1
  unfold f_X10_at; simp (disch := omega) only [y_lit, y_n1, nI_add, pk_mul, j_lt, j_b1_s, j_b2_s, j_b3_s, j_b0_s, y_bo, y_bo1, y_bo0, y_i0, y_i1, Classical.not_not, nI_clamp, y_ix, y_lt, y_le, y_eq, y_nP, y_nPs, y_ltP, y_ltQ, y_ltPP, y_eqP, y_eqQ, y_eqPP, if_pos, if_neg, ite_true, ite_false, not_true_eq_false, not_false_eq_true, and_true, true_and, and_false, false_and, or_true, true_or, or_false, false_or, h.2.1, h.2.2, y_byt]
  rfl
theorem yc_atN {σ : j_G} (h : y_ct σ B n) {i : Nat} (hi : n ≤ i) (h2 : i < 5000) : f_X10_at (nI i) σ = some (nP 0) := by
  have hn := h.1
  unfold f_X10_at; simp (disch := omega) only [y_lit, y_n1, nI_add, pk_mul, j_lt, j_b1_s, j_b2_s, j_b3_s, j_b0_s, y_bo, y_bo1, y_bo0, y_i0, y_i1, Classical.not_not, nI_clamp, y_ix, y_lt, y_le, y_eq, y_nP, y_nPs, y_ltP, y_ltQ, y_ltPP, y_eqP, y_eqQ, y_eqPP, if_pos, if_neg, ite_true, ite_false, not_true_eq_false, not_false_eq_true, and_true, true_and, and_false, false_and, or_true, true_or, or_false, false_or, h.2.1]
theorem yc_bl {i : Nat} : f_X7_isBlank (nI (y_t B i)) = if y_cl B i = 0 then nI 1 else nI 0 := by
  unfold f_X7_isBlank; simp only [y_lit]
  by_cases c : y_cl B i = 0
  · rw [if_pos c, if_pos (y_clB.mpr c)]
  · rw [if_neg c, if_neg (fun z => c (y_clB.mp z))]
theorem yc_le {i : Nat} : f_X7_isLetter (nI (y_t B i)) = if y_cl B i = 1 then nI 1 else nI 0 := by
  have := y_t_lt B i
  unfold f_X7_isLetter; simp (disch := omega) only [y_lit, y_lt, Nat.not_lt, y_clL]
theorem yc_di {i : Nat} : f_X7_isDigit (nI (y_t B i)) = if y_cl B i = 2 then nI 1 else nI 0 := by
  have := y_t_lt B i
  unfold f_X7_isDigit; simp (disch := omega) only [y_lit, y_lt, Nat.not_lt, y_clD]
theorem yc_w8 : ∀ m p f (σ : j_G), p + m = n → m < f → y_ct σ B n → σ.1 10 6 = nI p → ∃ σ', p_X7_step_8 f σ = some σ' ∧ σ'.1 10 6 = nI (y_wl B 0 m p) ∧ y_cf10 σ σ' ∧ σ'.1 10 7 = σ.1 10 7 := by
  intro m
  induction m with
  | zero =>
    intro p f σ h hf ht h6
    obtain ⟨f, rfl⟩ := y_pos hf
    have hn := ht.1
    refine ⟨σ, ?_, h6, y_cf10.refl, rfl⟩
    unfold p_X7_step_8; simp (disch := omega) only [y_lit, y_n1, nI_add, pk_mul, j_lt, j_b1_s, j_b2_s, j_b3_s, j_b0_s, y_bo, y_bo1, y_bo0, y_i0, y_i1, Classical.not_not, nI_clamp, y_ix, y_lt, y_le, y_eq, y_nP, y_nPs, y_ltP, y_ltQ, y_ltPP, y_eqP, y_eqQ, y_eqPP, if_pos, if_neg, ite_true, ite_false, not_true_eq_false, not_false_eq_true, and_true, true_and, and_false, false_and, or_true, true_or, or_false, false_or, h6, ht.2.1]
  | succ m ih =>
    intro p f σ h hf ht h6
    obtain ⟨f, rfl⟩ := y_pos hf
    have hn := ht.1
    unfold p_X7_step_8 y_wl
    simp (disch := omega) only [y_lit, y_n1, nI_add, pk_mul, j_lt, j_b1_s, j_b2_s, j_b3_s, j_b0_s, y_bo, y_bo1, y_bo0, y_i0, y_i1, Classical.not_not, nI_clamp, y_ix, y_lt, y_le, y_eq, y_nP, y_nPs, y_ltP, y_ltQ, y_ltPP, y_eqP, y_eqQ, y_eqPP, if_pos, if_neg, ite_true, ite_false, not_true_eq_false, not_false_eq_true, and_true, true_and, and_false, false_and, or_true, true_or, or_false, false_or, h6, ht.2.1, yc_at ht, yc_bl]
    by_cases c : y_cl B p = 0
    · rw [if_pos c, if_pos c]
      have fr : y_cf10 σ (j_si σ 10 6 (nI (p + 1))) := y_cf10.refl.si (by omega) (by omega)
      obtain ⟨σ', e1, e2, e3, e4⟩ := ih (p + 1) f (j_si σ 10 6 (nI (p + 1))) (by omega) (by omega) (ht.fr fr) j_r_eq
      exact ⟨σ', e1, e2, fr.trans e3, by rw [e4, j_r_nj (by omega)]⟩
    · rw [if_neg c, if_neg c]
      exact ⟨σ, rfl, h6, y_cf10.refl, rfl⟩
theorem yc_w102 : ∀ m p f (σ : j_G), p + m = n → m < f → y_ct σ B n → σ.1 10 7 = nI p → ∃ σ', p_X7_step_102 f σ = some σ' ∧ σ'.1 10 7 = nI (y_wl B 1 m p) ∧ y_cf10 σ σ' ∧ σ'.1 10 6 = σ.1 10 6 ∧ σ'.1 10 5 = σ.1 10 5 ∧ σ'.1 10 8 = σ.1 10 8 := by
  intro m
  induction m with
  | zero =>
    intro p f σ h hf ht h6
    obtain ⟨f, rfl⟩ := y_pos hf
    have hn := ht.1
    refine ⟨σ, ?_, h6, y_cf10.refl, rfl, rfl, rfl⟩
    unfold p_X7_step_102; simp (disch := omega) only [y_lit, y_n1, nI_add, pk_mul, j_lt, j_b1_s, j_b2_s, j_b3_s, j_b0_s, y_bo, y_bo1, y_bo0, y_i0, y_i1, Classical.not_not, nI_clamp, y_ix, y_lt, y_le, y_eq, y_nP, y_nPs, y_ltP, y_ltQ, y_ltPP, y_eqP, y_eqQ, y_eqPP, if_pos, if_neg, ite_true, ite_false, not_true_eq_false, not_false_eq_true, and_true, true_and, and_false, false_and, or_true, true_or, or_false, false_or, h6, ht.2.1]
  | succ m ih =>
    intro p f σ h hf ht h6
    obtain ⟨f, rfl⟩ := y_pos hf
    have hn := ht.1
    unfold p_X7_step_102 y_wl
    simp (disch := omega) only [y_lit, y_n1, nI_add, pk_mul, j_lt, j_b1_s, j_b2_s, j_b3_s, j_b0_s, y_bo, y_bo1, y_bo0, y_i0, y_i1, Classical.not_not, nI_clamp, y_ix, y_lt, y_le, y_eq, y_nP, y_nPs, y_ltP, y_ltQ, y_ltPP, y_eqP, y_eqQ, y_eqPP, if_pos, if_neg, ite_true, ite_false, not_true_eq_false, not_false_eq_true, and_true, true_and, and_false, false_and, or_true, true_or, or_false, false_or, h6, ht.2.1, yc_at ht, yc_le]
    by_cases c : y_cl B p = 1
    · rw [if_pos c, if_pos c]
      have fr : y_cf10 σ (j_si σ 10 7 (nI (p + 1))) := y_cf10.refl.si (by omega) (by omega)
      obtain ⟨σ', e1, e2, e3, e4, e5, e6⟩ := ih (p + 1) f (j_si σ 10 7 (nI (p + 1))) (by omega) (by omega) (ht.fr fr) j_r_eq
      exact ⟨σ', e1, e2, fr.trans e3, by rw [e4, j_r_nj (by omega)], by rw [e5, j_r_nj (by omega)], by rw [e6, j_r_nj (by omega)]⟩
    · rw [if_neg c, if_neg c]
      exact ⟨σ, rfl, h6, y_cf10.refl, rfl, rfl, rfl⟩
theorem yc_w158 : ∀ m p v f (σ : j_G), p + m = n → m < f → v ≤ 1000000 → y_ct σ B n → σ.1 10 7 = nI p → σ.1 10 8 = nI v → ∃ σ', p_X7_step_158 f σ = some σ' ∧ σ'.1 10 7 = nI (y_wl B 2 m p) ∧ σ'.1 10 8 = nI (y_v B m p v) ∧ y_cf10 σ σ' ∧ σ'.1 10 6 = σ.1 10 6 ∧ σ'.1 10 5 = σ.1 10 5 := by
  intro m
  induction m with
  | zero =>
    intro p v f σ h hf hv ht h6 h8
    obtain ⟨f, rfl⟩ := y_pos hf
    have hn := ht.1
    refine ⟨σ, ?_, h6, h8, y_cf10.refl, rfl, rfl⟩
    unfold p_X7_step_158; simp (disch := omega) only [y_lit, y_n1, nI_add, pk_mul, j_lt, j_b1_s, j_b2_s, j_b3_s, j_b0_s, y_bo, y_bo1, y_bo0, y_i0, y_i1, Classical.not_not, nI_clamp, y_ix, y_lt, y_le, y_eq, y_nP, y_nPs, y_ltP, y_ltQ, y_ltPP, y_eqP, y_eqQ, y_eqPP, if_pos, if_neg, ite_true, ite_false, not_true_eq_false, not_false_eq_true, and_true, true_and, and_false, false_and, or_true, true_or, or_false, false_or, h6, ht.2.1]
  | succ m ih =>
    intro p v f σ h hf hv ht h6 h8
    obtain ⟨f, rfl⟩ := y_pos hf
    have hn := ht.1
    unfold p_X7_step_158 y_wl y_v
    simp (disch := omega) only [y_lit, y_n1, nI_add, pk_mul, j_lt, j_b1_s, j_b2_s, j_b3_s, j_b0_s, y_bo, y_bo1, y_bo0, y_i0, y_i1, Classical.not_not, nI_clamp, y_ix, y_lt, y_le, y_eq, y_nP, y_nPs, y_ltP, y_ltQ, y_ltPP, y_eqP, y_eqQ, y_eqPP, if_pos, if_neg, ite_true, ite_false, not_true_eq_false, not_false_eq_true, and_true, true_and, and_false, false_and, or_true, true_or, or_false, false_or, h6, ht.2.1, yc_at ht, yc_di]
    by_cases c : y_cl B p = 2
    · rw [if_pos c, if_pos c, if_pos c]
      have tt := y_t_lt B p
      have td := y_clD.mpr c
      have mn : (if 10 * v + y_t B p - 48 < 1000000 then nI (10 * v + y_t B p - 48) else nI 1000000) = nI (min 1000000 (10 * v + y_t B p - 48)) := by
        split
        · congr 1; omega
        · congr 1; omega
      simp (disch := omega) only [y_lit, y_n1, nI_add, pk_mul, j_lt, j_b1_s, j_b2_s, j_b3_s, j_b0_s, y_bo, y_bo1, y_bo0, y_i0, y_i1, Classical.not_not, nI_clamp, y_ix, y_lt, y_le, y_eq, y_nP, y_nPs, y_ltP, y_ltQ, y_ltPP, y_eqP, y_eqQ, y_eqPP, if_pos, if_neg, ite_true, ite_false, not_true_eq_false, not_false_eq_true, and_true, true_and, and_false, false_and, or_true, true_or, or_false, false_or, j_r_ne, j_r_eq, j_r_nj, h6, h8, pk_sub]
      rw [mn]
      have fr : y_cf10 σ (j_si (j_si σ 10 8 (nI (min 1000000 (10 * v + y_t B p - 48)))) 10 7 (nI (p + 1))) := (y_cf10.refl.si (by omega) (by omega)).si (by omega) (by omega)
      obtain ⟨σ', e1, e2, e3, e4, e5, e6⟩ := ih (p + 1) (min 1000000 (10 * v + y_t B p - 48)) f _ (by omega) (by omega) (by omega) (ht.fr fr) j_r_eq (by rw [j_r_nj (by omega), j_r_eq])
      refine ⟨σ', e1, e2, e3, fr.trans e4, by rw [e5, j_r_nj (by omega), j_r_nj (by omega)], by rw [e6, j_r_nj (by omega), j_r_nj (by omega)]⟩
    · rw [if_neg c, if_neg c, if_neg c]
      exact ⟨σ, rfl, h6, h8, y_cf10.refl, rfl, rfl⟩
def y_srt (k : Nat) : Nat := if k = 4 then 0 else k + 1
/-- the class holds the token behind p -/
def y_ck (σ : j_G) (B : Nat → Int32) (n p : Nat) : Prop := σ.1 10 5 = nI (y_srt (y_kd B n p)) ∧ σ.1 10 6 = nI (y_s B n p) ∧ σ.1 10 7 = nI (y_e B n p) ∧ σ.1 10 8 = nI (y_val B n p)
theorem yc_step {σ : j_G} (ht : y_ct σ B n) {p : Nat} (hp : p ≤ n) (h7 : σ.1 10 7 = nI p) : ∃ σ', f_X7_step σ = some σ' ∧ y_ck σ' B n p ∧ y_cf10 σ σ' := by
  have hn := ht.1
  have sb := y_s_bd (B := B) hp
  unfold f_X7_step
  simp only [j_lt]
  have f0 : y_cf10 σ (j_si σ 10 6 (σ.1 10 7)) := y_cf10.refl.si (by omega) (by omega)
  obtain ⟨σ1, a1, a2, a3, a4⟩ := yc_w8 (n - p) p j_F (j_si σ 10 6 (σ.1 10 7)) (by omega) (y_F (by omega)) (ht.fr f0) (by rw [j_r_eq, h7])
  rw [a1, j_b1_s, a2]
  have f1 := f0.trans a3
  have es : y_wl B 0 (n - p) p = y_s B n p := rfl
  rw [es]
  have f2 : y_cf10 σ (j_si (j_si σ1 10 7 (nI (y_s B n p))) 10 8 (0 : Int32)) := (f1.si (by omega) (by omega)).si (by omega) (by omega)
  have h26 : (j_si (j_si σ1 10 7 (nI (y_s B n p))) 10 8 (0 : Int32)).1 10 6 = nI (y_s B n p) := by simp (disch := omega) only [j_r_ne, j_r_eq, j_r_nj]; rw [a2]; rfl
  have h27 : (j_si (j_si σ1 10 7 (nI (y_s B n p))) 10 8 (0 : Int32)).1 10 7 = nI (y_s B n p) := by simp (disch := omega) only [j_r_ne, j_r_eq, j_r_nj]
  have h28 : (j_si (j_si σ1 10 7 (nI (y_s B n p))) 10 8 (0 : Int32)).1 10 8 = nI 0 := by simp (disch := omega) only [j_r_ne, j_r_eq, j_r_nj]; rfl
  generalize j_si (j_si σ1 10 7 (nI (y_s B n p))) 10 8 (0 : Int32) = σ2 at *
  have t2 := ht.fr f2
  rw [h26]
  unfold y_ck y_kd y_e y_val y_kd
  by_cases c : n ≤ y_s B n p
  · rw [if_pos c, if_pos c, yc_atN t2 c (by omega), j_b1_s, y_m1, if_pos rfl]
    refine ⟨_, rfl, ⟨?_, ?_, ?_, ?_⟩, f2.si (by omega) (by omega)⟩
    · rw [j_r_eq]; rfl
    · simp (disch := omega) only [j_r_ne, j_r_eq, j_r_nj]; exact h26
    · simp (disch := omega) only [j_r_ne, j_r_eq, j_r_nj]; exact h27
    · simp (disch := omega) only [j_r_ne, j_r_eq, j_r_nj]; exact h28
  · rw [if_neg c, if_neg c, yc_at t2 (by omega), j_b1_s, yc_le, yc_di]
    have nn := y_s_ne (B := B) hp (by omega)
    have tt := y_t_lt B (y_s B n p)
    rw [if_neg (show ¬ nI (y_t B (y_s B n p)) = (-1 : Int32) by rw [y_m1, y_eqQ (by omega) (by omega)]; omega)]
    by_cases c1 : y_cl B (y_s B n p) = 1
    · have fr : y_cf10 σ (j_si σ2 10 5 (2 : Int32)) := f2.si (by omega) (by omega)
      obtain ⟨σ3, b1, b2, b3, b4, b5, b6⟩ := yc_w102 (n - y_s B n p) (y_s B n p) j_F (j_si σ2 10 5 (2 : Int32)) (by omega) (y_F (by omega)) (ht.fr fr) (by simp (disch := omega) only [j_r_ne, j_r_eq, j_r_nj]; exact h27)
      rw [if_pos c1, if_pos (show ¬ nI 1 = (0 : Int32) from by decide), b1]
      refine ⟨σ3, rfl, ⟨?_, ?_, ?_, ?_⟩, fr.trans b3⟩
      · rw [b5, j_r_eq, c1]; rfl
      · rw [b4, j_r_nj (by omega), h26]
      · rw [b2, if_pos c1]
      · rw [b6, j_r_nj (by omega), h28, if_neg (by omega)]
    · rw [if_neg c1, if_neg (show ¬ ¬ nI 0 = (0 : Int32) from fun z => z rfl)]
      by_cases c2 : y_cl B (y_s B n p) = 2
      · have fr : y_cf10 σ (j_si σ2 10 5 (3 : Int32)) := f2.si (by omega) (by omega)
        obtain ⟨σ3, b1, b2, b2', b3, b4, b5⟩ := yc_w158 (n - y_s B n p) (y_s B n p) 0 j_F (j_si σ2 10 5 (3 : Int32)) (by omega) (y_F (by omega)) (by omega) (ht.fr fr) (by simp (disch := omega) only [j_r_ne, j_r_eq, j_r_nj]; exact h27) (by simp (disch := omega) only [j_r_ne, j_r_eq, j_r_nj]; exact h28)
        rw [if_pos c2, if_pos (show ¬ nI 1 = (0 : Int32) from by decide), b1]
        refine ⟨σ3, rfl, ⟨?_, ?_, ?_, ?_⟩, fr.trans b3⟩
        · rw [b5, j_r_eq, c2]; rfl
        · rw [b4, j_r_nj (by omega), h26]
        · rw [b2, if_neg c1, if_pos c2]
        · rw [b2', if_pos c2]
      · rw [if_neg c2, if_neg (show ¬ ¬ nI 0 = (0 : Int32) from fun z => z rfl)]
        have c4 := y_cl_c B (y_s B n p)
        have c59 := y_clS (B := B) (i := y_s B n p)
        refine ⟨_, rfl, ⟨?_, ?_, ?_, ?_⟩, (f2.si (by omega) (by omega)).si (by omega) (by omega)⟩
        · rw [j_r_nj (by omega), j_r_eq]
          by_cases c3 : y_cl B (y_s B n p) = 3
          · rw [c59.mpr c3, c3]; rfl
          · have e4 : y_cl B (y_s B n p) = 4 := by omega
            rw [if_neg (show ¬ nI (y_t B (y_s B n p)) = (59 : Int32) by rw [show (59 : Int32) = nI 59 from rfl, y_eq (by omega) (by omega)]; omega), e4]; rfl
        · simp (disch := omega) only [j_r_ne, j_r_eq, j_r_nj]; exact h26
        · rw [j_r_eq, j_r_nj (by omega), h27, if_neg c1, if_neg c2]; exact nI_1 _
        · rw [j_r_nj (by omega), j_r_nj (by omega), h28, if_neg c2]
end C
/-! ===== the reference's tokens ===== -/
section M
variable {B : Nat → Int32} {n : Nat}
def y_mt (τ : j_G) (B : Nat → Int32) (n : Nat) : Prop := n ≤ 1200 ∧ τ.1 75 7 = nI n ∧ ∀ i, i < n → τ.1 79 i = B i ∧ -128 ≤ (B i).toInt ∧ (B i).toInt ≤ 127
/-- the reference holds the token behind p -/
def y_mq (τ : j_G) (B : Nat → Int32) (n p : Nat) : Prop := τ.1 75 9 = nI (y_s B n p) ∧ τ.1 75 8 = nI (y_e B n p) ∧ τ.1 75 10 = nI (y_kd B n p) ∧ (y_kd B n p = 2 → τ.1 75 11 = nI (min 99999 (y_val B n p)))
theorem y_mt.fr {τ τ' : j_G} {g : Nat} (h : y_mt τ B n) (hf : y_fm 8 g 1 0 τ τ') : y_mt τ' B n := by
  unfold y_mt at *; rw [hf.1 7 (by omega), (hf.2 79 (by omega) (by omega)).1]; exact h
theorem ym_see {τ : j_G} (h : y_mt τ B n) {i : Nat} (hi : i < n) : f_X12_see (nI i) τ = some (nI (y_t B i)) := by
  have hn := h.1
  unfold f_X12_see; simp (disch := omega) only [y_lit, y_n1, nI_add, pk_mul, j_lt, j_b1_s, j_b2_s, j_b3_s, j_b0_s, y_bo, y_bo1, y_bo0, y_i0, y_i1, Classical.not_not, nI_clamp, y_ix, y_lt, y_le, y_eq, y_nP, y_nPs, y_ltP, y_ltQ, y_ltPP, y_eqP, y_eqQ, y_eqPP, if_pos, if_neg, ite_true, ite_false, not_true_eq_false, not_false_eq_true, and_true, true_and, and_false, false_and, or_true, true_or, or_false, false_or, h.2.1, (h.2.2 i hi).1, y_byt]
  rfl
theorem ym_seeN {τ : j_G} (h : y_mt τ B n) {i : Nat} (hi : n ≤ i) (h2 : i < 5000) : f_X12_see (nI i) τ = some (nP 0) := by
  have hn := h.1
  unfold f_X12_see; simp (disch := omega) only [y_lit, y_n1, nI_add, pk_mul, j_lt, j_b1_s, j_b2_s, j_b3_s, j_b0_s, y_bo, y_bo1, y_bo0, y_i0, y_i1, Classical.not_not, nI_clamp, y_ix, y_lt, y_le, y_eq, y_nP, y_nPs, y_ltP, y_ltQ, y_ltPP, y_eqP, y_eqQ, y_eqPP, if_pos, if_neg, ite_true, ite_false, not_true_eq_false, not_false_eq_true, and_true, true_and, and_false, false_and, or_true, true_or, or_false, false_or, h.2.1]
theorem ym_inL {i : Nat} : f_X12_in (nI (y_t B i)).toInt64 (97 : Int64) (122 : Int64) = if y_cl B i = 1 then nI 1 else nI 0 := by
  have := y_t_lt B i
  simp (disch := omega) only [y_lit64, y_in, y_lt, Nat.not_lt, y_clL]
theorem ym_inD {i : Nat} : f_X12_in (nI (y_t B i)).toInt64 (48 : Int64) (57 : Int64) = if y_cl B i = 2 then nI 1 else nI 0 := by
  have := y_t_lt B i
  simp (disch := omega) only [y_lit64, y_in, y_lt, Nat.not_lt, y_clD]
theorem ym_inN {lo hi : Nat} (h1 : 0 < lo) (h : lo < 1000) (h' : hi < 1000) : f_X12_in (nP 0).toInt64 (nI lo).toInt64 (nI hi).toInt64 = nI 0 := by
  simp (disch := omega) only [y_in, y_lit, y_n1, nI_add, pk_mul, j_lt, j_b1_s, j_b2_s, j_b3_s, j_b0_s, y_bo, y_bo1, y_bo0, y_i0, y_i1, Classical.not_not, nI_clamp, y_ix, y_lt, y_le, y_eq, y_nP, y_nPs, y_ltP, y_ltQ, y_ltPP, y_eqP, y_eqQ, y_eqPP, if_pos, if_neg, ite_true, ite_false, not_true_eq_false, not_false_eq_true, and_true, true_and, and_false, false_and, or_true, true_or, or_false, false_or]
theorem ym_inL0 : f_X12_in (nP 0).toInt64 (97 : Int64) (122 : Int64) = nI 0 := by
  have := ym_inN (lo := 97) (hi := 122) (by omega) (by omega) (by omega)
  simp (disch := omega) only [y_lit64]; exact this
theorem ym_inD0 : f_X12_in (nP 0).toInt64 (48 : Int64) (57 : Int64) = nI 0 := by
  have := ym_inN (lo := 48) (hi := 57) (by omega) (by omega) (by omega)
  simp (disch := omega) only [y_lit64]; exact this
theorem ym_w0 : ∀ m p f (τ : j_G), p + m = n → m < f → y_mt τ B n → τ.1 75 8 = nI p → ∃ τ', p_X12_advance_0 f τ = some τ' ∧ τ'.1 75 8 = nI (y_wl B 0 m p) ∧ y_fm 8 8 1 0 τ τ' := by
  intro m
  induction m with
  | zero =>
    intro p f τ h hf ht h8
    obtain ⟨f, rfl⟩ := y_pos hf
    have hn := ht.1
    refine ⟨τ, ?_, h8, y_fm.refl⟩
    unfold p_X12_advance_0; simp (disch := omega) only [y_lit, y_n1, nI_add, pk_mul, j_lt, j_b1_s, j_b2_s, j_b3_s, j_b0_s, y_bo, y_bo1, y_bo0, y_i0, y_i1, Classical.not_not, nI_clamp, y_ix, y_lt, y_le, y_eq, y_nP, y_nPs, y_ltP, y_ltQ, y_ltPP, y_eqP, y_eqQ, y_eqPP, if_pos, if_neg, ite_true, ite_false, not_true_eq_false, not_false_eq_true, and_true, true_and, and_false, false_and, or_true, true_or, or_false, false_or, h8, ym_seeN ht]
  | succ m ih =>
    intro p f τ h hf ht h8
    obtain ⟨f, rfl⟩ := y_pos hf
    have hn := ht.1
    have fr : y_fm 8 8 1 0 τ (j_si τ 75 8 (nI (p + 1))) := y_fm.refl.so (by omega) (by omega)
    obtain ⟨τ', e1, e2, e3⟩ := ih (p + 1) f (j_si τ 75 8 (nI (p + 1))) (by omega) (by omega) (ht.fr fr) j_r_eq
    have tt := y_t_lt B p
    unfold p_X12_advance_0 y_wl
    by_cases c : y_cl B p = 0
    · rw [if_pos c]
      refine ⟨τ', ?_, e2, fr.trans e3⟩
      rw [h8, ym_see ht (by omega), j_b1_s]
      simp only [j_lt, j_b1_s]
      have e : nI p + 1 = nI (p + 1) := by simp (disch := omega) only [y_lit, nI_add]
      rw [e, e1]
      by_cases c1 : ¬ nI (y_t B p) = (32 : Int32)
      · rw [if_pos c1]
        rcases y_clB.mpr c with q | q
        · exact absurd q c1
        · exact if_pos q
      · rw [if_neg c1]
    · rw [if_neg c]
      refine ⟨τ, ?_, h8, y_fm.refl⟩
      rw [h8, ym_see ht (by omega), j_b1_s]
      simp only [j_lt, j_b1_s]
      rw [if_pos (show ¬ nI (y_t B p) = (32 : Int32) from fun z => c (y_clB.mp (Or.inl z))), if_neg (show ¬ nI (y_t B p) = (10 : Int32) from fun z => c (y_clB.mp (Or.inr z)))]
theorem ym_w83 : ∀ m p f (τ : j_G), p + m = n → m < f → y_mt τ B n → τ.1 75 8 = nI p → ∃ τ', p_X12_advance_83 f τ = some τ' ∧ τ'.1 75 8 = nI (y_wl B 1 m p) ∧ y_fm 8 8 1 0 τ τ' := by
  intro m
  induction m with
  | zero =>
    intro p f τ h hf ht h8
    obtain ⟨f, rfl⟩ := y_pos hf
    have hn := ht.1
    refine ⟨τ, ?_, h8, y_fm.refl⟩
    unfold p_X12_advance_83
    rw [h8, ym_seeN ht (by omega) (by omega), j_b1_s, ym_inL0, if_neg (show ¬ ¬ nI 0 = (0 : Int32) from fun z => z rfl)]
  | succ m ih =>
    intro p f τ h hf ht h8
    obtain ⟨f, rfl⟩ := y_pos hf
    have hn := ht.1
    have fr : y_fm 8 8 1 0 τ (j_si τ 75 8 (nI (p + 1))) := y_fm.refl.so (by omega) (by omega)
    obtain ⟨τ', e1, e2, e3⟩ := ih (p + 1) f (j_si τ 75 8 (nI (p + 1))) (by omega) (by omega) (ht.fr fr) j_r_eq
    unfold p_X12_advance_83 y_wl
    rw [h8, ym_see ht (by omega), j_b1_s, ym_inL]
    have e : nI p + 1 = nI (p + 1) := by simp (disch := omega) only [y_lit, nI_add]
    by_cases c : y_cl B p = 1
    · rw [if_pos c, if_pos c, if_pos (show ¬ nI 1 = (0 : Int32) from by decide), e]
      exact ⟨τ', e1, e2, fr.trans e3⟩
    · rw [if_neg c, if_neg c, if_neg (show ¬ ¬ nI 0 = (0 : Int32) from fun z => z rfl)]
      exact ⟨τ, rfl, h8, y_fm.refl⟩
theorem ym_w144 : ∀ m p v f (τ : j_G), p + m = n → m < f → v ≤ 1000000 → y_mt τ B n → τ.1 75 8 = nI p → τ.1 75 11 = nI (min 99999 v) → ∃ τ', p_X12_advance_144 f τ = some τ' ∧ τ'.1 75 8 = nI (y_wl B 2 m p) ∧ τ'.1 75 11 = nI (min 99999 (y_v B m p v)) ∧ y_fm 8 11 1 0 τ τ' ∧ τ'.1 75 9 = τ.1 75 9 := by
  intro m
  induction m with
  | zero =>
    intro p v f τ h hf hv ht h8 h11
    obtain ⟨f, rfl⟩ := y_pos hf
    have hn := ht.1
    refine ⟨τ, ?_, h8, h11, y_fm.refl, rfl⟩
    unfold p_X12_advance_144
    rw [h8, ym_seeN ht (by omega) (by omega), j_b1_s, ym_inD0, if_neg (show ¬ ¬ nI 0 = (0 : Int32) from fun z => z rfl)]
  | succ m ih =>
    intro p v f τ h hf hv ht h8 h11
    obtain ⟨f, rfl⟩ := y_pos hf
    have hn := ht.1
    unfold p_X12_advance_144 y_wl y_v
    rw [h8, ym_see ht (by omega), j_b1_s, ym_inD]
    by_cases c : y_cl B p = 2
    · rw [if_pos c, if_pos c, if_pos c, if_pos (show ¬ nI 1 = (0 : Int32) from by decide), j_b1_s]
      have tt := y_t_lt B p
      have td := y_clD.mpr c
      have mn : (if 10 * min 99999 v + y_t B p - 48 < 99999 then nI (10 * min 99999 v + y_t B p - 48) else nI 99999) = nI (min 99999 (min 1000000 (10 * v + y_t B p - 48))) := by
        split
        · congr 1; omega
        · congr 1; omega
      simp (disch := omega) only [y_lit, y_n1, nI_add, pk_mul, j_lt, j_b1_s, j_b2_s, j_b3_s, j_b0_s, y_bo, y_bo1, y_bo0, y_i0, y_i1, Classical.not_not, nI_clamp, y_ix, y_lt, y_le, y_eq, y_nP, y_nPs, y_ltP, y_ltQ, y_ltPP, y_eqP, y_eqQ, y_eqPP, if_pos, if_neg, ite_true, ite_false, not_true_eq_false, not_false_eq_true, and_true, true_and, and_false, false_and, or_true, true_or, or_false, false_or, j_r_ne, j_r_eq, j_r_nj, h8, h11, pk_sub]
      rw [mn]
      have fr : y_fm 8 11 1 0 τ (j_si (j_si τ 75 11 (nI (min 99999 (min 1000000 (10 * v + y_t B p - 48))))) 75 8 (nI (p + 1))) := (y_fm.refl.so (by omega) (by omega)).so (by omega) (by omega)
      obtain ⟨τ', e1, e2, e3, e4, e5⟩ := ih (p + 1) (min 1000000 (10 * v + y_t B p - 48)) f _ (by omega) (by omega) (by omega) (ht.fr fr) j_r_eq (by rw [j_r_nj (by omega), j_r_eq])
      exact ⟨τ', e1, e2, e3, fr.trans e4, by rw [e5, j_r_nj (by omega), j_r_nj (by omega)]⟩
    · rw [if_neg c, if_neg c, if_neg c, if_neg (show ¬ ¬ nI 0 = (0 : Int32) from fun z => z rfl)]
      exact ⟨τ, rfl, h8, h11, y_fm.refl, rfl⟩
theorem ym_adv {τ : j_G} (ht : y_mt τ B n) {p : Nat} (hp : p ≤ n) (h8 : τ.1 75 8 = nI p) : ∃ τ', f_X12_advance τ = some τ' ∧ y_mq τ' B n p ∧ y_fm 8 11 1 0 τ τ' := by
  have hn := ht.1
  have sb := y_s_bd (B := B) hp
  unfold f_X12_advance
  simp only [j_lt]
  obtain ⟨τ1, a1, a2, a3⟩ := ym_w0 (n - p) p j_F τ (by omega) (y_F (by omega)) ht h8
  have es : y_wl B 0 (n - p) p = y_s B n p := rfl
  rw [es] at a2
  rw [a1, j_b1_s, a2]
  have f2 : y_fm 8 11 1 0 τ (j_si τ1 75 9 (nI (y_s B n p))) := (a3.wide (by omega) (by omega) (by omega) (by omega)).so (by omega) (by omega)
  have h28 : (j_si τ1 75 9 (nI (y_s B n p))).1 75 8 = nI (y_s B n p) := by rw [j_r_nj (by omega), a2]
  have h29 : (j_si τ1 75 9 (nI (y_s B n p))).1 75 9 = nI (y_s B n p) := j_r_eq
  generalize j_si τ1 75 9 (nI (y_s B n p)) = τ2 at *
  have t2 := ht.fr f2
  rw [h28]
  unfold y_mq y_kd y_e y_val y_kd
  by_cases c : n ≤ y_s B n p
  · rw [if_pos c, if_pos c, ym_seeN t2 c (by omega), j_b1_s, if_pos (show nP 0 = (-1 : Int32) from y_m1.symm)]
    refine ⟨_, rfl, ⟨?_, ?_, ?_, fun z => absurd z (by omega)⟩, f2.so (by omega) (by omega)⟩
    · rw [j_r_nj (by omega), h29]
    · rw [j_r_nj (by omega), h28]
    · rw [j_r_eq]; rfl
  · rw [if_neg c, if_neg c, ym_see t2 (by omega), j_b1_s, ym_inL, ym_inD]
    have tt := y_t_lt B (y_s B n p)
    rw [if_neg (show ¬ nI (y_t B (y_s B n p)) = (-1 : Int32) by rw [y_m1, y_eqQ (by omega) (by omega)]; omega)]
    by_cases c1 : y_cl B (y_s B n p) = 1
    · obtain ⟨τ3, b1, b2, b3⟩ := ym_w83 (n - y_s B n p) (y_s B n p) j_F τ2 (by omega) (y_F (by omega)) t2 h28
      rw [if_pos c1, if_pos (show ¬ nI 1 = (0 : Int32) from by decide), b1]
      refine ⟨_, rfl, ⟨?_, ?_, ?_, fun z => absurd z (by omega)⟩, (f2.trans (b3.wide (by omega) (by omega) (by omega) (by omega))).so (by omega) (by omega)⟩
      · rw [j_r_nj (by omega), b3.1 9 (by omega), h29]
      · rw [j_r_nj (by omega), b2, if_pos c1]
      · rw [j_r_eq, c1]; rfl
    · rw [if_neg c1, if_neg (show ¬ ¬ nI 0 = (0 : Int32) from fun z => z rfl)]
      by_cases c2 : y_cl B (y_s B n p) = 2
      · have fr : y_fm 8 11 1 0 τ (j_si τ2 75 11 (0 : Int32)) := f2.so (by omega) (by omega)
        obtain ⟨τ3, b1, b2, b2', b3, b4⟩ := ym_w144 (n - y_s B n p) (y_s B n p) 0 j_F (j_si τ2 75 11 (0 : Int32)) (by omega) (y_F (by omega)) (by omega) (ht.fr fr) (by rw [j_r_nj (by omega), h28]) (by rw [j_r_eq]; rfl)
        rw [if_pos c2, if_pos (show ¬ nI 1 = (0 : Int32) from by decide), b1]
        refine ⟨_, rfl, ⟨?_, ?_, ?_, fun _ => ?_⟩, (fr.trans b3).so (by omega) (by omega)⟩
        · rw [j_r_nj (by omega), b4, j_r_nj (by omega), h29]
        · rw [j_r_nj (by omega), b2, if_neg c1, if_pos c2]
        · rw [j_r_eq, c2]; rfl
        · rw [j_r_nj (by omega), b2', if_pos c2]
      · rw [if_neg c2, if_neg (show ¬ ¬ nI 0 = (0 : Int32) from fun z => z rfl)]
        have c4 := y_cl_c B (y_s B n p)
        have c0 := y_s_ne (B := B) hp (by omega)
        have c59 := y_clS (B := B) (i := y_s B n p)
        refine ⟨_, rfl, ⟨?_, ?_, ?_, fun z => absurd z c2⟩, (f2.so (by omega) (by omega)).so (by omega) (by omega)⟩
        · rw [j_r_nj (by omega), j_r_nj (by omega), h29]
        · rw [j_r_eq, j_r_nj (by omega), h28, if_neg c1, if_neg c2]; exact nI_1 _
        · rw [j_r_nj (by omega), j_r_eq]
          by_cases c3 : y_cl B (y_s B n p) = 3
          · rw [c59.mpr c3, c3]; rfl
          · have e4 : y_cl B (y_s B n p) = 4 := by omega
            rw [if_neg (show ¬ nI (y_t B (y_s B n p)) = (59 : Int32) by rw [show (59 : Int32) = nI 59 from rfl, y_eq (by omega) (by omega)]; omega), e4]; rfl
end M
/-! ===== the items of a line: some L a word, none a number, some [] a ; . r.1: 0 good, or the fault's kind; r.2: where the next token is sought, or the fault's place ===== -/
def y_sp (L : List Int32) (B : Nat → Int32) (n p : Nat) : Bool := decide (y_kd B n p = 1 ∧ y_e B n p = y_s B n p + L.length ∧ ∀ i, i < L.length → nI (y_t B (y_s B n p + i)) = L.getD i 0)
def y_stp (B : Nat → Int32) (n : Nat) (J : List Nat → Nat → Nat) (it : Option (List Int32)) (x : (Nat × Nat) × List Nat) : (Nat × Nat) × List Nat :=
  if x.1.1 ≠ 0 then x else
  match it with
  | some [] => if y_kd B n x.1.2 = 3 then ((0, y_e B n x.1.2), x.2) else ((1, y_s B n x.1.2), x.2)
  | some L => if y_sp L B n x.1.2 = true then ((0, y_e B n x.1.2), x.2) else ((1, y_s B n x.1.2), x.2)
  | none => if y_kd B n x.1.2 ≠ 2 then ((1, y_s B n x.1.2), x.2) else if J x.2 (y_val B n x.1.2) ≠ 0 then ((J x.2 (y_val B n x.1.2), y_s B n x.1.2), x.2) else ((0, y_e B n x.1.2), x.2 ++ [y_val B n x.1.2])
def y_gq (B : Nat → Int32) (n : Nat) (J : List Nat → Nat → Nat) : List (Option (List Int32)) → (Nat × Nat) × List Nat → (Nat × Nat) × List Nat
  | [], x => x
  | it :: l, x => y_gq B n J l (y_stp B n J it x)
section I
variable {B : Nat → Int32} {n : Nat} {J : List Nat → Nat → Nat}
theorem y_stp_bad {it : Option (List Int32)} {x : (Nat × Nat) × List Nat} (h : x.1.1 ≠ 0) : y_stp B n J it x = x := if_pos h
theorem y_gq_bad : ∀ {l : List (Option (List Int32))} {x : (Nat × Nat) × List Nat}, x.1.1 ≠ 0 → y_gq B n J l x = x
  | [], _, _ => rfl
  | it :: l, x, h => by unfold y_gq; rw [y_stp_bad h]; exact y_gq_bad h
theorem y_gq_good {l : List (Option (List Int32))} {x : (Nat × Nat) × List Nat} (h : (y_gq B n J l x).1.1 = 0) : x.1.1 = 0 := by
  rcases Nat.eq_zero_or_pos x.1.1 with z | z
  · exact z
  · rw [y_gq_bad (by omega)] at h; exact h
theorem y_spP {L : List Int32} {p : Nat} : y_sp L B n p = true ↔ (y_kd B n p = 1 ∧ y_e B n p = y_s B n p + L.length ∧ ∀ i, i < L.length → nI (y_t B (y_s B n p + i)) = L.getD i 0) := by unfold y_sp; exact decide_eq_true_iff
theorem y_stp_w {L : List Int32} {p : Nat} {vs : List Nat} (hL : L ≠ []) : y_stp B n J (some L) ((0, p), vs) = if y_sp L B n p = true then ((0, y_e B n p), vs) else ((1, y_s B n p), vs) := by
  obtain ⟨a, l, rfl⟩ : ∃ a l, L = a :: l := by
    cases L with
    | nil => exact absurd rfl hL
    | cons a l => exact ⟨a, l, rfl⟩
  exact if_neg (fun z => z rfl)
theorem y_stp_n {p : Nat} {vs : List Nat} : y_stp B n J none ((0, p), vs) = if y_kd B n p ≠ 2 then ((1, y_s B n p), vs) else if J vs (y_val B n p) ≠ 0 then ((J vs (y_val B n p), y_s B n p), vs) else ((0, y_e B n p), vs ++ [y_val B n p]) := if_neg (fun z => z rfl)
theorem y_stp_s {p : Nat} {vs : List Nat} : y_stp B n J (some []) ((0, p), vs) = if y_kd B n p = 3 then ((0, y_e B n p), vs) else ((1, y_s B n p), vs) := if_neg (fun z => z rfl)
/-- a range, as a judge -/
def y_jr (lo h v : Nat) : Nat := if lo ≤ v ∧ v < h then 0 else 2
theorem y_jr_le {lo h v : Nat} : y_jr lo h v ≤ 3 := by unfold y_jr; split <;> omega
/-- the reference's state of reading -/
def y_mw (τ : j_G) (B : Nat → Int32) (n : Nat) (r : Nat × Nat) : Prop := y_mt τ B n ∧ r.1 ≤ 3 ∧ r.2 ≤ n ∧ (r.1 = 0 → τ.1 75 12 = nI 0 ∧ τ.1 75 13 = nP 0 ∧ y_mq τ B n r.2) ∧ (r.1 ≠ 0 → τ.1 75 12 = nI r.1 ∧ τ.1 75 13 = nI r.2)
theorem y_mw.fr {τ τ' : j_G} {r : Nat × Nat} (h : y_mw τ B n r) (e : τ'.1 75 = τ.1 75) (e' : τ'.1 79 = τ.1 79) : y_mw τ' B n r := by
  unfold y_mw y_mt y_mq at *; rw [e, e']; exact h
theorem ym_good {τ : j_G} {r : Nat × Nat} (h : y_mw τ B n r) : f_X12_good τ = if r.1 = 0 then nI 1 else nI 0 := by
  have h3 := h.2.1
  unfold f_X12_good
  by_cases c : r.1 = 0
  · rw [if_pos c, (h.2.2.2.1 c).1]; rfl
  · rw [if_neg c, (h.2.2.2.2 c).1, if_neg (show ¬ nI r.1 = (0 : Int32) by rw [show (0 : Int32) = nI 0 from rfl, y_eq (by omega) (by omega)]; exact c)]; rfl
theorem y_raw {x : Int32} {c : Nat} (h1 : -128 ≤ x.toInt) (h2 : x.toInt ≤ 127) (hc : c < 128) : x = nI c ↔ nI (x.toBitVec.toNat % 256) = nI c := by
  rw [y_eq (by have := Nat.mod_lt x.toBitVec.toNat (show 0 < 256 by omega); omega) (by omega), j_eqI, nI_toInt (by omega)]
  have e : x.toInt = x.toBitVec.toInt := rfl
  rw [BitVec.toInt_eq_toNat_cond] at e
  have := x.toBitVec.isLt
  split at e <;> omega
def y_str (q : Nat) (L : List Int32) : Prop := x_str ≤ q ∧ x_sbyt[q - x_str]? = some L ∧ L.length < 100 ∧ ∀ i, i < L.length → ∃ c, c < 128 ∧ L.getD i 0 = nI c
theorem y_str.len {q : Nat} {L : List Int32} (h : y_str q L) : j_len q = some (nI L.length) := by
  unfold j_len; rw [if_pos h.1, h.2.1]; rfl
theorem y_str.chr {q : Nat} {L : List Int32} (h : y_str q L) {i : Nat} (hi : i < L.length) : j_chr q (nI i) = some (L.getD i 0) := by
  have hl := h.2.2.1
  unfold j_chr; rw [if_pos h.1, h.2.1]
  show (if nI i < 0 ∨ L.length ≤ (nI i).toNatClampNeg then none else some (L.getD (nI i).toNatClampNeg 0)) = _
  rw [nI_clamp (by omega), if_neg]
  rw [show (0 : Int32) = nI 0 from rfl, y_lt (by omega) (by omega)]; omega
theorem ym_is39 {τ : j_G} {q : Nat} {L : List Int32} (hL : y_str q L) (ht : y_mt τ B n) {p : Nat} (h9 : τ.1 75 9 = nI (y_s B n p)) (he : y_s B n p + L.length ≤ n) : ∀ m i f, i + m = L.length → m < f → (∀ j, j < i → nI (y_t B (y_s B n p + j)) = L.getD j 0) → p_X12_is_39 q τ f (nI 1) (nI i) = some (if ∀ j, j < L.length → nI (y_t B (y_s B n p + j)) = L.getD j 0 then nI 1 else nI 0) := by
  have hn := ht.1
  have hl := hL.2.2.1
  intro m
  induction m with
  | zero =>
    intro i f h hf hj
    obtain ⟨f, rfl⟩ := y_pos hf
    unfold p_X12_is_39
    rw [hL.len, j_b1_s, if_neg (show ¬ (nI i < nI L.length ∧ ¬ nI 1 = (0 : Int32)) by rw [y_lt (by omega) (by omega)]; omega), if_pos (fun j hj' => hj j (by omega))]
  | succ m ih =>
    intro i f h hf hj
    obtain ⟨f, rfl⟩ := y_pos hf
    obtain ⟨c, hc, hLc⟩ := hL.2.2.2 i (by omega)
    obtain ⟨t1, t2, t3⟩ := ht.2.2 (y_s B n p + i) (by omega)
    have ft : ∀ g x, p_X12_is_39 q τ (g + 1) (nI 0) x = some (nI 0) := by
      intro g x
      unfold p_X12_is_39
      rw [hL.len, j_b1_s, if_neg (fun z => z.2 rfl)]
    unfold p_X12_is_39
    rw [hL.len, j_b1_s, if_pos (show (nI i < nI L.length ∧ ¬ nI 1 = (0 : Int32)) from ⟨by rw [y_lt (by omega) (by omega)]; omega, by decide⟩), h9, nI_add, y_ix (by omega) (by omega), hL.chr (by omega), j_b1_s, nI_clamp (by omega), t1, hLc]
    simp only [j_lt]
    obtain ⟨f, rfl⟩ := y_pos (show 0 < f by omega)
    have e : nI i + 1 = nI (i + 1) := by simp (disch := omega) only [y_lit, nI_add]
    have rw' := y_raw t2 t3 hc
    rw [e]
    by_cases k : B (y_s B n p + i) = nI c
    · rw [if_pos k]
      refine ih (i + 1) (f + 1) (by omega) (by omega) (fun j hj' => ?_)
      by_cases e : j = i
      · subst e; rw [hLc]; exact rw'.mp k
      · exact hj j (by omega)
    · rw [if_neg k, if_neg (fun z => k (rw'.mpr (by rw [← hLc]; exact z i (by omega))))]
      exact ft _ _
theorem ym_is {τ : j_G} {q : Nat} {L : List Int32} {r : Nat × Nat} (hL : y_str q L) (h : y_mw τ B n r) : f_X12_is q τ = some (if r.1 = 0 ∧ y_sp L B n r.2 = true then nI 1 else nI 0) := by
  have hl := hL.2.2.1
  have hn := h.1.1
  have eb := y_e_bd (B := B) h.2.2.1
  have ft : p_X12_is_39 q τ j_F (nI 0) (nI 0) = some (nI 0) := by
    obtain ⟨f, hf⟩ : ∃ f, j_F = f + 1 := ⟨_, rfl⟩
    rw [hf]
    unfold p_X12_is_39
    rw [hL.len, j_b1_s, if_neg (fun z => z.2 rfl)]
  have bo0 : ∀ o : Option Int32, j_bo (nI 0) o = o := fun o => y_bo0
  unfold f_X12_is
  rw [ym_good h]
  by_cases c : r.1 = 0
  · obtain ⟨g1, g2, g3⟩ := h.2.2.2.1 c
    obtain ⟨q9, q8, q10, q11⟩ := g3
    have kc : y_kd B n r.2 ≤ 4 := by
      unfold y_kd; split
      · omega
      · exact y_cl_c B _
    by_cases k : y_kd B n r.2 = 1
    · rw [if_pos (show ¬ (if r.1 = 0 then nI 1 else nI 0) = (0 : Int32) ∧ τ.1 75 10 = (1 : Int32) from ⟨by rw [if_pos c]; decide, by rw [q10, k]; rfl⟩), hL.len, j_b1_s, q8, q9, pk_sub eb.1]
      by_cases e : y_e B n r.2 = y_s B n r.2 + L.length
      · rw [if_pos (show nI (y_e B n r.2 - y_s B n r.2) = nI L.length by rw [e]; congr 1; omega), j_b1_s]
        rw [show ((1 : Int32)) = nI 1 from rfl, show ((0 : Int32)) = nI 0 from rfl, ym_is39 hL h.1 q9 (by omega) L.length 0 j_F (by omega) (y_F (by omega)) (fun j hj => absurd hj (by omega)), j_b1_s]
        rw [y_bo]
        by_cases w : ∀ j, j < L.length → nI (y_t B (y_s B n r.2 + j)) = L.getD j 0
        · rw [if_pos w, if_pos ⟨c, y_spP.mpr ⟨k, e, w⟩⟩]
        · rw [if_neg w, if_neg (fun z => w (y_spP.mp z.2).2.2)]
      · rw [if_neg (show ¬ nI (y_e B n r.2 - y_s B n r.2) = nI L.length by rw [y_eq (by omega) (by omega)]; omega), j_b1_s]
        rw [show ((0 : Int32)) = nI 0 from rfl, ft, j_b1_s, bo0, if_neg (fun z => e (y_spP.mp z.2).2.1)]
    · rw [if_neg (show ¬ (¬ (if r.1 = 0 then nI 1 else nI 0) = (0 : Int32) ∧ τ.1 75 10 = (1 : Int32)) from fun z => k (by have := z.2; rw [q10, show (1 : Int32) = nI 1 from rfl, y_eq (by omega) (by omega)] at this; exact this)), j_b1_s]
      rw [show ((0 : Int32)) = nI 0 from rfl, ft, j_b1_s, bo0, if_neg (fun z => k (y_spP.mp z.2).1)]
  · rw [if_neg (show ¬ (¬ (if r.1 = 0 then nI 1 else nI 0) = (0 : Int32) ∧ τ.1 75 10 = (1 : Int32)) from fun z => z.1 (by rw [if_neg c]; rfl)), j_b1_s]
    rw [show ((0 : Int32)) = nI 0 from rfl, ft, j_b1_s, bo0, if_neg (fun z => c z.1)]
/-- on, past a good token -/
theorem ym_advR {τ : j_G} {p : Nat} (h : y_mw τ B n (0, p)) : ∃ τ', f_X12_advance τ = some τ' ∧ y_mw τ' B n (0, y_e B n p) ∧ y_fm 8 11 1 0 τ τ' := by
  obtain ⟨g1, g2, g3⟩ := h.2.2.2.1 rfl
  have eb := y_e_bd (B := B) h.2.2.1
  obtain ⟨τ', e1, e2, e3⟩ := ym_adv h.1 (p := y_e B n p) eb.2.1 g3.2.1
  refine ⟨τ', e1, ⟨h.1.fr e3, by simp, eb.2.1, fun _ => ⟨?_, ?_, e2⟩, fun z => absurd rfl z⟩, e3⟩
  · rw [e3.1 12 (by omega)]; exact g1
  · rw [e3.1 13 (by omega)]; exact g2
theorem ym_errs {τ : j_G} {k : Nat} {r : Nat × Nat} (hk : 0 < k) (hk3 : k ≤ 3) (h : y_mw τ B n r) : ∃ τ', f_X12_errs (nI k) τ = some τ' ∧ y_mw τ' B n (if r.1 = 0 then (k, y_s B n r.2) else r) ∧ y_fm 12 13 1 0 τ τ' := by
  unfold f_X12_errs
  rw [ym_good h]
  by_cases c : r.1 = 0
  · obtain ⟨g1, g2, g3⟩ := h.2.2.2.1 c
    have sb := y_s_bd (B := B) h.2.2.1
    rw [if_pos c, if_pos c, if_neg (show ¬ nI 1 = (0 : Int32) by decide)]
    have fr : y_fm 12 13 1 0 τ (j_si (j_si τ 75 12 (nI k)) 75 13 (τ.1 75 9)) := (y_fm.refl.so (by omega) (by omega)).so (by omega) (by omega)
    simp only [j_lt]
    rw [j_r_nj (show 9 ≠ 12 by omega)]
    refine ⟨_, rfl, ⟨h.1.fr (fr.wide (by omega) (Nat.le_refl _) (by omega) (by omega)), hk3, sb.2, fun z => ?_, fun _ => ⟨?_, ?_⟩⟩, fr⟩
    · have : k = 0 := z
      omega
    · rw [j_r_nj (by omega), j_r_eq]
    · rw [j_r_eq, g3.1]
  · rw [if_neg c, if_neg c, if_pos (show nI 0 = (0 : Int32) from rfl)]
    exact ⟨τ, rfl, h, y_fm.refl⟩
end I
/-! ===== the reference's steps of reading ===== -/
section O
variable {B : Nat → Int32} {n : Nat} {J : List Nat → Nat → Nat}
theorem ym_takes {τ : j_G} {q : Nat} {L : List Int32} {r : Nat × Nat} (hL : y_str q L) (hne : L ≠ []) (h : y_mw τ B n r) (vs : List Nat) :
    (r.1 = 0 ∧ y_sp L B n r.2 = true ∧ ∃ τ', f_X12_takes q τ = some (nI 1, τ') ∧ y_mw τ' B n (0, y_e B n r.2) ∧ y_fm 8 13 1 0 τ τ') ∨ (¬ (r.1 = 0 ∧ y_sp L B n r.2 = true) ∧ f_X12_takes q τ = some (nI 0, τ)) := by
  unfold f_X12_takes
  rw [ym_is hL h, j_b1_s]
  by_cases c : r.1 = 0 ∧ y_sp L B n r.2 = true
  · left
    obtain ⟨r1, r2⟩ := r
    obtain ⟨c1, c2⟩ := c
    simp only at c1 c2
    subst c1
    obtain ⟨τ', e1, e2, e3⟩ := ym_advR h
    refine ⟨rfl, c2, τ', ?_, e2, e3.wide (by omega) (by omega) (by omega) (by omega)⟩
    rw [if_pos (⟨rfl, c2⟩ : (0, r2).1 = 0 ∧ y_sp L B n (0, r2).2 = true), if_pos (show ¬ nI 1 = (0 : Int32) by decide), e1, j_b1_s, y_bo1]
  · right
    refine ⟨c, ?_⟩
    rw [if_neg c, if_neg (show ¬ ¬ nI 0 = (0 : Int32) from fun z => z rfl), y_bo0]
theorem ym_needs {τ : j_G} {q : Nat} {L : List Int32} {x : (Nat × Nat) × List Nat} (hL : y_str q L) (hne : L ≠ []) (h : y_mw τ B n x.1) :
    ∃ τ', f_X12_needs q τ = some τ' ∧ y_mw τ' B n (y_stp B n J (some L) x).1 ∧ y_fm 8 13 1 0 τ τ' := by
  obtain ⟨⟨r1, r2⟩, vs⟩ := x
  unfold f_X12_needs
  rcases ym_takes hL hne h vs with ⟨c1, c2, τ', e1, e2, e3⟩ | ⟨c, e⟩
  · simp only at c1 c2
    subst c1
    rw [e1, j_b2_s, if_neg (show ¬ nI 1 = (0 : Int32) by decide), y_stp_w hne, if_pos c2]
    exact ⟨τ', rfl, e2, e3⟩
  · obtain ⟨τ', e1, e2, e3⟩ := ym_errs (k := 1) (by omega) (by omega) h
    rw [e, j_b2_s, if_pos (show nI 0 = (0 : Int32) from rfl), show (1 : Int32) = nI 1 from rfl, e1]
    refine ⟨τ', rfl, ?_, e3.wide (by omega) (by omega) (by omega) (by omega)⟩
    by_cases c1 : r1 = 0
    · subst c1
      rw [y_stp_w hne, if_neg (fun z => c ⟨rfl, z⟩)]
      exact e2
    · rw [y_stp_bad (show ((r1, r2), vs).1.1 ≠ 0 from c1)]
      simp only [if_neg c1] at e2
      exact e2
/-- the end of a line -/
theorem ym_semi {τ : j_G} {x : (Nat × Nat) × List Nat} (h : y_mw τ B n x.1) :
    ∃ τ1 τ2, (j_b1 (if (¬ (f_X12_good τ) = 0) ∧ (¬ (τ.1 75 10) = (3 : Int32)) then (j_b1 (f_X12_errs (1 : Int32) τ) fun σ5 => some σ5) else (some τ)) fun σ4 => some σ4) = some τ1 ∧
      (j_b1 (if ¬ (f_X12_good τ1) = 0 then (j_b1 (f_X12_advance τ1) fun σ7 => some σ7) else (some τ1)) fun σ6 => some σ6) = some τ2 ∧ y_mw τ2 B n (y_stp B n J (some []) x).1 ∧ y_fm 8 13 1 0 τ τ2 := by
  obtain ⟨⟨r1, r2⟩, vs⟩ := x
  rw [ym_good h]
  by_cases c : r1 = 0
  · subst c
    obtain ⟨g1, g2, q9, q8, q10, q11⟩ := h.2.2.2.1 rfl
    have kc : y_kd B n r2 ≤ 4 := by
      unfold y_kd; split
      · omega
      · exact y_cl_c B _
    by_cases k : y_kd B n r2 = 3
    · rw [if_neg (show ¬ (¬ (if ((0, r2), vs).1.1 = 0 then nI 1 else nI 0) = (0 : Int32) ∧ ¬ τ.1 75 10 = (3 : Int32)) from fun z => z.2 (by rw [q10]; show nI (y_kd B n r2) = _; rw [k]; rfl))]
      obtain ⟨τ', e1, e2, e3⟩ := ym_advR h
      refine ⟨τ, τ', rfl, ?_, ?_, e3.wide (by omega) (by omega) (by omega) (by omega)⟩
      · rw [ym_good h, if_pos (show ((0, r2), vs).1.1 = 0 from rfl), if_pos (show ¬ nI 1 = (0 : Int32) by decide), e1]; rfl
      · rw [y_stp_s, if_pos k]; exact e2
    · rw [if_pos (show (¬ (if ((0, r2), vs).1.1 = 0 then nI 1 else nI 0) = (0 : Int32) ∧ ¬ τ.1 75 10 = (3 : Int32)) from ⟨by rw [if_pos rfl]; decide, by rw [q10, show (3 : Int32) = nI 3 from rfl, y_eq (by show y_kd B n r2 < _; omega) (by omega)]; exact k⟩)]
      obtain ⟨τ', e1, e2, e3⟩ := ym_errs (k := 1) (by omega) (by omega) h
      refine ⟨τ', τ', ?_, ?_, ?_, e3.wide (by omega) (by omega) (by omega) (by omega)⟩
      · rw [show (1 : Int32) = nI 1 from rfl, e1]; rfl
      · rw [ym_good e2, if_neg (show ¬ (if ((0, r2), vs).1.1 = 0 then (1, y_s B n ((0, r2), vs).1.2) else ((0, r2), vs).1).1 = 0 from fun z => by simp at z), if_neg (show ¬ ¬ nI 0 = (0 : Int32) from fun z => z rfl)]; rfl
      · rw [y_stp_s, if_neg k]; exact e2
  · rw [if_neg (show ¬ (¬ (if ((r1, r2), vs).1.1 = 0 then nI 1 else nI 0) = (0 : Int32) ∧ ¬ τ.1 75 10 = (3 : Int32)) from fun z => z.1 (by rw [if_neg (show ¬ ((r1, r2), vs).1.1 = 0 from c)]; rfl))]
    refine ⟨τ, τ, rfl, ?_, ?_, y_fm.refl⟩
    · rw [ym_good h, if_neg (show ¬ ((r1, r2), vs).1.1 = 0 from c), if_neg (show ¬ ¬ nI 0 = (0 : Int32) from fun z => z rfl)]; rfl
    · rw [y_stp_bad (show ((r1, r2), vs).1.1 ≠ 0 from c)]; exact h
/-- a number lo .. h - 1 -/
theorem ym_numR {τ : j_G} {x : (Nat × Nat) × List Nat} {lo hi : Nat} (hh : hi ≤ 99999) (hlo : lo ≤ 99999) (hJ : x.1.1 = 0 → ∀ v, J x.2 v = y_jr lo hi v) (h : y_mw τ B n x.1) :
    ∃ v τ', f_X12_number (nI lo) (nP hi) τ = some (v, τ') ∧ y_mw τ' B n (y_stp B n J none x).1 ∧ y_fm 8 13 1 0 τ τ' ∧ ((y_stp B n J none x).1.1 = 0 → v = nI (y_val B n x.1.2) ∧ (y_stp B n J none x).2 = x.2 ++ [y_val B n x.1.2] ∧ lo ≤ y_val B n x.1.2 ∧ y_val B n x.1.2 < hi) := by
  obtain ⟨⟨r1, r2⟩, vs⟩ := x
  have i0 : ¬ ¬ nI 0 = (0 : Int32) := fun z => z rfl
  have i1 : ¬ nI 1 = (0 : Int32) := by decide
  have vl := y_val_le B n r2
  have badN : ∀ (τ : j_G) (r : Nat × Nat), r.1 ≠ 0 → y_mw τ B n r → (j_b1 (if (¬ (f_X12_good τ) = 0) ∧ ((f_X12_in ((τ.1 75 11)).toInt64 (nI lo).toInt64 (nP hi).toInt64) = 0) then (j_b1 (f_X12_errs (2 : Int32) τ) fun σ4 => some σ4) else (some τ)) fun σ3 =>
      if (f_X12_good σ3) = 0 then (some ((0 : Int32), σ3)) else (j_lt (σ3.1 75 11) fun v5 => j_b1 (f_X12_advance σ3) fun σ6 => some (v5, σ6))) = some (0, τ) := by
    intro τ r hr hm
    have g := ym_good hm
    rw [if_neg hr] at g
    rw [if_neg (fun z => z.1 (by rw [g]; rfl)), j_b1_s, if_pos (by rw [g]; rfl)]
  unfold f_X12_number
  by_cases c : r1 = 0
  · subst c
    obtain ⟨g1, g2, q9, q8, q10, q11⟩ := h.2.2.2.1 rfl
    have kc : y_kd B n r2 ≤ 4 := by
      unfold y_kd; split
      · omega
      · exact y_cl_c B _
    have g := ym_good h
    rw [if_pos rfl] at g
    rw [y_stp_n]
    by_cases k : y_kd B n r2 = 2
    · rw [if_neg (show ¬ y_kd B n r2 ≠ 2 from fun z => z k)]
      rw [if_neg (show ¬ (¬ f_X12_good τ = (0 : Int32) ∧ ¬ τ.1 75 10 = (2 : Int32)) from fun z => z.2 (by rw [q10]; show nI (y_kd B n r2) = _; rw [k]; rfl)), j_b1_s]
      have e11 : τ.1 75 11 = nI (min 99999 (y_val B n r2)) := q11 k
      rw [e11, y_in, hJ rfl]
      by_cases w : lo ≤ y_val B n r2 ∧ y_val B n r2 < hi
      · have em : min 99999 (y_val B n r2) = y_val B n r2 := by omega
        rw [em, if_pos (show ¬ nI (y_val B n r2) < nI lo ∧ ¬ nP hi < nI (y_val B n r2) by rw [y_lt (by omega) (by omega), y_ltP (by omega) (by omega)]; omega), if_neg (fun z => i1 z.2), j_b1_s, if_neg (by rw [g]; exact i1)]
        obtain ⟨τ', e1, e2, e3⟩ := ym_advR h
        simp only [j_lt]
        rw [e11, em, e1, j_b1_s]
        have j0 : y_jr lo hi (y_val B n r2) = 0 := if_pos w
        rw [j0, if_neg (fun z => z rfl)]
        exact ⟨_, τ', rfl, e2, e3.wide (by omega) (by omega) (by omega) (by omega), fun _ => ⟨rfl, rfl, w.1, w.2⟩⟩
      · have j2 : y_jr lo hi (y_val B n r2) = 2 := if_neg w
        rw [if_neg (show ¬ (¬ nI (min 99999 (y_val B n r2)) < nI lo ∧ ¬ nP hi < nI (min 99999 (y_val B n r2))) by rw [y_lt (by omega) (by omega), y_ltP (by omega) (by omega)]; omega), if_pos ⟨by rw [g]; exact i1, rfl⟩]
        obtain ⟨τ', e1, e2, e3⟩ := ym_errs (k := 2) (by omega) (by omega) h
        rw [show (2 : Int32) = nI 2 from rfl, e1, j_b1_s, j_b1_s, j2, if_pos (show (2 : Nat) ≠ 0 by omega)]
        have gg := ym_good e2
        rw [if_neg (show ¬ (if ((0, r2), vs).1.1 = 0 then (2, y_s B n ((0, r2), vs).1.2) else ((0, r2), vs).1).1 = 0 from fun z => by simp at z)] at gg
        rw [if_pos (show f_X12_good τ' = (0 : Int32) by rw [gg]; rfl)]
        exact ⟨_, τ', rfl, e2, e3.wide (by omega) (by omega) (by omega) (by omega), fun z => absurd z (by show ¬ (2 : Nat) = 0; omega)⟩
    · rw [if_pos (show y_kd B n r2 ≠ 2 from k)]
      rw [if_pos (show (¬ f_X12_good τ = (0 : Int32) ∧ ¬ τ.1 75 10 = (2 : Int32)) from ⟨by rw [g]; exact i1, by rw [q10, show (2 : Int32) = nI 2 from rfl, y_eq (by show y_kd B n r2 < _; omega) (by omega)]; exact k⟩)]
      obtain ⟨τ', e1, e2, e3⟩ := ym_errs (k := 1) (by omega) (by omega) h
      rw [show (1 : Int32) = nI 1 from rfl, e1, j_b1_s, j_b1_s, badN τ' _ (by simp) e2]
      exact ⟨_, τ', rfl, e2, e3.wide (by omega) (by omega) (by omega) (by omega), fun z => absurd z (by show ¬ (1 : Nat) = 0; omega)⟩
  · have g := ym_good h
    rw [if_neg (show ¬ ((r1, r2), vs).1.1 = 0 from c)] at g
    rw [if_neg (fun z => z.1 (by rw [g]; rfl)), j_b1_s, badN τ _ c h, y_stp_bad (show ((r1, r2), vs).1.1 ≠ 0 from c)]
    exact ⟨_, τ, rfl, h, y_fm.refl, fun z => absurd z c⟩
theorem y_stp_w2 {L : List Int32} {x : (Nat × Nat) × List Nat} (hne : L ≠ []) : (y_stp B n J (some L) x).2 = x.2 := by
  obtain ⟨⟨r1, r2⟩, vs⟩ := x
  by_cases c : r1 = 0
  · subst c; rw [y_stp_w hne]; split <;> rfl
  · rw [y_stp_bad (show ((r1, r2), vs).1.1 ≠ 0 from c)]
theorem y_stp_J {J' : List Nat → Nat → Nat} {x : (Nat × Nat) × List Nat} (h : x.1.1 = 0 → y_kd B n x.1.2 = 2 → J x.2 (y_val B n x.1.2) = J' x.2 (y_val B n x.1.2)) : y_stp B n J none x = y_stp B n J' none x := by
  obtain ⟨⟨r1, r2⟩, vs⟩ := x
  by_cases c : r1 = 0
  · subst c
    rw [y_stp_n, y_stp_n]
    by_cases k : y_kd B n r2 = 2
    · have e : J vs (y_val B n r2) = J' vs (y_val B n r2) := h rfl k
      rw [e]
    · rw [if_pos (show y_kd B n r2 ≠ 2 from k), if_pos (show y_kd B n r2 ≠ 2 from k)]
  · rw [y_stp_bad (show ((r1, r2), vs).1.1 ≠ 0 from c), y_stp_bad (show ((r1, r2), vs).1.1 ≠ 0 from c)]
theorem y_stp_good {it : Option (List Int32)} {x : (Nat × Nat) × List Nat} (h : (y_stp B n J it x).1.1 = 0) : x.1.1 = 0 := y_gq_good (l := [it]) h
/-- told: a word, and a number behind it -/
theorem ym_toldR {τ : j_G} {q : Nat} {L : List Int32} {x : (Nat × Nat) × List Nat} {lo hi : Nat} (hL : y_str q L) (hne : L ≠ []) (hh : hi ≤ 99999) (hlo : lo ≤ 99999) (hJ : x.1.1 = 0 → ∀ v, J x.2 v = y_jr lo hi v) (h : y_mw τ B n x.1) :
    ∃ v τ', f_X12_told q (nI lo) (nP hi) τ = some (v, τ') ∧ y_mw τ' B n (y_gq B n J [some L, none] x).1 ∧ y_fm 8 13 1 0 τ τ' ∧ ((y_gq B n J [some L, none] x).1.1 = 0 → ∃ w, v = nI w ∧ (y_gq B n J [some L, none] x).2 = x.2 ++ [w] ∧ lo ≤ w ∧ w < hi) := by
  have e2 := y_stp_w2 (B := B) (n := n) (J := J) (x := x) hne
  obtain ⟨τ1, a1, a2, a3⟩ := ym_needs (J := J) hL hne h
  obtain ⟨v, τ2, b1, b2, b3, b4⟩ := ym_numR (J := J) (x := y_stp B n J (some L) x) hh hlo (fun z => by rw [e2]; exact hJ (y_stp_good z)) a2
  unfold f_X12_told
  rw [a1, j_b1_s, b1, j_b2_s]
  refine ⟨v, τ2, rfl, b2, a3.trans b3, fun z => ?_⟩
  obtain ⟨c1, c2, c3, c4⟩ := b4 z
  rw [e2] at c2
  exact ⟨_, c1, c2, c3, c4⟩
end O
/-! ===== the class's line ===== -/
def y_fit (S : List Int32) : Nat → Nat → List (Option (List Int32)) → Bool
  | i, _, [] => decide (S.length ≤ i ∧ i ≤ 200)
  | i, k, none :: l => decide (i < S.length) && decide (S.getD i 0 = 35) && decide (i + 1 < S.length → S.getD (i + 1) 0 = 32) && decide (k < 5) && y_fit S (i + 2) (k + 1) l
  | i, k, some [] :: l => decide (i < S.length) && decide (S.getD i 0 = 59) && decide (i + 1 < S.length → S.getD (i + 1) 0 = 32) && y_fit S (i + 2) k l
  | i, k, some (a :: L) :: l => decide (i + (a :: L).length < S.length) && decide (S.getD (i + (a :: L).length) 0 = 32) && decide (∀ j, j < (a :: L).length → S.getD (i + j) 0 = (a :: L).getD j 0 ∧ S.getD (i + j) 0 ≠ 32) && decide (S.getD i 0 ≠ 35 ∧ S.getD i 0 ≠ 59) && y_fit S (i + (a :: L).length + 1) k l
def y_cw (σ : j_G) (B : Nat → Int32) (n : Nat) (r : Nat × Nat) : Prop := y_ct σ B n ∧ r.1 ≤ 3 ∧ r.2 ≤ n ∧ (r.1 = 0 → σ.1 10 1 = nI 0 ∧ σ.1 10 2 = nP 0 ∧ σ.1 10 7 = nI r.2) ∧ (r.1 ≠ 0 → σ.1 10 1 = nI r.1 ∧ σ.1 10 2 = nI r.2)
def y_fc (σ σ' : j_G) : Prop := (∀ c, c ≠ 10 → c ≠ 21 → σ'.1 c = σ.1 c) ∧ σ'.2 = σ.2
theorem y_fc.refl {σ : j_G} : y_fc σ σ := ⟨fun _ _ _ => rfl, rfl⟩
theorem y_fc.trans {σ σ' σ'' : j_G} (h : y_fc σ σ') (h' : y_fc σ' σ'') : y_fc σ σ'' := ⟨fun c a b => (h'.1 c a b).trans (h.1 c a b), h'.2.trans h.2⟩
theorem y_fc.si {σ σ' : j_G} {c j : Nat} {v : Int32} (h : y_fc σ σ') (hc : c = 10 ∨ c = 21) : y_fc σ (j_si σ' c j v) := ⟨fun c' a b => (funext fun j' => j_r_ne (by omega)).trans (h.1 c' a b), h.2⟩
theorem y_cf10.fc {σ σ' : j_G} (h : y_cf10 σ σ') : y_fc σ σ' := ⟨fun c a _ => h.1 c a, h.2.1⟩
section L
variable {B : Nat → Int32} {n : Nat} {J : List Nat → Nat → Nat}
theorem y_ct.fc {σ σ' : j_G} (h : y_ct σ B n) (hf : y_fc σ σ') : y_ct σ' B n := by
  unfold y_ct at *; rw [hf.1 19 (by omega) (by omega), hf.1 20 (by omega) (by omega)]; exact h
theorem y_kd_le {p : Nat} : y_kd B n p ≤ 4 := by
  unfold y_kd; split
  · omega
  · exact y_cl_c B _
theorem y_srt_eq {k j : Nat} (hk : k ≤ 4) (hj : 1 ≤ j) (hj4 : j ≤ 4) : nI (y_srt k) = nI j ↔ k + 1 = j := by
  have : y_srt k ≤ 4 := by unfold y_srt; split <;> omega
  rw [y_eq (by omega) (by omega)]
  unfold y_srt
  split <;> omega
/-- a word's letters -/
theorem y_e_in {p : Nat} (h : p ≤ n) (hk : y_kd B n p = 1) {j : Nat} (h1 : y_s B n p ≤ j) (h2 : j < y_e B n p) : y_cl B j = 1 := by
  unfold y_kd at hk
  unfold y_e at h2
  split at hk
  · omega
  · next c =>
    rw [if_neg c, if_pos hk] at h2
    exact y_wl_in _ _ _ h1 h2
theorem yc_sp37 {σ : j_G} {q : Nat} {S : List Int32} (hS : y_str q S) (ht : y_ct σ B n) {i s v : Nat} (h6 : σ.1 10 6 = nI s) (hi : i + v ≤ S.length) (hs : s + v ≤ n) : ∀ m j f, j + m = v → m < f → (∀ t, t < j → S.getD (i + t) 0 = nI (y_t B (s + t))) → p_X7_isSpelled_37 q (nI i) (nI v) σ f (nI j) = some (if ∀ t, t < v → S.getD (i + t) 0 = nI (y_t B (s + t)) then nI 1 else nI 0) := by
  have hn := ht.1
  have hl := hS.2.2.1
  intro m
  induction m with
  | zero =>
    intro j f h hf hj
    obtain ⟨f, rfl⟩ := y_pos hf
    unfold p_X7_isSpelled_37
    rw [if_neg (show ¬ nI j < nI v by rw [y_lt (by omega) (by omega)]; omega), if_pos (fun t z => hj t (by omega))]; rfl
  | succ m ih =>
    intro j f h hf hj
    obtain ⟨f, rfl⟩ := y_pos hf
    unfold p_X7_isSpelled_37
    rw [if_pos (show nI j < nI v by rw [y_lt (by omega) (by omega)]; omega), nI_add, hS.chr (by omega), j_b1_s, h6, nI_add, yc_at ht (by omega), j_b1_s]
    have e : nI j + 1 = nI (j + 1) := by simp (disch := omega) only [y_lit, nI_add]
    by_cases k : S.getD (i + j) 0 = nI (y_t B (s + j))
    · rw [if_neg (fun z => z k), e]
      refine ih (j + 1) f (by omega) (by omega) (fun t z => ?_)
      by_cases w : t = j
      · subst w; exact k
      · exact hj t (by omega)
    · rw [if_pos k, if_neg (fun z => k (z j (by omega)))]; rfl
theorem yc_spelled {σ : j_G} {q : Nat} {S L : List Int32} (hS : y_str q S) (ht : y_ct σ B n) {p i : Nat} (hp : p ≤ n) (hc : y_ck σ B n p) (hk : y_kd B n p = 1) (h1 : i + L.length < S.length) (h2 : S.getD (i + L.length) 0 = 32) (h3 : ∀ j, j < L.length → S.getD (i + j) 0 = L.getD j 0 ∧ S.getD (i + j) 0 ≠ 32) : f_X7_isSpelled q (nI i) σ = some (if y_sp L B n p = true then nI 1 else nI 0) := by
  have hn := ht.1
  have hl := hS.2.2.1
  obtain ⟨c5, c6, c7, c8⟩ := hc
  have eb := y_e_bd (B := B) hp
  unfold f_X7_isSpelled
  simp only [j_lt]
  rw [c6, c7, pk_sub eb.1, hS.len, j_b1_s, nI_add]
  have F0 : (0 : Int32) = nI 0 := rfl
  by_cases a : i + (y_e B n p - y_s B n p) < S.length
  · rw [if_pos (show nI (i + (y_e B n p - y_s B n p)) < nI S.length by rw [y_lt (by omega) (by omega)]; exact a), hS.chr a, j_b1_s]
    by_cases b : S.getD (i + (y_e B n p - y_s B n p)) 0 = 32
    · rw [if_neg (fun z => z b), F0, yc_sp37 hS ht c6 (by omega) (by omega) (y_e B n p - y_s B n p) 0 j_F (by omega) (y_F (by omega)) (fun t z => absurd z (by omega))]
      congr 1
      by_cases g : y_sp L B n p = true
      · rw [if_pos g, if_pos]
        obtain ⟨g1, g2, g3⟩ := y_spP.mp g
        intro t z
        rw [(h3 t (by omega)).1]; exact (g3 t (by omega)).symm
      · rw [if_neg g, if_neg]
        intro z
        apply g
        have ge : L.length ≤ y_e B n p - y_s B n p := by
          rcases Nat.lt_or_ge (y_e B n p - y_s B n p) L.length with w | w
          · exact absurd b (h3 _ w).2
          · exact w
        have le : y_e B n p - y_s B n p ≤ L.length := by
          rcases Nat.lt_or_ge L.length (y_e B n p - y_s B n p) with w | w
          · have q1 := z _ w
            rw [h2] at q1
            have q2 := y_clL.mpr (y_e_in hp hk (show y_s B n p ≤ y_s B n p + L.length by omega) (by omega))
            rw [show (32 : Int32) = nI 32 from rfl, y_eq (by omega) (by omega)] at q1
            omega
          · exact w
        refine y_spP.mpr ⟨hk, by omega, fun t ht' => ?_⟩
        rw [← (h3 t ht').1]; exact (z t (by omega)).symm
    · rw [if_pos b]
      congr 1
      rw [if_neg]; rfl
      intro g
      obtain ⟨g1, g2, g3⟩ := y_spP.mp g
      apply b
      rw [show y_e B n p - y_s B n p = L.length by omega]; exact h2
  · rw [if_neg (show ¬ nI (i + (y_e B n p - y_s B n p)) < nI S.length by rw [y_lt (by omega) (by omega)]; exact a)]
    congr 1
    rw [if_neg]; rfl
    intro g
    obtain ⟨g1, g2, g3⟩ := y_spP.mp g
    omega
/-- a word of the shape -/
theorem yc_stW {σ : j_G} {q : Nat} {S L : List Int32} (hS : y_str q S) (ht : y_ct σ B n) {p i : Nat} (hp : p ≤ n) (hc : y_ck σ B n p) (h1 : i + L.length < S.length) (h2 : S.getD (i + L.length) 0 = 32) (h3 : ∀ j, j < L.length → S.getD (i + j) 0 = L.getD j 0 ∧ S.getD (i + j) 0 ≠ 32) (h4 : S.getD i 0 ≠ 35 ∧ S.getD i 0 ≠ 59) : f_X7_standsAt q (nI i) σ = some (if y_sp L B n p = true then nI 1 else nI 0) := by
  have hl := hS.2.2.1
  have kl := y_kd_le (B := B) (n := n) (p := p)
  unfold f_X7_standsAt
  rw [if_pos (show ¬ nI i < (0 : Int32) by rw [show (0 : Int32) = nI 0 from rfl, y_lt (by omega) (by omega)]; omega), hS.len, j_b1_s, if_neg (show ¬ ¬ nI i < nI S.length by rw [y_lt (by omega) (by omega)]; omega), hS.chr (by omega), j_b1_s]
  rw [if_neg h4.1, if_neg h4.2, hc.1]
  by_cases k : y_kd B n p = 1
  · rw [if_pos (show nI (y_srt (y_kd B n p)) = (2 : Int32) from (y_srt_eq (j := 2) kl (by omega) (by omega)).mpr (by omega)), yc_spelled hS ht hp hc k h1 h2 h3, j_b1_s]
    by_cases g : y_sp L B n p = true
    · rw [if_pos g, if_pos (show ¬ nI 1 = (0 : Int32) by decide)]; rfl
    · rw [if_neg g, if_neg (show ¬ ¬ nI 0 = (0 : Int32) from fun z => z rfl)]; rfl
  · rw [if_neg (show ¬ nI (y_srt (y_kd B n p)) = (2 : Int32) from fun z => k (by have := (y_srt_eq (j := 2) kl (by omega) (by omega)).mp z; omega)), if_neg (fun g => k (y_spP.mp g).1)]; rfl
theorem yc_stN {σ : j_G} {q : Nat} {S : List Int32} (hS : y_str q S) {p i : Nat} (hc : y_ck σ B n p) (h1 : i < S.length) (h2 : S.getD i 0 = 35) : f_X7_standsAt q (nI i) σ = some (if y_kd B n p = 2 then nI 1 else nI 0) := by
  have hl := hS.2.2.1
  have kl := y_kd_le (B := B) (n := n) (p := p)
  unfold f_X7_standsAt
  rw [if_pos (show ¬ nI i < (0 : Int32) by rw [show (0 : Int32) = nI 0 from rfl, y_lt (by omega) (by omega)]; omega), hS.len, j_b1_s, if_neg (show ¬ ¬ nI i < nI S.length by rw [y_lt (by omega) (by omega)]; omega), hS.chr (by omega), j_b1_s, if_pos h2, hc.1]
  by_cases k : y_kd B n p = 2
  · rw [if_pos (show nI (y_srt (y_kd B n p)) = (3 : Int32) from (y_srt_eq (j := 3) kl (by omega) (by omega)).mpr (by omega)), if_pos k]; rfl
  · rw [if_neg (show ¬ nI (y_srt (y_kd B n p)) = (3 : Int32) from fun z => k (by have := (y_srt_eq (j := 3) kl (by omega) (by omega)).mp z; omega)), if_neg k]; rfl
theorem yc_stS {σ : j_G} {q : Nat} {S : List Int32} (hS : y_str q S) {p i : Nat} (hc : y_ck σ B n p) (h1 : i < S.length) (h2 : S.getD i 0 = 59) : f_X7_standsAt q (nI i) σ = some (if y_kd B n p = 3 then nI 1 else nI 0) := by
  have hl := hS.2.2.1
  have kl := y_kd_le (B := B) (n := n) (p := p)
  unfold f_X7_standsAt
  rw [if_pos (show ¬ nI i < (0 : Int32) by rw [show (0 : Int32) = nI 0 from rfl, y_lt (by omega) (by omega)]; omega), hS.len, j_b1_s, if_neg (show ¬ ¬ nI i < nI S.length by rw [y_lt (by omega) (by omega)]; omega), hS.chr (by omega), j_b1_s, if_neg (show ¬ S.getD i 0 = 35 by rw [h2]; decide), if_pos h2, hc.1]
  by_cases k : y_kd B n p = 3
  · rw [if_pos (show nI (y_srt (y_kd B n p)) = (4 : Int32) from (y_srt_eq (j := 4) kl (by omega) (by omega)).mpr (by omega)), if_pos k]; rfl
  · rw [if_neg (show ¬ nI (y_srt (y_kd B n p)) = (4 : Int32) from fun z => k (by have := (y_srt_eq (j := 4) kl (by omega) (by omega)).mp z; omega)), if_neg k]; rfl
theorem yc_bb {q : Nat} {S : List Int32} (hS : y_str q S) {j : Nat} (hj : j ≤ S.length) (hb : j < S.length → S.getD j 0 = 32) : ∀ m i f, i + m = j → m < f → (∀ t, i ≤ t → t < j → S.getD t 0 ≠ 32) → p_X7_behindBlank_2 q f (nI i) = some (nI j) := by
  have hl := hS.2.2.1
  intro m
  induction m with
  | zero =>
    intro i f h hf hh
    obtain ⟨f, rfl⟩ := y_pos hf
    obtain rfl : i = j := by omega
    unfold p_X7_behindBlank_2
    rw [hS.len, j_b1_s]
    by_cases c : i < S.length
    · rw [if_pos (show nI i < nI S.length by rw [y_lt (by omega) (by omega)]; exact c), hS.chr c, j_b1_s, if_neg (fun z => z (hb c))]
    · rw [if_neg (show ¬ nI i < nI S.length by rw [y_lt (by omega) (by omega)]; exact c)]
  | succ m ih =>
    intro i f h hf hh
    obtain ⟨f, rfl⟩ := y_pos hf
    unfold p_X7_behindBlank_2
    have e : nI i + 1 = nI (i + 1) := by simp (disch := omega) only [y_lit, nI_add]
    rw [hS.len, j_b1_s, if_pos (show nI i < nI S.length by rw [y_lt (by omega) (by omega)]; omega), hS.chr (by omega), j_b1_s, if_pos (hh i (by omega) (by omega)), e]
    exact ih (i + 1) f (by omega) (by omega) (fun t a b => hh t (by omega) b)
theorem yc_bbn {q : Nat} {S : List Int32} (hS : y_str q S) {i j : Nat} (hij : i ≤ j) (hj : j ≤ S.length) (hb : j < S.length → S.getD j 0 = 32) (hh : ∀ t, i ≤ t → t < j → S.getD t 0 ≠ 32) : f_X7_behindBlank q (nI i) = some (nI (j + 1)) := by
  have hl := hS.2.2.1
  unfold f_X7_behindBlank
  rw [yc_bb hS hj hb (j - i) i j_F (by omega) (y_F (by omega)) hh, j_b1_s]
  congr 1
  simp (disch := omega) only [y_lit, nI_add]
end L
/-! ===== the class's line: items ===== -/
section L
variable {B : Nat → Int32} {n : Nat} {J : List Nat → Nat → Nat}
theorem yc_blame {σ : j_G} {k p : Nat} (hk : 0 < k) (hk3 : k ≤ 3) (hp : p ≤ n) (ht : y_ct σ B n) (h6 : σ.1 10 6 = nI (y_s B n p)) : ∃ σ', f_X7_blame (nI k) σ = some σ' ∧ y_cw σ' B n (k, y_s B n p) ∧ y_fc σ σ' := by
  have sb := y_s_bd (B := B) hp
  have fr : y_fc σ (j_si (j_si σ 10 1 (nI k)) 10 2 (σ.1 10 6)) := (y_fc.refl.si (by omega)).si (by omega)
  unfold f_X7_blame
  simp only [j_lt]
  rw [j_r_nj (show 6 ≠ 1 by omega)]
  refine ⟨_, rfl, ⟨ht.fc fr, hk3, sb.2, fun z => ?_, fun _ => ⟨?_, ?_⟩⟩, fr⟩
  · have : k = 0 := z
    omega
  · rw [j_r_nj (by omega), j_r_eq]
  · rw [j_r_eq, h6]
/-- the step, in the middle of a line -/
theorem yc_stepW {σ : j_G} {p : Nat} (h : y_cw σ B n (0, p)) : ∃ σ', f_X7_step σ = some σ' ∧ y_ck σ' B n p ∧ y_cf10 σ σ' ∧ y_ct σ' B n ∧ y_cw σ' B n (0, y_e B n p) := by
  obtain ⟨h1, h2, h3, h4, h5⟩ := h
  obtain ⟨g1, g2, g3⟩ := h4 rfl
  obtain ⟨σ', e1, e2, e3⟩ := yc_step h1 h3 g3
  have eb := y_e_bd (B := B) h3
  refine ⟨σ', e1, e2, e3, h1.fr e3, h1.fr e3, by simp, eb.2.1, fun _ => ⟨?_, ?_, e2.2.2.1⟩, fun z => absurd rfl z⟩
  · rw [e3.2.2.1]; exact g1
  · rw [e3.2.2.2]; exact g2
/-- a judge, of what is told -/
def y_jd (J : List Nat → Nat → Nat) (K : Int32) (σ : j_G) : Prop := ∀ (σ' : j_G) (vs : List Nat) (v : Nat), y_fc σ σ' → σ'.1 10 8 = nI v → v ≤ 1000000 → (∀ j, j < vs.length → σ'.1 21 j = nI (vs.getD j 0) ∧ vs.getD j 0 ≤ 1000000) → vs.length < 5 → f_X7_judge K (nI vs.length) σ' = some (nI (J vs v)) ∧ J vs v ≤ 3
theorem y_jd.fc {K : Int32} {σ σ' : j_G} (h : y_jd J K σ) (hf : y_fc σ σ') : y_jd J K σ' := fun σ'' vs v a b c d e => h σ'' vs v (hf.trans a) b c d e
theorem yc_loop {q : Nat} {S : List Int32} (hS : y_str q S) (K : Int32) : ∀ (items : List (Option (List Int32))) (i f c p : Nat) (vs : List Nat) (σ : j_G), y_fit S i vs.length items = true → items.length < f → c + items.length < S.length → y_jd J K σ → y_cw σ B n (0, p) → (∀ j, j < vs.length → σ.1 21 j = nI (vs.getD j 0) ∧ vs.getD j 0 ≤ 1000000) →
    ∃ σ', y_cw σ' B n (y_gq B n J items ((0, p), vs)).1 ∧ y_fc σ σ' ∧ ((y_gq B n J items ((0, p), vs)).1.1 ≠ 0 → p_X7_readLine_47 K q f (nI vs.length) (nI i) (nI c) σ = some σ') ∧
      ((y_gq B n J items ((0, p), vs)).1.1 = 0 → p_X7_readLine_47 K q f (nI vs.length) (nI i) (nI c) σ = (j_b1 (f_X7_apply K σ') fun σ14 => j_lt (j_si σ14 11 1 ((σ14.1 11 1) + (1 : Int32))) fun σ15 => some σ15) ∧
        ∀ j, j < (y_gq B n J items ((0, p), vs)).2.length → σ'.1 21 j = nI ((y_gq B n J items ((0, p), vs)).2.getD j 0) ∧ (y_gq B n J items ((0, p), vs)).2.getD j 0 ≤ 1000000) := by
  have hl := hS.2.2.1
  intro items
  induction items with
  | nil =>
    intro i f c p vs σ hfit hf hc hJ hw hv
    obtain ⟨f, rfl⟩ := y_pos hf
    obtain ⟨hi, hi2⟩ : S.length ≤ i ∧ i ≤ 200 := by unfold y_fit at hfit; exact of_decide_eq_true hfit
    refine ⟨σ, hw, y_fc.refl, fun z => absurd rfl z, fun _ => ⟨?_, hv⟩⟩
    unfold p_X7_readLine_47
    rw [hS.len, j_b1_s]
    simp only [j_lt]
    rw [if_pos (show nI c < nI S.length by rw [y_lt (by omega) (by omega)]; simp at hc; omega), j_b1_s, if_neg (show ¬ nI i < nI S.length by rw [y_lt (by omega) (by omega)]; omega)]
  | cons it l ih =>
    intro i f c p vs σ hfit hf hc hJ hw hv
    obtain ⟨f, rfl⟩ := y_pos hf
    have hn := hw.1.1
    have hp : p ≤ n := hw.2.2.1
    have hlen : (it :: l).length = l.length + 1 := rfl
    rw [hlen] at hf hc
    obtain ⟨σ1, e1, e2, e3, e4, e5⟩ := yc_stepW hw
    have kl := y_kd_le (B := B) (n := n) (p := p)
    have vl := y_val_le B n p
    have hx : y_gq B n J (it :: l) ((0, p), vs) = y_gq B n J l (y_stp B n J it ((0, p), vs)) := rfl
    have ec : nI c + 1 = nI (c + 1) := by simp (disch := omega) only [y_lit, nI_add]
    rw [hx]
    have start : i < S.length → p_X7_readLine_47 K q (f + 1) (nI vs.length) (nI i) (nI c) σ = (j_b1 (f_X7_standsAt q (nI i) σ1) fun v5 =>
      if v5 = 0 then (j_b1 (f_X7_blame (1) σ1) fun σ6 => some σ6) else (
      if ((σ1.1 10 5) = (3 : Int32)) ∧ (nI vs.length < (5 : Int32)) then (j_b1 (f_X7_judge K (nI vs.length) σ1) fun v8 =>
      if ¬ v8 = 0 then (j_b1 (f_X7_blame v8 σ1) fun σ9 => some σ9) else (j_ix (nI vs.length) 5 (
      (j_b1 (f_X7_behindBlank q (nI i)) fun v13 => p_X7_readLine_47 K q f (nI vs.length + 1) v13 (nI c + 1) (j_si σ1 21 (nI vs.length).toNatClampNeg (σ1.1 10 8)))))) else (
      (j_b1 (f_X7_behindBlank q (nI i)) fun v13 => p_X7_readLine_47 K q f (nI vs.length) v13 (nI c + 1) σ1)))) := by
      intro hi
      rw [p_X7_readLine_47.eq_def]
      simp only [j_lt]
      rw [hS.len, j_b1_s, if_pos (show nI c < nI S.length by rw [y_lt (by omega) (by omega)]; omega), j_b1_s, if_pos (show nI i < nI S.length by rw [y_lt (by omega) (by omega)]; omega), e1, j_b1_s]
    have one : S.getD i 0 ≠ 32 → ∀ t, i ≤ t → t < i + 1 → S.getD t 0 ≠ 32 := fun h t a b => by rw [show t = i by omega]; exact h
    have bad : ∀ k, 0 < k → k ≤ 3 → (∃ σ', f_X7_blame (nI k) σ1 = some σ' ∧ y_cw σ' B n (k, y_s B n p) ∧ y_fc σ σ') := by
      intro k a b
      obtain ⟨σ2, g1, g2, g3⟩ := yc_blame a b hp e4 e2.2.1
      exact ⟨σ2, g1, g2, e3.fc.trans g3⟩
    have v1 : ∀ j, j < vs.length → σ1.1 21 j = nI (vs.getD j 0) ∧ vs.getD j 0 ≤ 1000000 := fun j hj => by rw [e3.1 21 (by omega)]; exact hv j hj
    match it, hfit with
    | none, hfit =>
      unfold y_fit at hfit
      simp only [Bool.and_eq_true, decide_eq_true_eq] at hfit
      obtain ⟨⟨⟨⟨h1, h2⟩, h3⟩, h4⟩, h5⟩ := hfit
      rw [y_stp_n, start h1, yc_stN hS e2 h1 h2, j_b1_s]
      by_cases k : y_kd B n p = 2
      · rw [if_pos k, if_neg (show ¬ nI 1 = (0 : Int32) by decide), if_neg (show ¬ y_kd B n p ≠ 2 from fun z => z k), if_pos (show σ1.1 10 5 = (3 : Int32) ∧ nI vs.length < (5 : Int32) from ⟨by rw [e2.1, k]; rfl, by rw [show (5 : Int32) = nI 5 from rfl, y_lt (by omega) (by omega)]; exact h4⟩)]
        obtain ⟨j1, j2⟩ := hJ σ1 vs (y_val B n p) e3.fc e2.2.2.2 vl v1 h4
        rw [j1, j_b1_s]
        by_cases g : J vs (y_val B n p) = 0
        · rw [if_neg (fun z => z g), if_neg (show ¬ ¬ nI (J vs (y_val B n p)) = (0 : Int32) by rw [g]; exact fun z => z rfl), y_ix h4 (by omega), yc_bbn hS (j := i + 1) (by omega) (by omega) h3 (one (by rw [h2]; decide)), j_b1_s, nI_clamp (by omega), ec, e2.2.2.2]
          have el : (vs ++ [y_val B n p]).length = vs.length + 1 := by simp
          have ev : nI vs.length + 1 = nI (vs ++ [y_val B n p]).length := by rw [el]; simp (disch := omega) only [y_lit, nI_add]
          have fr : y_fc σ1 (j_si σ1 21 vs.length (nI (y_val B n p))) := y_fc.refl.si (by omega)
          rw [ev]
          have w5 : y_cw (j_si σ1 21 vs.length (nI (y_val B n p))) B n (0, y_e B n p) := by
            obtain ⟨a1, a2, a3, a4, a5⟩ := e5
            refine ⟨a1.fc fr, a2, a3, fun z => ?_, fun z => absurd rfl z⟩
            rw [j_r_ne (by omega), j_r_ne (by omega), j_r_ne (by omega)]; exact a4 z
          have v2 : ∀ j, j < (vs ++ [y_val B n p]).length → (j_si σ1 21 vs.length (nI (y_val B n p))).1 21 j = nI ((vs ++ [y_val B n p]).getD j 0) ∧ (vs ++ [y_val B n p]).getD j 0 ≤ 1000000 := by
            intro j hj
            rw [el] at hj
            by_cases w : j = vs.length
            · subst w
              rw [j_r_eq]
              have : (vs ++ [y_val B n p]).getD vs.length 0 = y_val B n p := by simp [List.getD]
              rw [this]
              exact ⟨rfl, vl⟩
            · rw [j_r_nj (by omega)]
              have : (vs ++ [y_val B n p]).getD j 0 = vs.getD j 0 := by
                have : j < vs.length := by omega
                simp [List.getD, List.getElem?_append_left this]
              rw [this]; exact v1 j (by omega)
          obtain ⟨σ', b1, b2, b3, b4⟩ := ih (i + 2) f (c + 1) (y_e B n p) (vs ++ [y_val B n p]) _ (by rw [el]; exact h5) (by omega) (by omega) (hJ.fc (e3.fc.trans fr)) w5 v2
          exact ⟨σ', b1, (e3.fc.trans fr).trans b2, b3, b4⟩
        · rw [if_pos (show J vs (y_val B n p) ≠ 0 from g), if_pos (show ¬ nI (J vs (y_val B n p)) = (0 : Int32) by rw [show (0 : Int32) = nI 0 from rfl, y_eq (by omega) (by omega)]; exact g), y_gq_bad (show ((J vs (y_val B n p), y_s B n p), vs).1.1 ≠ 0 from g)]
          obtain ⟨σ2, g1, g2, g3⟩ := bad (J vs (y_val B n p)) (by omega) j2
          rw [g1]
          exact ⟨σ2, g2, g3, fun _ => rfl, fun z => absurd z g⟩
      · rw [if_neg k, if_pos (show nI 0 = (0 : Int32) from rfl), if_pos (show y_kd B n p ≠ 2 from k), y_gq_bad (show ((1, y_s B n p), vs).1.1 ≠ 0 by show (1 : Nat) ≠ 0; omega)]
        obtain ⟨σ2, g1, g2, g3⟩ := bad 1 (by omega) (by omega)
        rw [show (1 : Int32) = nI 1 from rfl, g1]
        exact ⟨σ2, g2, g3, fun _ => rfl, fun z => absurd z (by show ¬ (1 : Nat) = 0; omega)⟩
    | some [], hfit =>
      unfold y_fit at hfit
      simp only [Bool.and_eq_true, decide_eq_true_eq] at hfit
      obtain ⟨⟨⟨h1, h2⟩, h3⟩, h5⟩ := hfit
      rw [start h1, yc_stS hS e2 h1 h2, j_b1_s]
      by_cases k : y_kd B n p = 3
      · rw [if_pos k, if_neg (show ¬ nI 1 = (0 : Int32) by decide), show y_stp B n J (some []) ((0, p), vs) = ((0, y_e B n p), vs) by rw [y_stp_s, if_pos k], if_neg (show ¬ (σ1.1 10 5 = (3 : Int32) ∧ nI vs.length < (5 : Int32)) from fun z => by have := z.1; rw [e2.1, k] at this; exact absurd this (by decide)), yc_bbn hS (j := i + 1) (by omega) (by omega) h3 (one (by rw [h2]; decide)), j_b1_s, ec]
        obtain ⟨σ', b1, b2, b3, b4⟩ := ih (i + 2) f (c + 1) (y_e B n p) vs σ1 h5 (by omega) (by omega) (hJ.fc e3.fc) e5 v1
        exact ⟨σ', b1, e3.fc.trans b2, b3, b4⟩
      · rw [if_neg k, if_pos (show nI 0 = (0 : Int32) from rfl), show y_stp B n J (some []) ((0, p), vs) = ((1, y_s B n p), vs) by rw [y_stp_s, if_neg k], y_gq_bad (show ((1, y_s B n p), vs).1.1 ≠ 0 by show (1 : Nat) ≠ 0; omega)]
        obtain ⟨σ2, g1, g2, g3⟩ := bad 1 (by omega) (by omega)
        rw [show (1 : Int32) = nI 1 from rfl, g1]
        exact ⟨σ2, g2, g3, fun _ => rfl, fun z => absurd z (by show ¬ (1 : Nat) = 0; omega)⟩
    | some (a :: L), hfit =>
      unfold y_fit at hfit
      simp only [Bool.and_eq_true, decide_eq_true_eq] at hfit
      obtain ⟨⟨⟨⟨h1, h2⟩, h3⟩, h4⟩, h5⟩ := hfit
      have hLl : (a :: L).length = L.length + 1 := rfl
      rw [start (by omega), yc_stW hS e4 hp e2 h1 h2 h3 h4, j_b1_s]
      by_cases k : y_sp (a :: L) B n p = true
      · have k1 := (y_spP.mp k).1
        rw [if_pos k, if_neg (show ¬ nI 1 = (0 : Int32) by decide), show y_stp B n J (some (a :: L)) ((0, p), vs) = ((0, y_e B n p), vs) by rw [y_stp_w (List.cons_ne_nil a L), if_pos k], if_neg (show ¬ (σ1.1 10 5 = (3 : Int32) ∧ nI vs.length < (5 : Int32)) from fun z => by have := z.1; rw [e2.1, k1] at this; exact absurd this (by decide)), yc_bbn hS (j := i + (a :: L).length) (by omega) (by omega) (fun _ => h2) (fun t x y => by
          have := (h3 (t - i) (by omega)).2
          rw [show i + (t - i) = t by omega] at this
          exact this), j_b1_s, ec]
        obtain ⟨σ', b1, b2, b3, b4⟩ := ih (i + (a :: L).length + 1) f (c + 1) (y_e B n p) vs σ1 h5 (by omega) (by omega) (hJ.fc e3.fc) e5 v1
        exact ⟨σ', b1, e3.fc.trans b2, b3, b4⟩
      · rw [if_neg k, if_pos (show nI 0 = (0 : Int32) from rfl), show y_stp B n J (some (a :: L)) ((0, p), vs) = ((1, y_s B n p), vs) by rw [y_stp_w (List.cons_ne_nil a L), if_neg k], y_gq_bad (show ((1, y_s B n p), vs).1.1 ≠ 0 by show (1 : Nat) ≠ 0; omega)]
        obtain ⟨σ2, g1, g2, g3⟩ := bad 1 (by omega) (by omega)
        rw [show (1 : Int32) = nI 1 from rfl, g1]
        exact ⟨σ2, g2, g3, fun _ => rfl, fun z => absurd z (by show ¬ (1 : Nat) = 0; omega)⟩
end L
/-! ===== the words and shapes ===== -/
def y_L (k : Nat) : List Int32 := x_sbyt.getD k []
def y_fw : Nat → Nat
  | 0 => 8 | 1 => 16 | 2 => 17 | 3 => 13 | 4 => 14 | 5 => 15 | 6 => 18 | _ => 19
theorem y_strs : ∀ k, k < 27 → x_sbyt[k]? = some (y_L k) ∧ (y_L k).length < 100 ∧ ∀ i, i < (y_L k).length → 0 ≤ ((y_L k).getD i 0).toInt ∧ ((y_L k).getD i 0).toInt < 128 := by decide +kernel
theorem y_strK {k : Nat} (hk : k < 27) : y_str (2000000 + k) (y_L k) := by
  obtain ⟨h1, h2, h3⟩ := y_strs k hk
  refine ⟨by unfold x_str; omega, ?_, h2, fun i hi => ?_⟩
  · rw [show 2000000 + k - x_str = k by unfold x_str; omega]; exact h1
  · obtain ⟨g1, g2⟩ := h3 i hi
    obtain ⟨c, hc, e⟩ := y_of _ 128 g1 g2
    exact ⟨c, hc, e⟩
theorem y_ne : ∀ k, k < 27 → y_L k ≠ [] := by decide +kernel
theorem y_first : ∀ k, k < 8 → f_X7_shapeOf (nI k) = 2000000 + k ∧ y_fw k < 27 ∧ 0 + (y_L (y_fw k)).length < (y_L k).length ∧ (y_L k).getD (0 + (y_L (y_fw k)).length) 0 = 32 ∧ (∀ j, j < (y_L (y_fw k)).length → (y_L k).getD (0 + j) 0 = (y_L (y_fw k)).getD j 0 ∧ (y_L k).getD (0 + j) 0 ≠ 32) ∧ (y_L k).getD 0 0 ≠ 35 ∧ (y_L k).getD 0 0 ≠ 59 := by decide +kernel
theorem y_dist : ∀ j, j < 27 → ∀ k, k < 27 → (j ≠ k ∧ 8 ≤ j ∧ 8 ≤ k) → ¬ ((y_L j).length = (y_L k).length ∧ ∀ i, i < (y_L j).length → (y_L j).getD i 0 = (y_L k).getD i 0) := by decide +kernel
def y_it : Nat → List (Option (List Int32))
  | 0 => [some (y_L 9), none, some (y_L 10), none, some (y_L 11), none, some (y_L 12), none, some []]
  | 1 => [none, some (y_L 20), none, some []]
  | 2 => [none, some []]
  | 3 => [none, some []]
  | 4 => [none, some []]
  | 5 => [none, none, some []]
  | 6 => [some (y_L 21), none, some (y_L 22), none, some (y_L 23), none, some (y_L 24), none, some (y_L 25), none, some []]
  | _ => [none, some (y_L 26), none, some []]
theorem y_fits : ∀ k, k < 8 → y_fit (y_L k) ((y_L (y_fw k)).length + 1) 0 (y_it k) = true ∧ (y_it k).length < 100 ∧ 1 + (y_it k).length < (y_L k).length := by decide +kernel
/-! ===== the kind of a line ===== -/
section K
variable {B : Nat → Int32} {n : Nat}
theorem y_sp_dist {p j k : Nat} (hj : j < 27) (hk : k < 27) (hj8 : 8 ≤ j) (hk8 : 8 ≤ k) (h : y_sp (y_L k) B n p = true) (hne : j ≠ k) : ¬ y_sp (y_L j) B n p = true := by
  intro z
  obtain ⟨_, a2, a3⟩ := y_spP.mp h
  obtain ⟨_, b2, b3⟩ := y_spP.mp z
  exact y_dist j hj k hk ⟨hne, hj8, hk8⟩ ⟨by omega, fun i hi => by rw [← b3 i hi, ← a3 i (by omega)]⟩
theorem y_fw_inj : ∀ j, j < 8 → ∀ k, k < 8 → y_fw j = y_fw k → j = k := by decide
theorem y_fw_lt : ∀ j, j < 8 → 8 ≤ y_fw j ∧ y_fw j < 27 := by decide
/-- the kind: 8 if none -/
def y_kl (B : Nat → Int32) (n p : Nat) : Nat → Nat → Nat
  | 0, k => k
  | m + 1, k => if y_sp (y_L (y_fw k)) B n p = true then k else y_kl B n p m (k + 1)
def y_kn (B : Nat → Int32) (n p : Nat) : Nat := y_kl B n p 8 0
theorem y_kl_sp {p : Nat} : ∀ m k, k + m = 8 → (y_kl B n p m k = 8 ∧ ∀ j, k ≤ j → j < 8 → ¬ y_sp (y_L (y_fw j)) B n p = true) ∨ (y_kl B n p m k < 8 ∧ y_sp (y_L (y_fw (y_kl B n p m k))) B n p = true) := by
  intro m
  induction m with
  | zero => intro k h; left; exact ⟨by unfold y_kl; omega, fun j a c => by omega⟩
  | succ m ih =>
    intro k h
    unfold y_kl
    by_cases c : y_sp (y_L (y_fw k)) B n p = true
    · rw [if_pos c]; right; exact ⟨by omega, c⟩
    · rw [if_neg c]
      rcases ih (k + 1) (by omega) with ⟨a1, a2⟩ | a
      · left
        refine ⟨a1, fun j b1 b2 => ?_⟩
        by_cases e : j = k
        · subst e; exact c
        · exact a2 j (by omega) b2
      · right; exact a
theorem y_kn_sp {p : Nat} : (y_kn B n p = 8 ∧ ∀ j, j < 8 → ¬ y_sp (y_L (y_fw j)) B n p = true) ∨ (y_kn B n p < 8 ∧ y_sp (y_L (y_fw (y_kn B n p))) B n p = true) := by
  rcases y_kl_sp (B := B) (n := n) (p := p) 8 0 (by omega) with ⟨a, c⟩ | a
  · exact Or.inl ⟨a, fun j hj => c j (by omega) hj⟩
  · exact Or.inr a
theorem y_kn_iff {p k : Nat} (hk : k < 8) : y_sp (y_L (y_fw k)) B n p = true ↔ y_kn B n p = k := by
  rcases y_kn_sp (B := B) (n := n) (p := p) with ⟨a, c⟩ | ⟨a, c⟩
  · exact ⟨fun z => absurd z (c k hk), fun z => by omega⟩
  · constructor
    · intro z
      by_cases e : y_kn B n p = k
      · exact e
      · exact absurd c (y_sp_dist (y_fw_lt _ a).2 (y_fw_lt k hk).2 (y_fw_lt _ a).1 (y_fw_lt k hk).1 z (fun w => e (y_fw_inj _ a _ hk w)))
    · intro z; rw [← z]; exact c
theorem yc_kol {σ : j_G} (ht : y_ct σ B n) {p : Nat} (hp : p ≤ n) (hc : y_ck σ B n p) : ∀ m k f, k + m = 8 → m < f → p_X7_kindOfLine_2 σ f (nI k) = some (if y_kl B n p m k = 8 then nP 0 else if (y_kl B n p m k = 0 ↔ σ.1 11 1 = nI 0) then nI (y_kl B n p m k) else nP 0) := by
  intro m
  induction m with
  | zero =>
    intro k f h hf
    obtain ⟨f, rfl⟩ := y_pos hf
    unfold p_X7_kindOfLine_2 y_kl
    rw [if_neg (show ¬ nI k < (8 : Int32) by rw [show (8 : Int32) = nI 8 from rfl, y_lt (by omega) (by omega)]; omega), if_pos (by omega : k = 8)]; rfl
  | succ m ih =>
    intro k f h hf
    obtain ⟨f, rfl⟩ := y_pos hf
    obtain ⟨q1, q2, q3, q4, q5, q6⟩ := y_first k (by omega)
    have st := yc_stW (L := y_L (y_fw k)) (y_strK (k := k) (by omega)) ht hp hc (i := 0) q3 q4 q5 q6
    unfold p_X7_kindOfLine_2 y_kl
    rw [if_pos (show nI k < (8 : Int32) by rw [show (8 : Int32) = nI 8 from rfl, y_lt (by omega) (by omega)]; omega), q1, show (0 : Int32) = nI 0 from rfl, st, j_b1_s]
    simp only [j_lt]
    by_cases c : y_sp (y_L (y_fw k)) B n p = true
    · rw [if_pos c, if_pos c, if_pos (show ¬ nI 1 = nI 0 by decide), if_neg (show ¬ k = 8 by omega)]
      by_cases c0 : k = 0
      · subst c0
        rw [if_pos rfl]
        by_cases z : σ.1 11 1 = nI 0
        · rw [if_pos z, if_pos rfl, if_pos ⟨fun _ => z, fun _ => rfl⟩]
        · rw [if_neg z, if_neg (show ¬ (1 : Int32) = nI 0 by decide), if_neg (fun w => z (w.mp rfl))]; rfl
      · rw [if_neg (show ¬ nI k = nI 0 by rw [y_eq (by omega) (by omega)]; exact c0)]
        by_cases z : σ.1 11 1 = nI 0
        · rw [if_pos z, if_neg (show ¬ nI 0 = (1 : Int32) by decide), if_neg (fun w => c0 (w.mpr z))]; rfl
        · rw [if_neg z, if_pos rfl, if_pos ⟨fun w => absurd w c0, fun w => absurd w z⟩]
    · rw [if_neg c, if_neg c, if_neg (show ¬ ¬ nI 0 = nI 0 from fun z => z rfl)]
      have e : nI k + 1 = nI (k + 1) := by simp (disch := omega) only [y_lit, nI_add]
      rw [e]
      exact ih (k + 1) f (by omega) (by omega)
/-! ===== the judges ===== -/
def y_mv (σ : j_G) : j_G := (fun c => if c < 10 then σ.1 (c + 10) else σ.1 c, σ.2)
abbrev y_T (σ : j_G) (b : Nat → Nat) : Prop := y_cb σ 11 12 13 14 15 16 17 18 b
theorem y_T.mv {σ : j_G} {b : Nat → Nat} (h : y_T σ b) : y_N (y_mv σ) b := h
theorem y_T.fc {σ σ' : j_G} {b : Nat → Nat} (h : y_T σ b) (hf : y_fc σ σ') : y_T σ' b := by
  unfold y_T y_cb at *
  rw [hf.1 11 (by omega) (by omega), hf.1 12 (by omega) (by omega), hf.1 13 (by omega) (by omega), hf.1 14 (by omega) (by omega), hf.1 15 (by omega) (by omega), hf.1 16 (by omega) (by omega), hf.1 17 (by omega) (by omega), hf.1 18 (by omega) (by omega)]
  exact h
def y_qo (b : Nat → Nat) (v : Nat) : Nat := if v < y_ho b ∧ y_sh b v = 0 then 0 else 2
def y_hs (b : Nat → Nat) (v : Nat) : Nat → Nat → Bool
  | 0, _ => false
  | m + 1, k => if b (12 + 2 * k) = v then true else y_hs b v m (k + 1)
def y_q0 (vs : List Nat) (v : Nat) : Nat := if vs.length = 0 then y_jr 1 5 v else if vs.length = 1 then y_jr 1 4 v else if vs.length = 2 then y_jr 1 201 v else y_jr 0 10 v
def y_q1 (b : Nat → Nat) (vs : List Nat) (v : Nat) : Nat := if vs.length = 0 then y_jr 1 41 v else if ¬ v < b 2 then 2 else if 6 ≤ b 4 ∧ y_hs b v (b 4) 0 = false then 3 else 0
def y_q2 (b : Nat → Nat) (_ : List Nat) (v : Nat) : Nat := if y_qo b v = 0 ∧ y_oft b v = 0 then 0 else 2
def y_q5 (b : Nat → Nat) (vs : List Nat) (v : Nat) : Nat := if y_qo b v = 0 ∧ (vs.length = 0 ∨ v ≠ vs.getD 0 0) then 0 else 2
def y_q6 (b : Nat → Nat) (vs : List Nat) (v : Nat) : Nat := if vs.length = 0 then y_jr 1 10 v else if vs.length = 1 then y_jr 0 21 v else if vs.length = 2 then y_jr 0 100 v else if vs.length = 3 then y_jr 0 10 v else y_jr 0 (y_ho b) v
def y_q7 (vs : List Nat) (v : Nat) : Nat := if vs.length = 0 then y_jr 1 100 v else y_jr 1 501 v
def y_qk (b : Nat → Nat) : Nat → List Nat → Nat → Nat
  | 0 => y_q0
  | 1 => y_q1 b
  | 2 => y_q2 b
  | 3 => fun _ v => y_qo b v
  | 4 => fun _ v => y_qo b v
  | 5 => y_q5 b
  | 6 => y_q6 b
  | _ => y_q7
theorem yj_w {σ : j_G} {v lo hi : Nat} (h : σ.1 10 8 = nI v) (hv : v ≤ 1000000) (hlo : lo < 1000) (hh : hi < 1000) : f_X7_within (nI lo) (nI hi) σ = nI (y_jr lo (hi + 1) v) := by
  unfold f_X7_within y_jr
  rw [h]
  by_cases c : lo ≤ v ∧ v < hi + 1
  · rw [if_pos c, if_pos (show ¬ nI v < nI lo ∧ ¬ nI hi < nI v by rw [y_lt (by omega) (by omega), y_lt (by omega) (by omega)]; omega)]; rfl
  · rw [if_neg c, if_neg (show ¬ (¬ nI v < nI lo ∧ ¬ nI hi < nI v) by rw [y_lt (by omega) (by omega), y_lt (by omega) (by omega)]; omega)]; rfl
theorem yj_o {σ : j_G} {b : Nat → Nat} {v : Nat} (hW : y_W b) (hT : y_T σ b) (h : σ.1 10 8 = nI v) (hv : v ≤ 1000000) : f_X7_isOpen σ = if y_qo b v = 0 then nI 1 else nI 0 := by
  have ho := hW.ho
  have s2 : y_sh b v < 2 := Nat.mod_lt _ (by omega)
  unfold f_X7_isOpen y_qo
  rw [h, show f_X2_isHole 11 (nI v) σ = f_X2_isHole 1 (nI v) (y_mv σ) from rfl, show f_X2_isShut 11 (nI v) σ = f_X2_isShut 1 (nI v) (y_mv σ) from rfl, yc_isHole hT.mv hW]
  by_cases c : v < y_ho b
  · rw [if_pos ((y_rn (by omega)).mpr c), yc_isShut hT.mv hW (by omega)]
    by_cases d : y_sh b v = 1
    · rw [if_pos d, if_neg (show ¬ (¬ nI 1 = (0 : Int32) ∧ nI 1 = (0 : Int32)) from fun z => z.1 z.2), if_neg (show ¬ (v < y_ho b ∧ y_sh b v = 0) by omega), if_neg (by omega)]; rfl
    · rw [if_neg d, if_pos (show (¬ nI 1 = (0 : Int32) ∧ nI 0 = (0 : Int32)) from ⟨by decide, rfl⟩), if_pos (show (v < y_ho b ∧ y_sh b v = 0) by omega), if_pos rfl]; rfl
  · rw [if_neg (fun z => c ((y_rn (by omega)).mp z)), if_neg (fun z => z.1 rfl), show (if v < y_ho b ∧ y_sh b v = 0 then 0 else 2) = 2 from if_neg (fun z => c z.1), if_neg (by omega)]; rfl
theorem yj_oft {a0 a1 a2 c0 c1 c2 : Nat} {l1 : Int32} {σ σ' : j_G} (h0 : σ.1 a0 = σ'.1 c0) (h1 : σ.1 a1 = σ'.1 c1) (h2 : σ.1 a2 = σ'.1 c2) : ∀ f x y, p_X3_oftenAt_4 a0 a1 a2 l1 σ f x y = p_X3_oftenAt_4 c0 c1 c2 l1 σ' f x y := by
  intro f
  induction f with
  | zero => intro x y; rfl
  | succ f ih =>
    intro x y
    unfold p_X3_oftenAt_4
    rw [h0, h1, h2]
    simp only [ih]
theorem yj_hsf {σ : j_G} {b : Nat → Nat} {v : Nat} (hW : y_W b) (hT : y_T σ b) (hv : v ≤ 1000000) : ∀ m k f, k + m = b 4 → m < f → p_X2_hasStayFrom_2 (nI v) σ f (nI k) = some (if y_hs b v m k = true then nI 1 else nI 0) := by
  have b4 := hW.b4
  have b2 := hW.b2
  intro m
  induction m with
  | zero =>
    intro k f h hf
    obtain ⟨f, rfl⟩ := y_pos hf
    unfold p_X2_hasStayFrom_2 y_hs
    rw [hT.f10, if_neg (show ¬ nI k < nI (b 4) by rw [y_lt (by omega) (by omega)]; omega), if_neg (by decide)]; rfl
  | succ m ih =>
    intro k f h hf
    obtain ⟨f, rfl⟩ := y_pos hf
    have st := hW.st (k := k) (by omega)
    unfold p_X2_hasStayFrom_2 y_hs
    rw [hT.f10, if_pos (show nI k < nI (b 4) by rw [y_lt (by omega) (by omega)]; omega), y_ix (by omega) (by omega), nI_clamp (by omega), hT.s1 (by omega)]
    by_cases c : b (12 + 2 * k) = v
    · rw [if_pos (show nI (b (12 + 2 * k)) = nI v by rw [c]), if_pos c, if_pos rfl]; rfl
    · rw [if_neg (show ¬ nI (b (12 + 2 * k)) = nI v by rw [y_eq (by omega) (by omega)]; exact c), if_neg c, show nI k + 1 = nI (k + 1) by simp (disch := omega) only [y_lit, nI_add]]
      exact ih (k + 1) f (by omega) (by omega)
end K
/-! ===== the judges of the eight kinds ===== -/
section K
variable {σ : j_G} {b : Nat → Nat}
theorem y_jr2 {lo h v : Nat} (z : y_jr lo h v ≠ 0) : y_jr lo h v = 2 := by
  unfold y_jr at *
  by_cases c : lo ≤ v ∧ v < h
  · rw [if_pos c] at z; omega
  · exact if_neg c
theorem y_qo2 {v : Nat} (z : y_qo b v ≠ 0) : y_qo b v = 2 := by
  unfold y_qo at *
  by_cases c : v < y_ho b ∧ y_sh b v = 0
  · rw [if_pos c] at z; omega
  · exact if_neg c
theorem y_qo_le {v : Nat} : y_qo b v ≤ 3 := by unfold y_qo; split <;> omega
theorem y_jd0 : y_jd y_q0 (nI 0) σ := by
  intro σ' vs v fr hv vl vals h5
  refine ⟨?_, by unfold y_q0; (repeat' split) <;> exact y_jr_le⟩
  unfold f_X7_judge f_X7_fitsBoard
  rw [if_pos (show nI 0 = (0 : Int32) from rfl)]
  have key : ∀ lo hi, lo < 1000 → hi < 1000 → (if (if f_X7_within (nI lo) (nI hi) σ' = 0 then (1 : Int32) else 0) = 0 then some (2 : Int32) else some 0) = some (nI (y_jr lo (hi + 1) v)) := by
    intro lo hi a c
    rw [yj_w hv vl a c]
    have := y_jr_le (lo := lo) (h := hi + 1) (v := v)
    by_cases z : y_jr lo (hi + 1) v = 0
    · rw [z, if_pos (show nI 0 = (0 : Int32) from rfl), if_neg (by decide)]; rfl
    · rw [if_neg (show ¬ nI (y_jr lo (hi + 1) v) = (0 : Int32) by rw [show (0 : Int32) = nI 0 from rfl, y_eq (by omega) (by omega)]; exact z), if_pos rfl]
      have : y_jr lo (hi + 1) v = 2 := y_jr2 z
      rw [this]; rfl
  have fl : ∀ x : Int32, (if ¬ x = 0 then some (0 : Int32) else some 2) = if x = 0 then some 2 else some 0 := by
    intro x
    by_cases z : x = 0
    · rw [if_neg (fun w => w z), if_pos z]
    · rw [if_pos z, if_neg z]
  rw [fl]
  unfold y_q0
  by_cases c0 : vs.length = 0
  · rw [c0, if_pos (show nI 0 = (0 : Int32) from rfl), if_pos rfl]; exact key 1 4 (by omega) (by omega)
  · rw [if_neg (show ¬ nI vs.length = (0 : Int32) by rw [show (0 : Int32) = nI 0 from rfl, y_eq (by omega) (by omega)]; exact c0), if_neg c0]
    by_cases c1 : vs.length = 1
    · rw [c1, if_pos (show nI 1 = (1 : Int32) from rfl), if_pos rfl]; exact key 1 3 (by omega) (by omega)
    · rw [if_neg (show ¬ nI vs.length = (1 : Int32) by rw [show (1 : Int32) = nI 1 from rfl, y_eq (by omega) (by omega)]; exact c1), if_neg c1]
      by_cases c2 : vs.length = 2
      · rw [c2, if_pos (show nI 2 = (2 : Int32) from rfl), if_pos rfl]; exact key 1 200 (by omega) (by omega)
      · rw [if_neg (show ¬ nI vs.length = (2 : Int32) by rw [show (2 : Int32) = nI 2 from rfl, y_eq (by omega) (by omega)]; exact c2), if_neg c2]; exact key 0 9 (by omega) (by omega)
theorem y_jd1 (hW : y_W b) (hT : y_T σ b) : y_jd (y_q1 b) (nI 1) σ := by
  intro σ' vs v fr hv vl vals h5
  have hT' := hT.fc fr
  have b4 := hW.b4
  have b2 := hW.b2
  refine ⟨?_, by unfold y_q1; split; exact y_jr_le; (repeat' split) <;> omega⟩
  unfold f_X7_judge
  rw [if_neg (show ¬ nI 1 = (0 : Int32) by decide), if_pos (show nI 1 = (1 : Int32) from rfl)]
  unfold y_q1
  by_cases c0 : vs.length = 0
  · rw [c0, if_pos (show nI 0 = (0 : Int32) from rfl), if_pos rfl]
    rw [show (1 : Int32) = nI 1 from rfl, show (40 : Int32) = nI 40 from rfl, yj_w hv vl (by omega) (by omega)]
  · rw [if_neg (show ¬ nI vs.length = (0 : Int32) by rw [show (0 : Int32) = nI 0 from rfl, y_eq (by omega) (by omega)]; exact c0), if_neg c0]
    unfold f_X7_judgeFrom
    rw [hv, show f_X2_isTick 11 (nI v) σ' = f_X2_isTick 1 (nI v) (y_mv σ') from rfl, yc_isTick hT'.mv hW, hT'.f10]
    by_cases c1 : v < b 2
    · rw [if_pos ((y_rn (by omega)).mpr c1), if_neg (show ¬ nI 1 = (0 : Int32) by decide), if_neg (show ¬ ¬ v < b 2 from fun z => z c1)]
      have hh := yj_hsf hW hT' vl (b 4) 0 j_F (by omega) (y_F (by omega))
      have h2 : f_X2_hasStayFrom (nI v) σ' = some (if y_hs b v (b 4) 0 = true then nI 1 else nI 0) := by
        unfold f_X2_hasStayFrom; rw [show (0 : Int32) = nI 0 from rfl, hh]
      by_cases c2 : 6 ≤ b 4
      · rw [if_pos (show ¬ nI (b 4) < (6 : Int32) by rw [show (6 : Int32) = nI 6 from rfl, y_lt (by omega) (by omega)]; omega), h2, j_b1_s]
        cases c3 : y_hs b v (b 4) 0 with
        | false => rw [if_neg (show ¬ (false = true) by decide), if_pos (show nI 0 = (0 : Int32) from rfl), if_pos ⟨c2, rfl⟩]; rfl
        | true => rw [if_pos rfl, if_neg (show ¬ nI 1 = (0 : Int32) by decide), if_neg (fun z => by cases z.2)]; rfl
      · rw [if_neg (show ¬ ¬ nI (b 4) < (6 : Int32) by rw [show (6 : Int32) = nI 6 from rfl, y_lt (by omega) (by omega)]; omega), if_neg (fun z => c2 z.1)]; rfl
    · rw [if_neg (fun z => c1 ((y_rn (by omega)).mp z)), if_pos (show nI 0 = (0 : Int32) from rfl), if_pos c1]; rfl
theorem yj_open (hW : y_W b) (hT : y_T σ b) {v : Nat} (h : σ.1 10 8 = nI v) (hv : v ≤ 1000000) {o : Option Int32} : (if ¬ f_X7_isOpen σ = 0 then o else some 2) = if y_qo b v = 0 then o else some (nI 2) := by
  rw [yj_o hW hT h hv]
  by_cases c : y_qo b v = 0
  · rw [if_pos c, if_pos (show ¬ nI 1 = (0 : Int32) by decide), if_pos c]
  · rw [if_neg c, if_neg (show ¬ ¬ nI 0 = (0 : Int32) from fun z => z rfl), if_neg c]; rfl
theorem y_jd2 (hW : y_W b) (hT : y_T σ b) : y_jd (y_q2 b) (nI 2) σ := by
  intro σ' vs v fr hv vl vals h5
  have hT' := hT.fc fr
  have b5 := hW.b5
  have ho := hW.ho
  refine ⟨?_, by unfold y_q2; (repeat' split) <;> omega⟩
  unfold f_X7_judge
  rw [if_neg (show ¬ nI 2 = (0 : Int32) by decide), if_neg (show ¬ nI 2 = (1 : Int32) by decide), if_pos (show nI 2 = (2 : Int32) from rfl), yj_open hW hT' hv vl]
  unfold y_q2
  by_cases c : y_qo b v = 0
  · have vh : v < y_ho b := by
      unfold y_qo at c
      by_cases d : v < y_ho b ∧ y_sh b v = 0
      · exact d.1
      · rw [if_neg d] at c; omega
    have e : f_X3_oftenAt 15 16 17 (nI v) σ' = some (nI (y_oft b v)) := by
      rw [← yc_oft hT'.mv hW (x := v) (by omega)]
      unfold f_X3_oftenAt
      rw [yj_oft (a0 := 15) (a1 := 16) (a2 := 17) (c0 := 5) (c1 := 6) (c2 := 7) (σ' := y_mv σ') rfl rfl rfl]
    have ol := y_oft_le b v
    rw [if_pos c, hv, e, j_b1_s]
    by_cases d : y_oft b v = 0
    · rw [d, if_pos (show nI 0 = (0 : Int32) from rfl), if_pos ⟨c, rfl⟩]; rfl
    · rw [if_neg (show ¬ nI (y_oft b v) = (0 : Int32) by rw [show (0 : Int32) = nI 0 from rfl, y_eq (by omega) (by omega)]; exact d), if_neg (fun z => d z.2)]; rfl
  · rw [if_neg c, if_neg (fun z => c z.1)]
theorem y_jd3 (hW : y_W b) (hT : y_T σ b) : y_jd (fun _ v => y_qo b v) (nI 3) σ := by
  intro σ' vs v fr hv vl vals h5
  have hT' := hT.fc fr
  refine ⟨?_, y_qo_le⟩
  unfold f_X7_judge
  rw [if_neg (show ¬ nI 3 = (0 : Int32) by decide), if_neg (show ¬ nI 3 = (1 : Int32) by decide), if_neg (show ¬ nI 3 = (2 : Int32) by decide), if_pos (show nI 3 = (3 : Int32) from rfl), yj_open hW hT' hv vl]
  show _ = some (nI (y_qo b v))
  by_cases c : y_qo b v = 0
  · rw [if_pos c, c]; rfl
  · have : y_qo b v = 2 := y_qo2 c
    rw [if_neg c, this]
theorem y_jd4 (hW : y_W b) (hT : y_T σ b) : y_jd (fun _ v => y_qo b v) (nI 4) σ := by
  intro σ' vs v fr hv vl vals h5
  have hT' := hT.fc fr
  refine ⟨?_, y_qo_le⟩
  unfold f_X7_judge
  rw [if_neg (show ¬ nI 4 = (0 : Int32) by decide), if_neg (show ¬ nI 4 = (1 : Int32) by decide), if_neg (show ¬ nI 4 = (2 : Int32) by decide), if_neg (show ¬ nI 4 = (3 : Int32) by decide), if_pos (show nI 4 = (4 : Int32) from rfl), yj_open hW hT' hv vl]
  show _ = some (nI (y_qo b v))
  by_cases c : y_qo b v = 0
  · rw [if_pos c, c]; rfl
  · have : y_qo b v = 2 := y_qo2 c
    rw [if_neg c, this]
theorem y_jd5 (hW : y_W b) (hT : y_T σ b) : y_jd (y_q5 b) (nI 5) σ := by
  intro σ' vs v fr hv vl vals h5
  have hT' := hT.fc fr
  refine ⟨?_, by unfold y_q5; (repeat' split) <;> omega⟩
  unfold f_X7_judge
  rw [if_neg (show ¬ nI 5 = (0 : Int32) by decide), if_neg (show ¬ nI 5 = (1 : Int32) by decide), if_neg (show ¬ nI 5 = (2 : Int32) by decide), if_neg (show ¬ nI 5 = (3 : Int32) by decide), if_neg (show ¬ nI 5 = (4 : Int32) by decide), if_pos (show nI 5 = (5 : Int32) from rfl), yj_open hW hT' hv vl]
  unfold y_q5
  by_cases c : y_qo b v = 0
  · rw [if_pos c]
    by_cases d : vs.length = 0
    · rw [d, if_neg (show ¬ ¬ nI 0 = (0 : Int32) from fun z => z rfl), if_pos ⟨c, Or.inl rfl⟩]; rfl
    · obtain ⟨v0, v1⟩ := vals 0 (by omega)
      rw [if_pos (show ¬ nI vs.length = (0 : Int32) by rw [show (0 : Int32) = nI 0 from rfl, y_eq (by omega) (by omega)]; exact d), show (0 : Int32) = nI 0 from rfl, y_ix (by omega) (by omega), nI_clamp (by omega), hv, v0]
      by_cases e : v = vs.getD 0 0
      · rw [if_neg (fun z => z (by rw [e])), if_neg (fun z => z.2.elim d (fun w => w e))]; rfl
      · rw [if_pos (show ¬ nI v = nI (vs.getD 0 0) by rw [y_eq (by omega) (by omega)]; exact e), if_pos ⟨c, Or.inr e⟩]
  · rw [if_neg c, if_neg (fun z => c z.1)]
theorem y_jd6 (hW : y_W b) (hT : y_T σ b) : y_jd (y_q6 b) (nI 6) σ := by
  intro σ' vs v fr hv vl vals h5
  have hT' := hT.fc fr
  have ho := hW.ho
  refine ⟨?_, by unfold y_q6; (repeat' split) <;> exact y_jr_le⟩
  unfold f_X7_judge
  rw [if_neg (show ¬ nI 6 = (0 : Int32) by decide), if_neg (show ¬ nI 6 = (1 : Int32) by decide), if_neg (show ¬ nI 6 = (2 : Int32) by decide), if_neg (show ¬ nI 6 = (3 : Int32) by decide), if_neg (show ¬ nI 6 = (4 : Int32) by decide), if_neg (show ¬ nI 6 = (5 : Int32) by decide), if_pos (show nI 6 = (6 : Int32) from rfl), hv]
  have key : ∀ lo hi (P : Prop) [Decidable P], (P ↔ lo ≤ v ∧ v < hi) → (if ¬ (if P then (1 : Int32) else 0) = 0 then some (0 : Int32) else some 2) = some (nI (y_jr lo hi v)) := by
    intro lo hi P _ h
    unfold y_jr
    by_cases c : P
    · rw [if_pos c, if_pos (h.mp c), if_pos (by decide)]; rfl
    · rw [if_neg c, if_neg (fun z => c (h.mpr z)), if_neg (fun z => z rfl)]; rfl
  unfold f_X2_isTrait y_q6
  by_cases c0 : vs.length = 0
  · rw [c0, if_pos (show nI 0 = (0 : Int32) from rfl), if_pos rfl]
    refine key 1 10 _ ?_
    rw [show (1 : Int32) = nI 1 from rfl, show (9 : Int32) = nI 9 from rfl, y_lt (by omega) (by omega), y_lt (by omega) (by omega)]; omega
  · rw [if_neg (show ¬ nI vs.length = (0 : Int32) by rw [show (0 : Int32) = nI 0 from rfl, y_eq (by omega) (by omega)]; exact c0), if_neg c0]
    by_cases c1 : vs.length = 1
    · rw [c1, if_pos (show nI 1 = (1 : Int32) from rfl), if_pos rfl]
      refine key 0 21 _ ?_
      rw [show (0 : Int32) = nI 0 from rfl, show (20 : Int32) = nI 20 from rfl, y_lt (by omega) (by omega), y_lt (by omega) (by omega)]; omega
    · rw [if_neg (show ¬ nI vs.length = (1 : Int32) by rw [show (1 : Int32) = nI 1 from rfl, y_eq (by omega) (by omega)]; exact c1), if_neg c1]
      by_cases c2 : vs.length = 2
      · rw [c2, if_pos (show nI 2 = (2 : Int32) from rfl), if_pos rfl]
        refine key 0 100 _ ?_
        rw [show (0 : Int32) = nI 0 from rfl, show (99 : Int32) = nI 99 from rfl, y_lt (by omega) (by omega), y_lt (by omega) (by omega)]; omega
      · rw [if_neg (show ¬ nI vs.length = (2 : Int32) by rw [show (2 : Int32) = nI 2 from rfl, y_eq (by omega) (by omega)]; exact c2), if_neg c2]
        by_cases c3 : vs.length = 3
        · rw [c3, if_pos (show nI 3 = (3 : Int32) from rfl), if_pos rfl]
          refine key 0 10 _ ?_
          rw [show (0 : Int32) = nI 0 from rfl, show (9 : Int32) = nI 9 from rfl, y_lt (by omega) (by omega), y_lt (by omega) (by omega)]; omega
        · have c4 : vs.length = 4 := by omega
          rw [if_neg (show ¬ nI vs.length = (3 : Int32) by rw [show (3 : Int32) = nI 3 from rfl, y_eq (by omega) (by omega)]; exact c3), if_neg c3, c4, if_pos (show nI 4 = (4 : Int32) from rfl), show f_X2_isHole 11 (nI v) σ' = f_X2_isHole 1 (nI v) (y_mv σ') from rfl, yc_isHole hT'.mv hW]
          refine key 0 (y_ho b) _ ?_
          rw [y_rn (by omega)]; omega
theorem y_jd7 : y_jd y_q7 (nI 7) σ := by
  intro σ' vs v fr hv vl vals h5
  refine ⟨?_, by unfold y_q7; (repeat' split) <;> exact y_jr_le⟩
  unfold f_X7_judge
  rw [if_neg (show ¬ nI 7 = (0 : Int32) by decide), if_neg (show ¬ nI 7 = (1 : Int32) by decide), if_neg (show ¬ nI 7 = (2 : Int32) by decide), if_neg (show ¬ nI 7 = (3 : Int32) by decide), if_neg (show ¬ nI 7 = (4 : Int32) by decide), if_neg (show ¬ nI 7 = (5 : Int32) by decide), if_neg (show ¬ nI 7 = (6 : Int32) by decide)]
  unfold y_q7
  by_cases c0 : vs.length = 0
  · rw [c0, if_pos (show nI 0 = (0 : Int32) from rfl), if_pos rfl, show (1 : Int32) = nI 1 from rfl, show (99 : Int32) = nI 99 from rfl, yj_w hv vl (by omega) (by omega)]
  · rw [if_neg (show ¬ nI vs.length = (0 : Int32) by rw [show (0 : Int32) = nI 0 from rfl, y_eq (by omega) (by omega)]; exact c0), if_neg c0, show (1 : Int32) = nI 1 from rfl, show (500 : Int32) = nI 500 from rfl, yj_w hv vl (by omega) (by omega)]
theorem y_jdk (hW : y_W b) (hT : y_T σ b) : ∀ k, k < 8 → y_jd (y_qk b k) (nI k) σ
  | 0, _ => y_jd0
  | 1, _ => y_jd1 hW hT
  | 2, _ => y_jd2 hW hT
  | 3, _ => y_jd3 hW hT
  | 4, _ => y_jd4 hW hT
  | 5, _ => y_jd5 hW hT
  | 6, _ => y_jd6 hW hT
  | 7, _ => y_jd7
  | _ + 8, h => absurd h (by omega)
end K
/-! ===== what a line does to the board told ===== -/
def y_hi (b : Nat → Nat) (v : Nat) : Nat → Nat → Nat
  | 0, k => k
  | m + 1, k => if b (12 + 2 * k) = v then k else y_hi b v m (k + 1)
def y_l9 (b : Nat → Nat) : Nat → Nat := y_u b 9 (b 9 + 1)
def y_bb (b : Nat → Nat) (v0 v1 v2 v3 : Nat) : Nat → Nat := y_u (y_u (y_u (y_u (y_u (y_u b 0 v0) 1 v1) 2 v2) 3 v3) 10 1) 11 100
def y_sb (b : Nat → Nat) (len t : Nat) : Nat → Nat := y_u (y_u (y_u b (12 + 2 * y_hi b t (b 4) 0) t) (13 + 2 * y_hi b t (b 4) 0) len) 4 (if y_hi b t (b 4) 0 < b 4 then b 4 else b 4 + 1)
def y_ac (b : Nat → Nat) (v w r : Nat) : Nat → Nat := y_u (y_u (y_u (y_u b (24 + 3 * b 5) v) (25 + 3 * b 5) w) (26 + 3 * b 5) r) 5 (b 5 + 1)
def y_pb (b : Nat → Nat) (v0 v1 v2 v3 v4 : Nat) : Nat → Nat := y_u (y_u (y_u (y_u (y_u (y_u b (96 + 5 * b 6) v0) (97 + 5 * b 6) v1) (98 + 5 * b 6) v2) (99 + 5 * b 6) v3) (100 + 5 * b 6) v4) 6 (b 6 + 1)
theorem y_hi_sp {b : Nat → Nat} {v : Nat} : ∀ m k, k ≤ y_hi b v m k ∧ y_hi b v m k ≤ k + m ∧ (∀ j, k ≤ j → j < y_hi b v m k → b (12 + 2 * j) ≠ v) ∧ (y_hi b v m k < k + m → b (12 + 2 * y_hi b v m k) = v) ∧ (y_hs b v m k = true ↔ y_hi b v m k < k + m) := by
  intro m
  induction m with
  | zero => intro k; unfold y_hi y_hs; exact ⟨Nat.le_refl _, Nat.le_refl _, fun j a c => by omega, fun z => by omega, ⟨fun z => (by cases z), fun z => by omega⟩⟩
  | succ m ih =>
    intro k
    obtain ⟨i1, i2, i3, i4, i5⟩ := ih (k + 1)
    unfold y_hi y_hs
    by_cases c : b (12 + 2 * k) = v
    · rw [if_pos c, if_pos c]
      exact ⟨Nat.le_refl _, by omega, fun j a c => by omega, fun _ => c, ⟨fun _ => by omega, fun _ => rfl⟩⟩
    · rw [if_neg c, if_neg c]
      refine ⟨by omega, by omega, fun j a d => ?_, fun z => i4 (by omega), ⟨fun z => by have := i5.mp z; omega, fun z => i5.mpr (by omega)⟩⟩
      by_cases e : j = k
      · subst e; exact c
      · exact i3 j (by omega) d
section W
variable {b : Nat → Nat}
theorem y_W.l9 (h : y_W b) (h0 : 0 < b 9) (h9 : b 9 < 1300) : y_W (y_l9 b) := by
  have b4 := h.b4; have b5 := h.b5; have b6 := h.b6
  obtain ⟨⟨a0, a1, a2, a3, a4, a5, a6, a7, a9⟩, h2, h3, h4, h5, h6, h7, h8, h9'⟩ := h
  unfold y_W y_ho y_l9 at *
  refine ⟨?_, ?_, ?_, ?_, ?_, fun j hj => ?_, fun j l hj hl => ?_, fun j hj => ?_, fun j hj => ?_⟩
  · simp (disch := omega) only [y_ue, y_un]; exact ⟨a0, a1, a2, a3, a4, a5, a6, a7, by omega⟩
  · simp (disch := omega) only [y_ue, y_un]; intro z; omega
  · simp (disch := omega) only [y_ue, y_un]; intro _; exact h3 h0
  · simp (disch := omega) only [y_un]; exact h4
  · simp (disch := omega) only [y_un]; exact h5
  · simp (disch := omega) only [y_un] at hj; simp (disch := omega) only [y_un]; exact h6 j hj
  · simp (disch := omega) only [y_un] at hl; simp (disch := omega) only [y_un]; exact h7 j l hj hl
  · simp (disch := omega) only [y_un] at hj; simp (disch := omega) only [y_un]; exact h8 j hj
  · simp (disch := omega) only [y_un] at hj; simp (disch := omega) only [y_un]; exact h9' j hj
theorem y_W.tk (h : y_W b) {v w : Nat} (hv : 1 ≤ v ∧ v ≤ 99) (hw : 1 ≤ w ∧ w ≤ 500) : y_W (y_u (y_u b 10 v) 11 w) := by
  have b4 := h.b4; have b5 := h.b5; have b6 := h.b6
  obtain ⟨h1, h2, h3, h4, h5, h6, h7, h8, h9⟩ := h
  unfold y_W y_ho at *
  refine ⟨?_, ?_, ?_, ?_, ?_, fun j hj => ?_, fun j l hj hl => ?_, fun j hj => ?_, fun j hj => ?_⟩
  · simp (disch := omega) only [y_un]; exact h1
  · simp (disch := omega) only [y_un]; exact h2
  · simp (disch := omega) only [y_ue, y_un]; intro z; have := h3 z; omega
  · simp (disch := omega) only [y_un]; exact h4
  · simp (disch := omega) only [y_un]; exact h5
  · simp (disch := omega) only [y_un] at hj; simp (disch := omega) only [y_un]; exact h6 j hj
  · simp (disch := omega) only [y_un] at hl; simp (disch := omega) only [y_un]; exact h7 j l hj hl
  · simp (disch := omega) only [y_un] at hj; simp (disch := omega) only [y_un]; exact h8 j hj
  · simp (disch := omega) only [y_un] at hj; simp (disch := omega) only [y_un]; exact h9 j hj
theorem y_W.bb (h : y_W b) (h9 : b 9 = 0) {v0 v1 v2 v3 : Nat} (g0 : 1 ≤ v0 ∧ v0 < 5) (g1 : 1 ≤ v1 ∧ v1 < 4) (g2 : 1 ≤ v2 ∧ v2 < 201) (g3 : v3 < 10) : y_W (y_l9 (y_bb b v0 v1 v2 v3)) := by
  obtain ⟨o0, o1, o2, o3, o4, o5, o6⟩ := h.off h9
  have o7 : b 7 = 0 := by
    have := h.1.2.2.2.2.2.2.2.1
    rw [show y_ho b = 0 by unfold y_ho; rw [o0, Nat.zero_mul]] at this
    omega
  have o8 := h.2.2.2.2.1 o5
  unfold y_W y_ho y_l9 y_bb
  refine ⟨?_, ?_, ?_, ?_, ?_, fun j hj => ?_, fun j l hj hl => ?_, fun j hj => ?_, fun j hj => ?_⟩
  · simp (disch := omega) only [y_ue, y_un, o4, o5, o6, o7, h9]
    refine ⟨by omega, by omega, by omega, by omega, by omega, by omega, by omega, Nat.pow_pos (by omega), by omega⟩
  · simp (disch := omega) only [y_ue, y_un, h9]; intro z; omega
  · simp (disch := omega) only [y_ue, y_un]; intro _; omega
  · simp (disch := omega) only [y_un, o5]; intro z; omega
  · simp (disch := omega) only [y_un]; exact fun _ => o8
  · simp (disch := omega) only [y_un, o4] at hj; omega
  · simp (disch := omega) only [y_un, o4] at hl; omega
  · simp (disch := omega) only [y_un, o5] at hj; omega
  · simp (disch := omega) only [y_un, o6] at hj; omega
theorem y_W.ac (h : y_W b) (h5' : b 5 < 24) {v w r : Nat} (hv : v < y_ho b ∧ y_sh b v = 0) (hw : w = 0 ∨ (w ≤ y_ho b ∧ w ≠ v + 1 ∧ y_sh b (w - 1) = 0 ∧ r = 0)) (hr : r ≤ 1) : y_W (y_ac b v w r) := by
  have b4 := h.b4; have b5 := h.b5; have b6 := h.b6
  obtain ⟨⟨a0, a1, a2, a3, a4, a5, a6, a7, a9⟩, h2, h3, h4, h5, h6, h7, h8, h9⟩ := h
  have on : 0 < b 9 := by
    rcases Nat.eq_zero_or_pos (b 9) with z | z
    · have q := h2 z
      have : y_ho b = 0 := by unfold y_ho; rw [q.1, Nat.zero_mul]
      omega
    · exact z
  unfold y_W y_ho y_ac y_sh at *
  refine ⟨?_, ?_, ?_, ?_, ?_, fun j hj => ?_, fun j l hj hl => ?_, fun j hj => ?_, fun j hj => ?_⟩
  · simp (disch := omega) only [y_ue, y_un]; exact ⟨a0, a1, a2, a3, a4, by omega, a6, a7, a9⟩
  · simp (disch := omega) only [y_ue, y_un]; intro z; omega
  · simp (disch := omega) only [y_un]; exact h3
  · simp (disch := omega) only [y_ue, y_un]; intro _; omega
  · simp (disch := omega) only [y_ue, y_un]; intro z; omega
  · simp (disch := omega) only [y_un] at hj; simp (disch := omega) only [y_un]; exact h6 j hj
  · simp (disch := omega) only [y_un] at hl; simp (disch := omega) only [y_un]; exact h7 j l hj hl
  · simp (disch := omega) only [y_ue, y_un] at hj
    by_cases e : j = b 5
    · subst e
      simp (disch := omega) only [y_ue, y_un]
      refine ⟨hv.1, by omega, by omega, hr, fun z => by omega, hv.2, fun z => ?_⟩
      rcases hw with q | q
      · omega
      · exact q.2.2.1
    · simp (disch := omega) only [y_un]; exact h8 j (by omega)
  · simp (disch := omega) only [y_un] at hj; simp (disch := omega) only [y_un]; exact h9 j hj
theorem y_W.pb (h : y_W b) (h6' : b 6 < 4) (on : 0 < b 9) {v0 v1 v2 v3 v4 : Nat} (g0 : 1 ≤ v0 ∧ v0 < 10) (g1 : v1 < 21) (g2 : v2 < 100) (g3 : v3 < 10) (g4 : v4 < y_ho b) : y_W (y_pb b v0 v1 v2 v3 v4) := by
  have b4 := h.b4; have b5 := h.b5; have b6 := h.b6
  obtain ⟨⟨a0, a1, a2, a3, a4, a5, a6, a7, a9⟩, h2, h3, h4, h5, h6, h7, h8, h9⟩ := h
  unfold y_W y_ho y_pb at *
  refine ⟨?_, ?_, ?_, ?_, ?_, fun j hj => ?_, fun j l hj hl => ?_, fun j hj => ?_, fun j hj => ?_⟩
  · simp (disch := omega) only [y_ue, y_un]; exact ⟨a0, a1, a2, a3, a4, a5, by omega, a7, a9⟩
  · simp (disch := omega) only [y_ue, y_un]; intro z; omega
  · simp (disch := omega) only [y_un]; exact h3
  · simp (disch := omega) only [y_un]; exact h4
  · simp (disch := omega) only [y_un]; exact h5
  · simp (disch := omega) only [y_un] at hj; simp (disch := omega) only [y_un]; exact h6 j hj
  · simp (disch := omega) only [y_un] at hl; simp (disch := omega) only [y_un]; exact h7 j l hj hl
  · simp (disch := omega) only [y_un] at hj; simp (disch := omega) only [y_un]; exact h8 j hj
  · simp (disch := omega) only [y_ue, y_un] at hj
    by_cases e : j = b 6
    · subst e
      simp (disch := omega) only [y_ue, y_un]
      exact ⟨g0.1, by omega, by omega, by omega, by omega, g4⟩
    · simp (disch := omega) only [y_un]; exact h9 j (by omega)
theorem y_W.sb (h : y_W b) {l t : Nat} (hl : 1 ≤ l ∧ l < 41) (ht : t < b 2) (h4' : y_hi b t (b 4) 0 < b 4 ∨ b 4 < 6) : y_W (y_sb b l t) := by
  have b4 := h.b4; have b5 := h.b5; have b6 := h.b6
  obtain ⟨s1, s2, s3, s4, _⟩ := y_hi_sp (b := b) (v := t) (b 4) 0
  have on := h.on0 (Or.inr (Or.inl (show 0 < b 2 by omega)))
  obtain ⟨⟨a0, a1, a2, a3, a4, a5, a6, a7, a9⟩, h2, h3, h4, h5, h6, h7, h8, h9⟩ := h
  unfold y_W y_ho y_sb at *
  generalize y_hi b t (b 4) 0 = i at *
  refine ⟨?_, ?_, ?_, ?_, ?_, fun j hj => ?_, fun j l' hj hl' => ?_, fun j hj => ?_, fun j hj => ?_⟩
  · simp (disch := omega) only [y_ue, y_un]; exact ⟨a0, a1, a2, a3, by split <;> omega, a5, a6, a7, a9⟩
  · simp (disch := omega) only [y_ue, y_un]; intro z; omega
  · simp (disch := omega) only [y_un]; exact h3
  · simp (disch := omega) only [y_un]; exact h4
  · simp (disch := omega) only [y_un]; exact h5
  · simp (disch := omega) only [y_ue] at hj
    by_cases e : j = i
    · subst e
      simp (disch := omega) only [y_ue, y_un]; omega
    · have : j < b 4 := by split at hj <;> omega
      simp (disch := omega) only [y_un]; exact h6 j this
  · simp (disch := omega) only [y_ue] at hl'
    by_cases e : l' = i
    · subst e
      simp (disch := omega) only [y_ue, y_un]
      exact s3 j (by omega) (by omega)
    · have l4 : l' < b 4 := by split at hl' <;> omega
      by_cases e2 : j = i
      · subst e2
        simp (disch := omega) only [y_ue, y_un]
        intro z
        exact h7 j l' hj l4 (by rw [s4 (by omega)]; exact z)
      · simp (disch := omega) only [y_un]; exact h7 j l' hj l4
  · have h24 : ∀ c, 24 ≤ c → y_u (y_u (y_u b (12 + 2 * i) t) (13 + 2 * i) l) 4 (if i < b 4 then b 4 else b 4 + 1) c = b c := fun c hc => by simp (disch := omega) only [y_un]
    simp (disch := omega) only [y_un] at hj; simp (disch := omega) only [y_un]; exact h8 j hj
  · simp (disch := omega) only [y_un] at hj; simp (disch := omega) only [y_un]; exact h9 j hj
end W
/-! ===== the class applies a line ===== -/
def y_ft2 (σ σ' : j_G) : Prop := (∀ c, c < 10 ∨ 18 < c → c ≠ 21 → σ'.1 c = σ.1 c) ∧ (σ'.1 10 = σ.1 10) ∧ σ'.2 = σ.2
section A
variable {σ : j_G} {b : Nat → Nat}
theorem y_ft2.refl : y_ft2 σ σ := ⟨fun _ _ _ => rfl, rfl, rfl⟩
theorem y_ft2.si {σ' : j_G} {c j : Nat} {v : Int32} (h : y_ft2 σ σ') (hc : 11 ≤ c ∧ c ≤ 18) : y_ft2 σ (j_si σ' c j v) :=
  ⟨fun c' a a' => (funext fun j' => j_r_ne (by omega)).trans (h.1 c' a a'), (funext fun j' => j_r_ne (by omega)).trans h.2.1, h.2.2⟩
theorem y_ft2.trans {σ' σ'' : j_G} (h : y_ft2 σ σ') (h' : y_ft2 σ' σ'') : y_ft2 σ σ'' := ⟨fun c a d => (h'.1 c a d).trans (h.1 c a d), h'.2.1.trans h.2.1, h'.2.2.trans h.2.2⟩
theorem y_T.l9 (h : y_T σ b) (h0 : 0 < b 9) : y_T (j_si σ 11 1 (nI (b 9 + 1))) (y_l9 b) := by
  obtain ⟨⟨f1, f2, f3, f4, f5, f6, f7, f10, d0, d1⟩, f8, s, t, c⟩ := h
  unfold y_T y_cb y_l9
  refine ⟨?_, ?_, ?_, ?_, ?_⟩
  · simp (disch := omega) only [j_r_ne, j_r_eq, j_r_nj, y_ue, y_un]
    exact ⟨trivial, f2, f3, f4, f5, f6, f7, f10, d0, d1⟩
  · simp (disch := omega) only [j_r_ne, j_r_eq, j_r_nj, y_ue, y_un]; exact fun _ => f8 h0
  · simp (disch := omega) only [j_r_ne, j_r_eq, j_r_nj, y_ue, y_un]; exact s
  · intro p q hp hq
    simp (disch := omega) only [y_ue, y_un] at hp
    have := t p q hp hq
    simp (disch := omega) only [j_r_ne, j_r_eq, j_r_nj, y_ue, y_un]; exact this
  · simp (disch := omega) only [j_r_ne, j_r_eq, j_r_nj, y_ue, y_un]; exact c
theorem y_T.tk (h : y_T σ b) {v w : Nat} : y_T (j_si (j_si σ 11 8 (nI v)) 11 9 (nI w)) (y_u (y_u b 10 v) 11 w) := by
  obtain ⟨⟨f1, f2, f3, f4, f5, f6, f7, f10, d0, d1⟩, f8, s, t, c⟩ := h
  unfold y_T y_cb
  refine ⟨?_, ?_, ?_, ?_, ?_⟩
  · simp (disch := omega) only [j_r_ne, j_r_eq, j_r_nj, y_ue, y_un]
    exact ⟨f1, f2, f3, f4, f5, f6, f7, f10, d0, d1⟩
  · simp (disch := omega) only [j_r_ne, j_r_eq, j_r_nj, y_ue, y_un]; exact fun _ => ⟨trivial, trivial⟩
  · simp (disch := omega) only [j_r_ne, j_r_eq, j_r_nj, y_ue, y_un]; exact s
  · intro p q hp hq
    simp (disch := omega) only [y_ue, y_un] at hp
    have := t p q hp hq
    simp (disch := omega) only [j_r_ne, j_r_eq, j_r_nj, y_ue, y_un]; exact this
  · simp (disch := omega) only [j_r_ne, j_r_eq, j_r_nj, y_ue, y_un]; exact c
theorem y_T.s7 (h : y_T σ b) {v : Nat} : y_T (j_si σ 11 6 (nI v)) (y_u b 7 v) := by
  obtain ⟨⟨f1, f2, f3, f4, f5, f6, f7, f10, d0, d1⟩, f8, s, t, c⟩ := h
  unfold y_T y_cb
  refine ⟨?_, ?_, ?_, ?_, ?_⟩
  · simp (disch := omega) only [j_r_ne, j_r_eq, j_r_nj, y_ue, y_un]
    exact ⟨f1, f2, f3, f4, f5, trivial, f7, f10, d0, d1⟩
  · simp (disch := omega) only [j_r_ne, j_r_eq, j_r_nj, y_ue, y_un]; exact f8
  · simp (disch := omega) only [j_r_ne, j_r_eq, j_r_nj, y_ue, y_un]; exact s
  · intro p q hp hq
    simp (disch := omega) only [y_ue, y_un] at hp
    have := t p q hp hq
    simp (disch := omega) only [j_r_ne, j_r_eq, j_r_nj, y_ue, y_un]; exact this
  · simp (disch := omega) only [j_r_ne, j_r_eq, j_r_nj, y_ue, y_un]; exact c
/-- a board -/
theorem y_T.bb (h : y_T σ b) (hW : y_W b) (h9 : b 9 = 0) (t8 : σ.1 11 8 = nI 1) (t9 : σ.1 11 9 = nI 100) {v0 v1 v2 v3 : Nat} : y_T (j_si (j_si (j_si (j_si (j_si σ 11 2 (nI v0)) 11 3 (nI v1)) 11 4 (nI v2)) 11 5 (nI v3)) 11 1 (nI (b 9 + 1))) (y_l9 (y_bb b v0 v1 v2 v3)) := by
  obtain ⟨o0, o1, o2, o3, o4, o5, o6⟩ := hW.off h9
  obtain ⟨⟨f1, f2, f3, f4, f5, f6, f7, f10, d0, d1⟩, f8, s, t, c⟩ := h
  unfold y_T y_cb y_l9 y_bb
  refine ⟨?_, ?_, ?_, ?_, ?_⟩
  · simp (disch := omega) only [j_r_ne, j_r_eq, j_r_nj, y_ue, y_un]
    exact ⟨trivial, trivial, trivial, trivial, trivial, f6, f7, f10, d0, d1⟩
  · simp (disch := omega) only [j_r_ne, j_r_eq, j_r_nj, y_ue, y_un]; exact fun _ => ⟨t8, t9⟩
  · intro k hk; simp (disch := omega) only [y_un, o4] at hk; omega
  · intro p q hp hq; simp (disch := omega) only [y_un, o6] at hp; omega
  · intro k hk; simp (disch := omega) only [y_un, o5] at hk; omega
/-- a coming -/
theorem y_T.ac (h : y_T σ b) (hW : y_W b) (h5' : b 5 < 24) {v w r : Nat} : y_T (j_si (j_si (j_si (j_si σ 16 (b 5) (nI v)) 17 (b 5) (nP w)) 18 (b 5) (nI r)) 15 0 (nI (b 5 + 1))) (y_ac b v w r) := by
  have b4 := hW.b4; have b6 := hW.b6
  obtain ⟨⟨f1, f2, f3, f4, f5, f6, f7, f10, d0, d1⟩, f8, s, t, c⟩ := h
  unfold y_T y_cb y_ac
  refine ⟨?_, ?_, fun k hk => ?_, fun p q hp hq => ?_, fun k hk => ?_⟩
  · simp (disch := omega) only [j_r_ne, j_r_eq, j_r_nj, y_ue, y_un]
    exact ⟨f1, f2, f3, f4, f5, f6, f7, f10, trivial, d1⟩
  · simp (disch := omega) only [j_r_ne, j_r_eq, j_r_nj, y_ue, y_un]; exact f8
  · simp (disch := omega) only [y_un] at hk
    simp (disch := omega) only [j_r_ne, j_r_eq, j_r_nj, y_ue, y_un]; exact s k hk
  · simp (disch := omega) only [y_ue, y_un] at hp
    have := t p q hp hq
    simp (disch := omega) only [j_r_ne, j_r_eq, j_r_nj, y_ue, y_un]; exact this
  · simp (disch := omega) only [y_ue] at hk
    by_cases e : k = b 5
    · subst e
      simp (disch := omega) only [j_r_ne, j_r_eq, y_ue, y_un]; exact ⟨trivial, trivial, trivial⟩
    · simp (disch := omega) only [j_r_ne, j_r_nj, y_un]; exact c k (by omega)
theorem yc_addC {σ : j_G} (h : y_T σ b) (h5' : b 5 < 24) {v w r : Int32} : f_X3_add v w r σ = some (j_si (j_si (j_si (j_si σ 16 (b 5) v) 17 (b 5) w) 18 (b 5) r) 15 0 (nI (b 5 + 1))) := by
  have d0 := h.d0
  unfold f_X3_add
  simp (disch := omega) only [y_lit, y_n1, nI_add, pk_mul, j_lt, j_b1_s, j_b2_s, j_b3_s, j_b0_s, y_bo, y_bo1, y_bo0, y_i0, y_i1, Classical.not_not, nI_clamp, y_ix, y_lt, y_le, y_eq, y_nP, y_nPs, y_ltP, y_ltQ, y_ltPP, y_eqP, y_eqQ, y_eqPP, if_pos, if_neg, ite_true, ite_false, not_true_eq_false, not_false_eq_true, and_true, true_and, and_false, false_and, or_true, true_or, or_false, false_or, j_r_ne, j_r_eq, j_r_nj, d0]
/-- a player -/
theorem y_T.pb (h : y_T σ b) (hW : y_W b) (h6' : b 6 < 4) {v0 v1 v2 v3 v4 : Nat} : y_T (j_si (j_si (j_si (j_si (j_si (j_si σ 14 (5 * b 6) (nI v0)) 14 (5 * b 6 + 1) (nI v1)) 14 (5 * b 6 + 2) (nI v2)) 14 (5 * b 6 + 3) (nI v3)) 14 (5 * b 6 + 4) (nI v4)) 11 7 (nI (b 6 + 1))) (y_pb b v0 v1 v2 v3 v4) := by
  have b4 := hW.b4; have b5 := hW.b5
  obtain ⟨⟨f1, f2, f3, f4, f5, f6, f7, f10, d0, d1⟩, f8, s, t, c⟩ := h
  unfold y_T y_cb y_pb
  refine ⟨?_, ?_, fun k hk => ?_, fun p q hp hq => ?_, fun k hk => ?_⟩
  · simp (disch := omega) only [j_r_ne, j_r_eq, j_r_nj, y_ue, y_un]
    exact ⟨f1, f2, f3, f4, f5, f6, trivial, f10, d0, d1⟩
  · simp (disch := omega) only [j_r_ne, j_r_eq, j_r_nj, y_ue, y_un]; exact f8
  · simp (disch := omega) only [y_un] at hk
    simp (disch := omega) only [j_r_ne, j_r_eq, j_r_nj, y_ue, y_un]; exact s k hk
  · simp (disch := omega) only [y_ue] at hp
    by_cases e : p = b 6
    · subst e
      obtain rfl | rfl | rfl | rfl | rfl : q = 0 ∨ q = 1 ∨ q = 2 ∨ q = 3 ∨ q = 4 := by omega
      · simp (disch := omega) only [j_r_ne, j_r_eq, j_r_nj, y_ue, y_un, Nat.add_zero]
      · rw [show 96 + 5 * b 6 + 1 = 97 + 5 * b 6 by omega]; simp (disch := omega) only [j_r_ne, j_r_eq, j_r_nj, y_ue, y_un]
      · rw [show 96 + 5 * b 6 + 2 = 98 + 5 * b 6 by omega]; simp (disch := omega) only [j_r_ne, j_r_eq, j_r_nj, y_ue, y_un]
      · rw [show 96 + 5 * b 6 + 3 = 99 + 5 * b 6 by omega]; simp (disch := omega) only [j_r_ne, j_r_eq, j_r_nj, y_ue, y_un]
      · rw [show 96 + 5 * b 6 + 4 = 100 + 5 * b 6 by omega]; simp (disch := omega) only [j_r_ne, j_r_eq, j_r_nj, y_ue, y_un]
    · have := t p q (by omega) hq
      simp (disch := omega) only [j_r_ne, j_r_nj, y_un]; exact this
  · simp (disch := omega) only [y_un] at hk
    simp (disch := omega) only [j_r_ne, j_r_nj, y_un]; exact c k (by omega)
theorem yc_addP (h : y_T σ b) (h6' : b 6 < 4) {v0 v1 v2 v3 v4 : Int32} (g0 : σ.1 21 0 = v0) (g1 : σ.1 21 1 = v1) (g2 : σ.1 21 2 = v2) (g3 : σ.1 21 3 = v3) (g4 : σ.1 21 4 = v4) : f_X7_addPlayer σ = some (j_si (j_si (j_si (j_si (j_si (j_si σ 14 (5 * b 6) v0) 14 (5 * b 6 + 1) v1) 14 (5 * b 6 + 2) v2) 14 (5 * b 6 + 3) v3) 14 (5 * b 6 + 4) v4) 11 7 (nI (b 6 + 1))) := by
  have f7 := h.f7
  have step : ∀ q f (σ' : j_G), q < 5 → σ'.1 11 7 = nI (b 6) → p_X7_addPlayer_2 (f + 1) (nI q) σ' = p_X7_addPlayer_2 f (nI (q + 1)) (j_si σ' 14 (5 * b 6 + q) (σ'.1 21 q)) := by
    intro q f σ' hq e
    rw [p_X7_addPlayer_2.eq_def]
    unfold f_X2_setTrait
    simp (disch := omega) only [y_lit, y_n1, nI_add, pk_mul, j_lt, j_b1_s, j_b2_s, j_b3_s, j_b0_s, y_bo, y_bo1, y_bo0, y_i0, y_i1, Classical.not_not, nI_clamp, y_ix, y_lt, y_le, y_eq, y_nP, y_nPs, y_ltP, y_ltQ, y_ltPP, y_eqP, y_eqQ, y_eqPP, if_pos, if_neg, ite_true, ite_false, not_true_eq_false, not_false_eq_true, and_true, true_and, and_false, false_and, or_true, true_or, or_false, false_or, e, Nat.mul_comm (b 6) 5]
  have last : ∀ f (σ' : j_G), p_X7_addPlayer_2 (f + 1) (nI 5) σ' = some σ' := by
    intro f σ'
    unfold p_X7_addPlayer_2
    simp (disch := omega) only [y_lit, y_n1, nI_add, pk_mul, j_lt, j_b1_s, j_b2_s, j_b3_s, j_b0_s, y_bo, y_bo1, y_bo0, y_i0, y_i1, Classical.not_not, nI_clamp, y_ix, y_lt, y_le, y_eq, y_nP, y_nPs, y_ltP, y_ltQ, y_ltPP, y_eqP, y_eqQ, y_eqPP, if_pos, if_neg, ite_true, ite_false, not_true_eq_false, not_false_eq_true, and_true, true_and, and_false, false_and, or_true, true_or, or_false, false_or]
  unfold f_X7_addPlayer
  obtain ⟨f, hf⟩ : ∃ f, j_F = f + 1 + 1 + 1 + 1 + 1 + 1 := ⟨_, rfl⟩
  rw [hf, show (0 : Int32) = nI 0 from rfl, step 0 _ _ (by omega) f7, step 1 _ _ (by omega) (by simp (disch := omega) only [j_r_ne, j_r_eq, j_r_nj]; exact f7), step 2 _ _ (by omega) (by simp (disch := omega) only [j_r_ne, j_r_eq, j_r_nj]; exact f7), step 3 _ _ (by omega) (by simp (disch := omega) only [j_r_ne, j_r_eq, j_r_nj]; exact f7), step 4 _ _ (by omega) (by simp (disch := omega) only [j_r_ne, j_r_eq, j_r_nj]; exact f7), last, j_b1_s]
  simp (disch := omega) only [y_lit, y_n1, nI_add, pk_mul, j_lt, j_b1_s, j_b2_s, j_b3_s, j_b0_s, y_bo, y_bo1, y_bo0, y_i0, y_i1, Classical.not_not, nI_clamp, y_ix, y_lt, y_le, y_eq, y_nP, y_nPs, y_ltP, y_ltQ, y_ltPP, y_eqP, y_eqQ, y_eqPP, if_pos, if_neg, ite_true, ite_false, not_true_eq_false, not_false_eq_true, and_true, true_and, and_false, false_and, or_true, true_or, or_false, false_or, j_r_ne, j_r_eq, j_r_nj, f7, g0, g1, g2, g3, g4, Nat.add_zero]
/-- a stay -/
theorem yc_sset (h : y_T σ b) (hW : y_W b) {l t : Nat} (ht : t ≤ 1000000) : ∀ m k f, k + m = b 4 → m < f → (y_hi b t m k < b 4 ∨ b 4 < 6) → p_X2_setStay_2 (nI l) (nI t) σ f (nI k) = some (if y_hi b t m k < b 4 then j_si σ 13 (y_hi b t m k) (nI l) else j_si (j_si (j_si σ 12 (b 4) (nI t)) 13 (b 4) (nI l)) 11 10 (nI (b 4 + 1))) := by
  have b4 := hW.b4
  have b2 := hW.b2
  have f10 := h.f10
  intro m
  induction m with
  | zero =>
    intro k f hk hf h4'
    obtain ⟨f, rfl⟩ := y_pos hf
    unfold p_X2_setStay_2 y_hi
    unfold y_hi at h4'
    have b46 : b 4 < 6 := by omega
    simp (disch := omega) only [y_lit, y_n1, nI_add, pk_mul, j_lt, j_b1_s, j_b2_s, j_b3_s, j_b0_s, y_bo, y_bo1, y_bo0, y_i0, y_i1, Classical.not_not, nI_clamp, y_ix, y_lt, y_le, y_eq, y_nP, y_nPs, y_ltP, y_ltQ, y_ltPP, y_eqP, y_eqQ, y_eqPP, if_pos, if_neg, ite_true, ite_false, not_true_eq_false, not_false_eq_true, and_true, true_and, and_false, false_and, or_true, true_or, or_false, false_or, j_r_ne, j_r_eq, j_r_nj, f10]
  | succ m ih =>
    intro k f hk hf h4'
    obtain ⟨f, rfl⟩ := y_pos hf
    have st := hW.st (k := k) (by omega)
    unfold p_X2_setStay_2 y_hi
    unfold y_hi at h4'
    simp (disch := omega) only [y_lit, y_n1, nI_add, pk_mul, j_lt, j_b1_s, j_b2_s, j_b3_s, j_b0_s, y_bo, y_bo1, y_bo0, y_i0, y_i1, Classical.not_not, nI_clamp, y_ix, y_lt, y_le, y_eq, y_nP, y_nPs, y_ltP, y_ltQ, y_ltPP, y_eqP, y_eqQ, y_eqPP, if_pos, if_neg, ite_true, ite_false, not_true_eq_false, not_false_eq_true, and_true, true_and, and_false, false_and, or_true, true_or, or_false, false_or, f10, h.s1]
    by_cases c : b (12 + 2 * k) = t
    · rw [if_pos c, if_pos c, if_pos (by omega)]
    · rw [if_neg c] at h4'
      rw [if_neg c, if_neg c]
      exact ih (k + 1) f (by omega) (by omega) h4'
theorem y_T.sb (h : y_T σ b) (hW : y_W b) {l t : Nat} (ht : t ≤ 1000000) (h4' : y_hi b t (b 4) 0 < b 4 ∨ b 4 < 6) :
    ∃ σ', f_X2_setStay (nI l) (nI t) σ = some σ' ∧ y_T σ' (y_sb b l t) ∧ y_ft2 σ σ' := by
  have b4 := hW.b4
  obtain ⟨s1, s2, s3, s4, _⟩ := y_hi_sp (b := b) (v := t) (b 4) 0
  have key := yc_sset h hW (l := l) ht (b 4) 0 j_F (by omega) (y_F (by omega)) h4'
  obtain ⟨⟨f1, f2, f3, f4, f5, f6, f7, f10, d0, d1⟩, f8, s, tt, c⟩ := h
  unfold f_X2_setStay
  rw [show (0 : Int32) = nI 0 from rfl, key]
  unfold y_sb
  generalize y_hi b t (b 4) 0 = i at *
  refine ⟨_, rfl, ?_, ?_⟩
  · unfold y_T y_cb
    by_cases e : i < b 4
    · rw [if_pos e, if_pos e]
      refine ⟨?_, ?_, fun k hk => ?_, fun p q hp hq => ?_, fun k hk => ?_⟩
      · simp (disch := omega) only [j_r_ne, j_r_eq, j_r_nj, y_ue, y_un]
        exact ⟨f1, f2, f3, f4, f5, f6, f7, f10, d0, d1⟩
      · simp (disch := omega) only [j_r_ne, y_un]; exact f8
      · simp (disch := omega) only [y_ue] at hk
        have q := s k hk
        by_cases e2 : k = i
        · subst e2
          simp (disch := omega) only [j_r_ne, j_r_eq, y_ue, y_un]
          exact ⟨by rw [q.1, s4 (by omega)], trivial⟩
        · simp (disch := omega) only [j_r_ne, j_r_nj, y_un]; exact q
      · simp (disch := omega) only [y_un] at hp
        have := tt p q hp hq
        have b6 := hW.b6
        simp (disch := omega) only [j_r_ne, y_un]; exact this
      · simp (disch := omega) only [y_un] at hk
        have b5 := hW.b5
        simp (disch := omega) only [j_r_ne, y_un]; exact c k hk
    · rw [if_neg e, if_neg e]
      have ei : i = b 4 := by omega
      subst ei
      refine ⟨?_, ?_, fun k hk => ?_, fun p q hp hq => ?_, fun k hk => ?_⟩
      · simp (disch := omega) only [j_r_ne, j_r_eq, j_r_nj, y_ue, y_un]
        exact ⟨f1, f2, f3, f4, f5, f6, f7, trivial, d0, d1⟩
      · simp (disch := omega) only [j_r_ne, j_r_nj, y_un]; exact f8
      · simp (disch := omega) only [y_ue] at hk
        by_cases e2 : k = b 4
        · subst e2
          simp (disch := omega) only [j_r_ne, j_r_eq, y_ue, y_un]
          exact ⟨trivial, trivial⟩
        · have q := s k (by omega)
          simp (disch := omega) only [j_r_ne, j_r_nj, y_un]; exact q
      · simp (disch := omega) only [y_un] at hp
        have := tt p q hp hq
        have b6 := hW.b6
        simp (disch := omega) only [j_r_ne, y_un]; exact this
      · simp (disch := omega) only [y_un] at hk
        have b5 := hW.b5
        simp (disch := omega) only [j_r_ne, y_un]; exact c k hk
  · by_cases e : i < b 4
    · rw [if_pos e]; exact y_ft2.refl.si (by omega)
    · rw [if_neg e]; exact ((y_ft2.refl.si (by omega)).si (by omega)).si (by omega)
end A
/-! ===== the reference reads what stands behind the first word ===== -/
section R
variable {B : Nat → Int32} {n : Nat}
theorem y_mbs {τ : j_G} {b : Nat → Nat} {j v : Nat} (h : y_mb (τ.1 81) b) (hj : ¬ (24 ≤ j ∧ j < 96 ∧ j % 3 = 1)) : y_mb ((j_si τ 81 j (nI v)).1 81) (y_u b j v) := by
  intro i hi
  by_cases e : i = j
  · subst e; rw [j_r_eq, if_neg hj, y_ue]
  · rw [j_r_nj e, y_un e]; exact h i hi
theorem y_mbp {τ : j_G} {b : Nat → Nat} {j v : Nat} (h : y_mb (τ.1 81) b) (hj : 24 ≤ j ∧ j < 96 ∧ j % 3 = 1) : y_mb ((j_si τ 81 j (nP v)).1 81) (y_u b j v) := by
  intro i hi
  by_cases e : i = j
  · subst e; rw [j_r_eq, if_pos hj, y_ue]
  · rw [j_r_nj e, y_un e]; exact h i hi
theorem y_mb.fm {τ τ' : j_G} {b : Nat → Nat} {f g : Nat} (h : y_mb (τ.1 81) b) (hf : y_fm f g 1 0 τ τ') : y_mb (τ'.1 81) b := by rw [(hf.2 81 (by omega) (by omega)).1]; exact h
theorem y_mw.s81 {τ : j_G} {r : Nat × Nat} {j : Nat} {v : Int32} (h : y_mw τ B n r) : y_mw (j_si τ 81 j v) B n r := h.fr (funext fun _ => j_r_ne (by omega)) (funext fun _ => j_r_ne (by omega))
abbrev y_fl (τ τ' : j_G) : Prop := y_fm 8 13 81 81 τ τ'
theorem y_fl.of {τ τ' : j_G} (h : y_fm 8 13 1 0 τ τ') : y_fl τ τ' := ⟨h.1, fun c a d => h.2 c a (by omega)⟩
theorem y_fl.s {τ τ' : j_G} {j : Nat} {v : Int32} (h : y_fl τ τ') : y_fl τ (j_si τ' 81 j v) := h.si (by omega) (by omega) (by omega)
theorem y_fl.t {τ τ' τ'' : j_G} (h : y_fl τ τ') (h' : y_fm 8 13 1 0 τ' τ'') : y_fl τ τ'' := y_fm.trans h (y_fl.of h')
theorem ym_first {τ : j_G} {b : Nat → Nat} {p : Nat} (h : y_mw τ B n (0, p)) (hm : y_mb (τ.1 81) b) :
    ∃ τ', f_X12_readFirst τ = some τ' ∧ y_mw τ' B n (y_gq B n y_q0 [some (y_L 8), some (y_L 9), none, some (y_L 10), none, some (y_L 11), none, some (y_L 12), none] ((0, p), [])).1 ∧ y_fl τ τ' ∧
      ((y_gq B n y_q0 [some (y_L 8), some (y_L 9), none, some (y_L 10), none, some (y_L 11), none, some (y_L 12), none] ((0, p), [])).1.1 = 0 → ∃ w0 w1 w2 w3, (y_gq B n y_q0 [some (y_L 8), some (y_L 9), none, some (y_L 10), none, some (y_L 11), none, some (y_L 12), none] ((0, p), [])).2 = [w0, w1, w2, w3] ∧ (1 ≤ w0 ∧ w0 < 5) ∧ (1 ≤ w1 ∧ w1 < 4) ∧ (1 ≤ w2 ∧ w2 < 201) ∧ w3 < 10 ∧ y_mb (τ'.1 81) (y_bb b w0 w1 w2 w3)) := by
  obtain ⟨τ1, a1, a2, a3⟩ := ym_needs (J := y_q0) (x := ((0, p), [])) (y_strK (k := 8) (by omega)) (y_ne 8 (by omega)) h
  have x1 := y_stp_w2 (B := B) (n := n) (J := y_q0) (x := ((0, p), [])) (y_ne 8 (by omega))
  generalize hx1 : y_stp B n y_q0 (some (y_L 8)) ((0, p), []) = X1 at *
  have go : y_gq B n y_q0 [some (y_L 8), some (y_L 9), none, some (y_L 10), none, some (y_L 11), none, some (y_L 12), none] ((0, p), []) = y_gq B n y_q0 [some (y_L 12), none] (y_gq B n y_q0 [some (y_L 11), none] (y_gq B n y_q0 [some (y_L 10), none] (y_gq B n y_q0 [some (y_L 9), none] X1))) := by rw [← hx1]; rfl
  rw [go]
  clear go hx1
  obtain ⟨v0, τ2, b1, b2, b3, b4⟩ := ym_toldR (J := y_q0) (lo := 1) (hi := 5) (y_strK (k := 9) (by omega)) (y_ne 9 (by omega)) (by omega) (by omega) (fun _ v => by rw [x1]; rfl) a2
  generalize y_gq B n y_q0 [some (y_L 9), none] X1 = X2 at *
  obtain ⟨v1, τ3, c1, c2, c3, c4⟩ := ym_toldR (J := y_q0) (lo := 1) (hi := 4) (y_strK (k := 10) (by omega)) (y_ne 10 (by omega)) (by omega) (by omega) (fun z v => by obtain ⟨w, _, e, _⟩ := b4 z; rw [e, x1]; rfl) (b2.s81 (j := 0) (v := v0))
  have g3 : (y_gq B n y_q0 [some (y_L 10), none] X2).1.1 = 0 → X2.1.1 = 0 := y_gq_good
  generalize y_gq B n y_q0 [some (y_L 10), none] X2 = X3 at *
  obtain ⟨v2, τ4, d1, d2, d3, d4⟩ := ym_toldR (J := y_q0) (lo := 1) (hi := 201) (y_strK (k := 11) (by omega)) (y_ne 11 (by omega)) (by omega) (by omega) (fun z v => by obtain ⟨w, _, e, _⟩ := b4 (g3 z); obtain ⟨w', _, e', _⟩ := c4 z; rw [e', e, x1]; rfl) (c2.s81 (j := 1) (v := v1))
  have g4 : (y_gq B n y_q0 [some (y_L 11), none] X3).1.1 = 0 → X3.1.1 = 0 := y_gq_good
  generalize y_gq B n y_q0 [some (y_L 11), none] X3 = X4 at *
  obtain ⟨v3, τ5, e1, e2, e3, e4⟩ := ym_toldR (J := y_q0) (lo := 0) (hi := 10) (y_strK (k := 12) (by omega)) (y_ne 12 (by omega)) (by omega) (by omega) (fun z v => by obtain ⟨w, _, e, _⟩ := b4 (g3 (g4 z)); obtain ⟨w', _, e', _⟩ := c4 (g4 z); obtain ⟨w'', _, e'', _⟩ := d4 z; rw [e'', e', e, x1]; rfl) (d2.s81 (j := 2) (v := v2))
  have g5 : (y_gq B n y_q0 [some (y_L 12), none] X4).1.1 = 0 → X4.1.1 = 0 := y_gq_good
  generalize y_gq B n y_q0 [some (y_L 12), none] X4 = X5 at *
  refine ⟨j_si (j_si (j_si τ5 81 3 v3) 81 10 (nI 1)) 81 11 (nI 100), ?_, ((e2.s81).s81).s81, ?_, fun z => ?_⟩
  · unfold f_X12_readFirst
    rw [a1, j_b1_s, show (1 : Int32) = nI 1 from rfl, show (4 : Int32) = nP 5 from by decide, b1, j_b2_s]
    have i0 : ∀ o : Option j_G, j_ix (0 : Int32) 116 o = o := fun o => y_ix (k := 0) (by omega) (by omega)
    have i1 : ∀ o : Option j_G, j_ix (nI 1) 116 o = o := fun o => y_ix (k := 1) (by omega) (by omega)
    have i2 : ∀ o : Option j_G, j_ix (2 : Int32) 116 o = o := fun o => y_ix (k := 2) (by omega) (by omega)
    have i3 : ∀ o : Option j_G, j_ix (3 : Int32) 116 o = o := fun o => y_ix (k := 3) (by omega) (by omega)
    have i10 : ∀ o : Option j_G, j_ix (10 : Int32) 116 o = o := fun o => y_ix (k := 10) (by omega) (by omega)
    have i11 : ∀ o : Option j_G, j_ix (11 : Int32) 116 o = o := fun o => y_ix (k := 11) (by omega) (by omega)
    simp only [j_lt]
    rw [i0, show (3 : Int32) = nP 4 from by decide, show (0 : Int32).toNatClampNeg = 0 from rfl, c1, j_b2_s, i1, show (nI 1).toNatClampNeg = 1 from rfl, show (200 : Int32) = nP 201 from by decide, d1, j_b2_s, i2, show (2 : Int32).toNatClampNeg = 2 from rfl, show (0 : Int32) = nI 0 from rfl, show (9 : Int32) = nP 10 from by decide, e1, j_b2_s, show nP 4 = (3 : Int32) from by decide, i3, i10, i11]
    rfl
  · refine y_fl.s (y_fl.s (y_fl.s ?_))
    exact y_fl.t (y_fl.s (y_fl.t (y_fl.s (y_fl.t (y_fl.s (y_fl.t (y_fl.of a3) b3)) c3)) d3)) e3
  · obtain ⟨w0, rfl, q0, h0⟩ := b4 (g3 (g4 (g5 z)))
    obtain ⟨w1, rfl, q1, h1⟩ := c4 (g4 (g5 z))
    obtain ⟨w2, rfl, q2, h2⟩ := d4 (g5 z)
    obtain ⟨w3, rfl, q3, h3⟩ := e4 z
    refine ⟨w0, w1, w2, w3, by rw [q3, q2, q1, q0, x1]; rfl, h0, h1, h2, h3.2, ?_⟩
    have m2 := (hm.fm a3).fm b3
    have m3 := (y_mbs (j := 0) (v := w0) m2 (by omega)).fm c3
    have m4 := (y_mbs (j := 1) (v := w1) m3 (by omega)).fm d3
    have m5 := (y_mbs (j := 2) (v := w2) m4 (by omega)).fm e3
    exact y_mbs (y_mbs (y_mbs m5 (by omega)) (by omega)) (by omega)
end R
/-! ===== stay, shut, a hole, a coming ===== -/
section R
variable {B : Nat → Int32} {n : Nat}
theorem y_i81 {α : Type} {o : Option α} {k : Nat} (h : k < 116) : j_ix (nI k) 116 o = o := y_ix h (by omega)
theorem ym_fs {τ : j_G} {b : Nat → Nat} {t : Nat} (hW : y_W b) (hm : y_mb (τ.1 81) b) (ht : t ≤ 1000000) : f_X12_freshStay (nI t) τ = some (if y_hi b t (b 4) 0 < b 4 then nI (y_hi b t (b 4) 0) else nP 0) := by
  have b4 := hW.b4
  have b2 := hW.b2
  have key : ∀ m k f, k + m = b 4 → m < f → p_X12_freshStay_2 (nI t) τ f (nI k) = some (if y_hi b t m k < b 4 then nI (y_hi b t m k) else nP 0) := by
    intro m
    induction m with
    | zero =>
      intro k f h hf
      obtain ⟨f, rfl⟩ := y_pos hf
      unfold p_X12_freshStay_2 y_hi
      simp (disch := omega) only [y_lit, y_n1, nI_add, pk_mul, j_lt, j_b1_s, j_b2_s, j_b3_s, j_b0_s, y_bo, y_bo1, y_bo0, y_i0, y_i1, Classical.not_not, nI_clamp, y_ix, y_lt, y_le, y_eq, y_nP, y_nPs, y_ltP, y_ltQ, y_ltPP, y_eqP, y_eqQ, y_eqPP, if_pos, if_neg, ite_true, ite_false, not_true_eq_false, not_false_eq_true, and_true, true_and, and_false, false_and, or_true, true_or, or_false, false_or, hm.f]
    | succ m ih =>
      intro k f h hf
      obtain ⟨f, rfl⟩ := y_pos hf
      have st := hW.st (k := k) (by omega)
      unfold p_X12_freshStay_2 y_hi
      simp (disch := omega) only [y_lit, y_n1, nI_add, pk_mul, j_lt, j_b1_s, j_b2_s, j_b3_s, j_b0_s, y_bo, y_bo1, y_bo0, y_i0, y_i1, Classical.not_not, nI_clamp, y_ix, y_lt, y_le, y_eq, y_nP, y_nPs, y_ltP, y_ltQ, y_ltPP, y_eqP, y_eqQ, y_eqPP, if_pos, if_neg, ite_true, ite_false, not_true_eq_false, not_false_eq_true, and_true, true_and, and_false, false_and, or_true, true_or, or_false, false_or, hm.f]
      by_cases c : b (12 + 2 * k) = t
      · rw [if_pos c, if_pos c, if_pos (by omega)]
      · rw [if_neg c, if_neg c]
        exact ih (k + 1) f (by omega) (by omega)
  unfold f_X12_freshStay
  rw [show (0 : Int32) = nI 0 from rfl, key (b 4) 0 j_F (by omega) (y_F (by omega))]
theorem ym_rstay {τ : j_G} {b : Nat → Nat} {p : Nat} (hW : y_W b) (on : 0 < b 9) (h : y_mw τ B n (0, p)) (hm : y_mb (τ.1 81) b) :
    ∃ τ', f_X12_readStay τ = some τ' ∧ y_mw τ' B n (y_gq B n (y_q1 b) [none, some (y_L 20), none] ((0, p), [])).1 ∧ y_fl τ τ' ∧
      ((y_gq B n (y_q1 b) [none, some (y_L 20), none] ((0, p), [])).1.1 = 0 → ∃ w0 w1, (y_gq B n (y_q1 b) [none, some (y_L 20), none] ((0, p), [])).2 = [w0, w1] ∧ (1 ≤ w0 ∧ w0 < 41) ∧ w1 < b 2 ∧ (y_hi b w1 (b 4) 0 < b 4 ∨ b 4 < 6) ∧ y_mb (τ'.1 81) (y_sb b w0 w1)) := by
  have b4 := hW.b4
  have b2 := hW.b2
  have on2 := (hW.on on).2.2.1
  obtain ⟨v0, τ1, a1, a2, a3, a4⟩ := ym_numR (J := y_q1 b) (x := ((0, p), [])) (lo := 1) (hi := 41) (by omega) (by omega) (fun _ v => rfl) h
  have go : y_gq B n (y_q1 b) [none, some (y_L 20), none] ((0, p), []) = y_stp B n (y_q1 b) none (y_stp B n (y_q1 b) (some (y_L 20)) (y_stp B n (y_q1 b) none ((0, p), []))) := rfl
  rw [go]
  clear go
  generalize y_stp B n (y_q1 b) none ((0, p), []) = X1 at *
  obtain ⟨τ2, c1, c2, c3⟩ := ym_needs (J := y_q1 b) (x := X1) (y_strK (k := 20) (by omega)) (y_ne 20 (by omega)) a2
  have x2 := y_stp_w2 (B := B) (n := n) (J := y_q1 b) (x := X1) (y_ne 20 (by omega))
  have g2 : (y_stp B n (y_q1 b) (some (y_L 20)) X1).1.1 = 0 → X1.1.1 = 0 := y_stp_good
  generalize y_stp B n (y_q1 b) (some (y_L 20)) X1 = X2 at *
  have m2 : y_mb (τ2.1 81) b := (hm.fm a3).fm c3
  obtain ⟨⟨r1, r2⟩, vs⟩ := X2
  have gd := ym_good c2
  have i0 : ¬ ¬ nI 0 = (0 : Int32) := fun z => z rfl
  have i1 : ¬ nI 1 = (0 : Int32) := by decide
  -- the check before the number
  obtain ⟨τ3, d0, d1, d2, d3⟩ : ∃ τ3, (∀ K : j_G → Option j_G, (j_b1 (if (¬ (f_X12_good τ2) = 0) ∧ ((τ2.1 75 10) = (2 : Int32)) then (j_ix (2 : Int32) 116 (if (τ2.1 75 11) < (τ2.1 81 ((2 : Int32)).toNatClampNeg) then (some (1 : Int32)) else (some (0 : Int32)))) else (some (0 : Int32))) fun v4 =>
      j_b1 (if ¬ v4 = 0 then (j_ix (4 : Int32) 116 (if (τ2.1 81 ((4 : Int32)).toNatClampNeg) = (6 : Int32) then (j_b1 (f_X12_freshStay (τ2.1 75 11) τ2) fun v6 => if v6 = (-1 : Int32) then (j_b1 (f_X12_errs (3 : Int32) τ2) fun σ7 => some σ7) else (some τ2)) else (some τ2))) else (some τ2)) K) = K τ3) ∧
      ((y_mw τ3 B n (r1, r2) ∧ (r1 = 0 → y_kd B n r2 = 2 → y_val B n r2 < b 2 → ¬ (6 ≤ b 4 ∧ y_hs b (y_val B n r2) (b 4) 0 = false))) ∨ (r1 = 0 ∧ y_kd B n r2 = 2 ∧ y_val B n r2 < b 2 ∧ 6 ≤ b 4 ∧ y_hs b (y_val B n r2) (b 4) 0 = false ∧ y_mw τ3 B n (3, y_s B n r2))) ∧ y_fm 8 13 1 0 τ2 τ3 ∧ True := by
    by_cases c : r1 = 0
    · subst c
      obtain ⟨g1, gg2, q9, q8, q10, q11⟩ := c2.2.2.2.1 rfl
      have kl := y_kd_le (B := B) (n := n) (p := r2)
      have vl := y_val_le B n r2
      rw [gd, if_pos rfl]
      by_cases k : y_kd B n r2 = 2
      · have e11 : τ2.1 75 11 = nI (min 99999 (y_val B n r2)) := q11 k
        rw [if_pos (show ¬ nI 1 = (0 : Int32) ∧ τ2.1 75 10 = (2 : Int32) from ⟨i1, by rw [q10]; show nI (y_kd B n r2) = _; rw [k]; rfl⟩), e11, show (2 : Int32) = nI 2 from rfl, show (4 : Int32) = nI 4 from rfl, show (nI 2).toNatClampNeg = 2 from rfl, show (nI 4).toNatClampNeg = 4 from rfl, y_i81 (by omega), y_i81 (by omega), m2.f (j := 2) (by omega), m2.f (j := 4) (by omega)]
        by_cases w : y_val B n r2 < b 2
        · have em : min 99999 (y_val B n r2) = y_val B n r2 := by omega
          rw [em, if_pos (show nI (y_val B n r2) < nI (b 2) by rw [y_lt (by omega) (by omega)]; exact w)]
          obtain ⟨s1, s2, s3, s4, s5⟩ := y_hi_sp (b := b) (v := y_val B n r2) (b 4) 0
          by_cases f : 6 ≤ b 4
          · have f6 : b 4 = 6 := by omega
            by_cases g : y_hs b (y_val B n r2) (b 4) 0 = true
            · refine ⟨τ2, fun K => ?_, Or.inl ⟨c2, fun _ _ _ z => by rw [g] at z; exact absurd z.2 (by decide)⟩, y_fm.refl, trivial⟩
              rw [j_b1_s, if_pos (by decide), if_pos (show nI (b 4) = (6 : Int32) by rw [f6]; rfl), ym_fs hW m2 vl, if_pos (by have := s5.mp g; omega), j_b1_s, if_neg (by rw [y_m1, y_eqQ (by omega) (by omega)]; omega), j_b1_s]
            · have g' : y_hs b (y_val B n r2) (b 4) 0 = false := by
                cases hh : y_hs b (y_val B n r2) (b 4) 0 with
                | true => exact absurd hh g
                | false => rfl
              obtain ⟨τ', e1, e2, e3⟩ := ym_errs (k := 3) (by omega) (by omega) c2
              refine ⟨τ', fun K => ?_, Or.inr ⟨rfl, k, w, f, g', e2⟩, e3.wide (by omega) (by omega) (by omega) (by omega), trivial⟩
              rw [j_b1_s, if_pos (by decide), if_pos (show nI (b 4) = (6 : Int32) by rw [f6]; rfl), ym_fs hW m2 vl, if_neg (fun z => g (s5.mpr (by omega))), j_b1_s, if_pos y_m1.symm, show (3 : Int32) = nI 3 from rfl, e1, j_b1_s, j_b1_s]
          · refine ⟨τ2, fun K => ?_, Or.inl ⟨c2, fun _ _ _ z => f z.1⟩, y_fm.refl, trivial⟩
            rw [j_b1_s, if_pos (by decide), if_neg (show ¬ nI (b 4) = (6 : Int32) by rw [show (6 : Int32) = nI 6 from rfl, y_eq (by omega) (by omega)]; omega), j_b1_s]
        · refine ⟨τ2, fun K => ?_, Or.inl ⟨c2, fun _ _ z => absurd z w⟩, y_fm.refl, trivial⟩
          rw [if_neg (show ¬ nI (min 99999 (y_val B n r2)) < nI (b 2) by rw [y_lt (by omega) (by omega)]; omega), j_b1_s, if_neg (fun z => z rfl), j_b1_s]
      · refine ⟨τ2, fun K => ?_, Or.inl ⟨c2, fun _ z => absurd z k⟩, y_fm.refl, trivial⟩
        rw [if_neg (show ¬ (¬ nI 1 = (0 : Int32) ∧ τ2.1 75 10 = (2 : Int32)) from fun z => k (by have := z.2; rw [q10, show (2 : Int32) = nI 2 from rfl, y_eq (by show y_kd B n r2 < _; omega) (by omega)] at this; exact this)), j_b1_s, if_neg (fun z => z rfl), j_b1_s]
    · refine ⟨τ2, fun K => ?_, Or.inl ⟨c2, fun z => absurd z c⟩, y_fm.refl, trivial⟩
      rw [gd, if_neg (show ¬ ((r1, r2), vs).1.1 = 0 from c), if_neg (fun z => z.1 rfl), j_b1_s, if_neg (fun z => z rfl), j_b1_s]
  have m3 : y_mb (τ3.1 81) b := m2.fm d2
  -- the number
  obtain ⟨v1, τ4, e1, e2, e3, e4⟩ : ∃ v τ4, f_X12_number (nI 0) (nP (b 2)) τ3 = some (v, τ4) ∧ y_mw τ4 B n (y_stp B n (y_q1 b) none ((r1, r2), vs)).1 ∧ y_fm 8 13 1 0 τ3 τ4 ∧ ((y_stp B n (y_q1 b) none ((r1, r2), vs)).1.1 = 0 → v = nI (y_val B n r2) ∧ (y_stp B n (y_q1 b) none ((r1, r2), vs)).2 = vs ++ [y_val B n r2] ∧ y_val B n r2 < b 2 ∧ ¬ (6 ≤ b 4 ∧ y_hs b (y_val B n r2) (b 4) 0 = false)) := by
    have hl1 : r1 = 0 → vs.length = 1 := fun z => by
      obtain ⟨_, q, _⟩ := a4 (g2 z)
      have : vs = X1.2 := x2
      rw [this, q]; rfl
    rcases d1 with ⟨f1, f2⟩ | ⟨f0, f1, f2, f3, f4, f5⟩
    · obtain ⟨v, τ4, e1, e2, e3, e4⟩ := ym_numR (J := fun _ v => y_jr 0 (b 2) v) (x := ((r1, r2), vs)) (lo := 0) (hi := b 2) (by omega) (by omega) (fun _ v => rfl) f1
      have eq : y_stp B n (fun _ v => y_jr 0 (b 2) v) none ((r1, r2), vs) = y_stp B n (y_q1 b) none ((r1, r2), vs) := by
        apply y_stp_J
        intro z k
        have z' : r1 = 0 := z
        show y_jr 0 (b 2) (y_val B n r2) = y_q1 b vs (y_val B n r2)
        unfold y_q1 y_jr
        rw [if_neg (show ¬ vs.length = 0 by have := hl1 z'; omega)]
        by_cases w : y_val B n r2 < b 2
        · rw [if_neg (show ¬ ¬ y_val B n r2 < b 2 from fun z => z w), if_neg (f2 z' k w), if_pos (show 0 ≤ y_val B n r2 ∧ y_val B n r2 < b 2 from ⟨by omega, w⟩)]
        · rw [if_pos w, if_neg (show ¬ (0 ≤ y_val B n r2 ∧ y_val B n r2 < b 2) from fun z => w z.2)]
      rw [eq] at e2 e4
      refine ⟨v, τ4, e1, e2, e3, fun z => ?_⟩
      obtain ⟨k1, k2, k3, k4⟩ := e4 z
      have r0 : r1 = 0 := y_stp_good (x := ((r1, r2), vs)) z
      have kk : y_kd B n r2 = 2 := by
        subst r0
        rw [y_stp_n] at z
        by_cases k : y_kd B n r2 = 2
        · exact k
        · rw [if_pos k] at z; exact absurd z (by show ¬ (1 : Nat) = 0; omega)
      exact ⟨k1, k2, k4, f2 r0 kk k4⟩
    · subst f0
      obtain ⟨v, τ4, e1, e2, e3, e4⟩ := ym_numR (J := fun _ v => y_jr 0 (b 2) v) (x := ((3, y_s B n r2), vs)) (lo := 0) (hi := b 2) (by omega) (by omega) (fun _ v => rfl) f5
      have j3 : y_q1 b vs (y_val B n r2) = 3 := by
        unfold y_q1
        rw [if_neg (by have := hl1 rfl; omega), if_neg (fun z => z f2), if_pos ⟨f3, f4⟩]
      have eq : y_stp B n (y_q1 b) none ((0, r2), vs) = ((3, y_s B n r2), vs) := by
        rw [y_stp_n, if_neg (fun z => z f1), j3, if_pos (by omega)]
      rw [y_stp_bad (show ((3, y_s B n r2), vs).1.1 ≠ 0 by show (3 : Nat) ≠ 0; omega)] at e2
      rw [eq]
      exact ⟨v, τ4, e1, e2, e3, fun z => absurd z (by show ¬ (3 : Nat) = 0; omega)⟩
  have m4 : y_mb (τ4.1 81) b := m3.fm e3
  have gd4 := ym_good e2
  have pre : f_X12_readStay τ = (if (f_X12_good τ4) = 0 then (some τ4) else (j_b1 (f_X12_freshStay v1 τ4) fun v10 =>
      j_b2 (if v10 = (-1 : Int32) then (j_ix (4 : Int32) 116 (j_lt (τ4.1 81 ((4 : Int32)).toNatClampNeg) fun v13 => j_ix (4 : Int32) 116 (j_ix (4 : Int32) 116 (j_lt (j_si τ4 81 ((4 : Int32)).toNatClampNeg ((τ4.1 81 ((4 : Int32)).toNatClampNeg) + (1 : Int32))) fun σ14 => some (v13, σ14))))) else (some (v10, τ4))) fun v11 σ12 =>
      j_ix ((12 : Int32) + ((2 : Int32) * v11)) 116 (j_lt (j_si σ12 81 (((12 : Int32) + ((2 : Int32) * v11))).toNatClampNeg v1) fun σ15 =>
      j_ix (((12 : Int32) + ((2 : Int32) * v11)) + (1 : Int32)) 116 (j_lt (j_si σ15 81 ((((12 : Int32) + ((2 : Int32) * v11)) + (1 : Int32))).toNatClampNeg v0) fun σ16 => some σ16)))) := by
    have a1' : f_X12_number (1 : Int32) (40 : Int32) τ = some (v0, τ1) := by rw [show (40 : Int32) = nP 41 from by decide]; exact a1
    have e1' : f_X12_number (0 : Int32) (nI (b 2) - (1 : Int32)) τ3 = some (v1, τ4) := e1
    unfold f_X12_readStay
    rw [a1', j_b2_s, c1, j_b1_s]
    have := d0 (fun σ5 => j_ix (2 : Int32) 116 (j_b2 (f_X12_number (0 : Int32) ((σ5.1 81 ((2 : Int32)).toNatClampNeg) - (1 : Int32)) σ5) fun v9 σ8 =>
      if (f_X12_good σ8) = 0 then (some σ8) else (j_b1 (f_X12_freshStay v9 σ8) fun v10 =>
      j_b2 (if v10 = (-1 : Int32) then (j_ix (4 : Int32) 116 (j_lt (σ8.1 81 ((4 : Int32)).toNatClampNeg) fun v13 => j_ix (4 : Int32) 116 (j_ix (4 : Int32) 116 (j_lt (j_si σ8 81 ((4 : Int32)).toNatClampNeg ((σ8.1 81 ((4 : Int32)).toNatClampNeg) + (1 : Int32))) fun σ14 => some (v13, σ14))))) else (some (v10, σ8))) fun v11 σ12 =>
      j_ix ((12 : Int32) + ((2 : Int32) * v11)) 116 (j_lt (j_si σ12 81 (((12 : Int32) + ((2 : Int32) * v11))).toNatClampNeg v9) fun σ15 =>
      j_ix (((12 : Int32) + ((2 : Int32) * v11)) + (1 : Int32)) 116 (j_lt (j_si σ15 81 ((((12 : Int32) + ((2 : Int32) * v11)) + (1 : Int32))).toNatClampNeg v0) fun σ16 => some σ16)))))
    refine Eq.trans this ?_
    rw [show j_ix (2 : Int32) 116 _ = _ from y_i81 (k := 2) (by omega), show ((2 : Int32)).toNatClampNeg = 2 from rfl, m3.f (j := 2) (by omega), e1', j_b2_s]
  rw [pre, gd4]
  by_cases z : (y_stp B n (y_q1 b) none ((r1, r2), vs)).1.1 = 0
  · obtain ⟨k1, k2, k3, k4⟩ := e4 z
    have r0 : r1 = 0 := y_stp_good (x := ((r1, r2), vs)) z
    obtain ⟨q1, q2, q3, q4⟩ := a4 (g2 r0)
    have vl := y_val_le B n r2
    obtain ⟨s1, s2, s3, s4, s5⟩ := y_hi_sp (b := b) (v := y_val B n r2) (b 4) 0
    rw [if_pos z, if_neg i1, k1, ym_fs hW m4 vl, j_b1_s]
    have hx2 : vs = [y_val B n p] := by
      have : vs = X1.2 := x2
      rw [this, q2]; rfl
    have fits : y_hi b (y_val B n r2) (b 4) 0 < b 4 ∨ b 4 < 6 := by
      by_cases f : 6 ≤ b 4
      · left
        by_cases g : y_hi b (y_val B n r2) (b 4) 0 < b 4
        · exact g
        · exfalso
          apply k4
          refine ⟨f, ?_⟩
          cases hh : y_hs b (y_val B n r2) (b 4) 0 with
          | true => exact absurd (s5.mp hh) (by omega)
          | false => rfl
      · right; omega
    subst hx2
    subst q1
    have vl0 : y_val B n p ≤ 1000000 := y_val_le B n p
    have fin : ∀ (τ5 : j_G) i, i ≤ b 4 → i < 6 → i = y_hi b (y_val B n r2) (b 4) 0 → y_mw τ5 B n (y_stp B n (y_q1 b) none ((r1, r2), [y_val B n p])).1 → y_fl τ τ5 → y_mb (τ5.1 81) (if i < b 4 then b else y_u b 4 (b 4 + 1)) → ∃ τ', (j_ix ((12 : Int32) + ((2 : Int32) * nI i)) 116 (j_lt (j_si τ5 81 (((12 : Int32) + ((2 : Int32) * nI i))).toNatClampNeg (nI (y_val B n r2))) fun σ15 =>
      j_ix (((12 : Int32) + ((2 : Int32) * nI i)) + (1 : Int32)) 116 (j_lt (j_si σ15 81 ((((12 : Int32) + ((2 : Int32) * nI i)) + (1 : Int32))).toNatClampNeg (nI (y_val B n p))) fun σ16 => some σ16))) = some τ' ∧ y_mw τ' B n (y_stp B n (y_q1 b) none ((r1, r2), [y_val B n p])).1 ∧ y_fl τ τ' ∧ y_mb (τ'.1 81) (y_sb b (y_val B n p) (y_val B n r2)) := by
      intro τ5 i hi hi6 ei w1 w2 w3
      refine ⟨j_si (j_si τ5 81 (12 + 2 * i) (nI (y_val B n r2))) 81 (13 + 2 * i) (nI (y_val B n p)), ?_, (w1.s81).s81, (w2.s).s, ?_⟩
      · simp (disch := omega) only [y_lit, y_n1, nI_add, pk_mul, j_lt, j_b1_s, j_b2_s, j_b3_s, j_b0_s, y_bo, y_bo1, y_bo0, y_i0, y_i1, Classical.not_not, nI_clamp, y_ix, y_lt, y_le, y_eq, y_nP, y_nPs, y_ltP, y_ltQ, y_ltPP, y_eqP, y_eqQ, y_eqPP, if_pos, if_neg, ite_true, ite_false, not_true_eq_false, not_false_eq_true, and_true, true_and, and_false, false_and, or_true, true_or, or_false, false_or]
        rw [show 12 + 2 * i + 1 = 13 + 2 * i by omega]
      · have := y_mbs (j := 13 + 2 * i) (v := y_val B n p) (y_mbs (j := 12 + 2 * i) (v := y_val B n r2) w3 (by omega)) (by omega)
        unfold y_sb
        rw [← ei]
        intro j hj
        rw [this j hj]
        have e : y_u (y_u (if i < b 4 then b else y_u b 4 (b 4 + 1)) (12 + 2 * i) (y_val B n r2)) (13 + 2 * i) (y_val B n p) j = y_u (y_u (y_u b (12 + 2 * i) (y_val B n r2)) (13 + 2 * i) (y_val B n p)) 4 (if i < b 4 then b 4 else b 4 + 1) j := by
          by_cases c : i < b 4
          · rw [if_pos c, if_pos c]
            unfold y_u
            by_cases j4 : j = 4
            · subst j4; rw [if_neg (by omega), if_neg (by omega), if_pos rfl]
            · rw [if_neg j4]
          · rw [if_neg c, if_neg c]
            unfold y_u
            by_cases j4 : j = 4
            · subst j4; rw [if_neg (by omega), if_neg (by omega), if_pos rfl, if_pos rfl]
            · simp only [if_neg j4]
        rw [e]
    have fl4 : y_fl τ τ4 := y_fl.t (y_fl.t (y_fl.t (y_fl.of a3) c3) d2) e3
    by_cases c : y_hi b (y_val B n r2) (b 4) 0 < b 4
    · rw [if_pos c, if_neg (by rw [y_m1, y_eqQ (by omega) (by omega)]; omega), j_b2_s]
      obtain ⟨τ', t1, t2, t3, t4⟩ := fin τ4 _ (by omega) (by omega) rfl e2 fl4 (by rw [if_pos c]; exact m4)
      exact ⟨τ', t1, t2, t3, fun _ => ⟨y_val B n p, y_val B n r2, k2, ⟨q3, q4⟩, k3, fits, t4⟩⟩
    · have ei : y_hi b (y_val B n r2) (b 4) 0 = b 4 := by omega
      rw [if_neg c, if_pos y_m1.symm, show j_ix (4 : Int32) 116 _ = _ from y_i81 (k := 4) (by omega)]
      simp only [j_lt]
      rw [show j_ix (4 : Int32) 116 _ = _ from y_i81 (k := 4) (by omega), show j_ix (4 : Int32) 116 _ = _ from y_i81 (k := 4) (by omega), show ((4 : Int32)).toNatClampNeg = 4 from rfl, m4.f (j := 4) (by omega), j_b2_s, show nI (b 4) + (1 : Int32) = nI (b 4 + 1) from by simp (disch := omega) only [y_lit, nI_add]]
      obtain ⟨τ', t1, t2, t3, t4⟩ := fin (j_si τ4 81 4 (nI (b 4 + 1))) (b 4) (by omega) (by omega) ei.symm e2.s81 fl4.s (by rw [if_neg (by omega)]; exact y_mbs m4 (by omega))
      exact ⟨τ', t1, t2, t3, fun _ => ⟨y_val B n p, y_val B n r2, k2, ⟨q3, q4⟩, k3, fits, t4⟩⟩
  · rw [if_neg z, if_pos (show nI 0 = (0 : Int32) from rfl)]
    exact ⟨τ4, rfl, e2, y_fl.t (y_fl.t (y_fl.t (y_fl.of a3) c3) d2) e3, fun w => absurd w z⟩
end R
