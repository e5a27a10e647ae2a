/-! ===== learns, enough, waits, slack, rash, look, line, tickets, prize ===== -/
/-- the first of the greatest -/
noncomputable def y_am (h : Nat → Nat) : Nat → Nat → Nat → Nat
  | 0, _, z => z
  | m + 1, i, z => y_am h m (i + 1) (if h z < h i then i else z)
theorem y_ra_of {σ : j_G} {b : Nat → Nat} {p : Nat} (h : y_rdy σ b p) : y_ra σ b (y_pq b p) := h
section Z
variable {σ τ : j_G}
theorem z_learns (hR : j_Rel σ τ) (a1 a2 : Int32) : ∃ v σ1 τ1, f_X11_learns a1 a2 σ = some (v, σ1) ∧ f_X12_learns a1 a2 τ = some (v, τ1) ∧ j_Rel σ1 τ1 := by
  obtain ⟨b, hW, hN, hM, hK⟩ := id hR
  by_cases h : y_rg a1 (b 6)
  · by_cases h2 : y_rg a2 10
    · obtain ⟨p, hp, rfl⟩ := y_of _ _ h.1 h.2
      obtain ⟨n, hn, rfl⟩ := y_of _ _ h2.1 h2.2
      have h9 := hW.on0 (Or.inr (Or.inr (Or.inr (Or.inl (by omega : 0 < b 6)))))
      obtain ⟨σ1, e1, e2, e3⟩ := yc_ready hN hW hp
      obtain ⟨τ1, f1, f2, f3⟩ := ym_laid hM hW
      obtain ⟨σ2, g1, g2, g3⟩ := yc_know (n := n) e2 hW h9 (y_pqv hW hp) (by omega)
      obtain ⟨τ2, k1, k2, k3⟩ := ym_know (n := n) f2 hW hp (by omega)
      refine ⟨nI (y_H b (y_u (y_pq b p) 3 n)), σ2, τ2, ?_, ?_, y_done hR (e3.trans (g3.wide (by omega) (by omega))) (f3.trans k3)⟩
      · unfold f_X11_learns; simp (disch := omega) only [y_lit, y_n1, nI_add, pk_mul, j_lt, j_b1_s, j_b2_s, j_b3_s, j_b0_s, y_bo, y_bo1, y_bo0, y_i0, y_i1, Classical.not_not, nI_clamp, y_ix, y_lt, y_le, y_eq, y_nP, y_nPs, y_ltP, y_ltQ, y_ltPP, y_eqP, y_eqQ, y_eqPP, if_pos, if_neg, ite_true, ite_false, not_true_eq_false, not_false_eq_true, and_true, true_and, and_false, false_and, or_true, true_or, or_false, false_or, e1, g1]
      · unfold f_X12_learns; simp (disch := omega) only [y_lit, y_n1, nI_add, pk_mul, j_lt, j_b1_s, j_b2_s, j_b3_s, j_b0_s, y_bo, y_bo1, y_bo0, y_i0, y_i1, Classical.not_not, nI_clamp, y_ix, y_lt, y_le, y_eq, y_nP, y_nPs, y_ltP, y_ltQ, y_ltPP, y_eqP, y_eqQ, y_eqPP, if_pos, if_neg, ite_true, ite_false, not_true_eq_false, not_false_eq_true, and_true, true_and, and_false, false_and, or_true, true_or, or_false, false_or, ym_isPlayer hM hW, if_pos h, y_lit64, y_in, f1, k1]
    · refine ⟨-2, σ, τ, ?_, ?_, hR⟩
      · unfold f_X11_learns; simp (disch := omega) only [y_lit, y_n1, nI_add, pk_mul, j_lt, j_b1_s, j_b2_s, j_b3_s, j_b0_s, y_bo, y_bo1, y_bo0, y_i0, y_i1, Classical.not_not, nI_clamp, y_ix, y_lt, y_le, y_eq, y_nP, y_nPs, y_ltP, y_ltQ, y_ltPP, y_eqP, y_eqQ, y_eqPP, if_pos, if_neg, ite_true, ite_false, not_true_eq_false, not_false_eq_true, and_true, true_and, and_false, false_and, or_true, true_or, or_false, false_or, y_c3, h2]
      · unfold f_X12_learns; simp (disch := omega) only [y_lit, y_n1, nI_add, pk_mul, j_lt, j_b1_s, j_b2_s, j_b3_s, j_b0_s, y_bo, y_bo1, y_bo0, y_i0, y_i1, Classical.not_not, nI_clamp, y_ix, y_lt, y_le, y_eq, y_nP, y_nPs, y_ltP, y_ltQ, y_ltPP, y_eqP, y_eqQ, y_eqPP, if_pos, if_neg, ite_true, ite_false, not_true_eq_false, not_false_eq_true, and_true, true_and, and_false, false_and, or_true, true_or, or_false, false_or, ym_isPlayer hM hW, y_lit64, y_in, y_c3, h2]
  · refine ⟨-2, σ, τ, ?_, ?_, hR⟩
    · unfold f_X11_learns; rw [yc_unready hN hW h]; simp (disch := omega) only [y_lit, y_n1, nI_add, pk_mul, j_lt, j_b1_s, j_b2_s, j_b3_s, j_b0_s, y_bo, y_bo1, y_bo0, y_i0, y_i1, Classical.not_not, nI_clamp, y_ix, y_lt, y_le, y_eq, y_nP, y_nPs, y_ltP, y_ltQ, y_ltPP, y_eqP, y_eqQ, y_eqPP, if_pos, if_neg, ite_true, ite_false, not_true_eq_false, not_false_eq_true, and_true, true_and, and_false, false_and, or_true, true_or, or_false, false_or]
      split <;> rfl
    · unfold f_X12_learns; simp (disch := omega) only [y_lit, y_n1, nI_add, pk_mul, j_lt, j_b1_s, j_b2_s, j_b3_s, j_b0_s, y_bo, y_bo1, y_bo0, y_i0, y_i1, Classical.not_not, nI_clamp, y_ix, y_lt, y_le, y_eq, y_nP, y_nPs, y_ltP, y_ltQ, y_ltPP, y_eqP, y_eqQ, y_eqPP, if_pos, if_neg, ite_true, ite_false, not_true_eq_false, not_false_eq_true, and_true, true_and, and_false, false_and, or_true, true_or, or_false, false_or, ym_isPlayer hM hW, h]
theorem z_enough (hR : j_Rel σ τ) (a1 : Int32) : ∃ v σ1 τ1, f_X11_enough a1 σ = some (v, σ1) ∧ f_X12_enough a1 τ = some (v, τ1) ∧ j_Rel σ1 τ1 := by
  obtain ⟨b, hW, hN, hM, hK⟩ := id hR
  by_cases h : y_rg a1 (b 6)
  · obtain ⟨p, hp, rfl⟩ := y_of _ _ h.1 h.2
    have h9 := hW.on0 (Or.inr (Or.inr (Or.inr (Or.inl (by omega : 0 < b 6)))))
    have hq := y_pqv hW hp
    obtain ⟨σ1, e1, e2, e3⟩ := yc_ready hN hW hp
    obtain ⟨τ1, f1, f2, f3⟩ := ym_laid hM hW
    obtain ⟨σ2, g1, g2, g3⟩ := yc_know (n := 0) e2 hW h9 hq (by omega)
    have hb : ∀ n, n ≤ 9 → y_H b (y_u (y_pq b p) 3 n) ≤ 120 := fun n hn => y_H_le hW (y_vq3 hq hn)
    have kc : ∀ m i n z x σ', i + m = 10 → m < n → z < 10 → x < 10 → y_ra σ' b (y_u (y_pq b p) 3 x) → ∃ σ'', p_X11_enough_22 n (nI z) (nI (y_H b (y_u (y_pq b p) 3 z))) (nI i) σ' = some (nI (y_am (fun n => y_H b (y_u (y_pq b p) 3 n)) m i z), σ'') ∧ y_fr 28 34 σ' σ'' := by
      intro m
      induction m with
      | zero =>
        intro i n z x σ' h hn hz hx hr
        obtain ⟨n, rfl⟩ := y_pos hn
        refine ⟨σ', ?_, y_fr.refl⟩
        unfold p_X11_enough_22 y_am; simp (disch := omega) only [y_lit, y_n1, nI_add, pk_mul, j_lt, j_b1_s, j_b2_s, j_b3_s, j_b0_s, y_bo, y_bo1, y_bo0, y_i0, y_i1, Classical.not_not, nI_clamp, y_ix, y_lt, y_le, y_eq, y_nP, y_nPs, y_ltP, y_ltQ, y_ltPP, y_eqP, y_eqQ, y_eqPP, if_pos, if_neg, ite_true, ite_false, not_true_eq_false, not_false_eq_true, and_true, true_and, and_false, false_and, or_true, true_or, or_false, false_or]
      | succ m ih =>
        intro i n z x σ' h hn hz hx hr
        obtain ⟨n, rfl⟩ := y_pos hn
        obtain ⟨σ3, k1, k2, k3⟩ := yc_know (n := i) hr hW h9 (y_vq3 hq (by omega)) (by omega)
        rw [y_uu] at k1 k2
        have b1 := hb i (by omega); have b2 := hb z (by omega)
        unfold p_X11_enough_22 y_am; simp (disch := omega) only [y_lit, y_n1, nI_add, pk_mul, j_lt, j_b1_s, j_b2_s, j_b3_s, j_b0_s, y_bo, y_bo1, y_bo0, y_i0, y_i1, Classical.not_not, nI_clamp, y_ix, y_lt, y_le, y_eq, y_nP, y_nPs, y_ltP, y_ltQ, y_ltPP, y_eqP, y_eqQ, y_eqPP, if_pos, if_neg, ite_true, ite_false, not_true_eq_false, not_false_eq_true, and_true, true_and, and_false, false_and, or_true, true_or, or_false, false_or, k1]
        by_cases c : y_H b (y_u (y_pq b p) 3 z) < y_H b (y_u (y_pq b p) 3 i)
        · obtain ⟨σ4, l1, l2⟩ := ih (i + 1) n i i σ3 (by omega) (by omega) (by omega) (by omega) k2
          simp (disch := omega) only [y_lit, y_n1, nI_add, pk_mul, j_lt, j_b1_s, j_b2_s, j_b3_s, j_b0_s, y_bo, y_bo1, y_bo0, y_i0, y_i1, Classical.not_not, nI_clamp, y_ix, y_lt, y_le, y_eq, y_nP, y_nPs, y_ltP, y_ltQ, y_ltPP, y_eqP, y_eqQ, y_eqPP, if_pos, if_neg, ite_true, ite_false, not_true_eq_false, not_false_eq_true, and_true, true_and, and_false, false_and, or_true, true_or, or_false, false_or]
          exact ⟨σ4, l1, k3.trans l2⟩
        · obtain ⟨σ4, l1, l2⟩ := ih (i + 1) n z i σ3 (by omega) (by omega) (by omega) (by omega) k2
          simp (disch := omega) only [y_lit, y_n1, nI_add, pk_mul, j_lt, j_b1_s, j_b2_s, j_b3_s, j_b0_s, y_bo, y_bo1, y_bo0, y_i0, y_i1, Classical.not_not, nI_clamp, y_ix, y_lt, y_le, y_eq, y_nP, y_nPs, y_ltP, y_ltQ, y_ltPP, y_eqP, y_eqQ, y_eqPP, if_pos, if_neg, ite_true, ite_false, not_true_eq_false, not_false_eq_true, and_true, true_and, and_false, false_and, or_true, true_or, or_false, false_or]
          exact ⟨σ4, l1, k3.trans l2⟩
    have km : ∀ m i n z τ', i + m = 10 → m < n → z < 10 → y_ldy τ' b → ∃ τ'', p_X12_enough_19 (nI p) n (nI z) (nI i) τ' = some (nI (y_am (fun n => y_H b (y_u (y_pq b p) 3 n)) m i z), τ'') ∧ y_fm 18 42 80 93 τ' τ'' := by
      intro m
      induction m with
      | zero =>
        intro i n z τ' h hn hz hr
        obtain ⟨n, rfl⟩ := y_pos hn
        refine ⟨τ', ?_, y_fm.refl⟩
        unfold p_X12_enough_19 y_am; simp (disch := omega) only [y_lit, y_n1, nI_add, pk_mul, j_lt, j_b1_s, j_b2_s, j_b3_s, j_b0_s, y_bo, y_bo1, y_bo0, y_i0, y_i1, Classical.not_not, nI_clamp, y_ix, y_lt, y_le, y_eq, y_nP, y_nPs, y_ltP, y_ltQ, y_ltPP, y_eqP, y_eqQ, y_eqPP, if_pos, if_neg, ite_true, ite_false, not_true_eq_false, not_false_eq_true, and_true, true_and, and_false, false_and, or_true, true_or, or_false, false_or]
      | succ m ih =>
        intro i n z τ' h hn hz hr
        obtain ⟨n, rfl⟩ := y_pos hn
        obtain ⟨τ3, k1, k2, k3⟩ := ym_know (n := i) hr hW hp (by omega)
        obtain ⟨τ4, k4, k5, k6⟩ := ym_know (n := z) k2 hW hp (by omega)
        have b1 := hb i (by omega); have b2 := hb z (by omega)
        unfold p_X12_enough_19 y_am; simp (disch := omega) only [y_lit, y_n1, nI_add, pk_mul, j_lt, j_b1_s, j_b2_s, j_b3_s, j_b0_s, y_bo, y_bo1, y_bo0, y_i0, y_i1, Classical.not_not, nI_clamp, y_ix, y_lt, y_le, y_eq, y_nP, y_nPs, y_ltP, y_ltQ, y_ltPP, y_eqP, y_eqQ, y_eqPP, if_pos, if_neg, ite_true, ite_false, not_true_eq_false, not_false_eq_true, and_true, true_and, and_false, false_and, or_true, true_or, or_false, false_or, k1, k4]
        by_cases c : y_H b (y_u (y_pq b p) 3 z) < y_H b (y_u (y_pq b p) 3 i)
        · obtain ⟨σ4, l1, l2⟩ := ih (i + 1) n i τ4 (by omega) (by omega) (by omega) k5
          simp (disch := omega) only [y_lit, y_n1, nI_add, pk_mul, j_lt, j_b1_s, j_b2_s, j_b3_s, j_b0_s, y_bo, y_bo1, y_bo0, y_i0, y_i1, Classical.not_not, nI_clamp, y_ix, y_lt, y_le, y_eq, y_nP, y_nPs, y_ltP, y_ltQ, y_ltPP, y_eqP, y_eqQ, y_eqPP, if_pos, if_neg, ite_true, ite_false, not_true_eq_false, not_false_eq_true, and_true, true_and, and_false, false_and, or_true, true_or, or_false, false_or]
          exact ⟨σ4, l1, k3.trans (k6.trans l2)⟩
        · obtain ⟨σ4, l1, l2⟩ := ih (i + 1) n z τ4 (by omega) (by omega) (by omega) k5
          simp (disch := omega) only [y_lit, y_n1, nI_add, pk_mul, j_lt, j_b1_s, j_b2_s, j_b3_s, j_b0_s, y_bo, y_bo1, y_bo0, y_i0, y_i1, Classical.not_not, nI_clamp, y_ix, y_lt, y_le, y_eq, y_nP, y_nPs, y_ltP, y_ltQ, y_ltPP, y_eqP, y_eqQ, y_eqPP, if_pos, if_neg, ite_true, ite_false, not_true_eq_false, not_false_eq_true, and_true, true_and, and_false, false_and, or_true, true_or, or_false, false_or]
          exact ⟨σ4, l1, k3.trans (k6.trans l2)⟩
    obtain ⟨σ3, c1, c2⟩ := kc 9 1 j_F 0 0 σ2 (by omega) (y_F (by omega)) (by omega) (by omega) g2
    obtain ⟨τ3, d1, d2⟩ := km 9 1 j_F 0 τ1 (by omega) (y_F (by omega)) (by omega) f2
    refine ⟨nI (y_am (fun n => y_H b (y_u (y_pq b p) 3 n)) 9 1 0), σ3, τ3, ?_, ?_, y_done hR (e3.trans ((g3.trans c2).wide (by omega) (by omega))) (f3.trans d2)⟩
    · unfold f_X11_enough; simp (disch := omega) only [y_lit, y_n1, nI_add, pk_mul, j_lt, j_b1_s, j_b2_s, j_b3_s, j_b0_s, y_bo, y_bo1, y_bo0, y_i0, y_i1, Classical.not_not, nI_clamp, y_ix, y_lt, y_le, y_eq, y_nP, y_nPs, y_ltP, y_ltQ, y_ltPP, y_eqP, y_eqQ, y_eqPP, if_pos, if_neg, ite_true, ite_false, not_true_eq_false, not_false_eq_true, and_true, true_and, and_false, false_and, or_true, true_or, or_false, false_or, e1, g1, c1]
    · unfold f_X12_enough; simp (disch := omega) only [y_lit, y_n1, nI_add, pk_mul, j_lt, j_b1_s, j_b2_s, j_b3_s, j_b0_s, y_bo, y_bo1, y_bo0, y_i0, y_i1, Classical.not_not, nI_clamp, y_ix, y_lt, y_le, y_eq, y_nP, y_nPs, y_ltP, y_ltQ, y_ltPP, y_eqP, y_eqQ, y_eqPP, if_pos, if_neg, ite_true, ite_false, not_true_eq_false, not_false_eq_true, and_true, true_and, and_false, false_and, or_true, true_or, or_false, false_or, ym_isPlayer hM hW, if_pos h, f1, d1]
  · refine ⟨-2, σ, τ, ?_, ?_, hR⟩
    · unfold f_X11_enough; rw [yc_unready hN hW h]; simp (disch := omega) only [y_lit, y_n1, nI_add, pk_mul, j_lt, j_b1_s, j_b2_s, j_b3_s, j_b0_s, y_bo, y_bo1, y_bo0, y_i0, y_i1, Classical.not_not, nI_clamp, y_ix, y_lt, y_le, y_eq, y_nP, y_nPs, y_ltP, y_ltQ, y_ltPP, y_eqP, y_eqQ, y_eqPP, if_pos, if_neg, ite_true, ite_false, not_true_eq_false, not_false_eq_true, and_true, true_and, and_false, false_and, or_true, true_or, or_false, false_or]
    · unfold f_X12_enough; simp (disch := omega) only [y_lit, y_n1, nI_add, pk_mul, j_lt, j_b1_s, j_b2_s, j_b3_s, j_b0_s, y_bo, y_bo1, y_bo0, y_i0, y_i1, Classical.not_not, nI_clamp, y_ix, y_lt, y_le, y_eq, y_nP, y_nPs, y_ltP, y_ltQ, y_ltPP, y_eqP, y_eqQ, y_eqPP, if_pos, if_neg, ite_true, ite_false, not_true_eq_false, not_false_eq_true, and_true, true_and, and_false, false_and, or_true, true_or, or_false, false_or, ym_isPlayer hM hW, h]
theorem z_slack (hR : j_Rel σ τ) (a1 : Int32) : ∃ v σ1 τ1, f_X11_slack a1 σ = some (v, σ1) ∧ f_X12_slack a1 τ = some (v, τ1) ∧ j_Rel σ1 τ1 := by
  obtain ⟨b, hW, hN, hM, hK⟩ := id hR
  by_cases h : y_rg a1 (b 6)
  · obtain ⟨p, hp, rfl⟩ := y_of _ _ h.1 h.2
    have h9 := hW.on0 (Or.inr (Or.inr (Or.inr (Or.inl (by omega : 0 < b 6)))))
    have hq := y_pqv hW hp
    obtain ⟨σ1, e1, e2, e3⟩ := yc_ready hN hW hp
    obtain ⟨τ1, f1, f2, f3⟩ := ym_laid hM hW
    obtain ⟨σ2, g1, g2, g3⟩ := yc_lagg (n := 0) e2 hW h9 hq (by omega)
    obtain ⟨τ2, w1, w2, w3⟩ := ym_lagg (n := 0) f2 hW hp (by omega)
    have hb : ∀ n, n ≤ 40 → y_H b (y_u (y_pq b p) 1 n) ≤ 120 := fun n hn => y_H_le hW (y_vq1 hq hn)
    have both : ∀ m i n z x σ' τ', i + m = 21 → m < n → z < 21 → x < 21 → y_ra σ' b (y_u (y_pq b p) 1 x) → y_ldy τ' b → ∃ v σ'' τ'', p_X11_slack_22 (nI (y_H b (y_u (y_pq b p) 1 0))) n (nI z) (nI i) σ' = some (v, σ'') ∧ y_fr 28 34 σ' σ'' ∧ p_X12_slack_27 (nI p) (nI (y_H b (y_u (y_pq b p) 1 0))) n (nI z) (nI i) τ' = some (v, τ'') ∧ y_fm 18 42 80 93 τ' τ'' := by
      intro m
      induction m with
      | zero =>
        intro i n z x σ' τ' h hn hz hx hr hl
        obtain ⟨n, rfl⟩ := y_pos hn
        refine ⟨nI z, σ', τ', ?_, y_fr.refl, ?_, y_fm.refl⟩
        · unfold p_X11_slack_22; simp (disch := omega) only [y_lit, y_n1, nI_add, pk_mul, j_lt, j_b1_s, j_b2_s, j_b3_s, j_b0_s, y_bo, y_bo1, y_bo0, y_i0, y_i1, Classical.not_not, nI_clamp, y_ix, y_lt, y_le, y_eq, y_nP, y_nPs, y_ltP, y_ltQ, y_ltPP, y_eqP, y_eqQ, y_eqPP, if_pos, if_neg, ite_true, ite_false, not_true_eq_false, not_false_eq_true, and_true, true_and, and_false, false_and, or_true, true_or, or_false, false_or]
        · unfold p_X12_slack_27; simp (disch := omega) only [y_lit, y_n1, nI_add, pk_mul, j_lt, j_b1_s, j_b2_s, j_b3_s, j_b0_s, y_bo, y_bo1, y_bo0, y_i0, y_i1, Classical.not_not, nI_clamp, y_ix, y_lt, y_le, y_eq, y_nP, y_nPs, y_ltP, y_ltQ, y_ltPP, y_eqP, y_eqQ, y_eqPP, if_pos, if_neg, ite_true, ite_false, not_true_eq_false, not_false_eq_true, and_true, true_and, and_false, false_and, or_true, true_or, or_false, false_or]
      | succ m ih =>
        intro i n z x σ' τ' h hn hz hx hr hl
        obtain ⟨n, rfl⟩ := y_pos hn
        obtain ⟨σ3, k1, k2, k3⟩ := yc_lagg (n := i) hr hW h9 (y_vq1 hq (by omega)) (by omega)
        rw [y_uu] at k1 k2
        obtain ⟨τ3, l1, l2, l3⟩ := ym_lagg (n := i) hl hW hp (by omega)
        have b1 := hb i (by omega); have b2 := hb 0 (by omega)
        unfold p_X11_slack_22 p_X12_slack_27; simp (disch := omega) only [y_lit, y_n1, nI_add, pk_mul, j_lt, j_b1_s, j_b2_s, j_b3_s, j_b0_s, y_bo, y_bo1, y_bo0, y_i0, y_i1, Classical.not_not, nI_clamp, y_ix, y_lt, y_le, y_eq, y_nP, y_nPs, y_ltP, y_ltQ, y_ltPP, y_eqP, y_eqQ, y_eqPP, if_pos, if_neg, ite_true, ite_false, not_true_eq_false, not_false_eq_true, and_true, true_and, and_false, false_and, or_true, true_or, or_false, false_or, k1, l1]
        by_cases c : y_H b (y_u (y_pq b p) 1 i) = y_H b (y_u (y_pq b p) 1 0)
        · obtain ⟨v, σ4, τ4, m1, m2, m3, m4⟩ := ih (i + 1) n i i σ3 τ3 (by omega) (by omega) (by omega) (by omega) k2 l2
          simp (disch := omega) only [y_lit, y_n1, nI_add, pk_mul, j_lt, j_b1_s, j_b2_s, j_b3_s, j_b0_s, y_bo, y_bo1, y_bo0, y_i0, y_i1, Classical.not_not, nI_clamp, y_ix, y_lt, y_le, y_eq, y_nP, y_nPs, y_ltP, y_ltQ, y_ltPP, y_eqP, y_eqQ, y_eqPP, if_pos, if_neg, ite_true, ite_false, not_true_eq_false, not_false_eq_true, and_true, true_and, and_false, false_and, or_true, true_or, or_false, false_or]
          exact ⟨v, σ4, τ4, m1, k3.trans m2, m3, l3.trans m4⟩
        · obtain ⟨v, σ4, τ4, m1, m2, m3, m4⟩ := ih (i + 1) n z i σ3 τ3 (by omega) (by omega) (by omega) (by omega) k2 l2
          simp (disch := omega) only [y_lit, y_n1, nI_add, pk_mul, j_lt, j_b1_s, j_b2_s, j_b3_s, j_b0_s, y_bo, y_bo1, y_bo0, y_i0, y_i1, Classical.not_not, nI_clamp, y_ix, y_lt, y_le, y_eq, y_nP, y_nPs, y_ltP, y_ltQ, y_ltPP, y_eqP, y_eqQ, y_eqPP, if_pos, if_neg, ite_true, ite_false, not_true_eq_false, not_false_eq_true, and_true, true_and, and_false, false_and, or_true, true_or, or_false, false_or]
          exact ⟨v, σ4, τ4, m1, k3.trans m2, m3, l3.trans m4⟩
    obtain ⟨v, σ3, τ3, c1, c2, d1, d2⟩ := both 20 1 j_F 0 0 σ2 τ2 (by omega) (y_F (by omega)) (by omega) (by omega) g2 w2
    refine ⟨v, σ3, τ3, ?_, ?_, y_done hR (e3.trans ((g3.trans c2).wide (by omega) (by omega))) (f3.trans (w3.trans d2))⟩
    · unfold f_X11_slack; simp (disch := omega) only [y_lit, y_n1, nI_add, pk_mul, j_lt, j_b1_s, j_b2_s, j_b3_s, j_b0_s, y_bo, y_bo1, y_bo0, y_i0, y_i1, Classical.not_not, nI_clamp, y_ix, y_lt, y_le, y_eq, y_nP, y_nPs, y_ltP, y_ltQ, y_ltPP, y_eqP, y_eqQ, y_eqPP, if_pos, if_neg, ite_true, ite_false, not_true_eq_false, not_false_eq_true, and_true, true_and, and_false, false_and, or_true, true_or, or_false, false_or, e1, g1, c1]
    · unfold f_X12_slack; simp (disch := omega) only [y_lit, y_n1, nI_add, pk_mul, j_lt, j_b1_s, j_b2_s, j_b3_s, j_b0_s, y_bo, y_bo1, y_bo0, y_i0, y_i1, Classical.not_not, nI_clamp, y_ix, y_lt, y_le, y_eq, y_nP, y_nPs, y_ltP, y_ltQ, y_ltPP, y_eqP, y_eqQ, y_eqPP, if_pos, if_neg, ite_true, ite_false, not_true_eq_false, not_false_eq_true, and_true, true_and, and_false, false_and, or_true, true_or, or_false, false_or, ym_isPlayer hM hW, if_pos h, f1, w1, d1]
  · refine ⟨-2, σ, τ, ?_, ?_, hR⟩
    · unfold f_X11_slack; rw [yc_unready hN hW h]; simp (disch := omega) only [y_lit, y_n1, nI_add, pk_mul, j_lt, j_b1_s, j_b2_s, j_b3_s, j_b0_s, y_bo, y_bo1, y_bo0, y_i0, y_i1, Classical.not_not, nI_clamp, y_ix, y_lt, y_le, y_eq, y_nP, y_nPs, y_ltP, y_ltQ, y_ltPP, y_eqP, y_eqQ, y_eqPP, if_pos, if_neg, ite_true, ite_false, not_true_eq_false, not_false_eq_true, and_true, true_and, and_false, false_and, or_true, true_or, or_false, false_or]
    · unfold f_X12_slack; simp (disch := omega) only [y_lit, y_n1, nI_add, pk_mul, j_lt, j_b1_s, j_b2_s, j_b3_s, j_b0_s, y_bo, y_bo1, y_bo0, y_i0, y_i1, Classical.not_not, nI_clamp, y_ix, y_lt, y_le, y_eq, y_nP, y_nPs, y_ltP, y_ltQ, y_ltPP, y_eqP, y_eqQ, y_eqPP, if_pos, if_neg, ite_true, ite_false, not_true_eq_false, not_false_eq_true, and_true, true_and, and_false, false_and, or_true, true_or, or_false, false_or, ym_isPlayer hM hW, h]
theorem z_waits (hR : j_Rel σ τ) (a1 a2 : Int32) : ∃ v σ1 τ1, f_X11_waits a1 a2 σ = some (v, σ1) ∧ f_X12_waits a1 a2 τ = some (v, τ1) ∧ j_Rel σ1 τ1 := by
  obtain ⟨b, hW, hN, hM, hK⟩ := id hR
  have h4 := hW.ho
  by_cases h : y_rg a1 (b 6)
  · by_cases h2 : y_rg a2 2
    · obtain ⟨p, hp, rfl⟩ := y_of _ _ h.1 h.2
      have h9 := hW.on0 (Or.inr (Or.inr (Or.inr (Or.inl (by omega : 0 < b 6)))))
      have ho := hW.on1 h9
      have hq := y_pqv hW hp
      obtain ⟨σ1, e1, e2, e3⟩ := yc_ready hN hW hp
      obtain ⟨τ1, f1, f2, f3⟩ := ym_laid hM hW
      have hb : ∀ n, n < y_ho b → y_H b (y_u (y_pq b p) 4 n) ≤ 120 := fun n hn => y_H_le hW (y_vq4 hq hn)
      have both : ∀ m i n n' z x σ' τ', i + m = y_ho b → m < n → m < n' → z < y_ho b → x < y_ho b → y_ra σ' b (y_u (y_pq b p) 4 x) → y_ldy τ' b → ∃ v σ'' τ'', v < y_ho b ∧ p_X11_waits_28 a2 n (nI z) (nI (y_H b (y_u (y_pq b p) 4 z))) (nI i) σ' = some (nI v, nI (y_H b (y_u (y_pq b p) 4 v)), σ'') ∧ y_fr 28 34 σ' σ'' ∧ p_X12_waits_30 (nI p) a2 n' (nI z) (nI i) τ' = some (nI v, τ'') ∧ y_ldy τ'' b ∧ y_fm 18 42 80 93 τ' τ'' := by
        intro m
        induction m with
        | zero =>
          intro i n n' z x σ' τ' h hn hn' hz hx hr hl
          obtain ⟨n, rfl⟩ := y_pos hn; obtain ⟨n', rfl⟩ := y_pos hn'
          refine ⟨z, σ', τ', hz, ?_, y_fr.refl, ?_, hl, y_fm.refl⟩
          · unfold p_X11_waits_28; simp (disch := omega) only [y_lit, y_n1, nI_add, pk_mul, j_lt, j_b1_s, j_b2_s, j_b3_s, j_b0_s, y_bo, y_bo1, y_bo0, y_i0, y_i1, Classical.not_not, nI_clamp, y_ix, y_lt, y_le, y_eq, y_nP, y_nPs, y_ltP, y_ltQ, y_ltPP, y_eqP, y_eqQ, y_eqPP, if_pos, if_neg, ite_true, ite_false, not_true_eq_false, not_false_eq_true, and_true, true_and, and_false, false_and, or_true, true_or, or_false, false_or, yc_holes hr.1]
          · unfold p_X12_waits_30; simp (disch := omega) only [y_lit, y_n1, nI_add, pk_mul, j_lt, j_b1_s, j_b2_s, j_b3_s, j_b0_s, y_bo, y_bo1, y_bo0, y_i0, y_i1, Classical.not_not, nI_clamp, y_ix, y_lt, y_le, y_eq, y_nP, y_nPs, y_ltP, y_ltQ, y_ltPP, y_eqP, y_eqQ, y_eqPP, if_pos, if_neg, ite_true, ite_false, not_true_eq_false, not_false_eq_true, and_true, true_and, and_false, false_and, or_true, true_or, or_false, false_or, ym_holes hl.1]
        | succ m ih =>
          intro i n n' z x σ' τ' h hn hn' hz hx hr hl
          obtain ⟨n, rfl⟩ := y_pos hn; obtain ⟨n', rfl⟩ := y_pos hn'
          obtain ⟨σ3, k1, k2, k3⟩ := yc_ra (hr.set (k := 4) (n := i)) hW h9 (y_vq4 (y_vq4 hq hx) (by omega))
          rw [y_uu] at k1 k2
          obtain ⟨τ3, l1, l2, l3⟩ := ym_wait (n := i) hl hW hp (by omega)
          obtain ⟨τ4, l4, l5, l6⟩ := ym_wait (n := z) l2 hW hp (by omega)
          have b1 := hb i (by omega); have b2 := hb z (by omega)
          have k3' : y_fr 28 34 σ' σ3 := (y_fr.refl.si (by omega) (by omega)).trans k3
          unfold p_X11_waits_28 p_X12_waits_30; rw [y_m1]; simp (disch := omega) only [y_lit, y_n1, nI_add, pk_mul, j_lt, j_b1_s, j_b2_s, j_b3_s, j_b0_s, y_bo, y_bo1, y_bo0, y_i0, y_i1, Classical.not_not, nI_clamp, y_ix, y_lt, y_le, y_eq, y_nP, y_nPs, y_ltP, y_ltQ, y_ltPP, y_eqP, y_eqQ, y_eqPP, if_pos, if_neg, ite_true, ite_false, not_true_eq_false, not_false_eq_true, and_true, true_and, and_false, false_and, or_true, true_or, or_false, false_or, yc_holes hr.1, ym_holes hl.1, k1, l1, l4]
          by_cases c : y_H b (y_u (y_pq b p) 4 z) < y_H b (y_u (y_pq b p) 4 i)
          · obtain ⟨v, σ4, τ5, m0, m1, m2, m3, m4, m5⟩ := ih (i + 1) n n' i i σ3 τ4 (by omega) (by omega) (by omega) (by omega) (by omega) k2 l5
            simp (disch := omega) only [y_lit, y_n1, nI_add, pk_mul, j_lt, j_b1_s, j_b2_s, j_b3_s, j_b0_s, y_bo, y_bo1, y_bo0, y_i0, y_i1, Classical.not_not, nI_clamp, y_ix, y_lt, y_le, y_eq, y_nP, y_nPs, y_ltP, y_ltQ, y_ltPP, y_eqP, y_eqQ, y_eqPP, if_pos, if_neg, ite_true, ite_false, not_true_eq_false, not_false_eq_true, and_true, true_and, and_false, false_and, or_true, true_or, or_false, false_or]
            exact ⟨v, σ4, τ5, m0, m1, k3'.trans m2, m3, m4, l3.trans (l6.trans m5)⟩
          · obtain ⟨v, σ4, τ5, m0, m1, m2, m3, m4, m5⟩ := ih (i + 1) n n' z i σ3 τ4 (by omega) (by omega) (by omega) (by omega) (by omega) k2 l5
            simp (disch := omega) only [y_lit, y_n1, nI_add, pk_mul, j_lt, j_b1_s, j_b2_s, j_b3_s, j_b0_s, y_bo, y_bo1, y_bo0, y_i0, y_i1, Classical.not_not, nI_clamp, y_ix, y_lt, y_le, y_eq, y_nP, y_nPs, y_ltP, y_ltQ, y_ltPP, y_eqP, y_eqQ, y_eqPP, if_pos, if_neg, ite_true, ite_false, not_true_eq_false, not_false_eq_true, and_true, true_and, and_false, false_and, or_true, true_or, or_false, false_or]
            exact ⟨v, σ4, τ5, m0, m1, k3'.trans m2, m3, m4, l3.trans (l6.trans m5)⟩
      obtain ⟨σ2, k1, k2, k3⟩ := yc_ra ((y_ra_of e2).set (k := 4) (n := 0)) hW h9 (y_vq4 hq (by omega))
      have k3' : y_fr 28 34 σ1 σ2 := (y_fr.refl.si (by omega) (by omega)).trans k3
      obtain ⟨v, σ3, τ3, m0, c1, c2, d1, d2, d3⟩ := both (y_ho b - 1) 1 4999 j_F 0 0 σ2 τ1 (by omega) (by omega) (y_F (by omega)) (by omega) (by omega) k2 f2
      obtain ⟨τ4, l1, l2, l3⟩ := ym_wait (n := v) d2 hW hp (by omega)
      have hr := y_done hR (e3.trans ((k3'.trans c2).wide (by omega) (by omega))) (f3.trans d3)
      have hr2 := y_done hR (e3.trans ((k3'.trans c2).wide (by omega) (by omega))) (f3.trans (d3.trans l3))
      have b0 := hb 0 (by omega)
      have w0 : p_X11_waits_28 a2 j_F (nI 0) (nP 0) (nI 0) σ1 = some (nI v, nI (y_H b (y_u (y_pq b p) 4 v)), σ3) := by
        rw [show j_F = 4999 + 1 from rfl]
        unfold p_X11_waits_28; rw [y_m1]; simp (disch := omega) only [y_lit, y_n1, nI_add, pk_mul, j_lt, j_b1_s, j_b2_s, j_b3_s, j_b0_s, y_bo, y_bo1, y_bo0, y_i0, y_i1, Classical.not_not, nI_clamp, y_ix, y_lt, y_le, y_eq, y_nP, y_nPs, y_ltP, y_ltQ, y_ltPP, y_eqP, y_eqQ, y_eqPP, if_pos, if_neg, ite_true, ite_false, not_true_eq_false, not_false_eq_true, and_true, true_and, and_false, false_and, or_true, true_or, or_false, false_or, yc_holes e2.1, k1]
        exact c1
      by_cases c : a2 = nI 0
      · subst c
        refine ⟨nI v, σ3, τ3, ?_, ?_, hr⟩
        · unfold f_X11_waits; simp (disch := omega) only [y_lit, y_n1, nI_add, pk_mul, j_lt, j_b1_s, j_b2_s, j_b3_s, j_b0_s, y_bo, y_bo1, y_bo0, y_i0, y_i1, Classical.not_not, nI_clamp, y_ix, y_lt, y_le, y_eq, y_nP, y_nPs, y_ltP, y_ltQ, y_ltPP, y_eqP, y_eqQ, y_eqPP, if_pos, if_neg, ite_true, ite_false, not_true_eq_false, not_false_eq_true, and_true, true_and, and_false, false_and, or_true, true_or, or_false, false_or, e1, w0]
        · unfold f_X12_waits; simp (disch := omega) only [y_lit, y_n1, nI_add, pk_mul, j_lt, j_b1_s, j_b2_s, j_b3_s, j_b0_s, y_bo, y_bo1, y_bo0, y_i0, y_i1, Classical.not_not, nI_clamp, y_ix, y_lt, y_le, y_eq, y_nP, y_nPs, y_ltP, y_ltQ, y_ltPP, y_eqP, y_eqQ, y_eqPP, if_pos, if_neg, ite_true, ite_false, not_true_eq_false, not_false_eq_true, and_true, true_and, and_false, false_and, or_true, true_or, or_false, false_or, ym_isPlayer hM hW, if_pos h, y_lit64, y_in, f1, d1]
      · refine ⟨nI (y_H b (y_u (y_pq b p) 4 v)), σ3, τ4, ?_, ?_, hr2⟩
        · unfold f_X11_waits; simp (disch := omega) only [y_lit, y_n1, nI_add, pk_mul, j_lt, j_b1_s, j_b2_s, j_b3_s, j_b0_s, y_bo, y_bo1, y_bo0, y_i0, y_i1, Classical.not_not, nI_clamp, y_ix, y_lt, y_le, y_eq, y_nP, y_nPs, y_ltP, y_ltQ, y_ltPP, y_eqP, y_eqQ, y_eqPP, if_pos, if_neg, ite_true, ite_false, not_true_eq_false, not_false_eq_true, and_true, true_and, and_false, false_and, or_true, true_or, or_false, false_or, y_c3, h2, e1, w0, c]
        · unfold f_X12_waits; simp (disch := omega) only [y_lit, y_n1, nI_add, pk_mul, j_lt, j_b1_s, j_b2_s, j_b3_s, j_b0_s, y_bo, y_bo1, y_bo0, y_i0, y_i1, Classical.not_not, nI_clamp, y_ix, y_lt, y_le, y_eq, y_nP, y_nPs, y_ltP, y_ltQ, y_ltPP, y_eqP, y_eqQ, y_eqPP, if_pos, if_neg, ite_true, ite_false, not_true_eq_false, not_false_eq_true, and_true, true_and, and_false, false_and, or_true, true_or, or_false, false_or, ym_isPlayer hM hW, if_pos h, y_lit64, y_in, y_c3, h2, f1, d1, c, l1]
    · refine ⟨-2, σ, τ, ?_, ?_, hR⟩
      · unfold f_X11_waits; simp (disch := omega) only [y_lit, y_n1, nI_add, pk_mul, j_lt, j_b1_s, j_b2_s, j_b3_s, j_b0_s, y_bo, y_bo1, y_bo0, y_i0, y_i1, Classical.not_not, nI_clamp, y_ix, y_lt, y_le, y_eq, y_nP, y_nPs, y_ltP, y_ltQ, y_ltPP, y_eqP, y_eqQ, y_eqPP, if_pos, if_neg, ite_true, ite_false, not_true_eq_false, not_false_eq_true, and_true, true_and, and_false, false_and, or_true, true_or, or_false, false_or, y_c3, h2]
      · unfold f_X12_waits; simp (disch := omega) only [y_lit, y_n1, nI_add, pk_mul, j_lt, j_b1_s, j_b2_s, j_b3_s, j_b0_s, y_bo, y_bo1, y_bo0, y_i0, y_i1, Classical.not_not, nI_clamp, y_ix, y_lt, y_le, y_eq, y_nP, y_nPs, y_ltP, y_ltQ, y_ltPP, y_eqP, y_eqQ, y_eqPP, if_pos, if_neg, ite_true, ite_false, not_true_eq_false, not_false_eq_true, and_true, true_and, and_false, false_and, or_true, true_or, or_false, false_or, ym_isPlayer hM hW, y_lit64, y_in, y_c3, h2]
  · refine ⟨-2, σ, τ, ?_, ?_, hR⟩
    · unfold f_X11_waits; rw [yc_unready hN hW h]; simp (disch := omega) only [y_lit, y_n1, nI_add, pk_mul, j_lt, j_b1_s, j_b2_s, j_b3_s, j_b0_s, y_bo, y_bo1, y_bo0, y_i0, y_i1, Classical.not_not, nI_clamp, y_ix, y_lt, y_le, y_eq, y_nP, y_nPs, y_ltP, y_ltQ, y_ltPP, y_eqP, y_eqQ, y_eqPP, if_pos, if_neg, ite_true, ite_false, not_true_eq_false, not_false_eq_true, and_true, true_and, and_false, false_and, or_true, true_or, or_false, false_or]
      split <;> rfl
    · unfold f_X12_waits; simp (disch := omega) only [y_lit, y_n1, nI_add, pk_mul, j_lt, j_b1_s, j_b2_s, j_b3_s, j_b0_s, y_bo, y_bo1, y_bo0, y_i0, y_i1, Classical.not_not, nI_clamp, y_ix, y_lt, y_le, y_eq, y_nP, y_nPs, y_ltP, y_ltQ, y_ltPP, y_eqP, y_eqQ, y_eqPP, if_pos, if_neg, ite_true, ite_false, not_true_eq_false, not_false_eq_true, and_true, true_and, and_false, false_and, or_true, true_or, or_false, false_or, ym_isPlayer hM hW, h]
end Z
/-! ===== missed, rash, look, line, tickets, prize ===== -/
theorem y_pop2 : ∀ h, h < 12 → ∀ o, o < 13 → o ≠ h + 1 → y_pop 12 (2 ^ h ||| (if o = 0 then 0 else 2 ^ (o - 1))) = if o = 0 then 1 else 2 := by decide
theorem y_m0 (x : Int32) : x - 1 = (nI 0 - 1) + x := by
  apply Int32.toBitVec_inj.mp
  show x.toBitVec - 1#32 = ((nI 0).toBitVec - 1#32) + x.toBitVec
  rw [show (nI 0).toBitVec = 0#32 from rfl, BitVec.zero_sub, BitVec.add_comm, BitVec.sub_eq_add_neg]
noncomputable def y_ms (g R : Nat → Nat) : Nat → Nat → Nat
  | 0, _ => 0
  | m + 1, i => if g (3 * i + 2) = 0 ∧ R (1001 + 2 * i) < (if g (3 * i + 1) = 0 then 1 else 2) then i + 1 else y_ms g R m (i + 1)
section Z
variable {σ τ : j_G}
theorem z_missed (hR : j_Rel σ τ) (a1 : Int32) : ∃ v σ1 τ1, f_X11_missed a1 σ = some (v, σ1) ∧ f_X12_missed a1 τ = some (v, τ1) ∧ j_Rel σ1 τ1 := by
  obtain ⟨b, hW, hN, hM, hK⟩ := id hR
  have h4 := hW.ho
  by_cases h : y_rg a1 (b 6)
  · obtain ⟨p, hp, rfl⟩ := y_of _ _ h.1 h.2
    have hv := y_dg_vg hW (b 8)
    obtain ⟨σ1, e1, e2, e3, e4⟩ := yc_runOf hN hW hp
    obtain ⟨τ1, f1, f2, f3, f4, f5⟩ := ym_ras hM hW hp
    have hr := y_done hR e4 f5
    have br : y_br b (y_own b p) 120 := y_run_br hW hv (y_pqv hW hp)
    have hs := hv.1
    obtain ⟨_, hc, _⟩ := id e2
    obtain ⟨_, hg⟩ := id f2
    generalize y_own b p = R at *
    generalize y_gs b = s at *
    generalize y_dg b (b 8) = g at *
    have kc : ∀ m i n, i + m = s → m < n → p_X9_firstMissed_2 σ1 n (nI i) = some (nP (y_ms g R m i)) := by
      intro m
      induction m with
      | zero =>
        intro i n h hn
        obtain ⟨n, rfl⟩ := y_pos hn
        unfold p_X9_firstMissed_2 y_ms; simp (disch := omega) only [y_lit, y_n1, nI_add, pk_mul, j_lt, j_b1_s, j_b2_s, j_b3_s, j_b0_s, y_bo, y_bo1, y_bo0, y_i0, y_i1, Classical.not_not, nI_clamp, y_ix, y_lt, y_le, y_eq, y_nP, y_nPs, y_ltP, y_ltQ, y_ltPP, y_eqP, y_eqQ, y_eqPP, if_pos, if_neg, ite_true, ite_false, not_true_eq_false, not_false_eq_true, and_true, true_and, and_false, false_and, or_true, true_or, or_false, false_or, hc.1]
      | succ m ih =>
        intro i n h hn
        obtain ⟨n, rfl⟩ := y_pos hn
        have ci := hc.2 i (by omega)
        have vi := hv.2 i (by omega)
        have ri := (e3.2.2 i (by omega)).2
        have bi := br.2.2.2.2.2.2.2 i
        have hb := y_hb_lt hW hv (show i < s by omega)
        have pp := y_pop2 (g (3 * i)) (by omega) (g (3 * i + 1)) (by omega) vi.2.2.1
        rw [show (2 ^ g (3 * i) ||| (if g (3 * i + 1) = 0 then 0 else 2 ^ (g (3 * i + 1) - 1))) = y_hb g i from rfl] at pp
        have p3 : y_pop 12 (y_hb g i) < 3 := by rw [pp]; split <;> omega
        unfold p_X9_firstMissed_2 y_ms; simp (disch := omega) only [y_lit, y_n1, nI_add, pk_mul, j_lt, j_b1_s, j_b2_s, j_b3_s, j_b0_s, y_bo, y_bo1, y_bo0, y_i0, y_i1, Classical.not_not, nI_clamp, y_ix, y_lt, y_le, y_eq, y_nP, y_nPs, y_ltP, y_ltQ, y_ltPP, y_eqP, y_eqQ, y_eqPP, if_pos, if_neg, ite_true, ite_false, not_true_eq_false, not_false_eq_true, and_true, true_and, and_false, false_and, or_true, true_or, or_false, false_or, hc.1, ci]
        rw [ih (i + 1) n (by omega) (by omega)]
        by_cases c : g (3 * i + 2) = 0
        · simp (disch := omega) only [y_lit, y_n1, nI_add, pk_mul, j_lt, j_b1_s, j_b2_s, j_b3_s, j_b0_s, y_bo, y_bo1, y_bo0, y_i0, y_i1, Classical.not_not, nI_clamp, y_ix, y_lt, y_le, y_eq, y_nP, y_nPs, y_ltP, y_ltQ, y_ltPP, y_eqP, y_eqQ, y_eqPP, if_pos, if_neg, ite_true, ite_false, not_true_eq_false, not_false_eq_true, and_true, true_and, and_false, false_and, or_true, true_or, or_false, false_or, yc_holesOf hc hv hW, y_bcn, ri]
          rw [pp]
          by_cases c2 : R (1001 + 2 * i) < (if g (3 * i + 1) = 0 then 1 else 2)
          · rw [if_pos c2, if_pos ⟨c, c2⟩, y_nPs]
          · rw [if_neg c2, if_neg (fun z => c2 z.2)]
        · rw [if_neg (fun z : g (3 * i + 2) = 0 ∧ _ => c z.1)]; simp (disch := omega) only [y_lit, y_n1, nI_add, pk_mul, j_lt, j_b1_s, j_b2_s, j_b3_s, j_b0_s, y_bo, y_bo1, y_bo0, y_i0, y_i1, Classical.not_not, nI_clamp, y_ix, y_lt, y_le, y_eq, y_nP, y_nPs, y_ltP, y_ltQ, y_ltPP, y_eqP, y_eqQ, y_eqPP, if_pos, if_neg, ite_true, ite_false, not_true_eq_false, not_false_eq_true, and_true, true_and, and_false, false_and, or_true, true_or, or_false, false_or]
    have km : ∀ m i n, i + m = s → m < n → p_X12_missed_18 τ1 n (nI i) = some (nP (y_ms g R m i), τ1) := by
      intro m
      induction m with
      | zero =>
        intro i n h hn
        obtain ⟨n, rfl⟩ := y_pos hn
        unfold p_X12_missed_18 y_ms; simp (disch := omega) only [y_lit, y_n1, nI_add, pk_mul, j_lt, j_b1_s, j_b2_s, j_b3_s, j_b0_s, y_bo, y_bo1, y_bo0, y_i0, y_i1, Classical.not_not, nI_clamp, y_ix, y_lt, y_le, y_eq, y_nP, y_nPs, y_ltP, y_ltQ, y_ltPP, y_eqP, y_eqQ, y_eqPP, if_pos, if_neg, ite_true, ite_false, not_true_eq_false, not_false_eq_true, and_true, true_and, and_false, false_and, or_true, true_or, or_false, false_or, hg.1]
      | succ m ih =>
        intro i n h hn
        obtain ⟨n, rfl⟩ := y_pos hn
        have gi := hg.2 i (by omega)
        have vi := hv.2 i (by omega)
        have ri := (f3.2.2 i (by omega)).2
        have bi := br.2.2.2.2.2.2.2 i
        unfold p_X12_missed_18 y_ms f_X12_inGame; simp (disch := omega) only [y_lit, y_n1, nI_add, pk_mul, j_lt, j_b1_s, j_b2_s, j_b3_s, j_b0_s, y_bo, y_bo1, y_bo0, y_i0, y_i1, Classical.not_not, nI_clamp, y_ix, y_lt, y_le, y_eq, y_nP, y_nPs, y_ltP, y_ltQ, y_ltPP, y_eqP, y_eqQ, y_eqPP, if_pos, if_neg, ite_true, ite_false, not_true_eq_false, not_false_eq_true, and_true, true_and, and_false, false_and, or_true, true_or, or_false, false_or, hg.1, gi]
        rw [ih (i + 1) n (by omega) (by omega)]
        by_cases c : g (3 * i + 2) = 0
        · simp (disch := omega) only [y_lit, y_n1, nI_add, pk_mul, j_lt, j_b1_s, j_b2_s, j_b3_s, j_b0_s, y_bo, y_bo1, y_bo0, y_i0, y_i1, Classical.not_not, nI_clamp, y_ix, y_lt, y_le, y_eq, y_nP, y_nPs, y_ltP, y_ltQ, y_ltPP, y_eqP, y_eqQ, y_eqPP, if_pos, if_neg, ite_true, ite_false, not_true_eq_false, not_false_eq_true, and_true, true_and, and_false, false_and, or_true, true_or, or_false, false_or, ri]
          by_cases c0 : g (3 * i + 1) = 0
          · simp (disch := omega) only [y_lit, y_n1, nI_add, pk_mul, j_lt, j_b1_s, j_b2_s, j_b3_s, j_b0_s, y_bo, y_bo1, y_bo0, y_i0, y_i1, Classical.not_not, nI_clamp, y_ix, y_lt, y_le, y_eq, y_nP, y_nPs, y_ltP, y_ltQ, y_ltPP, y_eqP, y_eqQ, y_eqPP, if_pos, if_neg, ite_true, ite_false, not_true_eq_false, not_false_eq_true, and_true, true_and, and_false, false_and, or_true, true_or, or_false, false_or]
            by_cases c2 : R (1001 + 2 * i) < 1
            · rw [if_pos c2, if_pos ⟨c, c2⟩, y_nPs]
            · rw [if_neg c2, if_neg (fun z => c2 z.2)]
          · simp (disch := omega) only [y_lit, y_n1, nI_add, pk_mul, j_lt, j_b1_s, j_b2_s, j_b3_s, j_b0_s, y_bo, y_bo1, y_bo0, y_i0, y_i1, Classical.not_not, nI_clamp, y_ix, y_lt, y_le, y_eq, y_nP, y_nPs, y_ltP, y_ltQ, y_ltPP, y_eqP, y_eqQ, y_eqPP, if_pos, if_neg, ite_true, ite_false, not_true_eq_false, not_false_eq_true, and_true, true_and, and_false, false_and, or_true, true_or, or_false, false_or]
            by_cases c2 : R (1001 + 2 * i) < 2
            · rw [if_pos c2, if_pos ⟨c, c2⟩, y_nPs]
            · rw [if_neg c2, if_neg (fun z => c2 z.2)]
        · rw [if_neg (fun z : g (3 * i + 2) = 0 ∧ _ => c z.1)]; simp (disch := omega) only [y_lit, y_n1, nI_add, pk_mul, j_lt, j_b1_s, j_b2_s, j_b3_s, j_b0_s, y_bo, y_bo1, y_bo0, y_i0, y_i1, Classical.not_not, nI_clamp, y_ix, y_lt, y_le, y_eq, y_nP, y_nPs, y_ltP, y_ltQ, y_ltPP, y_eqP, y_eqQ, y_eqPP, if_pos, if_neg, ite_true, ite_false, not_true_eq_false, not_false_eq_true, and_true, true_and, and_false, false_and, or_true, true_or, or_false, false_or]
    refine ⟨nP (y_ms g R s 0), σ1, τ1, ?_, ?_, hr⟩
    · have k := kc s 0 j_F (by omega) (y_F (by omega))
      unfold f_X11_missed f_X9_firstMissed; simp (disch := omega) only [y_lit, y_n1, nI_add, pk_mul, j_lt, j_b1_s, j_b2_s, j_b3_s, j_b0_s, y_bo, y_bo1, y_bo0, y_i0, y_i1, Classical.not_not, nI_clamp, y_ix, y_lt, y_le, y_eq, y_nP, y_nPs, y_ltP, y_ltQ, y_ltPP, y_eqP, y_eqQ, y_eqPP, if_pos, if_neg, ite_true, ite_false, not_true_eq_false, not_false_eq_true, and_true, true_and, and_false, false_and, or_true, true_or, or_false, false_or, e1, k]
    · have k := km s 0 j_F (by omega) (y_F (by omega))
      unfold f_X12_missed; simp (disch := omega) only [y_lit, y_n1, nI_add, pk_mul, j_lt, j_b1_s, j_b2_s, j_b3_s, j_b0_s, y_bo, y_bo1, y_bo0, y_i0, y_i1, Classical.not_not, nI_clamp, y_ix, y_lt, y_le, y_eq, y_nP, y_nPs, y_ltP, y_ltQ, y_ltPP, y_eqP, y_eqQ, y_eqPP, if_pos, if_neg, ite_true, ite_false, not_true_eq_false, not_false_eq_true, and_true, true_and, and_false, false_and, or_true, true_or, or_false, false_or, ym_isPlayer hM hW, if_pos h, f1, k]
  · refine ⟨-2, σ, τ, ?_, ?_, hR⟩
    · unfold f_X11_missed; rw [yc_unrun hN hW h]; simp (disch := omega) only [y_lit, y_n1, nI_add, pk_mul, j_lt, j_b1_s, j_b2_s, j_b3_s, j_b0_s, y_bo, y_bo1, y_bo0, y_i0, y_i1, Classical.not_not, nI_clamp, y_ix, y_lt, y_le, y_eq, y_nP, y_nPs, y_ltP, y_ltQ, y_ltPP, y_eqP, y_eqQ, y_eqPP, if_pos, if_neg, ite_true, ite_false, not_true_eq_false, not_false_eq_true, and_true, true_and, and_false, false_and, or_true, true_or, or_false, false_or]
    · unfold f_X12_missed; rw [ym_isPlayer hM hW, if_neg h]; simp (disch := omega) only [y_lit, y_n1, nI_add, pk_mul, j_lt, j_b1_s, j_b2_s, j_b3_s, j_b0_s, y_bo, y_bo1, y_bo0, y_i0, y_i1, Classical.not_not, nI_clamp, y_ix, y_lt, y_le, y_eq, y_nP, y_nPs, y_ltP, y_ltQ, y_ltPP, y_eqP, y_eqQ, y_eqPP, if_pos, if_neg, ite_true, ite_false, not_true_eq_false, not_false_eq_true, and_true, true_and, and_false, false_and, or_true, true_or, or_false, false_or]
theorem z_rash (hR : j_Rel σ τ) (a1 : Int32) : ∃ v σ1 τ1, f_X11_rash a1 σ = some (v, σ1) ∧ f_X12_rash a1 τ = some (v, τ1) ∧ j_Rel σ1 τ1 := by
  obtain ⟨b, hW, hN, hM, hK⟩ := id hR
  by_cases h : y_rg a1 (b 6)
  · obtain ⟨p, hp, rfl⟩ := y_of _ _ h.1 h.2
    have h9 := hW.on0 (Or.inr (Or.inr (Or.inr (Or.inl (by omega : 0 < b 6)))))
    obtain ⟨σ1, e1, ⟨e2, e3, e4⟩, e5⟩ := yc_ready hN hW hp
    obtain ⟨σ2, g1, g2⟩ := yc_rash e2 hW h9 e3 (y_dg_vg hW _) e4 (y_pqv hW hp) y_mkC
    obtain ⟨τ1, f1, f2, f3⟩ := ym_laid hM hW
    obtain ⟨τ2, k1, k2, k3⟩ := ym_rashOf f2 hW hp
    generalize hx : nI 10 * (nI (y_run b (y_dg b (b 8)) (y_pq b p) y_k1 1 (y_gs b) 0) - nI (y_run b (y_dg b (b 8)) (y_pq b p) y_k1 1 (y_gs b) 4)) - nI 20 * nI (y_run b (y_dg b (b 8)) (y_pq b p) y_k1 1 (y_gs b) 4) = x at *
    refine ⟨x, σ2, τ2, ?_, ?_, y_done hR (e5.trans (g2.wide (by omega) (by omega))) (f3.trans k3)⟩
    · unfold f_X11_rash; simp (disch := omega) only [y_lit, y_n1, nI_add, pk_mul, j_lt, j_b1_s, j_b2_s, j_b3_s, j_b0_s, y_bo, y_bo1, y_bo0, y_i0, y_i1, Classical.not_not, nI_clamp, y_ix, y_lt, y_le, y_eq, y_nP, y_nPs, y_ltP, y_ltQ, y_ltPP, y_eqP, y_eqQ, y_eqPP, if_pos, if_neg, ite_true, ite_false, not_true_eq_false, not_false_eq_true, and_true, true_and, and_false, false_and, or_true, true_or, or_false, false_or, e1, g1]
    · unfold f_X12_rash; simp (disch := omega) only [y_lit, y_n1, nI_add, pk_mul, j_lt, j_b1_s, j_b2_s, j_b3_s, j_b0_s, y_bo, y_bo1, y_bo0, y_i0, y_i1, Classical.not_not, nI_clamp, y_ix, y_lt, y_le, y_eq, y_nP, y_nPs, y_ltP, y_ltQ, y_ltPP, y_eqP, y_eqQ, y_eqPP, if_pos, if_neg, ite_true, ite_false, not_true_eq_false, not_false_eq_true, and_true, true_and, and_false, false_and, or_true, true_or, or_false, false_or, ym_isPlayer hM hW, if_pos h, f1, k1]
  · refine ⟨-2000, σ, τ, ?_, ?_, hR⟩
    · unfold f_X11_rash; rw [yc_unready hN hW h]; simp (disch := omega) only [y_lit, y_n1, nI_add, pk_mul, j_lt, j_b1_s, j_b2_s, j_b3_s, j_b0_s, y_bo, y_bo1, y_bo0, y_i0, y_i1, Classical.not_not, nI_clamp, y_ix, y_lt, y_le, y_eq, y_nP, y_nPs, y_ltP, y_ltQ, y_ltPP, y_eqP, y_eqQ, y_eqPP, if_pos, if_neg, ite_true, ite_false, not_true_eq_false, not_false_eq_true, and_true, true_and, and_false, false_and, or_true, true_or, or_false, false_or]
    · unfold f_X12_rash; rw [ym_isPlayer hM hW, if_neg h]; simp (disch := omega) only [y_lit, y_n1, nI_add, pk_mul, j_lt, j_b1_s, j_b2_s, j_b3_s, j_b0_s, y_bo, y_bo1, y_bo0, y_i0, y_i1, Classical.not_not, nI_clamp, y_ix, y_lt, y_le, y_eq, y_nP, y_nPs, y_ltP, y_ltQ, y_ltPP, y_eqP, y_eqQ, y_eqPP, if_pos, if_neg, ite_true, ite_false, not_true_eq_false, not_false_eq_true, and_true, true_and, and_false, false_and, or_true, true_or, or_false, false_or]
theorem z_look (hR : j_Rel σ τ) (a1 a2 : Int32) : ∃ v σ1 τ1, f_X11_look a1 a2 σ = some (v, σ1) ∧ f_X12_look a1 a2 τ = some (v, τ1) ∧ j_Rel σ1 τ1 := by
  obtain ⟨b, hW, hN, hM, hK⟩ := id hR
  by_cases h : y_rg a1 (b 6)
  · by_cases h2 : y_rg a2 21
    · obtain ⟨p, hp, rfl⟩ := y_of _ _ h.1 h.2
      obtain ⟨n, hn, rfl⟩ := y_of _ _ h2.1 h2.2
      have h9 := hW.on0 (Or.inr (Or.inr (Or.inr (Or.inl (by omega : 0 < b 6)))))
      have q1 : y_pq b p 1 ≤ 20 := by
        have h := hW.pl hp
        show b (96 + 5 * p + 1) ≤ 20; rw [show 96 + 5 * p + 1 = 97 + 5 * p from by omega]; omega
      obtain ⟨σ1, e1, e2, e3⟩ := yc_ready hN hW hp
      obtain ⟨τ1, f1, f2, f3⟩ := ym_laid hM hW
      obtain ⟨σ2, g1, g2, g3⟩ := yc_look (n := y_pq b p 1 + n) (y_ra_of e2) hW h9 (y_pqv hW hp) (by omega)
      obtain ⟨τ2, k1, k2, k3⟩ := ym_look (n := n) f2 hW hp (by omega)
      have et : f_X2_trait (nI p) (nI 1) σ1 = some (nI (y_pq b p 1)) := yc_trait e2.1 hW hp (by omega)
      refine ⟨nI (10 * y_H b (y_u (y_u (y_pq b p) 1 (y_pq b p 1 + n)) 3 0)), σ2, τ2, ?_, ?_, y_done hR (e3.trans (g3.wide (by omega) (by omega))) (f3.trans k3)⟩
      · unfold f_X11_look; simp (disch := omega) only [y_lit, y_n1, nI_add, pk_mul, j_lt, j_b1_s, j_b2_s, j_b3_s, j_b0_s, y_bo, y_bo1, y_bo0, y_i0, y_i1, Classical.not_not, nI_clamp, y_ix, y_lt, y_le, y_eq, y_nP, y_nPs, y_ltP, y_ltQ, y_ltPP, y_eqP, y_eqQ, y_eqPP, if_pos, if_neg, ite_true, ite_false, not_true_eq_false, not_false_eq_true, and_true, true_and, and_false, false_and, or_true, true_or, or_false, false_or, e1, et, g1]
      · unfold f_X12_look; simp (disch := omega) only [y_lit, y_n1, nI_add, pk_mul, j_lt, j_b1_s, j_b2_s, j_b3_s, j_b0_s, y_bo, y_bo1, y_bo0, y_i0, y_i1, Classical.not_not, nI_clamp, y_ix, y_lt, y_le, y_eq, y_nP, y_nPs, y_ltP, y_ltQ, y_ltPP, y_eqP, y_eqQ, y_eqPP, if_pos, if_neg, ite_true, ite_false, not_true_eq_false, not_false_eq_true, and_true, true_and, and_false, false_and, or_true, true_or, or_false, false_or, ym_isPlayer hM hW, if_pos h, y_lit64, y_in, f1, k1]
    · refine ⟨-2000, σ, τ, ?_, ?_, hR⟩
      · unfold f_X11_look; simp (disch := omega) only [y_lit, y_n1, nI_add, pk_mul, j_lt, j_b1_s, j_b2_s, j_b3_s, j_b0_s, y_bo, y_bo1, y_bo0, y_i0, y_i1, Classical.not_not, nI_clamp, y_ix, y_lt, y_le, y_eq, y_nP, y_nPs, y_ltP, y_ltQ, y_ltPP, y_eqP, y_eqQ, y_eqPP, if_pos, if_neg, ite_true, ite_false, not_true_eq_false, not_false_eq_true, and_true, true_and, and_false, false_and, or_true, true_or, or_false, false_or, y_c3, h2]
      · unfold f_X12_look; simp (disch := omega) only [y_lit, y_n1, nI_add, pk_mul, j_lt, j_b1_s, j_b2_s, j_b3_s, j_b0_s, y_bo, y_bo1, y_bo0, y_i0, y_i1, Classical.not_not, nI_clamp, y_ix, y_lt, y_le, y_eq, y_nP, y_nPs, y_ltP, y_ltQ, y_ltPP, y_eqP, y_eqQ, y_eqPP, if_pos, if_neg, ite_true, ite_false, not_true_eq_false, not_false_eq_true, and_true, true_and, and_false, false_and, or_true, true_or, or_false, false_or, ym_isPlayer hM hW, y_lit64, y_in, y_c3, h2]
  · refine ⟨-2000, σ, τ, ?_, ?_, hR⟩
    · unfold f_X11_look; rw [yc_unready hN hW h]; simp (disch := omega) only [y_lit, y_n1, nI_add, pk_mul, j_lt, j_b1_s, j_b2_s, j_b3_s, j_b0_s, y_bo, y_bo1, y_bo0, y_i0, y_i1, Classical.not_not, nI_clamp, y_ix, y_lt, y_le, y_eq, y_nP, y_nPs, y_ltP, y_ltQ, y_ltPP, y_eqP, y_eqQ, y_eqPP, if_pos, if_neg, ite_true, ite_false, not_true_eq_false, not_false_eq_true, and_true, true_and, and_false, false_and, or_true, true_or, or_false, false_or]
      split <;> rfl
    · unfold f_X12_look; simp (disch := omega) only [y_lit, y_n1, nI_add, pk_mul, j_lt, j_b1_s, j_b2_s, j_b3_s, j_b0_s, y_bo, y_bo1, y_bo0, y_i0, y_i1, Classical.not_not, nI_clamp, y_ix, y_lt, y_le, y_eq, y_nP, y_nPs, y_ltP, y_ltQ, y_ltPP, y_eqP, y_eqQ, y_eqPP, if_pos, if_neg, ite_true, ite_false, not_true_eq_false, not_false_eq_true, and_true, true_and, and_false, false_and, or_true, true_or, or_false, false_or, ym_isPlayer hM hW, h]
theorem z_line (hR : j_Rel σ τ) (a1 : Int32) : ∃ v σ1 τ1, f_X11_line a1 σ = some (v, σ1) ∧ f_X12_line a1 τ = some (v, τ1) ∧ j_Rel σ1 τ1 := by
  obtain ⟨b, hW, hN, hM, hK⟩ := id hR
  by_cases h : y_rg a1 (b 6)
  · obtain ⟨p, hp, rfl⟩ := y_of _ _ h.1 h.2
    have h9 := hW.on0 (Or.inr (Or.inr (Or.inr (Or.inl (by omega : 0 < b 6)))))
    have hq := y_pqv hW hp
    have q1 : y_pq b p 1 ≤ 20 := by
      have h := hW.pl hp
      show b (96 + 5 * p + 1) ≤ 20; rw [show 96 + 5 * p + 1 = 97 + 5 * p from by omega]; omega
    obtain ⟨σ1, e1, ⟨e2, e3, e4⟩, e5⟩ := yc_ready hN hW hp
    obtain ⟨σ2, g1, g2⟩ := yc_rash e2 hW h9 e3 (y_dg_vg hW _) e4 hq y_mkC
    obtain ⟨τ1, f1, f2, f3⟩ := ym_laid hM hW
    obtain ⟨τ2, k1, k2, k3⟩ := ym_rashOf f2 hW hp
    generalize hx : nI 10 * (nI (y_run b (y_dg b (b 8)) (y_pq b p) y_k1 1 (y_gs b) 0) - nI (y_run b (y_dg b (b 8)) (y_pq b p) y_k1 1 (y_gs b) 4)) - nI 20 * nI (y_run b (y_dg b (b 8)) (y_pq b p) y_k1 1 (y_gs b) 4) = x at *
    have hN2 := e2.fr g2 (by omega)
    have ra2 : y_ra σ2 b (y_pq b p) := ⟨hN2, e3.fr g2 (by omega), e4.fr g2 (by omega)⟩
    have et : f_X2_trait (nI p) (nI 1) σ2 = some (nI (y_pq b p 1)) := yc_trait hN2 hW hp (by omega)
    have both : ∀ m n q σ' τ', m < 22 → m < n → y_ra σ' b q → y_vq b q → (∀ j, j ≠ 1 → j ≠ 3 → q j = y_pq b p j) → y_ldy τ' b → ∃ v σ'' τ'', p_X11_line_45 x (nI (y_pq b p 1)) n (nP m) σ' = some (v, σ'') ∧ y_fr 28 34 σ' σ'' ∧ p_X12_line_24 (nI p) x n (nP m) τ' = some (v, τ'') ∧ y_fm 18 42 80 93 τ' τ'' := by
      intro m
      induction m with
      | zero =>
        intro n q σ' τ' hm hn hr hv hj hl
        obtain ⟨n, rfl⟩ := y_pos hn
        refine ⟨-1, σ', τ', ?_, y_fr.refl, ?_, y_fm.refl⟩
        · unfold p_X11_line_45; simp (disch := omega) only [y_lit, y_n1, nI_add, pk_mul, j_lt, j_b1_s, j_b2_s, j_b3_s, j_b0_s, y_bo, y_bo1, y_bo0, y_i0, y_i1, Classical.not_not, nI_clamp, y_ix, y_lt, y_le, y_eq, y_nP, y_nPs, y_ltP, y_ltQ, y_ltPP, y_eqP, y_eqQ, y_eqPP, if_pos, if_neg, ite_true, ite_false, not_true_eq_false, not_false_eq_true, and_true, true_and, and_false, false_and, or_true, true_or, or_false, false_or]
        · unfold p_X12_line_24; simp (disch := omega) only [y_lit, y_n1, nI_add, pk_mul, j_lt, j_b1_s, j_b2_s, j_b3_s, j_b0_s, y_bo, y_bo1, y_bo0, y_i0, y_i1, Classical.not_not, nI_clamp, y_ix, y_lt, y_le, y_eq, y_nP, y_nPs, y_ltP, y_ltQ, y_ltPP, y_eqP, y_eqQ, y_eqPP, if_pos, if_neg, ite_true, ite_false, not_true_eq_false, not_false_eq_true, and_true, true_and, and_false, false_and, or_true, true_or, or_false, false_or]
      | succ m ih =>
        intro n q σ' τ' hm hn hr hv hj hl
        obtain ⟨n, rfl⟩ := y_pos hn
        obtain ⟨σ3, c1, c2, c3⟩ := yc_look (n := y_pq b p 1 + m) hr hW h9 hv (by omega)
        obtain ⟨τ3, d1, d2, d3⟩ := ym_look (n := m) hl hW hp (by omega)
        have eq : y_u (y_u q 1 (y_pq b p 1 + m)) 3 0 = y_u (y_u (y_pq b p) 1 (y_pq b p 1 + m)) 3 0 := by
          funext j
          by_cases j3 : j = 3
          · subst j3; rw [y_ue, y_ue]
          · rw [y_un j3, y_un j3]
            by_cases j1 : j = 1
            · subst j1; rw [y_ue, y_ue]
            · rw [y_un j1, y_un j1, hj j j1 j3]
        rw [eq] at c1 c2
        have hv2 : y_vq b (y_u (y_u (y_pq b p) 1 (y_pq b p 1 + m)) 3 0) := y_vq3 (y_vq1 hq (by omega)) (by omega)
        obtain ⟨v, σ4, τ4, m1, m2, m3, m4⟩ := ih n _ σ3 τ3 (by omega) (by omega) c2 hv2 (fun j j1 j3 => by rw [y_un j3, y_un j1]) d2
        have hle : y_H b (y_u (y_u (y_pq b p) 1 (y_pq b p 1 + m)) 3 0) ≤ 120 := y_H_le hW hv2
        rw [y_nPs]
        unfold p_X11_line_45 p_X12_line_24
        have ep : nI m + nP 0 = nP m := by
          show nI m + (nI 0 - 1) = nI m - 1
          rw [Int32.add_comm, ← y_m0 (nI m)]
        simp (disch := omega) only [y_lit, y_n1, nI_add, pk_mul, j_lt, j_b1_s, j_b2_s, j_b3_s, j_b0_s, y_bo, y_bo1, y_bo0, y_i0, y_i1, Classical.not_not, nI_clamp, y_ix, y_lt, y_le, y_eq, y_nP, y_nPs, y_ltP, y_ltQ, y_ltPP, y_eqP, y_eqQ, y_eqPP, if_pos, if_neg, ite_true, ite_false, not_true_eq_false, not_false_eq_true, and_true, true_and, and_false, false_and, or_true, true_or, or_false, false_or, c1, d1, ep]
        generalize nI (10 * y_H b (y_u (y_u (y_pq b p) 1 (y_pq b p 1 + m)) 3 0)) = X
        by_cases c : X < x
        · rw [if_neg (fun z => z c), if_neg (fun z => z c)]
          exact ⟨v, σ4, τ4, m1, c3.trans m2, m3, d3.trans m4⟩
        · rw [if_pos c, if_pos c]
          exact ⟨nI m, σ3, τ3, rfl, c3, rfl, d3⟩
    obtain ⟨v, σ3, τ3, c1, c2, d1, d2⟩ := both 21 j_F (y_pq b p) σ2 τ2 (by omega) (y_F (by omega)) ra2 hq (fun _ _ _ => rfl) k2
    rw [show nP 21 = nI 20 from y_nPs 20] at c1 d1
    refine ⟨v, σ3, τ3, ?_, ?_, y_done hR (e5.trans ((g2.wide (by omega) (by omega)).trans (c2.wide (by omega) (by omega)))) (f3.trans (k3.trans d2))⟩
    · unfold f_X11_line; simp (disch := omega) only [y_lit, y_n1, nI_add, pk_mul, j_lt, j_b1_s, j_b2_s, j_b3_s, j_b0_s, y_bo, y_bo1, y_bo0, y_i0, y_i1, Classical.not_not, nI_clamp, y_ix, y_lt, y_le, y_eq, y_nP, y_nPs, y_ltP, y_ltQ, y_ltPP, y_eqP, y_eqQ, y_eqPP, if_pos, if_neg, ite_true, ite_false, not_true_eq_false, not_false_eq_true, and_true, true_and, and_false, false_and, or_true, true_or, or_false, false_or, e1, g1, et, c1]
    · unfold f_X12_line
      rw [ym_isPlayer hM hW, if_pos h, j_b1_s, y_lit, if_neg (show ¬ nI 1 = nI 0 from by decide), f1, j_b1_s, k1, j_b2_s, y_lit, d1]
  · refine ⟨-2, σ, τ, ?_, ?_, hR⟩
    · unfold f_X11_line; rw [yc_unready hN hW h]; simp (disch := omega) only [y_lit, y_n1, nI_add, pk_mul, j_lt, j_b1_s, j_b2_s, j_b3_s, j_b0_s, y_bo, y_bo1, y_bo0, y_i0, y_i1, Classical.not_not, nI_clamp, y_ix, y_lt, y_le, y_eq, y_nP, y_nPs, y_ltP, y_ltQ, y_ltPP, y_eqP, y_eqQ, y_eqPP, if_pos, if_neg, ite_true, ite_false, not_true_eq_false, not_false_eq_true, and_true, true_and, and_false, false_and, or_true, true_or, or_false, false_or]
    · unfold f_X12_line; rw [ym_isPlayer hM hW, if_neg h]; simp (disch := omega) only [y_lit, y_n1, nI_add, pk_mul, j_lt, j_b1_s, j_b2_s, j_b3_s, j_b0_s, y_bo, y_bo1, y_bo0, y_i0, y_i1, Classical.not_not, nI_clamp, y_ix, y_lt, y_le, y_eq, y_nP, y_nPs, y_ltP, y_ltQ, y_ltPP, y_eqP, y_eqQ, y_eqPP, if_pos, if_neg, ite_true, ite_false, not_true_eq_false, not_false_eq_true, and_true, true_and, and_false, false_and, or_true, true_or, or_false, false_or]
theorem z_tickets (hR : j_Rel σ τ) (a1 : Int32) : ∃ v σ1 τ1, f_X11_tickets a1 σ = some (v, σ1) ∧ f_X12_tickets a1 τ = some (v, τ1) ∧ j_Rel σ1 τ1 := by
  obtain ⟨b, hW, hN, hM, hK⟩ := id hR
  by_cases h : y_rg a1 (b 6)
  · obtain ⟨p, hp, rfl⟩ := y_of _ _ h.1 h.2
    have h9 := hW.on0 (Or.inr (Or.inr (Or.inr (Or.inl (by omega : 0 < b 6)))))
    have hon := hW.on h9
    obtain ⟨σ1, e1, e2, e3, e4⟩ := yc_runOf hN hW hp
    obtain ⟨τ1, f1, f2, f3, f4, f5⟩ := ym_ras hM hW hp
    have br : y_br b (y_own b p) 120 := y_run_br hW (y_dg_vg hW (b 8)) (y_pqv hW hp)
    have b0 := br.1
    refine ⟨nI (10 * y_own b p 0 / b 11), σ1, τ1, ?_, ?_, y_done hR e4 f5⟩
    · unfold f_X11_tickets f_X11_ticketsOfRun; simp (disch := omega) only [y_lit, y_n1, nI_add, pk_mul, j_lt, j_b1_s, j_b2_s, j_b3_s, j_b0_s, y_bo, y_bo1, y_bo0, y_i0, y_i1, Classical.not_not, nI_clamp, y_ix, y_lt, y_le, y_eq, y_nP, y_nPs, y_ltP, y_ltQ, y_ltPP, y_eqP, y_eqQ, y_eqPP, if_pos, if_neg, ite_true, ite_false, not_true_eq_false, not_false_eq_true, and_true, true_and, and_false, false_and, or_true, true_or, or_false, false_or, e1, e3.1.1, e2.1.f9 h9, pk_div]
    · unfold f_X12_tickets f_X12_ticketsOf; simp (disch := omega) only [y_lit, y_n1, nI_add, pk_mul, j_lt, j_b1_s, j_b2_s, j_b3_s, j_b0_s, y_bo, y_bo1, y_bo0, y_i0, y_i1, Classical.not_not, nI_clamp, y_ix, y_lt, y_le, y_eq, y_nP, y_nPs, y_ltP, y_ltQ, y_ltPP, y_eqP, y_eqQ, y_eqPP, if_pos, if_neg, ite_true, ite_false, not_true_eq_false, not_false_eq_true, and_true, true_and, and_false, false_and, or_true, true_or, or_false, false_or, ym_isPlayer hM hW, if_pos h, f1, f3.1.1, f2.1.f, pk_div]
  · refine ⟨-2, σ, τ, ?_, ?_, hR⟩
    · unfold f_X11_tickets; rw [yc_unrun hN hW h]; simp (disch := omega) only [y_lit, y_n1, nI_add, pk_mul, j_lt, j_b1_s, j_b2_s, j_b3_s, j_b0_s, y_bo, y_bo1, y_bo0, y_i0, y_i1, Classical.not_not, nI_clamp, y_ix, y_lt, y_le, y_eq, y_nP, y_nPs, y_ltP, y_ltQ, y_ltPP, y_eqP, y_eqQ, y_eqPP, if_pos, if_neg, ite_true, ite_false, not_true_eq_false, not_false_eq_true, and_true, true_and, and_false, false_and, or_true, true_or, or_false, false_or]
    · unfold f_X12_tickets; rw [ym_isPlayer hM hW, if_neg h]; simp (disch := omega) only [y_lit, y_n1, nI_add, pk_mul, j_lt, j_b1_s, j_b2_s, j_b3_s, j_b0_s, y_bo, y_bo1, y_bo0, y_i0, y_i1, Classical.not_not, nI_clamp, y_ix, y_lt, y_le, y_eq, y_nP, y_nPs, y_ltP, y_ltQ, y_ltPP, y_eqP, y_eqQ, y_eqPP, if_pos, if_neg, ite_true, ite_false, not_true_eq_false, not_false_eq_true, and_true, true_and, and_false, false_and, or_true, true_or, or_false, false_or]
theorem z_prize (hR : j_Rel σ τ) (a1 : Int32) : ∃ v σ1 τ1, f_X11_prize a1 σ = some (v, σ1) ∧ f_X12_prize a1 τ = some (v, τ1) ∧ j_Rel σ1 τ1 := by
  obtain ⟨b, hW, hN, hM, hK⟩ := id hR
  by_cases h : y_rg a1 (b 6)
  · obtain ⟨p, hp, rfl⟩ := y_of _ _ h.1 h.2
    have h9 := hW.on0 (Or.inr (Or.inr (Or.inr (Or.inl (by omega : 0 < b 6)))))
    have hon := hW.on h9
    obtain ⟨σ1, e1, e2, e3, e4⟩ := yc_runOf hN hW hp
    obtain ⟨τ1, f1, f2, f3, f4, f5⟩ := ym_ras hM hW hp
    have br : y_br b (y_own b p) 120 := y_run_br hW (y_dg_vg hW (b 8)) (y_pqv hW hp)
    have b0 := br.1
    have hr := y_done hR e4 f5
    have dl : 10 * y_own b p 0 / b 11 ≤ 10 * y_own b p 0 := Nat.div_le_self _ _
    by_cases z : 10 * y_own b p 0 / b 11 = 0
    · refine ⟨-1, σ1, τ1, ?_, ?_, hr⟩
      · unfold f_X11_prize f_X11_ticketsOfRun; simp (disch := omega) only [y_lit, y_n1, nI_add, pk_mul, j_lt, j_b1_s, j_b2_s, j_b3_s, j_b0_s, y_bo, y_bo1, y_bo0, y_i0, y_i1, Classical.not_not, nI_clamp, y_ix, y_lt, y_le, y_eq, y_nP, y_nPs, y_ltP, y_ltQ, y_ltPP, y_eqP, y_eqQ, y_eqPP, if_pos, if_neg, ite_true, ite_false, not_true_eq_false, not_false_eq_true, and_true, true_and, and_false, false_and, or_true, true_or, or_false, false_or, e1, e3.1.1, e2.1.f9 h9, pk_div, z]
      · unfold f_X12_prize f_X12_ticketsOf; simp (disch := omega) only [y_lit, y_n1, nI_add, pk_mul, j_lt, j_b1_s, j_b2_s, j_b3_s, j_b0_s, y_bo, y_bo1, y_bo0, y_i0, y_i1, Classical.not_not, nI_clamp, y_ix, y_lt, y_le, y_eq, y_nP, y_nPs, y_ltP, y_ltQ, y_ltPP, y_eqP, y_eqQ, y_eqPP, if_pos, if_neg, ite_true, ite_false, not_true_eq_false, not_false_eq_true, and_true, true_and, and_false, false_and, or_true, true_or, or_false, false_or, ym_isPlayer hM hW, if_pos h, f1, f3.1.1, f2.1.f, pk_div, z]
    · generalize hd : 10 * y_own b p 0 / b 11 = d at *
      refine ⟨nI ((b 10 + d - 1) / d), σ1, τ1, ?_, ?_, hr⟩
      · unfold f_X11_prize f_X11_ticketsOfRun; simp (disch := omega) only [y_lit, y_n1, nI_add, pk_mul, j_lt, j_b1_s, j_b2_s, j_b3_s, j_b0_s, y_bo, y_bo1, y_bo0, y_i0, y_i1, Classical.not_not, nI_clamp, y_ix, y_lt, y_le, y_eq, y_nP, y_nPs, y_ltP, y_ltQ, y_ltPP, y_eqP, y_eqQ, y_eqPP, if_pos, if_neg, ite_true, ite_false, not_true_eq_false, not_false_eq_true, and_true, true_and, and_false, false_and, or_true, true_or, or_false, false_or, e1, e3.1.1, e2.1.f9 h9, pk_div, hd, e2.1.f8 h9, pk_sub]
      · unfold f_X12_prize f_X12_ticketsOf; simp (disch := omega) only [y_lit, y_n1, nI_add, pk_mul, j_lt, j_b1_s, j_b2_s, j_b3_s, j_b0_s, y_bo, y_bo1, y_bo0, y_i0, y_i1, Classical.not_not, nI_clamp, y_ix, y_lt, y_le, y_eq, y_nP, y_nPs, y_ltP, y_ltQ, y_ltPP, y_eqP, y_eqQ, y_eqPP, if_pos, if_neg, ite_true, ite_false, not_true_eq_false, not_false_eq_true, and_true, true_and, and_false, false_and, or_true, true_or, or_false, false_or, ym_isPlayer hM hW, if_pos h, f1, f3.1.1, f2.1.f, pk_div, hd, pk_sub]
  · refine ⟨-2, σ, τ, ?_, ?_, hR⟩
    · unfold f_X11_prize; rw [yc_unrun hN hW h]; simp (disch := omega) only [y_lit, y_n1, nI_add, pk_mul, j_lt, j_b1_s, j_b2_s, j_b3_s, j_b0_s, y_bo, y_bo1, y_bo0, y_i0, y_i1, Classical.not_not, nI_clamp, y_ix, y_lt, y_le, y_eq, y_nP, y_nPs, y_ltP, y_ltQ, y_ltPP, y_eqP, y_eqQ, y_eqPP, if_pos, if_neg, ite_true, ite_false, not_true_eq_false, not_false_eq_true, and_true, true_and, and_false, false_and, or_true, true_or, or_false, false_or]
    · unfold f_X12_prize; rw [ym_isPlayer hM hW, if_neg h]; simp (disch := omega) only [y_lit, y_n1, nI_add, pk_mul, j_lt, j_b1_s, j_b2_s, j_b3_s, j_b0_s, y_bo, y_bo1, y_bo0, y_i0, y_i1, Classical.not_not, nI_clamp, y_ix, y_lt, y_le, y_eq, y_nP, y_nPs, y_ltP, y_ltQ, y_ltPP, y_eqP, y_eqQ, y_eqPP, if_pos, if_neg, ite_true, ite_false, not_true_eq_false, not_false_eq_true, and_true, true_and, and_false, false_and, or_true, true_or, or_false, false_or]
end Z
/-! ===== open holes, mean, middle ===== -/
theorem y_su_pop : ∀ m i n, y_su (fun h => n / 2 ^ h % 2) m i 0 = y_pop m (n / 2 ^ i) := by
  intro m
  induction m with
  | zero => intro i n; rfl
  | succ m ih =>
    intro i n
    rw [y_su_s, ih]
    show _ = n / 2 ^ i % 2 + y_pop m (n / 2 ^ i / 2)
    rw [Nat.div_div_eq_div_mul, ← Nat.pow_succ, Nat.add_comm]
theorem y_pop0 : ∀ m, y_pop m 0 = 0 := by
  intro m
  induction m with
  | zero => rfl
  | succ m ih => show 0 % 2 + y_pop m (0 / 2) = 0; rw [Nat.zero_div, ih]
theorem y_pop_more : ∀ a d n, n < 2 ^ a → y_pop (a + d) n = y_pop a n := by
  intro a
  induction a with
  | zero => intro d n h; obtain rfl : n = 0 := by omega
            rw [y_pop0, y_pop0]
  | succ a ih =>
    intro d n h
    rw [show a + 1 + d = a + d + 1 from by omega]
    show n % 2 + y_pop (a + d) (n / 2) = n % 2 + y_pop a (n / 2)
    rw [ih d (n / 2) (by rw [Nat.pow_succ] at h; omega)]
theorem y_su_not {f : Nat → Nat} (hf : ∀ j, f j ≤ 1) : ∀ m i, y_su f m i 0 + y_su (fun j => 1 - f j) m i 0 = m := by
  intro m
  induction m with
  | zero => intro i; rfl
  | succ m ih => intro i; rw [y_su_s, y_su_s]; have := ih (i + 1); have := hf i; omega
theorem y_su_bd {f : Nat → Nat} {c : Nat} : ∀ m i, (∀ j, i ≤ j → j < i + m → f j ≤ c) → y_su f m i 0 ≤ c * m := by
  intro m
  induction m with
  | zero => intro i _; exact Nat.zero_le _
  | succ m ih =>
    intro i h
    rw [y_su_s]
    have := ih (i + 1) (fun j h1 h2 => h j (by omega) (by omega))
    have := h i (by omega) (by omega)
    rw [Nat.mul_succ]; omega
noncomputable def y_op (b : Nat → Nat) : Nat := y_su (fun h => 1 - y_sh b h) (y_ho b) 0 0
theorem y_sh_le (b : Nat → Nat) (h : Nat) : y_sh b h ≤ 1 := by unfold y_sh; omega
theorem y_op_e {b : Nat → Nat} (hW : y_W b) : y_op b = y_ho b - y_pop 12 (b 7) ∧ y_pop 12 (b 7) ≤ y_ho b := by
  have h4 := hW.ho
  have h7 := hW.1.2.2.2.2.2.2.2.1
  have e := y_su_not (f := fun h => b 7 / 2 ^ h % 2) (fun j => by show b 7 / 2 ^ j % 2 ≤ 1; omega) (y_ho b) 0
  rw [y_su_pop, Nat.pow_zero, Nat.div_one] at e
  have m := y_pop_more (y_ho b) (12 - y_ho b) (b 7) h7
  rw [show y_ho b + (12 - y_ho b) = 12 from by omega] at m
  rw [m]
  unfold y_op
  show y_su (fun j => 1 - b 7 / 2 ^ j % 2) (y_ho b) 0 0 = _ ∧ _
  omega
theorem y_op_le {b : Nat → Nat} (hW : y_W b) : y_op b ≤ 12 := by
  have := y_op_e hW; have := hW.ho; omega
noncomputable def y_sf (b : Nat → Nat) (x : Nat) : Nat → Nat := fun h => if y_sh b h = 1 then 0 else y_ap b x h
noncomputable def y_sa (b : Nat → Nat) (x : Nat) : Nat := y_su (y_sf b x) (y_ho b) 0 0
theorem y_sa_le {b : Nat → Nat} (hW : y_W b) {x : Nat} (hx : x < 12) : y_sa b x ≤ 24 * y_ho b := by
  have h4 := hW.ho
  exact y_su_bd _ _ (fun j _ hj => by
    have := y_ap_bd (b := b) (a := x) (c := j) hx (by omega)
    unfold y_sf; split <;> omega)
section C
variable {σ τ : j_G} {b : Nat → Nat}
theorem yc_open (hN : y_N σ b) (hW : y_W b) : f_X2_openHoles σ = nI (y_op b) := by
  have h := y_op_e hW
  have h7 := hW.b7
  unfold f_X2_openHoles
  rw [yc_holes hN, hN.f6, y_bcn _ h7, pk_sub h.2, h.1]
theorem ym_open (hM : y_M τ b) (hW : y_W b) : f_X12_openHoles τ = some (nI (y_op b)) := by
  have h4 := hW.ho
  have key : ∀ m i n v, i + m = y_ho b → m < n → p_X12_openHoles_4 τ n (nI v) (nI i) = some (nI (y_su (fun h => 1 - y_sh b h) m i v)) := by
    intro m
    induction m with
    | zero =>
      intro i n v h hn
      obtain ⟨n, rfl⟩ := y_pos hn
      unfold p_X12_openHoles_4 y_su; simp (disch := omega) only [y_lit, y_n1, nI_add, pk_mul, j_lt, j_b1_s, j_b2_s, j_b3_s, j_b0_s, y_bo, y_bo1, y_bo0, y_i0, y_i1, Classical.not_not, nI_clamp, y_ix, y_lt, y_le, y_eq, y_nP, y_nPs, y_ltP, y_ltQ, y_ltPP, y_eqP, y_eqQ, y_eqPP, if_pos, if_neg, ite_true, ite_false, not_true_eq_false, not_false_eq_true, and_true, true_and, and_false, false_and, or_true, true_or, or_false, false_or, ym_holes hM]
    | succ m ih =>
      intro i n v h hn
      obtain ⟨n, rfl⟩ := y_pos hn
      have hs := y_sh_le b i
      unfold p_X12_openHoles_4 y_su; simp (disch := omega) only [y_lit, y_n1, nI_add, pk_mul, j_lt, j_b1_s, j_b2_s, j_b3_s, j_b0_s, y_bo, y_bo1, y_bo0, y_i0, y_i1, Classical.not_not, nI_clamp, y_ix, y_lt, y_le, y_eq, y_nP, y_nPs, y_ltP, y_ltQ, y_ltPP, y_eqP, y_eqQ, y_eqPP, if_pos, if_neg, ite_true, ite_false, not_true_eq_false, not_false_eq_true, and_true, true_and, and_false, false_and, or_true, true_or, or_false, false_or, ym_holes hM, ym_isShut hM hW]
      by_cases c : y_sh b i = 1
      · simp (disch := omega) only [y_lit, y_n1, nI_add, pk_mul, j_lt, j_b1_s, j_b2_s, j_b3_s, j_b0_s, y_bo, y_bo1, y_bo0, y_i0, y_i1, Classical.not_not, nI_clamp, y_ix, y_lt, y_le, y_eq, y_nP, y_nPs, y_ltP, y_ltQ, y_ltPP, y_eqP, y_eqQ, y_eqPP, if_pos, if_neg, ite_true, ite_false, not_true_eq_false, not_false_eq_true, and_true, true_and, and_false, false_and, or_true, true_or, or_false, false_or, c]
        exact ih (i + 1) n _ (by omega) (by omega)
      · have c0 : y_sh b i = 0 := by omega
        simp (disch := omega) only [y_lit, y_n1, nI_add, pk_mul, j_lt, j_b1_s, j_b2_s, j_b3_s, j_b0_s, y_bo, y_bo1, y_bo0, y_i0, y_i1, Classical.not_not, nI_clamp, y_ix, y_lt, y_le, y_eq, y_nP, y_nPs, y_ltP, y_ltQ, y_ltPP, y_eqP, y_eqQ, y_eqPP, if_pos, if_neg, ite_true, ite_false, not_true_eq_false, not_false_eq_true, and_true, true_and, and_false, false_and, or_true, true_or, or_false, false_or, c0]
        exact ih (i + 1) n _ (by omega) (by omega)
  unfold f_X12_openHoles
  rw [y_lit, key (y_ho b) 0 j_F 0 (by omega) (y_F (by omega))]
  rfl
theorem yc_toAll (hN : y_N σ b) (hW : y_W b) (h9 : 0 < b 9) {x : Nat} (hx : x < y_ho b) : f_X2_stepsToAll (nI x) σ = some (nI (y_sa b x)) := by
  have h4 := hW.ho
  have key : ∀ m i n v, i + m = y_ho b → m < n → p_X2_stepsToAll_4 (nI x) σ n (nI v) (nI i) = some (nI (y_su (y_sf b x) m i v)) := by
    intro m
    induction m with
    | zero =>
      intro i n v h hn
      obtain ⟨n, rfl⟩ := y_pos hn
      unfold p_X2_stepsToAll_4 y_su; simp (disch := omega) only [y_lit, y_n1, nI_add, pk_mul, j_lt, j_b1_s, j_b2_s, j_b3_s, j_b0_s, y_bo, y_bo1, y_bo0, y_i0, y_i1, Classical.not_not, nI_clamp, y_ix, y_lt, y_le, y_eq, y_nP, y_nPs, y_ltP, y_ltQ, y_ltPP, y_eqP, y_eqQ, y_eqPP, if_pos, if_neg, ite_true, ite_false, not_true_eq_false, not_false_eq_true, and_true, true_and, and_false, false_and, or_true, true_or, or_false, false_or, yc_holes hN]
    | succ m ih =>
      intro i n v h hn
      obtain ⟨n, rfl⟩ := y_pos hn
      have hs := y_sh_le b i
      unfold p_X2_stepsToAll_4 y_su; simp (disch := omega) only [y_lit, y_n1, nI_add, pk_mul, j_lt, j_b1_s, j_b2_s, j_b3_s, j_b0_s, y_bo, y_bo1, y_bo0, y_i0, y_i1, Classical.not_not, nI_clamp, y_ix, y_lt, y_le, y_eq, y_nP, y_nPs, y_ltP, y_ltQ, y_ltPP, y_eqP, y_eqQ, y_eqPP, if_pos, if_neg, ite_true, ite_false, not_true_eq_false, not_false_eq_true, and_true, true_and, and_false, false_and, or_true, true_or, or_false, false_or, yc_holes hN, yc_isShut hN hW]
      by_cases c : y_sh b i = 1
      · have e : y_sf b x i = 0 := if_pos c
        rw [e]; simp (disch := omega) only [y_lit, y_n1, nI_add, pk_mul, j_lt, j_b1_s, j_b2_s, j_b3_s, j_b0_s, y_bo, y_bo1, y_bo0, y_i0, y_i1, Classical.not_not, nI_clamp, y_ix, y_lt, y_le, y_eq, y_nP, y_nPs, y_ltP, y_ltQ, y_ltPP, y_eqP, y_eqQ, y_eqPP, if_pos, if_neg, ite_true, ite_false, not_true_eq_false, not_false_eq_true, and_true, true_and, and_false, false_and, or_true, true_or, or_false, false_or]
        exact ih (i + 1) n _ (by omega) (by omega)
      · have e : y_sf b x i = y_ap b x i := if_neg c
        rw [e]; simp (disch := omega) only [y_lit, y_n1, nI_add, pk_mul, j_lt, j_b1_s, j_b2_s, j_b3_s, j_b0_s, y_bo, y_bo1, y_bo0, y_i0, y_i1, Classical.not_not, nI_clamp, y_ix, y_lt, y_le, y_eq, y_nP, y_nPs, y_ltP, y_ltQ, y_ltPP, y_eqP, y_eqQ, y_eqPP, if_pos, if_neg, ite_true, ite_false, not_true_eq_false, not_false_eq_true, and_true, true_and, and_false, false_and, or_true, true_or, or_false, false_or, yc_apart hN hW h9]
        exact ih (i + 1) n _ (by omega) (by omega)
  unfold f_X2_stepsToAll
  rw [y_lit, key (y_ho b) 0 j_F 0 (by omega) (y_F (by omega))]
  rfl
theorem ym_toAll (hM : y_M τ b) (hW : y_W b) (h9 : 0 < b 9) {x : Nat} (hx : x < y_ho b) : f_X12_stepsToAll (nI x) τ = some (nI (y_sa b x)) := by
  have h4 := hW.ho
  have key : ∀ m i n v, i + m = y_ho b → m < n → p_X12_stepsToAll_4 (nI x) τ n (nI v) (nI i) = some (nI (y_su (y_sf b x) m i v)) := by
    intro m
    induction m with
    | zero =>
      intro i n v h hn
      obtain ⟨n, rfl⟩ := y_pos hn
      unfold p_X12_stepsToAll_4 y_su; simp (disch := omega) only [y_lit, y_n1, nI_add, pk_mul, j_lt, j_b1_s, j_b2_s, j_b3_s, j_b0_s, y_bo, y_bo1, y_bo0, y_i0, y_i1, Classical.not_not, nI_clamp, y_ix, y_lt, y_le, y_eq, y_nP, y_nPs, y_ltP, y_ltQ, y_ltPP, y_eqP, y_eqQ, y_eqPP, if_pos, if_neg, ite_true, ite_false, not_true_eq_false, not_false_eq_true, and_true, true_and, and_false, false_and, or_true, true_or, or_false, false_or, ym_holes hM]
    | succ m ih =>
      intro i n v h hn
      obtain ⟨n, rfl⟩ := y_pos hn
      have hs := y_sh_le b i
      unfold p_X12_stepsToAll_4 y_su; simp (disch := omega) only [y_lit, y_n1, nI_add, pk_mul, j_lt, j_b1_s, j_b2_s, j_b3_s, j_b0_s, y_bo, y_bo1, y_bo0, y_i0, y_i1, Classical.not_not, nI_clamp, y_ix, y_lt, y_le, y_eq, y_nP, y_nPs, y_ltP, y_ltQ, y_ltPP, y_eqP, y_eqQ, y_eqPP, if_pos, if_neg, ite_true, ite_false, not_true_eq_false, not_false_eq_true, and_true, true_and, and_false, false_and, or_true, true_or, or_false, false_or, ym_holes hM, ym_isShut hM hW]
      by_cases c : y_sh b i = 1
      · have e : y_sf b x i = 0 := if_pos c
        rw [e]; simp (disch := omega) only [y_lit, y_n1, nI_add, pk_mul, j_lt, j_b1_s, j_b2_s, j_b3_s, j_b0_s, y_bo, y_bo1, y_bo0, y_i0, y_i1, Classical.not_not, nI_clamp, y_ix, y_lt, y_le, y_eq, y_nP, y_nPs, y_ltP, y_ltQ, y_ltPP, y_eqP, y_eqQ, y_eqPP, if_pos, if_neg, ite_true, ite_false, not_true_eq_false, not_false_eq_true, and_true, true_and, and_false, false_and, or_true, true_or, or_false, false_or]
        exact ih (i + 1) n _ (by omega) (by omega)
      · have e : y_sf b x i = y_ap b x i := if_neg c
        rw [e]; simp (disch := omega) only [y_lit, y_n1, nI_add, pk_mul, j_lt, j_b1_s, j_b2_s, j_b3_s, j_b0_s, y_bo, y_bo1, y_bo0, y_i0, y_i1, Classical.not_not, nI_clamp, y_ix, y_lt, y_le, y_eq, y_nP, y_nPs, y_ltP, y_ltQ, y_ltPP, y_eqP, y_eqQ, y_eqPP, if_pos, if_neg, ite_true, ite_false, not_true_eq_false, not_false_eq_true, and_true, true_and, and_false, false_and, or_true, true_or, or_false, false_or, ym_stepsOf hM hW h9]
        exact ih (i + 1) n _ (by omega) (by omega)
  unfold f_X12_stepsToAll
  rw [y_lit, key (y_ho b) 0 j_F 0 (by omega) (y_F (by omega))]
  rfl
theorem ym_gcd : ∀ c n x, c < n → c < 10000 → x < 10000 → (0 < x ∨ 0 < c) → ∃ d, 0 < d ∧ d < 10000 ∧ p_X12_divisor_4 n (nI x) (nI c) = some (nI d) := by
  intro c
  induction c using Nat.strongRecOn with
  | _ c ih =>
    intro n x hn hc hx h0
    obtain ⟨n, rfl⟩ := y_pos hn
    unfold p_X12_divisor_4
    by_cases z : c = 0
    · exact ⟨x, by omega, hx, by simp (disch := omega) only [y_lit, y_n1, nI_add, pk_mul, j_lt, j_b1_s, j_b2_s, j_b3_s, j_b0_s, y_bo, y_bo1, y_bo0, y_i0, y_i1, Classical.not_not, nI_clamp, y_ix, y_lt, y_le, y_eq, y_nP, y_nPs, y_ltP, y_ltQ, y_ltPP, y_eqP, y_eqQ, y_eqPP, if_pos, if_neg, ite_true, ite_false, not_true_eq_false, not_false_eq_true, and_true, true_and, and_false, false_and, or_true, true_or, or_false, false_or]⟩
    · have hm : x % c < c := Nat.mod_lt _ (by omega)
      obtain ⟨d, d1, d2, d3⟩ := ih (x % c) hm n c (by omega) (by omega) hc (Or.inl (by omega))
      refine ⟨d, d1, d2, ?_⟩
      have hr : nI x - nI (x / c * c) = nI (x % c) := by
        rw [← pk_mul, ← pk_div (by omega) (by omega) (by omega), pk_rem (by omega) (by omega) (by omega)]
      simp (disch := omega) only [y_lit, y_n1, nI_add, pk_mul, j_lt, j_b1_s, j_b2_s, j_b3_s, j_b0_s, y_bo, y_bo1, y_bo0, y_i0, y_i1, Classical.not_not, nI_clamp, y_ix, y_lt, y_le, y_eq, y_nP, y_nPs, y_ltP, y_ltQ, y_ltPP, y_eqP, y_eqQ, y_eqPP, if_pos, if_neg, ite_true, ite_false, not_true_eq_false, not_false_eq_true, and_true, true_and, and_false, false_and, or_true, true_or, or_false, false_or, pk_div, hr]
      exact d3
end C
section Z
variable {σ τ : j_G}
/-- the two answers here are another matter -/
theorem z_mean (hR : j_Rel σ τ) (a1 a2 : Int32) : ∃ v w, f_X11_mean a1 a2 σ = some v ∧ f_X12_mean a1 a2 τ = some w := by
  obtain ⟨b, hW, hN, hM, hK⟩ := id hR
  have h4 := hW.ho
  have hop := y_op_le hW
  by_cases h : y_rg a1 (y_ho b)
  · by_cases h2 : y_rg a2 2
    · obtain ⟨x, hx, rfl⟩ := y_of _ _ h.1 h.2
      have h9 : 0 < b 9 := hW.on0 (by omega)
      have sle := y_sa_le hW (show x < 12 by omega)
      by_cases z : y_op b = 0
      · refine ⟨-1, -1, ?_, ?_⟩
        · unfold f_X11_mean; simp (disch := omega) only [y_lit, y_n1, nI_add, pk_mul, j_lt, j_b1_s, j_b2_s, j_b3_s, j_b0_s, y_bo, y_bo1, y_bo0, y_i0, y_i1, Classical.not_not, nI_clamp, y_ix, y_lt, y_le, y_eq, y_nP, y_nPs, y_ltP, y_ltQ, y_ltPP, y_eqP, y_eqQ, y_eqPP, if_pos, if_neg, ite_true, ite_false, not_true_eq_false, not_false_eq_true, and_true, true_and, and_false, false_and, or_true, true_or, or_false, false_or, yc_isHole hN hW, y_rn, y_c5, h2, yc_open hN hW, z]
        · unfold f_X12_mean; simp (disch := omega) only [y_lit, y_n1, nI_add, pk_mul, j_lt, j_b1_s, j_b2_s, j_b3_s, j_b0_s, y_bo, y_bo1, y_bo0, y_i0, y_i1, Classical.not_not, nI_clamp, y_ix, y_lt, y_le, y_eq, y_nP, y_nPs, y_ltP, y_ltQ, y_ltPP, y_eqP, y_eqQ, y_eqPP, if_pos, if_neg, ite_true, ite_false, not_true_eq_false, not_false_eq_true, and_true, true_and, and_false, false_and, or_true, true_or, or_false, false_or, ym_isHole hM hW, y_rn, y_lit64, y_in, y_c3, h2, ym_open hM hW, z]
      · obtain ⟨d, d1, d2, d3⟩ := ym_gcd (y_op b) j_F (y_sa b x) (y_F (by omega)) (by omega) (by omega) (Or.inr (by omega))
        have dv : f_X12_divisor (nI (y_sa b x)) (nI (y_op b)) = some (nI d) := by unfold f_X12_divisor; rw [d3]; rfl
        by_cases c : a2 = nI 0
        · refine ⟨nI (y_sa b x), nI (y_sa b x / d), ?_, ?_⟩
          · unfold f_X11_mean; simp (disch := omega) only [y_lit, y_n1, nI_add, pk_mul, j_lt, j_b1_s, j_b2_s, j_b3_s, j_b0_s, y_bo, y_bo1, y_bo0, y_i0, y_i1, Classical.not_not, nI_clamp, y_ix, y_lt, y_le, y_eq, y_nP, y_nPs, y_ltP, y_ltQ, y_ltPP, y_eqP, y_eqQ, y_eqPP, if_pos, if_neg, ite_true, ite_false, not_true_eq_false, not_false_eq_true, and_true, true_and, and_false, false_and, or_true, true_or, or_false, false_or, yc_isHole hN hW, y_rn, y_c5, h2, yc_open hN hW, c, yc_toAll hN hW h9]
          · unfold f_X12_mean; simp (disch := omega) only [y_lit, y_n1, nI_add, pk_mul, j_lt, j_b1_s, j_b2_s, j_b3_s, j_b0_s, y_bo, y_bo1, y_bo0, y_i0, y_i1, Classical.not_not, nI_clamp, y_ix, y_lt, y_le, y_eq, y_nP, y_nPs, y_ltP, y_ltQ, y_ltPP, y_eqP, y_eqQ, y_eqPP, if_pos, if_neg, ite_true, ite_false, not_true_eq_false, not_false_eq_true, and_true, true_and, and_false, false_and, or_true, true_or, or_false, false_or, ym_isHole hM hW, y_rn, y_lit64, y_in, y_c3, h2, ym_open hM hW, ym_toAll hM hW h9, c, dv, pk_div]
        · refine ⟨nI (y_op b), nI (y_op b / d), ?_, ?_⟩
          · unfold f_X11_mean; simp (disch := omega) only [y_lit, y_n1, nI_add, pk_mul, j_lt, j_b1_s, j_b2_s, j_b3_s, j_b0_s, y_bo, y_bo1, y_bo0, y_i0, y_i1, Classical.not_not, nI_clamp, y_ix, y_lt, y_le, y_eq, y_nP, y_nPs, y_ltP, y_ltQ, y_ltPP, y_eqP, y_eqQ, y_eqPP, if_pos, if_neg, ite_true, ite_false, not_true_eq_false, not_false_eq_true, and_true, true_and, and_false, false_and, or_true, true_or, or_false, false_or, yc_isHole hN hW, y_rn, y_c5, h2, yc_open hN hW, c]
          · unfold f_X12_mean; simp (disch := omega) only [y_lit, y_n1, nI_add, pk_mul, j_lt, j_b1_s, j_b2_s, j_b3_s, j_b0_s, y_bo, y_bo1, y_bo0, y_i0, y_i1, Classical.not_not, nI_clamp, y_ix, y_lt, y_le, y_eq, y_nP, y_nPs, y_ltP, y_ltQ, y_ltPP, y_eqP, y_eqQ, y_eqPP, if_pos, if_neg, ite_true, ite_false, not_true_eq_false, not_false_eq_true, and_true, true_and, and_false, false_and, or_true, true_or, or_false, false_or, ym_isHole hM hW, y_rn, y_lit64, y_in, y_c3, h2, ym_open hM hW, ym_toAll hM hW h9, c, dv, pk_div]
    · refine ⟨-2, -2, ?_, ?_⟩
      · unfold f_X11_mean; simp (disch := omega) only [y_lit, y_n1, nI_add, pk_mul, j_lt, j_b1_s, j_b2_s, j_b3_s, j_b0_s, y_bo, y_bo1, y_bo0, y_i0, y_i1, Classical.not_not, nI_clamp, y_ix, y_lt, y_le, y_eq, y_nP, y_nPs, y_ltP, y_ltQ, y_ltPP, y_eqP, y_eqQ, y_eqPP, if_pos, if_neg, ite_true, ite_false, not_true_eq_false, not_false_eq_true, and_true, true_and, and_false, false_and, or_true, true_or, or_false, false_or, yc_isHole hN hW, h, y_c5, h2]
      · unfold f_X12_mean; simp (disch := omega) only [y_lit, y_n1, nI_add, pk_mul, j_lt, j_b1_s, j_b2_s, j_b3_s, j_b0_s, y_bo, y_bo1, y_bo0, y_i0, y_i1, Classical.not_not, nI_clamp, y_ix, y_lt, y_le, y_eq, y_nP, y_nPs, y_ltP, y_ltQ, y_ltPP, y_eqP, y_eqQ, y_eqPP, if_pos, if_neg, ite_true, ite_false, not_true_eq_false, not_false_eq_true, and_true, true_and, and_false, false_and, or_true, true_or, or_false, false_or, ym_isHole hM hW, h, y_lit64, y_in, y_c3, h2]
  · refine ⟨-2, -2, ?_, ?_⟩
    · unfold f_X11_mean; simp (disch := omega) only [y_lit, y_n1, nI_add, pk_mul, j_lt, j_b1_s, j_b2_s, j_b3_s, j_b0_s, y_bo, y_bo1, y_bo0, y_i0, y_i1, Classical.not_not, nI_clamp, y_ix, y_lt, y_le, y_eq, y_nP, y_nPs, y_ltP, y_ltQ, y_ltPP, y_eqP, y_eqQ, y_eqPP, if_pos, if_neg, ite_true, ite_false, not_true_eq_false, not_false_eq_true, and_true, true_and, and_false, false_and, or_true, true_or, or_false, false_or, yc_isHole hN hW, h]
    · unfold f_X12_mean; simp (disch := omega) only [y_lit, y_n1, nI_add, pk_mul, j_lt, j_b1_s, j_b2_s, j_b3_s, j_b0_s, y_bo, y_bo1, y_bo0, y_i0, y_i1, Classical.not_not, nI_clamp, y_ix, y_lt, y_le, y_eq, y_nP, y_nPs, y_ltP, y_ltQ, y_ltPP, y_eqP, y_eqQ, y_eqPP, if_pos, if_neg, ite_true, ite_false, not_true_eq_false, not_false_eq_true, and_true, true_and, and_false, false_and, or_true, true_or, or_false, false_or, ym_isHole hM hW, h]
theorem z_middle (hR : j_Rel σ τ) (a1 : Int32) : ∃ v, f_X11_middle a1 σ = some v ∧ f_X12_middle a1 τ = some v := by
  obtain ⟨b, hW, hN, hM, hK⟩ := id hR
  have h4 := hW.ho
  have hop := y_op_le hW
  by_cases h9 : 0 < b 9
  · by_cases h2 : y_rg a1 2
    · have ho := hW.on1 h9
      by_cases z : y_op b = 0
      · refine ⟨-1, ?_, ?_⟩
        · unfold f_X11_middle; simp (disch := omega) only [y_lit, y_n1, nI_add, pk_mul, j_lt, j_b1_s, j_b2_s, j_b3_s, j_b0_s, y_bo, y_bo1, y_bo0, y_i0, y_i1, Classical.not_not, nI_clamp, y_ix, y_lt, y_le, y_eq, y_nP, y_nPs, y_ltP, y_ltQ, y_ltPP, y_eqP, y_eqQ, y_eqPP, if_pos, if_neg, ite_true, ite_false, not_true_eq_false, not_false_eq_true, and_true, true_and, and_false, false_and, or_true, true_or, or_false, false_or, yc_isTold hN hW, y_c5, h2, yc_open hN hW, z]
        · unfold f_X12_middle; simp (disch := omega) only [y_lit, y_n1, nI_add, pk_mul, j_lt, j_b1_s, j_b2_s, j_b3_s, j_b0_s, y_bo, y_bo1, y_bo0, y_i0, y_i1, Classical.not_not, nI_clamp, y_ix, y_lt, y_le, y_eq, y_nP, y_nPs, y_ltP, y_ltQ, y_ltPP, y_eqP, y_eqQ, y_eqPP, if_pos, if_neg, ite_true, ite_false, not_true_eq_false, not_false_eq_true, and_true, true_and, and_false, false_and, or_true, true_or, or_false, false_or, ym_isBoard hM hW, y_lit64, y_in, y_c3, h2, ym_open hM hW, z]
      · have both : ∀ m i n x, i + m = y_ho b → m < n → x < y_ho b → ∃ v, p_X11_middle_48 a1 σ n (nI x) (nI (y_sa b x)) (nI i) = some v ∧ p_X12_middle_33 a1 τ n (nI x) (nI i) = some v := by
          intro m
          induction m with
          | zero =>
            intro i n x h hn hx
            obtain ⟨n, rfl⟩ := y_pos hn
            refine ⟨nI x, ?_, ?_⟩
            · unfold p_X11_middle_48; simp (disch := omega) only [y_lit, y_n1, nI_add, pk_mul, j_lt, j_b1_s, j_b2_s, j_b3_s, j_b0_s, y_bo, y_bo1, y_bo0, y_i0, y_i1, Classical.not_not, nI_clamp, y_ix, y_lt, y_le, y_eq, y_nP, y_nPs, y_ltP, y_ltQ, y_ltPP, y_eqP, y_eqQ, y_eqPP, if_pos, if_neg, ite_true, ite_false, not_true_eq_false, not_false_eq_true, and_true, true_and, and_false, false_and, or_true, true_or, or_false, false_or, yc_holes hN]
            · unfold p_X12_middle_33; simp (disch := omega) only [y_lit, y_n1, nI_add, pk_mul, j_lt, j_b1_s, j_b2_s, j_b3_s, j_b0_s, y_bo, y_bo1, y_bo0, y_i0, y_i1, Classical.not_not, nI_clamp, y_ix, y_lt, y_le, y_eq, y_nP, y_nPs, y_ltP, y_ltQ, y_ltPP, y_eqP, y_eqQ, y_eqPP, if_pos, if_neg, ite_true, ite_false, not_true_eq_false, not_false_eq_true, and_true, true_and, and_false, false_and, or_true, true_or, or_false, false_or, ym_holes hM]
          | succ m ih =>
            intro i n x h hn hx
            obtain ⟨n, rfl⟩ := y_pos hn
            have s1 := y_sa_le hW (show i < 12 by omega)
            have s2 := y_sa_le hW (show x < 12 by omega)
            obtain ⟨v, v1, v2⟩ := ih (i + 1) n x (by omega) (by omega) hx
            obtain ⟨w, w1, w2⟩ := ih (i + 1) n i (by omega) (by omega) (by omega)
            unfold p_X11_middle_48 p_X12_middle_33
            simp (disch := omega) only [y_lit, y_n1, nI_add, pk_mul, j_lt, j_b1_s, j_b2_s, j_b3_s, j_b0_s, y_bo, y_bo1, y_bo0, y_i0, y_i1, Classical.not_not, nI_clamp, y_ix, y_lt, y_le, y_eq, y_nP, y_nPs, y_ltP, y_ltQ, y_ltPP, y_eqP, y_eqQ, y_eqPP, if_pos, if_neg, ite_true, ite_false, not_true_eq_false, not_false_eq_true, and_true, true_and, and_false, false_and, or_true, true_or, or_false, false_or, yc_holes hN, ym_holes hM, yc_toAll hN hW h9, ym_toAll hM hW h9]
            by_cases c : a1 = nI 0
            · rw [if_pos c, if_pos c]
              by_cases q : y_sa b i < y_sa b x
              · simp (disch := omega) only [y_lit, y_n1, nI_add, pk_mul, j_lt, j_b1_s, j_b2_s, j_b3_s, j_b0_s, y_bo, y_bo1, y_bo0, y_i0, y_i1, Classical.not_not, nI_clamp, y_ix, y_lt, y_le, y_eq, y_nP, y_nPs, y_ltP, y_ltQ, y_ltPP, y_eqP, y_eqQ, y_eqPP, if_pos, if_neg, ite_true, ite_false, not_true_eq_false, not_false_eq_true, and_true, true_and, and_false, false_and, or_true, true_or, or_false, false_or]; exact ⟨w, w1, w2⟩
              · simp (disch := omega) only [y_lit, y_n1, nI_add, pk_mul, j_lt, j_b1_s, j_b2_s, j_b3_s, j_b0_s, y_bo, y_bo1, y_bo0, y_i0, y_i1, Classical.not_not, nI_clamp, y_ix, y_lt, y_le, y_eq, y_nP, y_nPs, y_ltP, y_ltQ, y_ltPP, y_eqP, y_eqQ, y_eqPP, if_pos, if_neg, ite_true, ite_false, not_true_eq_false, not_false_eq_true, and_true, true_and, and_false, false_and, or_true, true_or, or_false, false_or]; exact ⟨v, v1, v2⟩
            · rw [if_neg c, if_neg c]
              by_cases q : y_sa b x < y_sa b i
              · simp (disch := omega) only [y_lit, y_n1, nI_add, pk_mul, j_lt, j_b1_s, j_b2_s, j_b3_s, j_b0_s, y_bo, y_bo1, y_bo0, y_i0, y_i1, Classical.not_not, nI_clamp, y_ix, y_lt, y_le, y_eq, y_nP, y_nPs, y_ltP, y_ltQ, y_ltPP, y_eqP, y_eqQ, y_eqPP, if_pos, if_neg, ite_true, ite_false, not_true_eq_false, not_false_eq_true, and_true, true_and, and_false, false_and, or_true, true_or, or_false, false_or]; exact ⟨w, w1, w2⟩
              · simp (disch := omega) only [y_lit, y_n1, nI_add, pk_mul, j_lt, j_b1_s, j_b2_s, j_b3_s, j_b0_s, y_bo, y_bo1, y_bo0, y_i0, y_i1, Classical.not_not, nI_clamp, y_ix, y_lt, y_le, y_eq, y_nP, y_nPs, y_ltP, y_ltQ, y_ltPP, y_eqP, y_eqQ, y_eqPP, if_pos, if_neg, ite_true, ite_false, not_true_eq_false, not_false_eq_true, and_true, true_and, and_false, false_and, or_true, true_or, or_false, false_or]; exact ⟨v, v1, v2⟩
        obtain ⟨v, v1, v2⟩ := both (y_ho b - 1) 1 j_F 0 (by omega) (y_F (by omega)) ho
        refine ⟨v, ?_, ?_⟩
        · unfold f_X11_middle; simp (disch := omega) only [y_lit, y_n1, nI_add, pk_mul, j_lt, j_b1_s, j_b2_s, j_b3_s, j_b0_s, y_bo, y_bo1, y_bo0, y_i0, y_i1, Classical.not_not, nI_clamp, y_ix, y_lt, y_le, y_eq, y_nP, y_nPs, y_ltP, y_ltQ, y_ltPP, y_eqP, y_eqQ, y_eqPP, if_pos, if_neg, ite_true, ite_false, not_true_eq_false, not_false_eq_true, and_true, true_and, and_false, false_and, or_true, true_or, or_false, false_or, yc_isTold hN hW, y_c5, h2, yc_open hN hW, z, yc_toAll hN hW h9, v1]
        · unfold f_X12_middle; simp (disch := omega) only [y_lit, y_n1, nI_add, pk_mul, j_lt, j_b1_s, j_b2_s, j_b3_s, j_b0_s, y_bo, y_bo1, y_bo0, y_i0, y_i1, Classical.not_not, nI_clamp, y_ix, y_lt, y_le, y_eq, y_nP, y_nPs, y_ltP, y_ltQ, y_ltPP, y_eqP, y_eqQ, y_eqPP, if_pos, if_neg, ite_true, ite_false, not_true_eq_false, not_false_eq_true, and_true, true_and, and_false, false_and, or_true, true_or, or_false, false_or, ym_isBoard hM hW, y_lit64, y_in, y_c3, h2, ym_open hM hW, z, v2]
    · refine ⟨-2, ?_, ?_⟩
      · unfold f_X11_middle; simp (disch := omega) only [y_lit, y_n1, nI_add, pk_mul, j_lt, j_b1_s, j_b2_s, j_b3_s, j_b0_s, y_bo, y_bo1, y_bo0, y_i0, y_i1, Classical.not_not, nI_clamp, y_ix, y_lt, y_le, y_eq, y_nP, y_nPs, y_ltP, y_ltQ, y_ltPP, y_eqP, y_eqQ, y_eqPP, if_pos, if_neg, ite_true, ite_false, not_true_eq_false, not_false_eq_true, and_true, true_and, and_false, false_and, or_true, true_or, or_false, false_or, yc_isTold hN hW, y_c5, h2]
      · unfold f_X12_middle; simp (disch := omega) only [y_lit, y_n1, nI_add, pk_mul, j_lt, j_b1_s, j_b2_s, j_b3_s, j_b0_s, y_bo, y_bo1, y_bo0, y_i0, y_i1, Classical.not_not, nI_clamp, y_ix, y_lt, y_le, y_eq, y_nP, y_nPs, y_ltP, y_ltQ, y_ltPP, y_eqP, y_eqQ, y_eqPP, if_pos, if_neg, ite_true, ite_false, not_true_eq_false, not_false_eq_true, and_true, true_and, and_false, false_and, or_true, true_or, or_false, false_or, ym_isBoard hM hW, y_lit64, y_in, y_c3, h2]
  · refine ⟨-2, ?_, ?_⟩
    · unfold f_X11_middle; simp (disch := omega) only [y_lit, y_n1, nI_add, pk_mul, j_lt, j_b1_s, j_b2_s, j_b3_s, j_b0_s, y_bo, y_bo1, y_bo0, y_i0, y_i1, Classical.not_not, nI_clamp, y_ix, y_lt, y_le, y_eq, y_nP, y_nPs, y_ltP, y_ltQ, y_ltPP, y_eqP, y_eqQ, y_eqPP, if_pos, if_neg, ite_true, ite_false, not_true_eq_false, not_false_eq_true, and_true, true_and, and_false, false_and, or_true, true_or, or_false, false_or, yc_isTold hN hW]
    · unfold f_X12_middle; simp (disch := omega) only [y_lit, y_n1, nI_add, pk_mul, j_lt, j_b1_s, j_b2_s, j_b3_s, j_b0_s, y_bo, y_bo1, y_bo0, y_i0, y_i1, Classical.not_not, nI_clamp, y_ix, y_lt, y_le, y_eq, y_nP, y_nPs, y_ltP, y_ltQ, y_ltPP, y_eqP, y_eqQ, y_eqPP, if_pos, if_neg, ite_true, ite_false, not_true_eq_false, not_false_eq_true, and_true, true_and, and_false, false_and, or_true, true_or, or_false, false_or, ym_isBoard hM hW]
end Z
/-! ===== reach, post, often, balance ===== -/
noncomputable def y_rcl (b q : Nat → Nat) (x : Nat) : Nat → Nat → Nat → Nat
  | 0, _, v => v
  | m + 1, h, v => y_rcl b q x m (h + 1) (if y_sh b h = 0 ∧ y_th b q x h (q 1) < y_stay b 0 then v ||| 2 ^ h else v)
noncomputable def y_rch (b q : Nat → Nat) (x : Nat) : Nat := y_rcl b q x (y_ho b) 0 0
theorem y_rcl_lt {b q : Nat → Nat} {x : Nat} : ∀ m h v, h + m ≤ 12 → v < 4096 → y_rcl b q x m h v < 4096 := by
  intro m
  induction m with
  | zero => intro h v _ hv; exact hv
  | succ m ih =>
    intro h v hh hv
    unfold y_rcl
    refine ih (h + 1) _ (by omega) ?_
    split
    · exact Nat.or_lt_two_pow (n := 12) hv (Nat.pow_lt_pow_right (by omega) (by omega))
    · exact hv
theorem y_ap_comm {b : Nat → Nat} {a c : Nat} : y_ap b a c = y_ap b c a := by unfold y_ap y_df; omega
section C
variable {σ τ : j_G} {b q : Nat → Nat}
theorem y_rch_lt (hW : y_W b) {x : Nat} : y_rch b q x < 4096 := by
  have := hW.ho
  exact y_rcl_lt _ _ _ (by omega) (by omega)
theorem yc_reach (hN : y_N σ b) (hW : y_W b) (h9 : 0 < b 9) (hp : y_cp σ 28 q) (hq : y_vq b q) {x : Nat} (hx : x < y_ho b) : f_X6_reachFrom (nI x) σ = some (nI (y_rch b q x)) := by
  have h4 := hW.ho
  have e1 := hp 1 (by omega)
  have q1 := hq.2.1
  have st := y_stay_bd hW 0
  have key : ∀ m i n v, i + m = y_ho b → m < n → p_X6_reachFrom_5 (nI x) σ n (nI v) (nI i) = some (nI (y_rcl b q x m i v)) := by
    intro m
    induction m with
    | zero =>
      intro i n v h hn
      obtain ⟨n, rfl⟩ := y_pos hn
      unfold p_X6_reachFrom_5 y_rcl; simp (disch := omega) only [y_lit, y_n1, nI_add, pk_mul, j_lt, j_b1_s, j_b2_s, j_b3_s, j_b0_s, y_bo, y_bo1, y_bo0, y_i0, y_i1, Classical.not_not, nI_clamp, y_ix, y_lt, y_le, y_eq, y_nP, y_nPs, y_ltP, y_ltQ, y_ltPP, y_eqP, y_eqQ, y_eqPP, if_pos, if_neg, ite_true, ite_false, not_true_eq_false, not_false_eq_true, and_true, true_and, and_false, false_and, or_true, true_or, or_false, false_or, yc_holes hN]
    | succ m ih =>
      intro i n v h hn
      obtain ⟨n, rfl⟩ := y_pos hn
      have hs := y_sh_le b i
      have th := y_th_bd hq (a := x) (c := i) (t := q 1) (by omega) (by omega) (by omega)
      unfold p_X6_reachFrom_5 y_rcl; simp (disch := omega) only [y_lit, y_n1, nI_add, pk_mul, j_lt, j_b1_s, j_b2_s, j_b3_s, j_b0_s, y_bo, y_bo1, y_bo0, y_i0, y_i1, Classical.not_not, nI_clamp, y_ix, y_lt, y_le, y_eq, y_nP, y_nPs, y_ltP, y_ltQ, y_ltPP, y_eqP, y_eqQ, y_eqPP, if_pos, if_neg, ite_true, ite_false, not_true_eq_false, not_false_eq_true, and_true, true_and, and_false, false_and, or_true, true_or, or_false, false_or, yc_holes hN, yc_isShut hN hW, e1]
      by_cases c : y_sh b i = 0
      · have c1 : ¬ y_sh b i = 1 := by omega
        simp (disch := omega) only [y_lit, y_n1, nI_add, pk_mul, j_lt, j_b1_s, j_b2_s, j_b3_s, j_b0_s, y_bo, y_bo1, y_bo0, y_i0, y_i1, Classical.not_not, nI_clamp, y_ix, y_lt, y_le, y_eq, y_nP, y_nPs, y_ltP, y_ltQ, y_ltPP, y_eqP, y_eqQ, y_eqPP, if_pos, if_neg, ite_true, ite_false, not_true_eq_false, not_false_eq_true, and_true, true_and, and_false, false_and, or_true, true_or, or_false, false_or, yc_there hN hW h9 hp hq, yc_stay hN hW, y_shl, y_or]
        by_cases d : y_th b q x i (q 1) < y_stay b 0
        · rw [if_pos d, if_pos ⟨c, d⟩]
          exact ih (i + 1) n _ (by omega) (by omega)
        · rw [if_neg d, if_neg (fun z => d z.2)]
          exact ih (i + 1) n _ (by omega) (by omega)
      · have c1 : y_sh b i = 1 := by omega
        rw [if_neg (fun z : y_sh b i = 0 ∧ _ => c z.1)]
        simp (disch := omega) only [y_lit, y_n1, nI_add, pk_mul, j_lt, j_b1_s, j_b2_s, j_b3_s, j_b0_s, y_bo, y_bo1, y_bo0, y_i0, y_i1, Classical.not_not, nI_clamp, y_ix, y_lt, y_le, y_eq, y_nP, y_nPs, y_ltP, y_ltQ, y_ltPP, y_eqP, y_eqQ, y_eqPP, if_pos, if_neg, ite_true, ite_false, not_true_eq_false, not_false_eq_true, and_true, true_and, and_false, false_and, or_true, true_or, or_false, false_or]
        exact ih (i + 1) n _ (by omega) (by omega)
  unfold f_X6_reachFrom
  rw [y_lit, key (y_ho b) 0 j_F 0 (by omega) (y_F (by omega))]
  rfl
theorem ym_reach (hM : y_M τ b) (hW : y_W b) (h9 : 0 < b 9) {p x : Nat} (hp : p < b 6) (hx : x < y_ho b) : f_X12_reachOf (nI p) (nI x) τ = some (nI (y_rch b (y_pq b p) x)) := by
  have h4 := hW.ho
  have h6 := hW.b6
  have hq := y_pqv hW hp
  have q1 := hq.2.1
  have st := y_stay_bd hW 0
  have e1 : f_X12_of (nI p) (nI 1) τ = some (nI (y_pq b p 1)) := ym_of hM (by omega) (by omega)
  have key : ∀ m i n v, i + m = y_ho b → m < n → p_X12_reachOf_14 (nI p) (nI x) (nI (y_stay b 0 - 1)) τ n (nI v) (nI i) = some (nI (y_rcl b (y_pq b p) x m i v)) := by
    intro m
    induction m with
    | zero =>
      intro i n v h hn
      obtain ⟨n, rfl⟩ := y_pos hn
      unfold p_X12_reachOf_14 y_rcl; simp (disch := omega) only [y_lit, y_n1, nI_add, pk_mul, j_lt, j_b1_s, j_b2_s, j_b3_s, j_b0_s, y_bo, y_bo1, y_bo0, y_i0, y_i1, Classical.not_not, nI_clamp, y_ix, y_lt, y_le, y_eq, y_nP, y_nPs, y_ltP, y_ltQ, y_ltPP, y_eqP, y_eqQ, y_eqPP, if_pos, if_neg, ite_true, ite_false, not_true_eq_false, not_false_eq_true, and_true, true_and, and_false, false_and, or_true, true_or, or_false, false_or, ym_holes hM]
    | succ m ih =>
      intro i n v h hn
      obtain ⟨n, rfl⟩ := y_pos hn
      have hs := y_sh_le b i
      have th := y_th_bd hq (a := x) (c := i) (t := y_pq b p 1) (by omega) (by omega) (by omega)
      have ep := ym_pace (q := y_pq b p) hM hW hp rfl (by show b (98 + 5 * p) = b (96 + 5 * p + 2); congr 1; omega) hq (t := y_pq b p 1) (by omega)
      unfold p_X12_reachOf_14 y_rcl; simp (disch := omega) only [y_lit, y_n1, nI_add, pk_mul, j_lt, j_b1_s, j_b2_s, j_b3_s, j_b0_s, y_bo, y_bo1, y_bo0, y_i0, y_i1, Classical.not_not, nI_clamp, y_ix, y_lt, y_le, y_eq, y_nP, y_nPs, y_ltP, y_ltQ, y_ltPP, y_eqP, y_eqQ, y_eqPP, if_pos, if_neg, ite_true, ite_false, not_true_eq_false, not_false_eq_true, and_true, true_and, and_false, false_and, or_true, true_or, or_false, false_or, ym_holes hM, ym_isShut hM hW]
      by_cases c : y_sh b i = 0
      · have c1 : ¬ y_sh b i = 1 := by omega
        simp (disch := omega) only [y_lit, y_n1, nI_add, pk_mul, j_lt, j_b1_s, j_b2_s, j_b3_s, j_b0_s, y_bo, y_bo1, y_bo0, y_i0, y_i1, Classical.not_not, nI_clamp, y_ix, y_lt, y_le, y_eq, y_nP, y_nPs, y_ltP, y_ltQ, y_ltPP, y_eqP, y_eqQ, y_eqPP, if_pos, if_neg, ite_true, ite_false, not_true_eq_false, not_false_eq_true, and_true, true_and, and_false, false_and, or_true, true_or, or_false, false_or, e1, ym_stepsOf hM hW h9, ep, y_shl, y_or]
        rw [show y_pq b p 1 + y_ap b x i * y_pc (y_pq b p) (y_pq b p 1) = y_th b (y_pq b p) x i (y_pq b p 1) from rfl]
        by_cases d : y_th b (y_pq b p) x i (y_pq b p 1) < y_stay b 0
        · rw [if_pos (show y_sh b i = 0 ∧ y_th b (y_pq b p) x i (y_pq b p 1) < y_stay b 0 from ⟨c, d⟩)]
          simp (disch := omega) only [y_lit, y_n1, nI_add, pk_mul, j_lt, j_b1_s, j_b2_s, j_b3_s, j_b0_s, y_bo, y_bo1, y_bo0, y_i0, y_i1, Classical.not_not, nI_clamp, y_ix, y_lt, y_le, y_eq, y_nP, y_nPs, y_ltP, y_ltQ, y_ltPP, y_eqP, y_eqQ, y_eqPP, if_pos, if_neg, ite_true, ite_false, not_true_eq_false, not_false_eq_true, and_true, true_and, and_false, false_and, or_true, true_or, or_false, false_or]
          exact ih (i + 1) n _ (by omega) (by omega)
        · rw [if_neg (fun z : y_sh b i = 0 ∧ _ => d z.2)]
          simp (disch := omega) only [y_lit, y_n1, nI_add, pk_mul, j_lt, j_b1_s, j_b2_s, j_b3_s, j_b0_s, y_bo, y_bo1, y_bo0, y_i0, y_i1, Classical.not_not, nI_clamp, y_ix, y_lt, y_le, y_eq, y_nP, y_nPs, y_ltP, y_ltQ, y_ltPP, y_eqP, y_eqQ, y_eqPP, if_pos, if_neg, ite_true, ite_false, not_true_eq_false, not_false_eq_true, and_true, true_and, and_false, false_and, or_true, true_or, or_false, false_or]
          exact ih (i + 1) n _ (by omega) (by omega)
      · have c1 : y_sh b i = 1 := by omega
        rw [if_neg (fun z : y_sh b i = 0 ∧ _ => c z.1)]
        simp (disch := omega) only [y_lit, y_n1, nI_add, pk_mul, j_lt, j_b1_s, j_b2_s, j_b3_s, j_b0_s, y_bo, y_bo1, y_bo0, y_i0, y_i1, Classical.not_not, nI_clamp, y_ix, y_lt, y_le, y_eq, y_nP, y_nPs, y_ltP, y_ltQ, y_ltPP, y_eqP, y_eqQ, y_eqPP, if_pos, if_neg, ite_true, ite_false, not_true_eq_false, not_false_eq_true, and_true, true_and, and_false, false_and, or_true, true_or, or_false, false_or]
        exact ih (i + 1) n _ (by omega) (by omega)
  unfold f_X12_reachOf
  simp (disch := omega) only [y_lit, y_n1, nI_add, pk_mul, j_lt, j_b1_s, j_b2_s, j_b3_s, j_b0_s, y_bo, y_bo1, y_bo0, y_i0, y_i1, Classical.not_not, nI_clamp, y_ix, y_lt, y_le, y_eq, y_nP, y_nPs, y_ltP, y_ltQ, y_ltPP, y_eqP, y_eqQ, y_eqPP, if_pos, if_neg, ite_true, ite_false, not_true_eq_false, not_false_eq_true, and_true, true_and, and_false, false_and, or_true, true_or, or_false, false_or, ym_stay hM hW, pk_sub]
  rw [key (y_ho b) 0 j_F 0 (by omega) (y_F (by omega))]
  rfl
theorem ym_bits {x : Nat} (hx : x < 4096) : f_X12_bits (nI x) = some (nI (y_pop 12 x)) := by
  have key : ∀ m i n v, i + m = 12 → m < n → p_X12_bits_4 (nI x) n (nI v) (nI i) = some (nI (y_su (fun h => x / 2 ^ h % 2) m i v)) := by
    intro m
    induction m with
    | zero =>
      intro i n v h hn
      obtain ⟨n, rfl⟩ := y_pos hn
      unfold p_X12_bits_4 y_su; simp (disch := omega) only [y_lit, y_n1, nI_add, pk_mul, j_lt, j_b1_s, j_b2_s, j_b3_s, j_b0_s, y_bo, y_bo1, y_bo0, y_i0, y_i1, Classical.not_not, nI_clamp, y_ix, y_lt, y_le, y_eq, y_nP, y_nPs, y_ltP, y_ltQ, y_ltPP, y_eqP, y_eqQ, y_eqPP, if_pos, if_neg, ite_true, ite_false, not_true_eq_false, not_false_eq_true, and_true, true_and, and_false, false_and, or_true, true_or, or_false, false_or]
    | succ m ih =>
      intro i n v h hn
      obtain ⟨n, rfl⟩ := y_pos hn
      unfold p_X12_bits_4 y_su; simp (disch := omega) only [y_lit, y_n1, nI_add, pk_mul, j_lt, j_b1_s, j_b2_s, j_b3_s, j_b0_s, y_bo, y_bo1, y_bo0, y_i0, y_i1, Classical.not_not, nI_clamp, y_ix, y_lt, y_le, y_eq, y_nP, y_nPs, y_ltP, y_ltQ, y_ltPP, y_eqP, y_eqQ, y_eqPP, if_pos, if_neg, ite_true, ite_false, not_true_eq_false, not_false_eq_true, and_true, true_and, and_false, false_and, or_true, true_or, or_false, false_or, y_bit]
      exact ih (i + 1) n _ (by omega) (by omega)
  unfold f_X12_bits
  rw [y_lit, key 12 0 j_F 0 (by omega) (y_F (by omega)), y_su_pop, Nat.pow_zero, Nat.div_one]
  rfl
theorem y_pop_le : ∀ m n, y_pop m n ≤ m := by
  intro m
  induction m with
  | zero => intro n; exact Nat.le_refl _
  | succ m ih => intro n; have := ih (n / 2); show n % 2 + y_pop m (n / 2) ≤ m + 1; omega
/-- how often a hole comes -/
noncomputable def y_of1 (b : Nat → Nat) (h : Nat) : Nat → Nat := fun k => if b (24 + 3 * k) = h ∨ b (25 + 3 * k) = h + 1 then 1 else 0
noncomputable def y_oft (b : Nat → Nat) (h : Nat) : Nat := y_su (y_of1 b h) (b 5) 0 0
theorem y_oft_le (b : Nat → Nat) (h : Nat) : y_oft b h ≤ b 5 := by
  have := y_su_bd (f := y_of1 b h) (c := 1) (b 5) 0 (fun j _ _ => by unfold y_of1; split <;> omega)
  unfold y_oft; omega
theorem yc_oft (hN : y_N σ b) (hW : y_W b) {x : Nat} (hx : x < 100) : f_X3_oftenAt 5 6 7 (nI x) σ = some (nI (y_oft b x)) := by
  have h5 := hW.b5
  have h4 := hW.ho
  have key : ∀ m i n v, i + m = b 5 → m < n → p_X3_oftenAt_4 5 6 7 (nI x) σ n (nI v) (nI i) = some (nI (y_su (y_of1 b x) m i v)) := by
    intro m
    induction m with
    | zero =>
      intro i n v h hn
      obtain ⟨n, rfl⟩ := y_pos hn
      unfold p_X3_oftenAt_4 y_su; simp (disch := omega) only [y_lit, y_n1, nI_add, pk_mul, j_lt, j_b1_s, j_b2_s, j_b3_s, j_b0_s, y_bo, y_bo1, y_bo0, y_i0, y_i1, Classical.not_not, nI_clamp, y_ix, y_lt, y_le, y_eq, y_nP, y_nPs, y_ltP, y_ltQ, y_ltPP, y_eqP, y_eqQ, y_eqPP, if_pos, if_neg, ite_true, ite_false, not_true_eq_false, not_false_eq_true, and_true, true_and, and_false, false_and, or_true, true_or, or_false, false_or, hN.d0]
    | succ m ih =>
      intro i n v h hn
      obtain ⟨n, rfl⟩ := y_pos hn
      have q := hW.co (k := i) (by omega)
      unfold p_X3_oftenAt_4 y_su; simp (disch := omega) only [y_lit, y_n1, nI_add, pk_mul, j_lt, j_b1_s, j_b2_s, j_b3_s, j_b0_s, y_bo, y_bo1, y_bo0, y_i0, y_i1, Classical.not_not, nI_clamp, y_ix, y_lt, y_le, y_eq, y_nP, y_nPs, y_ltP, y_ltQ, y_ltPP, y_eqP, y_eqQ, y_eqPP, if_pos, if_neg, ite_true, ite_false, not_true_eq_false, not_false_eq_true, and_true, true_and, and_false, false_and, or_true, true_or, or_false, false_or, hN.d0, hN.k0 (show i < b 5 by omega), hN.k1 (show i < b 5 by omega)]
      by_cases c : b (24 + 3 * i) = x
      · have e : y_of1 b x i = 1 := if_pos (Or.inl c)
        rw [e]; simp (disch := omega) only [y_lit, y_n1, nI_add, pk_mul, j_lt, j_b1_s, j_b2_s, j_b3_s, j_b0_s, y_bo, y_bo1, y_bo0, y_i0, y_i1, Classical.not_not, nI_clamp, y_ix, y_lt, y_le, y_eq, y_nP, y_nPs, y_ltP, y_ltQ, y_ltPP, y_eqP, y_eqQ, y_eqPP, if_pos, if_neg, ite_true, ite_false, not_true_eq_false, not_false_eq_true, and_true, true_and, and_false, false_and, or_true, true_or, or_false, false_or]
        exact ih (i + 1) n _ (by omega) (by omega)
      · by_cases d : b (25 + 3 * i) = x + 1
        · have e : y_of1 b x i = 1 := if_pos (Or.inr d)
          rw [e]; simp (disch := omega) only [y_lit, y_n1, nI_add, pk_mul, j_lt, j_b1_s, j_b2_s, j_b3_s, j_b0_s, y_bo, y_bo1, y_bo0, y_i0, y_i1, Classical.not_not, nI_clamp, y_ix, y_lt, y_le, y_eq, y_nP, y_nPs, y_ltP, y_ltQ, y_ltPP, y_eqP, y_eqQ, y_eqPP, if_pos, if_neg, ite_true, ite_false, not_true_eq_false, not_false_eq_true, and_true, true_and, and_false, false_and, or_true, true_or, or_false, false_or]
          exact ih (i + 1) n _ (by omega) (by omega)
        · have e : y_of1 b x i = 0 := if_neg (fun z => z.elim c d)
          rw [e]; simp (disch := omega) only [y_lit, y_n1, nI_add, pk_mul, j_lt, j_b1_s, j_b2_s, j_b3_s, j_b0_s, y_bo, y_bo1, y_bo0, y_i0, y_i1, Classical.not_not, nI_clamp, y_ix, y_lt, y_le, y_eq, y_nP, y_nPs, y_ltP, y_ltQ, y_ltPP, y_eqP, y_eqQ, y_eqPP, if_pos, if_neg, ite_true, ite_false, not_true_eq_false, not_false_eq_true, and_true, true_and, and_false, false_and, or_true, true_or, or_false, false_or]
          exact ih (i + 1) n _ (by omega) (by omega)
  unfold f_X3_oftenAt
  rw [y_lit, key (b 5) 0 j_F 0 (by omega) (y_F (by omega))]
  rfl
theorem ym_oft (hM : y_M τ b) (hW : y_W b) {x : Nat} (hx : x < 100) : f_X12_oftenOf (nI x) τ = some (nI (y_oft b x)) := by
  have h5 := hW.b5
  have h4 := hW.ho
  have key : ∀ m i n v, i + m = b 5 → m < n → p_X12_oftenOf_4 (nI x) τ n (nI v) (nI i) = some (nI (y_su (y_of1 b x) m i v)) := by
    intro m
    induction m with
    | zero =>
      intro i n v h hn
      obtain ⟨n, rfl⟩ := y_pos hn
      unfold p_X12_oftenOf_4 y_su; simp (disch := omega) only [y_lit, y_n1, nI_add, pk_mul, j_lt, j_b1_s, j_b2_s, j_b3_s, j_b0_s, y_bo, y_bo1, y_bo0, y_i0, y_i1, Classical.not_not, nI_clamp, y_ix, y_lt, y_le, y_eq, y_nP, y_nPs, y_ltP, y_ltQ, y_ltPP, y_eqP, y_eqQ, y_eqPP, if_pos, if_neg, ite_true, ite_false, not_true_eq_false, not_false_eq_true, and_true, true_and, and_false, false_and, or_true, true_or, or_false, false_or, hM.f]
    | succ m ih =>
      intro i n v h hn
      obtain ⟨n, rfl⟩ := y_pos hn
      have q := hW.co (k := i) (by omega)
      unfold p_X12_oftenOf_4 y_su; simp (disch := omega) only [y_lit, y_n1, nI_add, pk_mul, j_lt, j_b1_s, j_b2_s, j_b3_s, j_b0_s, y_bo, y_bo1, y_bo0, y_i0, y_i1, Classical.not_not, nI_clamp, y_ix, y_lt, y_le, y_eq, y_nP, y_nPs, y_ltP, y_ltQ, y_ltPP, y_eqP, y_eqQ, y_eqPP, if_pos, if_neg, ite_true, ite_false, not_true_eq_false, not_false_eq_true, and_true, true_and, and_false, false_and, or_true, true_or, or_false, false_or, hM.f, ym_co0 hM, ym_co1 hM]
      by_cases c : b (24 + 3 * i) = x
      · have e : y_of1 b x i = 1 := if_pos (Or.inl c)
        rw [e]; simp (disch := omega) only [y_lit, y_n1, nI_add, pk_mul, j_lt, j_b1_s, j_b2_s, j_b3_s, j_b0_s, y_bo, y_bo1, y_bo0, y_i0, y_i1, Classical.not_not, nI_clamp, y_ix, y_lt, y_le, y_eq, y_nP, y_nPs, y_ltP, y_ltQ, y_ltPP, y_eqP, y_eqQ, y_eqPP, if_pos, if_neg, ite_true, ite_false, not_true_eq_false, not_false_eq_true, and_true, true_and, and_false, false_and, or_true, true_or, or_false, false_or]
        exact ih (i + 1) n _ (by omega) (by omega)
      · by_cases d : b (25 + 3 * i) = x + 1
        · have e : y_of1 b x i = 1 := if_pos (Or.inr d)
          rw [e]; simp (disch := omega) only [y_lit, y_n1, nI_add, pk_mul, j_lt, j_b1_s, j_b2_s, j_b3_s, j_b0_s, y_bo, y_bo1, y_bo0, y_i0, y_i1, Classical.not_not, nI_clamp, y_ix, y_lt, y_le, y_eq, y_nP, y_nPs, y_ltP, y_ltQ, y_ltPP, y_eqP, y_eqQ, y_eqPP, if_pos, if_neg, ite_true, ite_false, not_true_eq_false, not_false_eq_true, and_true, true_and, and_false, false_and, or_true, true_or, or_false, false_or]
          exact ih (i + 1) n _ (by omega) (by omega)
        · have e : y_of1 b x i = 0 := if_neg (fun z => z.elim c d)
          rw [e]; simp (disch := omega) only [y_lit, y_n1, nI_add, pk_mul, j_lt, j_b1_s, j_b2_s, j_b3_s, j_b0_s, y_bo, y_bo1, y_bo0, y_i0, y_i1, Classical.not_not, nI_clamp, y_ix, y_lt, y_le, y_eq, y_nP, y_nPs, y_ltP, y_ltQ, y_ltPP, y_eqP, y_eqQ, y_eqPP, if_pos, if_neg, ite_true, ite_false, not_true_eq_false, not_false_eq_true, and_true, true_and, and_false, false_and, or_true, true_or, or_false, false_or]
          exact ih (i + 1) n _ (by omega) (by omega)
  unfold f_X12_oftenOf
  rw [y_lit, key (b 5) 0 j_F 0 (by omega) (y_F (by omega))]
  rfl
end C
section Z
variable {σ τ : j_G}
theorem z_reach (hR : j_Rel σ τ) (a1 a2 : Int32) : ∃ v σ1, f_X11_reach a1 a2 σ = some (v, σ1) ∧ f_X12_reach a1 a2 τ = some v ∧ j_Rel σ1 τ := by
  obtain ⟨b, hW, hN, hM, hK⟩ := id hR
  by_cases h : y_rg a1 (b 6)
  · by_cases h3 : y_rg a2 (y_ho b)
    · obtain ⟨p, hp, rfl⟩ := y_of _ _ h.1 h.2
      obtain ⟨x, hx, rfl⟩ := y_of _ _ h3.1 h3.2
      have h9 := hW.on0 (Or.inr (Or.inr (Or.inr (Or.inl (by omega : 0 < b 6)))))
      obtain ⟨σ1, e1, e2, e3⟩ := yc_take (a := 28) hN hW hp (by omega)
      have hN1 := hN.fr e3 (by omega)
      refine ⟨nI (y_rch b (y_pq b p) x), σ1, ?_, ?_, y_done hR (e3.wide (by omega) (by omega)) y_fm.refl⟩
      · unfold f_X11_reach; rw [yc_isHole hN hW, yc_isPlayer hN hW, if_pos h, if_pos h3]; simp (disch := omega) only [y_lit, y_n1, nI_add, pk_mul, j_lt, j_b1_s, j_b2_s, j_b3_s, j_b0_s, y_bo, y_bo1, y_bo0, y_i0, y_i1, Classical.not_not, nI_clamp, y_ix, y_lt, y_le, y_eq, y_nP, y_nPs, y_ltP, y_ltQ, y_ltPP, y_eqP, y_eqQ, y_eqPP, if_pos, if_neg, ite_true, ite_false, not_true_eq_false, not_false_eq_true, and_true, true_and, and_false, false_and, or_true, true_or, or_false, false_or, e1, yc_reach hN1 hW h9 e2 (y_pqv hW hp) hx]
      · unfold f_X12_reach; rw [ym_isPlayer hM hW, if_pos h, j_b1_s, ym_isHole hM hW, if_pos h3]; simp (disch := omega) only [y_lit, y_n1, nI_add, pk_mul, j_lt, j_b1_s, j_b2_s, j_b3_s, j_b0_s, y_bo, y_bo1, y_bo0, y_i0, y_i1, Classical.not_not, nI_clamp, y_ix, y_lt, y_le, y_eq, y_nP, y_nPs, y_ltP, y_ltQ, y_ltPP, y_eqP, y_eqQ, y_eqPP, if_pos, if_neg, ite_true, ite_false, not_true_eq_false, not_false_eq_true, and_true, true_and, and_false, false_and, or_true, true_or, or_false, false_or, ym_reach hM hW h9 hp hx]
    · refine ⟨-2, σ, ?_, ?_, hR⟩
      · unfold f_X11_reach; simp (disch := omega) only [y_lit, y_n1, nI_add, pk_mul, j_lt, j_b1_s, j_b2_s, j_b3_s, j_b0_s, y_bo, y_bo1, y_bo0, y_i0, y_i1, Classical.not_not, nI_clamp, y_ix, y_lt, y_le, y_eq, y_nP, y_nPs, y_ltP, y_ltQ, y_ltPP, y_eqP, y_eqQ, y_eqPP, if_pos, if_neg, ite_true, ite_false, not_true_eq_false, not_false_eq_true, and_true, true_and, and_false, false_and, or_true, true_or, or_false, false_or, yc_isHole hN hW, yc_isPlayer hN hW, h, h3]
      · unfold f_X12_reach; simp (disch := omega) only [y_lit, y_n1, nI_add, pk_mul, j_lt, j_b1_s, j_b2_s, j_b3_s, j_b0_s, y_bo, y_bo1, y_bo0, y_i0, y_i1, Classical.not_not, nI_clamp, y_ix, y_lt, y_le, y_eq, y_nP, y_nPs, y_ltP, y_ltQ, y_ltPP, y_eqP, y_eqQ, y_eqPP, if_pos, if_neg, ite_true, ite_false, not_true_eq_false, not_false_eq_true, and_true, true_and, and_false, false_and, or_true, true_or, or_false, false_or, ym_isHole hM hW, ym_isPlayer hM hW, h, h3]
  · refine ⟨-2, σ, ?_, ?_, hR⟩
    · unfold f_X11_reach; simp (disch := omega) only [y_lit, y_n1, nI_add, pk_mul, j_lt, j_b1_s, j_b2_s, j_b3_s, j_b0_s, y_bo, y_bo1, y_bo0, y_i0, y_i1, Classical.not_not, nI_clamp, y_ix, y_lt, y_le, y_eq, y_nP, y_nPs, y_ltP, y_ltQ, y_ltPP, y_eqP, y_eqQ, y_eqPP, if_pos, if_neg, ite_true, ite_false, not_true_eq_false, not_false_eq_true, and_true, true_and, and_false, false_and, or_true, true_or, or_false, false_or, yc_isPlayer hN hW, h]
    · unfold f_X12_reach; simp (disch := omega) only [y_lit, y_n1, nI_add, pk_mul, j_lt, j_b1_s, j_b2_s, j_b3_s, j_b0_s, y_bo, y_bo1, y_bo0, y_i0, y_i1, Classical.not_not, nI_clamp, y_ix, y_lt, y_le, y_eq, y_nP, y_nPs, y_ltP, y_ltQ, y_ltPP, y_eqP, y_eqQ, y_eqPP, if_pos, if_neg, ite_true, ite_false, not_true_eq_false, not_false_eq_true, and_true, true_and, and_false, false_and, or_true, true_or, or_false, false_or, ym_isPlayer hM hW, h]
theorem z_post (hR : j_Rel σ τ) (a1 : Int32) : ∃ v σ1, f_X11_post a1 σ = some (v, σ1) ∧ f_X12_post a1 τ = some v ∧ j_Rel σ1 τ := by
  obtain ⟨b, hW, hN, hM, hK⟩ := id hR
  have h4 := hW.ho
  by_cases h : y_rg a1 (b 6)
  · obtain ⟨p, hp, rfl⟩ := y_of _ _ h.1 h.2
    have h9 := hW.on0 (Or.inr (Or.inr (Or.inr (Or.inl (by omega : 0 < b 6)))))
    have ho := hW.on1 h9
    obtain ⟨σ1, e1, e2, e3⟩ := yc_take (a := 28) hN hW hp (by omega)
    have hN1 := hN.fr e3 (by omega)
    have hq := y_pqv hW hp
    have pl := fun x => y_pop_le 12 (y_rch b (y_pq b p) x)
    have rl := fun x => y_rch_lt (q := y_pq b p) hW (x := x)
    have both : ∀ m i n n' x, i + m = y_ho b → m < n → m < n' → x < y_ho b → ∃ v, p_X11_post_33 σ1 n (nI x) (nI (y_pop 12 (y_rch b (y_pq b p) x))) (nI i) = some v ∧ p_X12_post_15 (nI p) τ n' (nI x) (nI i) = some v := by
      intro m
      induction m with
      | zero =>
        intro i n n' x h hn hn' hx
        obtain ⟨n, rfl⟩ := y_pos hn; obtain ⟨n', rfl⟩ := y_pos hn'
        refine ⟨nI x, ?_, ?_⟩
        · unfold p_X11_post_33; simp (disch := omega) only [y_lit, y_n1, nI_add, pk_mul, j_lt, j_b1_s, j_b2_s, j_b3_s, j_b0_s, y_bo, y_bo1, y_bo0, y_i0, y_i1, Classical.not_not, nI_clamp, y_ix, y_lt, y_le, y_eq, y_nP, y_nPs, y_ltP, y_ltQ, y_ltPP, y_eqP, y_eqQ, y_eqPP, if_pos, if_neg, ite_true, ite_false, not_true_eq_false, not_false_eq_true, and_true, true_and, and_false, false_and, or_true, true_or, or_false, false_or, yc_holes hN1]
        · unfold p_X12_post_15; simp (disch := omega) only [y_lit, y_n1, nI_add, pk_mul, j_lt, j_b1_s, j_b2_s, j_b3_s, j_b0_s, y_bo, y_bo1, y_bo0, y_i0, y_i1, Classical.not_not, nI_clamp, y_ix, y_lt, y_le, y_eq, y_nP, y_nPs, y_ltP, y_ltQ, y_ltPP, y_eqP, y_eqQ, y_eqPP, if_pos, if_neg, ite_true, ite_false, not_true_eq_false, not_false_eq_true, and_true, true_and, and_false, false_and, or_true, true_or, or_false, false_or, ym_holes hM]
      | succ m ih =>
        intro i n n' x h hn hn' hx
        obtain ⟨n, rfl⟩ := y_pos hn; obtain ⟨n', rfl⟩ := y_pos hn'
        have p1 := pl i; have p2 := pl x
        obtain ⟨v, v1, v2⟩ := ih (i + 1) n n' x (by omega) (by omega) (by omega) hx
        obtain ⟨w, w1, w2⟩ := ih (i + 1) n n' i (by omega) (by omega) (by omega) (by omega)
        have km : p_X12_post_15 (nI p) τ (n' + 1) (nI x) (nI i) = p_X12_post_15 (nI p) τ n' (if nI (y_pop 12 (y_rch b (y_pq b p) x)) < nI (y_pop 12 (y_rch b (y_pq b p) i)) then nI i else nI x) (nI (i + 1)) := by
          have hlt : nI i < nI (y_ho b) := (y_lt (by omega) (by omega)).mpr (by omega)
          rw [p_X12_post_15, ym_holes hM, j_b1_s, if_pos hlt, ym_reach hM hW h9 hp (show i < y_ho b by omega), j_b1_s, ym_bits (rl i), j_b1_s, ym_reach hM hW h9 hp hx, j_b1_s, ym_bits (rl x), j_b1_s, j_lt, y_lit, nI_add]
        rw [km]
        unfold p_X11_post_33
        simp (disch := omega) only [y_lit, y_n1, nI_add, pk_mul, j_lt, j_b1_s, j_b2_s, j_b3_s, j_b0_s, y_bo, y_bo1, y_bo0, y_i0, y_i1, Classical.not_not, nI_clamp, y_ix, y_lt, y_le, y_eq, y_nP, y_nPs, y_ltP, y_ltQ, y_ltPP, y_eqP, y_eqQ, y_eqPP, if_pos, if_neg, ite_true, ite_false, not_true_eq_false, not_false_eq_true, and_true, true_and, and_false, false_and, or_true, true_or, or_false, false_or, yc_holes hN1, yc_reach hN1 hW h9 e2 hq, y_bcn _ (rl i)]
        generalize y_pop 12 (y_rch b (y_pq b p) x) = X at *
        generalize y_pop 12 (y_rch b (y_pq b p) i) = I at *
        by_cases q : X < I
        · simp (disch := omega) only [y_lit, y_n1, nI_add, pk_mul, j_lt, j_b1_s, j_b2_s, j_b3_s, j_b0_s, y_bo, y_bo1, y_bo0, y_i0, y_i1, Classical.not_not, nI_clamp, y_ix, y_lt, y_le, y_eq, y_nP, y_nPs, y_ltP, y_ltQ, y_ltPP, y_eqP, y_eqQ, y_eqPP, if_pos, if_neg, ite_true, ite_false, not_true_eq_false, not_false_eq_true, and_true, true_and, and_false, false_and, or_true, true_or, or_false, false_or]; exact ⟨w, w1, w2⟩
        · simp (disch := omega) only [y_lit, y_n1, nI_add, pk_mul, j_lt, j_b1_s, j_b2_s, j_b3_s, j_b0_s, y_bo, y_bo1, y_bo0, y_i0, y_i1, Classical.not_not, nI_clamp, y_ix, y_lt, y_le, y_eq, y_nP, y_nPs, y_ltP, y_ltQ, y_ltPP, y_eqP, y_eqQ, y_eqPP, if_pos, if_neg, ite_true, ite_false, not_true_eq_false, not_false_eq_true, and_true, true_and, and_false, false_and, or_true, true_or, or_false, false_or]; exact ⟨v, v1, v2⟩
    obtain ⟨v, v1, v2⟩ := both (y_ho b - 1) 1 4999 j_F 0 (by omega) (by omega) (y_F (by omega)) ho
    have p0 := pl 0
    have w0 : p_X11_post_33 σ1 j_F (nI 0) (nP 0) (nI 0) = some v := by
      rw [show j_F = 4999 + 1 from rfl]
      unfold p_X11_post_33; simp (disch := omega) only [y_lit, y_n1, nI_add, pk_mul, j_lt, j_b1_s, j_b2_s, j_b3_s, j_b0_s, y_bo, y_bo1, y_bo0, y_i0, y_i1, Classical.not_not, nI_clamp, y_ix, y_lt, y_le, y_eq, y_nP, y_nPs, y_ltP, y_ltQ, y_ltPP, y_eqP, y_eqQ, y_eqPP, if_pos, if_neg, ite_true, ite_false, not_true_eq_false, not_false_eq_true, and_true, true_and, and_false, false_and, or_true, true_or, or_false, false_or, yc_holes hN1, yc_reach hN1 hW h9 e2 hq, y_bcn _ (rl 0)]
      exact v1
    refine ⟨v, σ1, ?_, ?_, y_done hR (e3.wide (by omega) (by omega)) y_fm.refl⟩
    · unfold f_X11_post; simp (disch := omega) only [y_lit, y_n1, nI_add, pk_mul, j_lt, j_b1_s, j_b2_s, j_b3_s, j_b0_s, y_bo, y_bo1, y_bo0, y_i0, y_i1, Classical.not_not, nI_clamp, y_ix, y_lt, y_le, y_eq, y_nP, y_nPs, y_ltP, y_ltQ, y_ltPP, y_eqP, y_eqQ, y_eqPP, if_pos, if_neg, ite_true, ite_false, not_true_eq_false, not_false_eq_true, and_true, true_and, and_false, false_and, or_true, true_or, or_false, false_or, yc_isPlayer hN hW, y_rn, e1, w0]
    · unfold f_X12_post; simp (disch := omega) only [y_lit, y_n1, nI_add, pk_mul, j_lt, j_b1_s, j_b2_s, j_b3_s, j_b0_s, y_bo, y_bo1, y_bo0, y_i0, y_i1, Classical.not_not, nI_clamp, y_ix, y_lt, y_le, y_eq, y_nP, y_nPs, y_ltP, y_ltQ, y_ltPP, y_eqP, y_eqQ, y_eqPP, if_pos, if_neg, ite_true, ite_false, not_true_eq_false, not_false_eq_true, and_true, true_and, and_false, false_and, or_true, true_or, or_false, false_or, ym_isPlayer hM hW, y_rn, v2]
  · refine ⟨-2, σ, ?_, ?_, hR⟩
    · unfold f_X11_post; simp (disch := omega) only [y_lit, y_n1, nI_add, pk_mul, j_lt, j_b1_s, j_b2_s, j_b3_s, j_b0_s, y_bo, y_bo1, y_bo0, y_i0, y_i1, Classical.not_not, nI_clamp, y_ix, y_lt, y_le, y_eq, y_nP, y_nPs, y_ltP, y_ltQ, y_ltPP, y_eqP, y_eqQ, y_eqPP, if_pos, if_neg, ite_true, ite_false, not_true_eq_false, not_false_eq_true, and_true, true_and, and_false, false_and, or_true, true_or, or_false, false_or, yc_isPlayer hN hW, h]
    · unfold f_X12_post; simp (disch := omega) only [y_lit, y_n1, nI_add, pk_mul, j_lt, j_b1_s, j_b2_s, j_b3_s, j_b0_s, y_bo, y_bo1, y_bo0, y_i0, y_i1, Classical.not_not, nI_clamp, y_ix, y_lt, y_le, y_eq, y_nP, y_nPs, y_ltP, y_ltQ, y_ltPP, y_eqP, y_eqQ, y_eqPP, if_pos, if_neg, ite_true, ite_false, not_true_eq_false, not_false_eq_true, and_true, true_and, and_false, false_and, or_true, true_or, or_false, false_or, ym_isPlayer hM hW, h]
theorem z_often (hR : j_Rel σ τ) (a1 : Int32) : ∃ v, f_X11_often a1 σ = some v ∧ f_X12_often a1 τ = some v := by
  obtain ⟨b, hW, hN, hM, hK⟩ := id hR
  have h4 := hW.ho
  by_cases h : y_rg a1 (y_ho b)
  · obtain ⟨x, hx, rfl⟩ := y_of _ _ h.1 h.2
    refine ⟨nI (y_oft b x), ?_, ?_⟩
    · unfold f_X11_often; simp (disch := omega) only [y_lit, y_n1, nI_add, pk_mul, j_lt, j_b1_s, j_b2_s, j_b3_s, j_b0_s, y_bo, y_bo1, y_bo0, y_i0, y_i1, Classical.not_not, nI_clamp, y_ix, y_lt, y_le, y_eq, y_nP, y_nPs, y_ltP, y_ltQ, y_ltPP, y_eqP, y_eqQ, y_eqPP, if_pos, if_neg, ite_true, ite_false, not_true_eq_false, not_false_eq_true, and_true, true_and, and_false, false_and, or_true, true_or, or_false, false_or, yc_isHole hN hW, y_rn, yc_oft hN hW]
    · unfold f_X12_often; simp (disch := omega) only [y_lit, y_n1, nI_add, pk_mul, j_lt, j_b1_s, j_b2_s, j_b3_s, j_b0_s, y_bo, y_bo1, y_bo0, y_i0, y_i1, Classical.not_not, nI_clamp, y_ix, y_lt, y_le, y_eq, y_nP, y_nPs, y_ltP, y_ltQ, y_ltPP, y_eqP, y_eqQ, y_eqPP, if_pos, if_neg, ite_true, ite_false, not_true_eq_false, not_false_eq_true, and_true, true_and, and_false, false_and, or_true, true_or, or_false, false_or, ym_isHole hM hW, y_rn, ym_oft hM hW]
  · refine ⟨-2, ?_, ?_⟩
    · unfold f_X11_often; simp (disch := omega) only [y_lit, y_n1, nI_add, pk_mul, j_lt, j_b1_s, j_b2_s, j_b3_s, j_b0_s, y_bo, y_bo1, y_bo0, y_i0, y_i1, Classical.not_not, nI_clamp, y_ix, y_lt, y_le, y_eq, y_nP, y_nPs, y_ltP, y_ltQ, y_ltPP, y_eqP, y_eqQ, y_eqPP, if_pos, if_neg, ite_true, ite_false, not_true_eq_false, not_false_eq_true, and_true, true_and, and_false, false_and, or_true, true_or, or_false, false_or, yc_isHole hN hW, h]
    · unfold f_X12_often; simp (disch := omega) only [y_lit, y_n1, nI_add, pk_mul, j_lt, j_b1_s, j_b2_s, j_b3_s, j_b0_s, y_bo, y_bo1, y_bo0, y_i0, y_i1, Classical.not_not, nI_clamp, y_ix, y_lt, y_le, y_eq, y_nP, y_nPs, y_ltP, y_ltQ, y_ltPP, y_eqP, y_eqQ, y_eqPP, if_pos, if_neg, ite_true, ite_false, not_true_eq_false, not_false_eq_true, and_true, true_and, and_false, false_and, or_true, true_or, or_false, false_or, ym_isHole hM hW, h]
theorem z_balance (hR : j_Rel σ τ) : ∃ v, f_X11_balance σ = some v ∧ f_X12_balance τ = some v := by
  obtain ⟨b, hW, hN, hM, hK⟩ := id hR
  have h4 := hW.ho
  have h5 := hW.b5
  by_cases h9 : 0 < b 9
  · have both : ∀ m i n t lo, i + m = y_ho b → m < n → t < 100 → lo < 100 → ∃ t' lo', t' < 100 ∧ lo' < 100 ∧ p_X11_balance_19 σ n (nP t) (if t = 0 then nP 0 else nI lo) (nI i) = some (nP t', if t' = 0 then nP 0 else nI lo') ∧ p_X12_balance_18 τ n (if t = 0 then nI 1000000 else nI lo) (nP t) (nI i) = some (if t' = 0 then nI 1000000 else nI lo', nP t') := by
      intro m
      induction m with
      | zero =>
        intro i n t lo h hn ht hl
        obtain ⟨n, rfl⟩ := y_pos hn
        refine ⟨t, lo, ht, hl, ?_, ?_⟩
        · unfold p_X11_balance_19; simp (disch := omega) only [y_lit, y_n1, nI_add, pk_mul, j_lt, j_b1_s, j_b2_s, j_b3_s, j_b0_s, y_bo, y_bo1, y_bo0, y_i0, y_i1, Classical.not_not, nI_clamp, y_ix, y_lt, y_le, y_eq, y_nP, y_nPs, y_ltP, y_ltQ, y_ltPP, y_eqP, y_eqQ, y_eqPP, if_pos, if_neg, ite_true, ite_false, not_true_eq_false, not_false_eq_true, and_true, true_and, and_false, false_and, or_true, true_or, or_false, false_or, yc_holes hN]
        · unfold p_X12_balance_18; simp (disch := omega) only [y_lit, y_n1, nI_add, pk_mul, j_lt, j_b1_s, j_b2_s, j_b3_s, j_b0_s, y_bo, y_bo1, y_bo0, y_i0, y_i1, Classical.not_not, nI_clamp, y_ix, y_lt, y_le, y_eq, y_nP, y_nPs, y_ltP, y_ltQ, y_ltPP, y_eqP, y_eqQ, y_eqPP, if_pos, if_neg, ite_true, ite_false, not_true_eq_false, not_false_eq_true, and_true, true_and, and_false, false_and, or_true, true_or, or_false, false_or, ym_holes hM]
      | succ m ih =>
        intro i n t lo h hn ht hl
        obtain ⟨n, rfl⟩ := y_pos hn
        have hs := y_sh_le b i
        have hf := y_oft_le b i
        unfold p_X11_balance_19 p_X12_balance_18
        simp (disch := omega) only [y_lit, y_n1, nI_add, pk_mul, j_lt, j_b1_s, j_b2_s, j_b3_s, j_b0_s, y_bo, y_bo1, y_bo0, y_i0, y_i1, Classical.not_not, nI_clamp, y_ix, y_lt, y_le, y_eq, y_nP, y_nPs, y_ltP, y_ltQ, y_ltPP, y_eqP, y_eqQ, y_eqPP, if_pos, if_neg, ite_true, ite_false, not_true_eq_false, not_false_eq_true, and_true, true_and, and_false, false_and, or_true, true_or, or_false, false_or, yc_holes hN, ym_holes hM, yc_isShut hN hW, ym_isShut hM hW]
        by_cases c : y_sh b i = 1
        · simp (disch := omega) only [y_lit, y_n1, nI_add, pk_mul, j_lt, j_b1_s, j_b2_s, j_b3_s, j_b0_s, y_bo, y_bo1, y_bo0, y_i0, y_i1, Classical.not_not, nI_clamp, y_ix, y_lt, y_le, y_eq, y_nP, y_nPs, y_ltP, y_ltQ, y_ltPP, y_eqP, y_eqQ, y_eqPP, if_pos, if_neg, ite_true, ite_false, not_true_eq_false, not_false_eq_true, and_true, true_and, and_false, false_and, or_true, true_or, or_false, false_or]
          exact ih (i + 1) n t lo (by omega) (by omega) ht hl
        · simp (disch := omega) only [y_lit, y_n1, nI_add, pk_mul, j_lt, j_b1_s, j_b2_s, j_b3_s, j_b0_s, y_bo, y_bo1, y_bo0, y_i0, y_i1, Classical.not_not, nI_clamp, y_ix, y_lt, y_le, y_eq, y_nP, y_nPs, y_ltP, y_ltQ, y_ltPP, y_eqP, y_eqQ, y_eqPP, if_pos, if_neg, ite_true, ite_false, not_true_eq_false, not_false_eq_true, and_true, true_and, and_false, false_and, or_true, true_or, or_false, false_or, yc_oft hN hW, ym_oft hM hW]
          have key := ih (i + 1) n (if t < y_oft b i + 1 then y_oft b i + 1 else t) (if t = 0 then y_oft b i else if y_oft b i < lo then y_oft b i else lo) (by omega) (by omega) (by split <;> omega) (by split <;> (try split) <;> omega)
          obtain ⟨t', lo', k1, k2, k3, k4⟩ := key
          refine ⟨t', lo', k1, k2, ?_, ?_⟩
          · rw [← k3]
            by_cases z : t = 0
            · subst z; simp (disch := omega) only [y_lit, y_n1, nI_add, pk_mul, j_lt, j_b1_s, j_b2_s, j_b3_s, j_b0_s, y_bo, y_bo1, y_bo0, y_i0, y_i1, Classical.not_not, nI_clamp, y_ix, y_lt, y_le, y_eq, y_nP, y_nPs, y_ltP, y_ltQ, y_ltPP, y_eqP, y_eqQ, y_eqPP, if_pos, if_neg, ite_true, ite_false, not_true_eq_false, not_false_eq_true, and_true, true_and, and_false, false_and, or_true, true_or, or_false, false_or]
            · by_cases y : t < y_oft b i + 1
              · by_cases x : y_oft b i < lo
                · simp (disch := omega) only [y_lit, y_n1, nI_add, pk_mul, j_lt, j_b1_s, j_b2_s, j_b3_s, j_b0_s, y_bo, y_bo1, y_bo0, y_i0, y_i1, Classical.not_not, nI_clamp, y_ix, y_lt, y_le, y_eq, y_nP, y_nPs, y_ltP, y_ltQ, y_ltPP, y_eqP, y_eqQ, y_eqPP, if_pos, if_neg, ite_true, ite_false, not_true_eq_false, not_false_eq_true, and_true, true_and, and_false, false_and, or_true, true_or, or_false, false_or]
                · simp (disch := omega) only [y_lit, y_n1, nI_add, pk_mul, j_lt, j_b1_s, j_b2_s, j_b3_s, j_b0_s, y_bo, y_bo1, y_bo0, y_i0, y_i1, Classical.not_not, nI_clamp, y_ix, y_lt, y_le, y_eq, y_nP, y_nPs, y_ltP, y_ltQ, y_ltPP, y_eqP, y_eqQ, y_eqPP, if_pos, if_neg, ite_true, ite_false, not_true_eq_false, not_false_eq_true, and_true, true_and, and_false, false_and, or_true, true_or, or_false, false_or]
              · by_cases x : y_oft b i < lo
                · simp (disch := omega) only [y_lit, y_n1, nI_add, pk_mul, j_lt, j_b1_s, j_b2_s, j_b3_s, j_b0_s, y_bo, y_bo1, y_bo0, y_i0, y_i1, Classical.not_not, nI_clamp, y_ix, y_lt, y_le, y_eq, y_nP, y_nPs, y_ltP, y_ltQ, y_ltPP, y_eqP, y_eqQ, y_eqPP, if_pos, if_neg, ite_true, ite_false, not_true_eq_false, not_false_eq_true, and_true, true_and, and_false, false_and, or_true, true_or, or_false, false_or]
                · simp (disch := omega) only [y_lit, y_n1, nI_add, pk_mul, j_lt, j_b1_s, j_b2_s, j_b3_s, j_b0_s, y_bo, y_bo1, y_bo0, y_i0, y_i1, Classical.not_not, nI_clamp, y_ix, y_lt, y_le, y_eq, y_nP, y_nPs, y_ltP, y_ltQ, y_ltPP, y_eqP, y_eqQ, y_eqPP, if_pos, if_neg, ite_true, ite_false, not_true_eq_false, not_false_eq_true, and_true, true_and, and_false, false_and, or_true, true_or, or_false, false_or]
          · rw [← k4]
            by_cases z : t = 0
            · subst z; simp (disch := omega) only [y_lit, y_n1, nI_add, pk_mul, j_lt, j_b1_s, j_b2_s, j_b3_s, j_b0_s, y_bo, y_bo1, y_bo0, y_i0, y_i1, Classical.not_not, nI_clamp, y_ix, y_lt, y_le, y_eq, y_nP, y_nPs, y_ltP, y_ltQ, y_ltPP, y_eqP, y_eqQ, y_eqPP, if_pos, if_neg, ite_true, ite_false, not_true_eq_false, not_false_eq_true, and_true, true_and, and_false, false_and, or_true, true_or, or_false, false_or]
            · by_cases y : t < y_oft b i + 1
              · by_cases x : y_oft b i < lo
                · simp (disch := omega) only [y_lit, y_n1, nI_add, pk_mul, j_lt, j_b1_s, j_b2_s, j_b3_s, j_b0_s, y_bo, y_bo1, y_bo0, y_i0, y_i1, Classical.not_not, nI_clamp, y_ix, y_lt, y_le, y_eq, y_nP, y_nPs, y_ltP, y_ltQ, y_ltPP, y_eqP, y_eqQ, y_eqPP, if_pos, if_neg, ite_true, ite_false, not_true_eq_false, not_false_eq_true, and_true, true_and, and_false, false_and, or_true, true_or, or_false, false_or]
                · simp (disch := omega) only [y_lit, y_n1, nI_add, pk_mul, j_lt, j_b1_s, j_b2_s, j_b3_s, j_b0_s, y_bo, y_bo1, y_bo0, y_i0, y_i1, Classical.not_not, nI_clamp, y_ix, y_lt, y_le, y_eq, y_nP, y_nPs, y_ltP, y_ltQ, y_ltPP, y_eqP, y_eqQ, y_eqPP, if_pos, if_neg, ite_true, ite_false, not_true_eq_false, not_false_eq_true, and_true, true_and, and_false, false_and, or_true, true_or, or_false, false_or]
              · by_cases x : y_oft b i < lo
                · simp (disch := omega) only [y_lit, y_n1, nI_add, pk_mul, j_lt, j_b1_s, j_b2_s, j_b3_s, j_b0_s, y_bo, y_bo1, y_bo0, y_i0, y_i1, Classical.not_not, nI_clamp, y_ix, y_lt, y_le, y_eq, y_nP, y_nPs, y_ltP, y_ltQ, y_ltPP, y_eqP, y_eqQ, y_eqPP, if_pos, if_neg, ite_true, ite_false, not_true_eq_false, not_false_eq_true, and_true, true_and, and_false, false_and, or_true, true_or, or_false, false_or]
                · simp (disch := omega) only [y_lit, y_n1, nI_add, pk_mul, j_lt, j_b1_s, j_b2_s, j_b3_s, j_b0_s, y_bo, y_bo1, y_bo0, y_i0, y_i1, Classical.not_not, nI_clamp, y_ix, y_lt, y_le, y_eq, y_nP, y_nPs, y_ltP, y_ltQ, y_ltPP, y_eqP, y_eqQ, y_eqPP, if_pos, if_neg, ite_true, ite_false, not_true_eq_false, not_false_eq_true, and_true, true_and, and_false, false_and, or_true, true_or, or_false, false_or]
    obtain ⟨t', lo', k1, k2, k3, k4⟩ := both (y_ho b) 0 j_F 0 0 (by omega) (y_F (by omega)) (by omega) (by omega)
    rw [if_pos rfl] at k3 k4
    by_cases z : t' = 0
    · refine ⟨-1, ?_, ?_⟩
      · unfold f_X11_balance; simp (disch := omega) only [y_lit, y_n1, nI_add, pk_mul, j_lt, j_b1_s, j_b2_s, j_b3_s, j_b0_s, y_bo, y_bo1, y_bo0, y_i0, y_i1, Classical.not_not, nI_clamp, y_ix, y_lt, y_le, y_eq, y_nP, y_nPs, y_ltP, y_ltQ, y_ltPP, y_eqP, y_eqQ, y_eqPP, if_pos, if_neg, ite_true, ite_false, not_true_eq_false, not_false_eq_true, and_true, true_and, and_false, false_and, or_true, true_or, or_false, false_or, yc_isTold hN hW, k3, z]
      · unfold f_X12_balance; simp (disch := omega) only [y_lit, y_n1, nI_add, pk_mul, j_lt, j_b1_s, j_b2_s, j_b3_s, j_b0_s, y_bo, y_bo1, y_bo0, y_i0, y_i1, Classical.not_not, nI_clamp, y_ix, y_lt, y_le, y_eq, y_nP, y_nPs, y_ltP, y_ltQ, y_ltPP, y_eqP, y_eqQ, y_eqPP, if_pos, if_neg, ite_true, ite_false, not_true_eq_false, not_false_eq_true, and_true, true_and, and_false, false_and, or_true, true_or, or_false, false_or, ym_isBoard hM hW, k4, z]
    · rw [if_neg z] at k3 k4
      refine ⟨nP t' - nI lo', ?_, ?_⟩
      · unfold f_X11_balance; simp (disch := omega) only [y_lit, y_n1, nI_add, pk_mul, j_lt, j_b1_s, j_b2_s, j_b3_s, j_b0_s, y_bo, y_bo1, y_bo0, y_i0, y_i1, Classical.not_not, nI_clamp, y_ix, y_lt, y_le, y_eq, y_nP, y_nPs, y_ltP, y_ltQ, y_ltPP, y_eqP, y_eqQ, y_eqPP, if_pos, if_neg, ite_true, ite_false, not_true_eq_false, not_false_eq_true, and_true, true_and, and_false, false_and, or_true, true_or, or_false, false_or, yc_isTold hN hW, k3]
      · unfold f_X12_balance; simp (disch := omega) only [y_lit, y_n1, nI_add, pk_mul, j_lt, j_b1_s, j_b2_s, j_b3_s, j_b0_s, y_bo, y_bo1, y_bo0, y_i0, y_i1, Classical.not_not, nI_clamp, y_ix, y_lt, y_le, y_eq, y_nP, y_nPs, y_ltP, y_ltQ, y_ltPP, y_eqP, y_eqQ, y_eqPP, if_pos, if_neg, ite_true, ite_false, not_true_eq_false, not_false_eq_true, and_true, true_and, and_false, false_and, or_true, true_or, or_false, false_or, ym_isBoard hM hW, k4]
  · refine ⟨-2, ?_, ?_⟩
    · unfold f_X11_balance; simp (disch := omega) only [y_lit, y_n1, nI_add, pk_mul, j_lt, j_b1_s, j_b2_s, j_b3_s, j_b0_s, y_bo, y_bo1, y_bo0, y_i0, y_i1, Classical.not_not, nI_clamp, y_ix, y_lt, y_le, y_eq, y_nP, y_nPs, y_ltP, y_ltQ, y_ltPP, y_eqP, y_eqQ, y_eqPP, if_pos, if_neg, ite_true, ite_false, not_true_eq_false, not_false_eq_true, and_true, true_and, and_false, false_and, or_true, true_or, or_false, false_or, yc_isTold hN hW]
    · unfold f_X12_balance; simp (disch := omega) only [y_lit, y_n1, nI_add, pk_mul, j_lt, j_b1_s, j_b2_s, j_b3_s, j_b0_s, y_bo, y_bo1, y_bo0, y_i0, y_i1, Classical.not_not, nI_clamp, y_ix, y_lt, y_le, y_eq, y_nP, y_nPs, y_ltP, y_ltQ, y_ltPP, y_eqP, y_eqQ, y_eqPP, if_pos, if_neg, ite_true, ite_false, not_true_eq_false, not_false_eq_true, and_true, true_and, and_false, false_and, or_true, true_or, or_false, false_or, ym_isBoard hM hW]
end Z
/-! ===== the kept cells, and a board changed in one place ===== -/
def y_kc (σ σ' : j_G) : Prop := ∀ c, c = 10 ∨ c = 19 ∨ c = 20 ∨ 43 ≤ c → σ'.1 c = σ.1 c ∧ σ'.2 c = σ.2 c
def y_km (τ τ' : j_G) : Prop := (∀ j, j = 5 ∨ j = 12 ∨ j = 13 → τ'.1 75 j = τ.1 75 j) ∧ ∀ c, c = 77 ∨ c = 78 ∨ c = 79 ∨ c = 94 ∨ c = 95 ∨ c = 96 → τ'.1 c = τ.1 c ∧ τ'.2 c = τ.2 c
theorem y_kc.of {σ σ' : j_G} {lo hi : Nat} (h : y_fr lo hi σ σ') (h1 : 20 < lo ∨ hi < 10) (h2 : hi < 43) : y_kc σ σ' := fun c hc => h c (by omega)
theorem y_kc.trans {σ σ' σ'' : j_G} (h : y_kc σ σ') (h' : y_kc σ' σ'') : y_kc σ σ'' := fun c hc => ⟨(h' c hc).1.trans (h c hc).1, (h' c hc).2.trans (h c hc).2⟩
theorem y_kc.refl {σ : j_G} : y_kc σ σ := fun _ _ => ⟨rfl, rfl⟩
theorem y_km.refl {σ : j_G} : y_km σ σ := ⟨fun _ _ => rfl, fun _ _ => ⟨rfl, rfl⟩⟩
theorem y_km.trans {σ σ' σ'' : j_G} (h : y_km σ σ') (h' : y_km σ' σ'') : y_km σ σ'' :=
  ⟨fun j hj => (h'.1 j hj).trans (h.1 j hj), fun c hc => ⟨(h'.2 c hc).1.trans (h.2 c hc).1, (h'.2 c hc).2.trans (h.2 c hc).2⟩⟩
theorem y_km.of {σ σ' : j_G} {f g lo hi : Nat} (h : y_fm f g lo hi σ σ') (h1 : 13 < f) (h2 : 79 < lo ∨ hi < 77) (h3 : hi < 94) : y_km σ σ' :=
  ⟨fun j hj => h.1 j (by omega), fun c hc => h.2 c (by omega) (by omega)⟩
theorem y_km.w {σ : j_G} {j : Nat} {v : Int32} : y_km σ (j_si σ 76 j v) :=
  ⟨fun j' hj => j_r_ne (by omega), fun c hc => ⟨funext fun j' => j_r_ne (by omega), rfl⟩⟩
theorem y_kc.w {σ : j_G} {c j : Nat} {v : Int32} (hc : c < 10) : y_kc σ (j_si σ c j v) :=
  fun c' hc' => ⟨funext fun j' => j_r_ne (by omega), rfl⟩
theorem y_K.fr2 {σ τ σ' τ' : j_G} (h : y_K σ τ) (h1 : y_kc σ σ') (h2 : y_km τ τ') : y_K σ' τ' := by
  obtain ⟨⟨i0, i1, i2⟩, ⟨s0, s1, s2, s3⟩, ht, hf⟩ := h
  have e77 := (h2.2 77 (by omega)).1
  have e78 := (h2.2 78 (by omega)).1
  have e94 := (h2.2 94 (by omega)).1
  have e95 := (h2.2 95 (by omega)).1
  have e96 := (h2.2 96 (by omega)).2
  refine ⟨⟨i0.fr (fun x hx => (h1 x (by omega)).1) e77 e78, i1.fr (fun x hx => (h1 x (by omega)).1) e77 e78, i2.fr (fun x hx => (h1 x (by omega)).1) e77 e78⟩,
    ⟨s0.fr (h1 67 (by omega)).1 (h1 68 (by omega)).2 e94 e95 e96, s1.fr (h1 69 (by omega)).1 (h1 70 (by omega)).2 e94 e95 e96, s2.fr (h1 71 (by omega)).1 (h1 72 (by omega)).2 e94 e95 e96, s3.fr (h1 73 (by omega)).1 (h1 74 (by omega)).2 e94 e95 e96⟩, ?_, ?_⟩
  · unfold y_tp at *
    rw [(h1 19 (by omega)).1, (h1 20 (by omega)).1, h2.1 5 (by omega), (h2.2 79 (by omega)).1]
    exact ht
  · unfold y_ft at *
    rw [(h1 10 (by omega)).1, h2.1 12 (by omega), h2.1 13 (by omega)]
    exact hf
theorem y_M.set {τ : j_G} {b : Nat → Nat} {j v : Nat} (h : y_M τ b) (hj : ¬ (24 ≤ j ∧ j < 96 ∧ j % 3 = 1)) : y_M (j_si τ 76 j (nI v)) (y_u b j v) := by
  intro i hi
  by_cases e : i = j
  · subst e; rw [j_r_eq, if_neg hj, y_ue]
  · rw [j_r_nj e, y_un e]; exact h i hi
/-- stands -/
theorem y_W.set8 {b : Nat → Nat} {k : Nat} (h : y_W b) (hk : k < b 5) : y_W (y_u b 8 k) := by
  obtain ⟨h1, h2, h3, h4, h5, h6, h7, h8, h9⟩ := h
  unfold y_W y_ho at *
  simp (disch := omega) only [y_ue, y_un]
  exact ⟨h1, h2, h3, fun _ => hk, fun z => by omega, h6, h7, h8, h9⟩
theorem y_N.set8 {σ : j_G} {b : Nat → Nat} {k : Nat} (h : y_N σ b) : y_N (j_si σ 5 1 (nI k)) (y_u b 8 k) := by
  obtain ⟨⟨f1, f2, f3, f4, f5, f6, f7, f10, d0, d1⟩, f8, s, t, c⟩ := h
  unfold y_N y_cb
  refine ⟨?_, ?_, ?_, ?_, ?_⟩
  · simp (disch := omega) only [j_r_ne, j_r_eq, j_r_nj, y_ue, y_un]
    exact ⟨f1, f2, f3, f4, f5, f6, f7, f10, d0, trivial⟩
  · simp (disch := omega) only [j_r_ne, j_r_eq, j_r_nj, y_ue, y_un]; exact f8
  · simp (disch := omega) only [j_r_ne, j_r_eq, j_r_nj, y_ue, y_un]; exact s
  · intro p q hp hq
    simp (disch := omega) only [y_ue, y_un] at hp
    have := t p q hp hq
    simp (disch := omega) only [j_r_ne, j_r_eq, j_r_nj, y_ue, y_un]; exact this
  · simp (disch := omega) only [j_r_ne, j_r_eq, j_r_nj, y_ue, y_un]; exact c
/-- red -/
theorem y_W.setr {b : Nat → Nat} {k v : Nat} (h : y_W b) (hk : k < b 5) (hv : v ≤ 1) (ho : b (25 + 3 * k) = 0) : y_W (y_u b (26 + 3 * k) v) := by
  have b5 := h.b5; have b4 := h.b4; have b6 := h.b6
  obtain ⟨h1, h2, h3, h4, h5, h6, h7, h8, h9⟩ := h
  unfold y_W y_ho at *
  refine ⟨?_, ?_, ?_, ?_, ?_, fun j hj => ?_, fun j l hj hl => ?_, fun j hj => ?_, fun j hj => ?_⟩
  · simp (disch := omega) only [y_un]; exact h1
  · simp (disch := omega) only [y_un]; exact h2
  · simp (disch := omega) only [y_un]; exact h3
  · simp (disch := omega) only [y_un]; exact h4
  · simp (disch := omega) only [y_un]; exact h5
  · simp (disch := omega) only [y_un] at hj; simp (disch := omega) only [y_un]; exact h6 j hj
  · simp (disch := omega) only [y_un] at hl; simp (disch := omega) only [y_un]; exact h7 j l hj hl
  · simp (disch := omega) only [y_un] at hj
    have q := h8 j hj
    by_cases e : j = k
    · subst e; simp (disch := omega) only [y_ue, y_un]
      exact ⟨q.1, q.2.1, q.2.2.1, hv, fun z => by omega, q.2.2.2.2.2.1, q.2.2.2.2.2.2⟩
    · simp (disch := omega) only [y_ue, y_un]; exact q
  · simp (disch := omega) only [y_un] at hj; simp (disch := omega) only [y_un]; exact h9 j hj
theorem y_N.setr {σ : j_G} {b : Nat → Nat} {k v : Nat} (h : y_N σ b) (hW : y_W b) (hk : k < b 5) : y_N (j_si σ 8 k (nI v)) (y_u b (26 + 3 * k) v) := by
  have b5 := hW.b5; have b4 := hW.b4; have b6 := hW.b6
  obtain ⟨⟨f1, f2, f3, f4, f5, f6, f7, f10, d0, d1⟩, f8, s, t, c⟩ := h
  unfold y_N y_cb
  refine ⟨?_, ?_, fun j hj => ?_, fun p q hp hq => ?_, fun j hj => ?_⟩
  · simp (disch := omega) only [j_r_ne, y_un]
    exact ⟨f1, f2, f3, f4, f5, f6, f7, f10, d0, d1⟩
  · simp (disch := omega) only [j_r_ne, y_un]; exact f8
  · simp (disch := omega) only [y_un] at hj; simp (disch := omega) only [j_r_ne, y_un]; exact s j hj
  · simp (disch := omega) only [y_un] at hp
    simp (disch := omega) only [j_r_ne, y_un]; exact t p q hp hq
  · simp (disch := omega) only [y_un] at hj
    have := c j hj
    by_cases e : j = k
    · subst e; simp (disch := omega) only [j_r_ne, j_r_eq, y_ue, y_un]; exact ⟨this.1, this.2.1, trivial⟩
    · simp (disch := omega) only [j_r_ne, j_r_eq, j_r_nj, y_ue, y_un]; exact this
/-- a player's number -/
theorem y_W.sett {b : Nat → Nat} {p q v : Nat} (h : y_W b) (hp : p < b 6) (hq : q < 5) (hv : (q = 0 → 1 ≤ v ∧ v ≤ 9) ∧ (q = 1 → v ≤ 20) ∧ (q = 2 → v ≤ 99) ∧ (q = 3 → v ≤ 9) ∧ (q = 4 → v < y_ho b)) : y_W (y_u b (96 + 5 * p + q) v) := by
  have b5 := h.b5; have b4 := h.b4; have b6 := h.b6
  obtain ⟨h1, h2, h3, h4, h5, h6, h7, h8, h9⟩ := h
  unfold y_W y_ho at *
  refine ⟨?_, ?_, ?_, ?_, ?_, fun j hj => ?_, fun j l hj hl => ?_, fun j hj => ?_, fun j hj => ?_⟩
  · simp (disch := omega) only [y_un]; exact h1
  · simp (disch := omega) only [y_un]; exact h2
  · simp (disch := omega) only [y_un]; exact h3
  · simp (disch := omega) only [y_un]; exact h4
  · simp (disch := omega) only [y_un]; exact h5
  · simp (disch := omega) only [y_un] at hj; simp (disch := omega) only [y_un]; exact h6 j hj
  · simp (disch := omega) only [y_un] at hl; simp (disch := omega) only [y_un]; exact h7 j l hj hl
  · simp (disch := omega) only [y_un] at hj; simp (disch := omega) only [y_un]; exact h8 j hj
  · simp (disch := omega) only [y_un] at hj
    have w := h9 j hj
    have e0 : y_u b (96 + 5 * p + q) v 0 = b 0 := y_un (by omega)
    have e1 : y_u b (96 + 5 * p + q) v 1 = b 1 := y_un (by omega)
    rw [e0, e1]
    unfold y_u
    obtain ⟨v0, v1, v2, v3, v4⟩ := hv
    refine ⟨?_, ?_, ?_, ?_, ?_, ?_⟩ <;> split <;> omega
theorem y_N.sett {σ : j_G} {b : Nat → Nat} {p q v : Nat} (h : y_N σ b) (hW : y_W b) (hp : p < b 6) (hq : q < 5) : y_N (j_si σ 4 (5 * p + q) (nI v)) (y_u b (96 + 5 * p + q) v) := by
  have b5 := hW.b5; have b4 := hW.b4; have b6 := hW.b6
  obtain ⟨⟨f1, f2, f3, f4, f5, f6, f7, f10, d0, d1⟩, f8, s, t, c⟩ := h
  unfold y_N y_cb
  refine ⟨?_, ?_, fun j hj => ?_, fun p' q' hp' hq' => ?_, fun j hj => ?_⟩
  · simp (disch := omega) only [j_r_ne, y_un]
    exact ⟨f1, f2, f3, f4, f5, f6, f7, f10, d0, d1⟩
  · simp (disch := omega) only [j_r_ne, y_un]; exact f8
  · simp (disch := omega) only [y_un] at hj; simp (disch := omega) only [j_r_ne, y_un]; exact s j hj
  · simp (disch := omega) only [y_un] at hp'
    by_cases e : 5 * p' + q' = 5 * p + q
    · rw [e, show 96 + 5 * p' + q' = 96 + 5 * p + q from by omega, j_r_eq, y_ue]
    · rw [j_r_nj e, y_un (by omega)]; exact t p' q' hp' hq'
  · simp (disch := omega) only [y_un] at hj
    simp (disch := omega) only [j_r_ne, y_un]; exact c j hj
/-! ===== turn, paint, shut, train ===== -/
theorem y_flip1 (S C : BitVec 32) (h : S &&& C = 0#32) : S ^^^ C = (S &&& ~~~C) ||| C ∧ S &&& ~~~C = S := by
  have hb : ∀ (i : Nat) (hi : i < 32), (S[i] && C[i]) = false := fun i hi => by
    have := congrArg (fun z : BitVec 32 => z[i]) h
    simpa using this
  constructor
  · apply BitVec.eq_of_getElem_eq
    intro i hi
    have := hb i hi
    simp only [BitVec.getElem_xor, BitVec.getElem_or, BitVec.getElem_and, BitVec.getElem_not]
    cases h1 : S[i] <;> cases h2 : C[i] <;> simp_all
  · apply BitVec.eq_of_getElem_eq
    intro i hi
    have := hb i hi
    simp only [BitVec.getElem_and, BitVec.getElem_not]
    cases h1 : S[i] <;> cases h2 : C[i] <;> simp_all
theorem y_flip2 (S C : BitVec 32) (h : S &&& C = C) : S ^^^ C = S &&& ~~~C ∧ (S &&& ~~~C) ||| C = S := by
  have hb : ∀ (i : Nat) (hi : i < 32), (S[i] && C[i]) = C[i] := fun i hi => by
    have := congrArg (fun z : BitVec 32 => z[i]) h
    simpa using this
  constructor
  · apply BitVec.eq_of_getElem_eq
    intro i hi
    have := hb i hi
    simp only [BitVec.getElem_xor, BitVec.getElem_and, BitVec.getElem_not]
    cases h1 : S[i] <;> cases h2 : C[i] <;> simp_all
  · apply BitVec.eq_of_getElem_eq
    intro i hi
    have := hb i hi
    simp only [BitVec.getElem_or, BitVec.getElem_and, BitVec.getElem_not]
    cases h1 : S[i] <;> cases h2 : C[i] <;> simp_all
theorem y_xor {a c : Nat} : nI a ^^^ nI c = nI (a ^^^ c) := by
  apply Int32.toBitVec_inj.mp
  show BitVec.ofNat 32 a ^^^ BitVec.ofNat 32 c = BitVec.ofNat 32 (a ^^^ c)
  rw [BitVec.ofNat_xor]
theorem y_tb {s x : Nat} : s / 2 ^ x % 2 = 1 ↔ s.testBit x = true := by
  rw [Nat.testBit_eq_decide_div_mod_eq, decide_eq_true_iff]
theorem y_tb0 {s x : Nat} (h : s / 2 ^ x % 2 = 0) : s.testBit x = false := by
  cases hb : s.testBit x with
  | false => rfl
  | true => have := y_tb.mpr hb; omega
theorem y_tb2 {s x : Nat} : s / 2 ^ x % 2 = (s.testBit x).toNat := by
  cases hb : s.testBit x with
  | true => exact y_tb.mpr hb
  | false =>
    have : ¬ s / 2 ^ x % 2 = 1 := fun z => by rw [y_tb.mp z] at hb; cases hb
    show _ = 0; omega
theorem y_and0 {s x : Nat} (h : s / 2 ^ x % 2 = 0) : s &&& 2 ^ x = 0 := by
  apply Nat.eq_of_testBit_eq
  intro i
  rw [Nat.testBit_and, Nat.testBit_two_pow, Nat.zero_testBit]
  by_cases e : x = i
  · subst e; rw [y_tb0 h]; rfl
  · rw [decide_eq_false e, Bool.and_false]
theorem y_and1 {s x : Nat} (h : s / 2 ^ x % 2 = 1) : s &&& 2 ^ x = 2 ^ x := by
  apply Nat.eq_of_testBit_eq
  intro i
  rw [Nat.testBit_and, Nat.testBit_two_pow]
  by_cases e : x = i
  · subst e; rw [y_tb.mp h]; rfl
  · rw [decide_eq_false e, Bool.and_false]
theorem y_nPx (C : Int32) : (C ^^^ nP 0).toBitVec = ~~~ C.toBitVec := by
  show C.toBitVec ^^^ BitVec.allOnes 32 = _
  rw [BitVec.xor_allOnes]
/-- the new bits of a hole shut or not -/
noncomputable def y_shn (s x w : Nat) : Nat := if s / 2 ^ x % 2 = w then s else s ^^^ 2 ^ x
theorem ym_shn {s x w : Nat} (hx : x < 12) (hw : w < 2) : (nI s &&& (nI (2 ^ x) ^^^ nP 0)) ||| (nI w <<< (nI x &&& nI 31)) = nI (y_shn s x w) := by
  have h2 : s / 2 ^ x % 2 < 2 := Nat.mod_lt _ (by omega)
  obtain rfl | rfl : w = 0 ∨ w = 1 := by omega
  · have e0 : nI 0 <<< (nI x &&& nI 31) = nI 0 := by
      rw [y_an (by omega), pk_shlN _ x (y_sm x (by omega)) (by omega), Nat.zero_mul]
    rw [e0]
    unfold y_shn
    by_cases c : s / 2 ^ x % 2 = 0
    · rw [if_pos c]
      have q := (y_flip1 (BitVec.ofNat 32 s) (BitVec.ofNat 32 (2 ^ x)) (by rw [← BitVec.ofNat_and, y_and0 c])).2
      apply Int32.toBitVec_inj.mp
      show (BitVec.ofNat 32 s &&& (nI (2 ^ x) ^^^ nP 0).toBitVec) ||| 0#32 = BitVec.ofNat 32 s
      rw [y_nPx, BitVec.or_zero]
      exact q
    · rw [if_neg c]
      have c1 : s / 2 ^ x % 2 = 1 := by omega
      have q := (y_flip2 (BitVec.ofNat 32 s) (BitVec.ofNat 32 (2 ^ x)) (by rw [← BitVec.ofNat_and, y_and1 c1])).1
      apply Int32.toBitVec_inj.mp
      show (BitVec.ofNat 32 s &&& (nI (2 ^ x) ^^^ nP 0).toBitVec) ||| 0#32 = BitVec.ofNat 32 (s ^^^ 2 ^ x)
      rw [y_nPx, BitVec.or_zero, BitVec.ofNat_xor]
      exact q.symm
  · rw [y_shl (by omega)]
    unfold y_shn
    by_cases c : s / 2 ^ x % 2 = 1
    · rw [if_pos c]
      have q := (y_flip2 (BitVec.ofNat 32 s) (BitVec.ofNat 32 (2 ^ x)) (by rw [← BitVec.ofNat_and, y_and1 c])).2
      apply Int32.toBitVec_inj.mp
      show (BitVec.ofNat 32 s &&& (nI (2 ^ x) ^^^ nP 0).toBitVec) ||| BitVec.ofNat 32 (2 ^ x) = BitVec.ofNat 32 s
      rw [y_nPx]
      exact q
    · rw [if_neg c]
      have c0 : s / 2 ^ x % 2 = 0 := by omega
      have q := (y_flip1 (BitVec.ofNat 32 s) (BitVec.ofNat 32 (2 ^ x)) (by rw [← BitVec.ofNat_and, y_and0 c0])).1
      apply Int32.toBitVec_inj.mp
      show (BitVec.ofNat 32 s &&& (nI (2 ^ x) ^^^ nP 0).toBitVec) ||| BitVec.ofNat 32 (2 ^ x) = BitVec.ofNat 32 (s ^^^ 2 ^ x)
      rw [y_nPx, BitVec.ofNat_xor]
      exact q.symm
theorem y_shn_o {s x w j : Nat} (h : j ≠ x) : y_shn s x w / 2 ^ j % 2 = s / 2 ^ j % 2 := by
  unfold y_shn
  split
  · rfl
  · rw [y_tb2, y_tb2, Nat.testBit_xor, Nat.testBit_two_pow_of_ne (fun z => h z.symm), Bool.xor_false]
theorem y_shn_lt {s x w n : Nat} (hs : s < 2 ^ n) (hx : x < n) : y_shn s x w < 2 ^ n := by
  unfold y_shn
  split
  · exact hs
  · exact Nat.xor_lt_two_pow hs (Nat.pow_lt_pow_right (by omega) hx)
theorem y_su_0 {f : Nat → Nat} : ∀ m i, y_su f m i 0 = 0 → ∀ j, i ≤ j → j < i + m → f j = 0 := by
  intro m
  induction m with
  | zero => intro i _ j h1 h2; omega
  | succ m ih =>
    intro i h j h1 h2
    rw [y_su_s] at h
    by_cases e : j = i
    · subst e; omega
    · exact ih (i + 1) (by omega) j (by omega) (by omega)
theorem y_oft0 {b : Nat → Nat} {x : Nat} (h : y_oft b x = 0) {k : Nat} (hk : k < b 5) : b (24 + 3 * k) ≠ x ∧ b (25 + 3 * k) ≠ x + 1 := by
  have q := y_su_0 (b 5) 0 h k (by omega) (by omega)
  unfold y_of1 at q
  by_cases c : b (24 + 3 * k) = x ∨ b (25 + 3 * k) = x + 1
  · rw [if_pos c] at q; omega
  · omega
theorem y_W.set7 {b : Nat → Nat} {x w : Nat} (h : y_W b) (hx : x < y_ho b) (ho : y_oft b x = 0) : y_W (y_u b 7 (y_shn (b 7) x w)) := by
  have b5 := h.b5; have b4 := h.b4
  obtain ⟨⟨a0, a1, a2, a3, a4, a5, a6, a7, a9⟩, h2, h3, h4, h5, h6, h7, h8, h9⟩ := h
  have nw := y_shn_lt (w := w) a7 hx
  unfold y_W y_ho at *
  refine ⟨?_, ?_, ?_, ?_, ?_, fun j hj => ?_, fun j l hj hl => ?_, fun j hj => ?_, fun j hj => ?_⟩
  · simp (disch := omega) only [y_ue, y_un]; exact ⟨a0, a1, a2, a3, a4, a5, a6, nw, a9⟩
  · simp (disch := omega) only [y_un]; exact h2
  · simp (disch := omega) only [y_un]; exact h3
  · simp (disch := omega) only [y_un]; exact h4
  · simp (disch := omega) only [y_un]; exact h5
  · simp (disch := omega) only [y_un] at hj; simp (disch := omega) only [y_un]; exact h6 j hj
  · simp (disch := omega) only [y_un] at hl; simp (disch := omega) only [y_un]; exact h7 j l hj hl
  · simp (disch := omega) only [y_un] at hj
    have q := h8 j hj
    have o := y_oft0 ho hj
    simp (disch := omega) only [y_ue, y_un]
    refine ⟨q.1, q.2.1, q.2.2.1, q.2.2.2.1, q.2.2.2.2.1, ?_, fun z => ?_⟩
    · rw [y_shn_o o.1]; exact q.2.2.2.2.2.1
    · rw [y_shn_o (by omega)]; exact q.2.2.2.2.2.2 z
  · simp (disch := omega) only [y_un] at hj; simp (disch := omega) only [y_un]; exact h9 j hj
theorem y_N.set7 {σ : j_G} {b : Nat → Nat} {k : Nat} (h : y_N σ b) : y_N (j_si σ 1 6 (nI k)) (y_u b 7 k) := by
  obtain ⟨⟨f1, f2, f3, f4, f5, f6, f7, f10, d0, d1⟩, f8, s, t, c⟩ := h
  unfold y_N y_cb
  refine ⟨?_, ?_, ?_, ?_, ?_⟩
  · simp (disch := omega) only [j_r_ne, j_r_eq, j_r_nj, y_ue, y_un]
    exact ⟨f1, f2, f3, f4, f5, trivial, f7, f10, d0, d1⟩
  · simp (disch := omega) only [j_r_ne, j_r_eq, j_r_nj, y_ue, y_un]; exact f8
  · simp (disch := omega) only [j_r_ne, j_r_eq, j_r_nj, y_ue, y_un]; exact s
  · intro p q hp hq
    simp (disch := omega) only [y_ue, y_un] at hp
    have := t p q hp hq
    simp (disch := omega) only [j_r_ne, j_r_eq, j_r_nj, y_ue, y_un]; exact this
  · simp (disch := omega) only [j_r_ne, j_r_eq, j_r_nj, y_ue, y_un]; exact c
section Z
variable {σ τ : j_G}
theorem z_turn (hR : j_Rel σ τ) (a1 : Int32) : ∃ v σ1 τ1, f_X11_turn a1 σ = some (v, σ1) ∧ f_X12_turn a1 τ = some (v, τ1) ∧ j_Rel σ1 τ1 := by
  obtain ⟨b, hW, hN, hM, hK⟩ := id hR
  have h5 := hW.b5
  by_cases h : y_rg a1 (b 5)
  · obtain ⟨k, hk, rfl⟩ := y_of _ _ h.1 h.2
    refine ⟨nI (b 8), j_si σ 5 1 (nI k), j_si τ 76 8 (nI k), ?_, ?_, y_u b 8 k, hW.set8 hk, hN.set8, hM.set (by omega), hK.fr2 (y_kc.w (by omega)) y_km.w⟩
    · unfold f_X11_turn; simp (disch := omega) only [y_lit, y_n1, nI_add, pk_mul, j_lt, j_b1_s, j_b2_s, j_b3_s, j_b0_s, y_bo, y_bo1, y_bo0, y_i0, y_i1, Classical.not_not, nI_clamp, y_ix, y_lt, y_le, y_eq, y_nP, y_nPs, y_ltP, y_ltQ, y_ltPP, y_eqP, y_eqQ, y_eqPP, if_pos, if_neg, ite_true, ite_false, not_true_eq_false, not_false_eq_true, and_true, true_and, and_false, false_and, or_true, true_or, or_false, false_or, yc_has hN hW, y_rn, hN.d1]
    · unfold f_X12_turn; simp (disch := omega) only [y_lit, y_n1, nI_add, pk_mul, j_lt, j_b1_s, j_b2_s, j_b3_s, j_b0_s, y_bo, y_bo1, y_bo0, y_i0, y_i1, Classical.not_not, nI_clamp, y_ix, y_lt, y_le, y_eq, y_nP, y_nPs, y_ltP, y_ltQ, y_ltPP, y_eqP, y_eqQ, y_eqPP, if_pos, if_neg, ite_true, ite_false, not_true_eq_false, not_false_eq_true, and_true, true_and, and_false, false_and, or_true, true_or, or_false, false_or, ym_isComing hM hW, y_rn, hM.f]
  · refine ⟨-2, σ, τ, ?_, ?_, hR⟩
    · unfold f_X11_turn; simp (disch := omega) only [y_lit, y_n1, nI_add, pk_mul, j_lt, j_b1_s, j_b2_s, j_b3_s, j_b0_s, y_bo, y_bo1, y_bo0, y_i0, y_i1, Classical.not_not, nI_clamp, y_ix, y_lt, y_le, y_eq, y_nP, y_nPs, y_ltP, y_ltQ, y_ltPP, y_eqP, y_eqQ, y_eqPP, if_pos, if_neg, ite_true, ite_false, not_true_eq_false, not_false_eq_true, and_true, true_and, and_false, false_and, or_true, true_or, or_false, false_or, yc_has hN hW, h]
    · unfold f_X12_turn; simp (disch := omega) only [y_lit, y_n1, nI_add, pk_mul, j_lt, j_b1_s, j_b2_s, j_b3_s, j_b0_s, y_bo, y_bo1, y_bo0, y_i0, y_i1, Classical.not_not, nI_clamp, y_ix, y_lt, y_le, y_eq, y_nP, y_nPs, y_ltP, y_ltQ, y_ltPP, y_eqP, y_eqQ, y_eqPP, if_pos, if_neg, ite_true, ite_false, not_true_eq_false, not_false_eq_true, and_true, true_and, and_false, false_and, or_true, true_or, or_false, false_or, ym_isComing hM hW, h]
theorem z_paint (hR : j_Rel σ τ) (a1 a2 : Int32) : ∃ v σ1 τ1, f_X11_paint a1 a2 σ = some (v, σ1) ∧ f_X12_paint a1 a2 τ = some (v, τ1) ∧ j_Rel σ1 τ1 := by
  obtain ⟨b, hW, hN, hM, hK⟩ := id hR
  have h5 := hW.b5
  have h4 := hW.ho
  by_cases h : y_rg a1 (b 5)
  · by_cases h2 : y_rg a2 2
    · obtain ⟨k, hk, rfl⟩ := y_of _ _ h.1 h.2
      obtain ⟨w, hw, rfl⟩ := y_of _ _ h2.1 h2.2
      have q := hW.co hk
      by_cases c : b (25 + 3 * k) = 0
      · refine ⟨nI (b (26 + 3 * k)), j_si σ 8 k (nI w), j_si τ 76 (26 + 3 * k) (nI w), ?_, ?_, y_u b (26 + 3 * k) w, hW.setr hk (by omega) c, hN.setr hW hk, hM.set (by omega), hK.fr2 (y_kc.w (by omega)) y_km.w⟩
        · unfold f_X11_paint; simp (disch := omega) only [y_lit, y_n1, nI_add, pk_mul, j_lt, j_b1_s, j_b2_s, j_b3_s, j_b0_s, y_bo, y_bo1, y_bo0, y_i0, y_i1, Classical.not_not, nI_clamp, y_ix, y_lt, y_le, y_eq, y_nP, y_nPs, y_ltP, y_ltQ, y_ltPP, y_eqP, y_eqQ, y_eqPP, if_pos, if_neg, ite_true, ite_false, not_true_eq_false, not_false_eq_true, and_true, true_and, and_false, false_and, or_true, true_or, or_false, false_or, yc_has hN hW, y_rn, hN.k1 hk, hN.k2 hk]
        · unfold f_X12_paint; simp (disch := omega) only [y_lit, y_n1, nI_add, pk_mul, j_lt, j_b1_s, j_b2_s, j_b3_s, j_b0_s, y_bo, y_bo1, y_bo0, y_i0, y_i1, Classical.not_not, nI_clamp, y_ix, y_lt, y_le, y_eq, y_nP, y_nPs, y_ltP, y_ltQ, y_ltPP, y_eqP, y_eqQ, y_eqPP, if_pos, if_neg, ite_true, ite_false, not_true_eq_false, not_false_eq_true, and_true, true_and, and_false, false_and, or_true, true_or, or_false, false_or, ym_isComing hM hW, y_rn, y_lit64, y_in, ym_co1 hM, ym_co2 hM, Nat.add_right_comm 24 _ 2]
      · refine ⟨-2, σ, τ, ?_, ?_, hR⟩
        · unfold f_X11_paint; simp (disch := omega) only [y_lit, y_n1, nI_add, pk_mul, j_lt, j_b1_s, j_b2_s, j_b3_s, j_b0_s, y_bo, y_bo1, y_bo0, y_i0, y_i1, Classical.not_not, nI_clamp, y_ix, y_lt, y_le, y_eq, y_nP, y_nPs, y_ltP, y_ltQ, y_ltPP, y_eqP, y_eqQ, y_eqPP, if_pos, if_neg, ite_true, ite_false, not_true_eq_false, not_false_eq_true, and_true, true_and, and_false, false_and, or_true, true_or, or_false, false_or, yc_has hN hW, y_rn, hN.k1 hk]
        · unfold f_X12_paint; simp (disch := omega) only [y_lit, y_n1, nI_add, pk_mul, j_lt, j_b1_s, j_b2_s, j_b3_s, j_b0_s, y_bo, y_bo1, y_bo0, y_i0, y_i1, Classical.not_not, nI_clamp, y_ix, y_lt, y_le, y_eq, y_nP, y_nPs, y_ltP, y_ltQ, y_ltPP, y_eqP, y_eqQ, y_eqPP, if_pos, if_neg, ite_true, ite_false, not_true_eq_false, not_false_eq_true, and_true, true_and, and_false, false_and, or_true, true_or, or_false, false_or, ym_isComing hM hW, y_rn, y_lit64, y_in, ym_co1 hM]
    · refine ⟨-2, σ, τ, ?_, ?_, hR⟩
      · unfold f_X11_paint; simp (disch := omega) only [y_lit, y_n1, nI_add, pk_mul, j_lt, j_b1_s, j_b2_s, j_b3_s, j_b0_s, y_bo, y_bo1, y_bo0, y_i0, y_i1, Classical.not_not, nI_clamp, y_ix, y_lt, y_le, y_eq, y_nP, y_nPs, y_ltP, y_ltQ, y_ltPP, y_eqP, y_eqQ, y_eqPP, if_pos, if_neg, ite_true, ite_false, not_true_eq_false, not_false_eq_true, and_true, true_and, and_false, false_and, or_true, true_or, or_false, false_or, yc_has hN hW, y_c3, h2]
      · unfold f_X12_paint; simp (disch := omega) only [y_lit, y_n1, nI_add, pk_mul, j_lt, j_b1_s, j_b2_s, j_b3_s, j_b0_s, y_bo, y_bo1, y_bo0, y_i0, y_i1, Classical.not_not, nI_clamp, y_ix, y_lt, y_le, y_eq, y_nP, y_nPs, y_ltP, y_ltQ, y_ltPP, y_eqP, y_eqQ, y_eqPP, if_pos, if_neg, ite_true, ite_false, not_true_eq_false, not_false_eq_true, and_true, true_and, and_false, false_and, or_true, true_or, or_false, false_or, ym_isComing hM hW, y_lit64, y_in, y_c3, h2]
  · refine ⟨-2, σ, τ, ?_, ?_, hR⟩
    · unfold f_X11_paint; simp (disch := omega) only [y_lit, y_n1, nI_add, pk_mul, j_lt, j_b1_s, j_b2_s, j_b3_s, j_b0_s, y_bo, y_bo1, y_bo0, y_i0, y_i1, Classical.not_not, nI_clamp, y_ix, y_lt, y_le, y_eq, y_nP, y_nPs, y_ltP, y_ltQ, y_ltPP, y_eqP, y_eqQ, y_eqPP, if_pos, if_neg, ite_true, ite_false, not_true_eq_false, not_false_eq_true, and_true, true_and, and_false, false_and, or_true, true_or, or_false, false_or, yc_has hN hW, h]
    · unfold f_X12_paint; simp (disch := omega) only [y_lit, y_n1, nI_add, pk_mul, j_lt, j_b1_s, j_b2_s, j_b3_s, j_b0_s, y_bo, y_bo1, y_bo0, y_i0, y_i1, Classical.not_not, nI_clamp, y_ix, y_lt, y_le, y_eq, y_nP, y_nPs, y_ltP, y_ltQ, y_ltPP, y_eqP, y_eqQ, y_eqPP, if_pos, if_neg, ite_true, ite_false, not_true_eq_false, not_false_eq_true, and_true, true_and, and_false, false_and, or_true, true_or, or_false, false_or, ym_isComing hM hW, h]
theorem z_shut (hR : j_Rel σ τ) (a1 a2 : Int32) : ∃ v σ1 τ1, f_X11_shut a1 a2 σ = some (v, σ1) ∧ f_X12_shut a1 a2 τ = some (v, τ1) ∧ j_Rel σ1 τ1 := by
  obtain ⟨b, hW, hN, hM, hK⟩ := id hR
  have h5 := hW.b5
  have h4 := hW.ho
  by_cases h : y_rg a1 (y_ho b)
  · by_cases h2 : y_rg a2 2
    · obtain ⟨x, hx, rfl⟩ := y_of _ _ h.1 h.2
      obtain ⟨w, hw, rfl⟩ := y_of _ _ h2.1 h2.2
      have ol := y_oft_le b x
      by_cases c : y_oft b x = 0
      · have sl := y_sh_le b x
        have e2 : (nI (b 7) &&& (nI (2 ^ x) ^^^ nP 0)) ||| (nI w <<< (nI x &&& nI 31)) = nI (y_shn (b 7) x w) := ym_shn (by omega) (by omega)
        have hm : f_X12_shut (nI x) (nI w) τ = some (nI (y_sh b x), j_si τ 76 7 (nI (y_shn (b 7) x w))) := by
          unfold f_X12_shut; simp (disch := omega) only [y_lit, y_n1, nI_add, pk_mul, j_lt, j_b1_s, j_b2_s, j_b3_s, j_b0_s, y_bo, y_bo1, y_bo0, y_i0, y_i1, Classical.not_not, nI_clamp, y_ix, y_lt, y_le, y_eq, y_nP, y_nPs, y_ltP, y_ltQ, y_ltPP, y_eqP, y_eqQ, y_eqPP, if_pos, if_neg, ite_true, ite_false, not_true_eq_false, not_false_eq_true, and_true, true_and, and_false, false_and, or_true, true_or, or_false, false_or, ym_isHole hM hW, y_rn, y_lit64, y_in, ym_oft hM hW, c, ym_isShut hM hW, hM.f, y_shl, e2]
          by_cases s : y_sh b x = 1
          · rw [if_pos s, s]
          · have s0 : y_sh b x = 0 := by omega
            rw [if_neg s, s0]
        by_cases d : y_sh b x = w
        · have es : y_shn (b 7) x w = b 7 := if_pos d
          rw [es] at hm
          have eb : y_u b 7 (b 7) = b := y_uid
          have hM1 := hM.set (j := 7) (v := b 7) (by omega)
          rw [eb] at hM1
          refine ⟨nI (y_sh b x), σ, j_si τ 76 7 (nI (b 7)), ?_, hm, b, hW, hN, hM1, hK.fr2 y_kc.refl y_km.w⟩
          unfold f_X11_shut; simp (disch := omega) only [y_lit, y_n1, nI_add, pk_mul, j_lt, j_b1_s, j_b2_s, j_b3_s, j_b0_s, y_bo, y_bo1, y_bo0, y_i0, y_i1, Classical.not_not, nI_clamp, y_ix, y_lt, y_le, y_eq, y_nP, y_nPs, y_ltP, y_ltQ, y_ltPP, y_eqP, y_eqQ, y_eqPP, if_pos, if_neg, ite_true, ite_false, not_true_eq_false, not_false_eq_true, and_true, true_and, and_false, false_and, or_true, true_or, or_false, false_or, yc_isHole hN hW, y_rn, yc_oft hN hW, c, yc_isShut hN hW]
          by_cases s : y_sh b x = 1
          · simp (disch := omega) only [y_lit, y_n1, nI_add, pk_mul, j_lt, j_b1_s, j_b2_s, j_b3_s, j_b0_s, y_bo, y_bo1, y_bo0, y_i0, y_i1, Classical.not_not, nI_clamp, y_ix, y_lt, y_le, y_eq, y_nP, y_nPs, y_ltP, y_ltQ, y_ltPP, y_eqP, y_eqQ, y_eqPP, if_pos, if_neg, ite_true, ite_false, not_true_eq_false, not_false_eq_true, and_true, true_and, and_false, false_and, or_true, true_or, or_false, false_or]
            rw [s]
          · have s0 : y_sh b x = 0 := by omega
            simp (disch := omega) only [y_lit, y_n1, nI_add, pk_mul, j_lt, j_b1_s, j_b2_s, j_b3_s, j_b0_s, y_bo, y_bo1, y_bo0, y_i0, y_i1, Classical.not_not, nI_clamp, y_ix, y_lt, y_le, y_eq, y_nP, y_nPs, y_ltP, y_ltQ, y_ltPP, y_eqP, y_eqQ, y_eqPP, if_pos, if_neg, ite_true, ite_false, not_true_eq_false, not_false_eq_true, and_true, true_and, and_false, false_and, or_true, true_or, or_false, false_or]
            rw [s0]
        · have es : y_shn (b 7) x w = b 7 ^^^ 2 ^ x := if_neg d
          refine ⟨nI (y_sh b x), j_si σ 1 6 (nI (y_shn (b 7) x w)), j_si τ 76 7 (nI (y_shn (b 7) x w)), ?_, hm, y_u b 7 (y_shn (b 7) x w), hW.set7 hx c, hN.set7, hM.set (by omega), hK.fr2 (y_kc.w (by omega)) y_km.w⟩
          unfold f_X11_shut; simp (disch := omega) only [y_lit, y_n1, nI_add, pk_mul, j_lt, j_b1_s, j_b2_s, j_b3_s, j_b0_s, y_bo, y_bo1, y_bo0, y_i0, y_i1, Classical.not_not, nI_clamp, y_ix, y_lt, y_le, y_eq, y_nP, y_nPs, y_ltP, y_ltQ, y_ltPP, y_eqP, y_eqQ, y_eqPP, if_pos, if_neg, ite_true, ite_false, not_true_eq_false, not_false_eq_true, and_true, true_and, and_false, false_and, or_true, true_or, or_false, false_or, yc_isHole hN hW, y_rn, yc_oft hN hW, c, yc_isShut hN hW, hN.f6, y_shl, y_xor, es]
          by_cases s : y_sh b x = 1
          · simp (disch := omega) only [y_lit, y_n1, nI_add, pk_mul, j_lt, j_b1_s, j_b2_s, j_b3_s, j_b0_s, y_bo, y_bo1, y_bo0, y_i0, y_i1, Classical.not_not, nI_clamp, y_ix, y_lt, y_le, y_eq, y_nP, y_nPs, y_ltP, y_ltQ, y_ltPP, y_eqP, y_eqQ, y_eqPP, if_pos, if_neg, ite_true, ite_false, not_true_eq_false, not_false_eq_true, and_true, true_and, and_false, false_and, or_true, true_or, or_false, false_or]
            rw [s]
          · have s0 : y_sh b x = 0 := by omega
            simp (disch := omega) only [y_lit, y_n1, nI_add, pk_mul, j_lt, j_b1_s, j_b2_s, j_b3_s, j_b0_s, y_bo, y_bo1, y_bo0, y_i0, y_i1, Classical.not_not, nI_clamp, y_ix, y_lt, y_le, y_eq, y_nP, y_nPs, y_ltP, y_ltQ, y_ltPP, y_eqP, y_eqQ, y_eqPP, if_pos, if_neg, ite_true, ite_false, not_true_eq_false, not_false_eq_true, and_true, true_and, and_false, false_and, or_true, true_or, or_false, false_or]
            rw [s0]
      · refine ⟨-2, σ, τ, ?_, ?_, hR⟩
        · unfold f_X11_shut; simp (disch := omega) only [y_lit, y_n1, nI_add, pk_mul, j_lt, j_b1_s, j_b2_s, j_b3_s, j_b0_s, y_bo, y_bo1, y_bo0, y_i0, y_i1, Classical.not_not, nI_clamp, y_ix, y_lt, y_le, y_eq, y_nP, y_nPs, y_ltP, y_ltQ, y_ltPP, y_eqP, y_eqQ, y_eqPP, if_pos, if_neg, ite_true, ite_false, not_true_eq_false, not_false_eq_true, and_true, true_and, and_false, false_and, or_true, true_or, or_false, false_or, yc_isHole hN hW, y_rn, yc_oft hN hW]
        · unfold f_X12_shut; simp (disch := omega) only [y_lit, y_n1, nI_add, pk_mul, j_lt, j_b1_s, j_b2_s, j_b3_s, j_b0_s, y_bo, y_bo1, y_bo0, y_i0, y_i1, Classical.not_not, nI_clamp, y_ix, y_lt, y_le, y_eq, y_nP, y_nPs, y_ltP, y_ltQ, y_ltPP, y_eqP, y_eqQ, y_eqPP, if_pos, if_neg, ite_true, ite_false, not_true_eq_false, not_false_eq_true, and_true, true_and, and_false, false_and, or_true, true_or, or_false, false_or, ym_isHole hM hW, y_rn, y_lit64, y_in, ym_oft hM hW]
    · refine ⟨-2, σ, τ, ?_, ?_, hR⟩
      · unfold f_X11_shut; simp (disch := omega) only [y_lit, y_n1, nI_add, pk_mul, j_lt, j_b1_s, j_b2_s, j_b3_s, j_b0_s, y_bo, y_bo1, y_bo0, y_i0, y_i1, Classical.not_not, nI_clamp, y_ix, y_lt, y_le, y_eq, y_nP, y_nPs, y_ltP, y_ltQ, y_ltPP, y_eqP, y_eqQ, y_eqPP, if_pos, if_neg, ite_true, ite_false, not_true_eq_false, not_false_eq_true, and_true, true_and, and_false, false_and, or_true, true_or, or_false, false_or, yc_isHole hN hW, y_c3, h2]
      · unfold f_X12_shut; simp (disch := omega) only [y_lit, y_n1, nI_add, pk_mul, j_lt, j_b1_s, j_b2_s, j_b3_s, j_b0_s, y_bo, y_bo1, y_bo0, y_i0, y_i1, Classical.not_not, nI_clamp, y_ix, y_lt, y_le, y_eq, y_nP, y_nPs, y_ltP, y_ltQ, y_ltPP, y_eqP, y_eqQ, y_eqPP, if_pos, if_neg, ite_true, ite_false, not_true_eq_false, not_false_eq_true, and_true, true_and, and_false, false_and, or_true, true_or, or_false, false_or, ym_isHole hM hW, y_lit64, y_in, y_c3, h2]
  · refine ⟨-2, σ, τ, ?_, ?_, hR⟩
    · unfold f_X11_shut; simp (disch := omega) only [y_lit, y_n1, nI_add, pk_mul, j_lt, j_b1_s, j_b2_s, j_b3_s, j_b0_s, y_bo, y_bo1, y_bo0, y_i0, y_i1, Classical.not_not, nI_clamp, y_ix, y_lt, y_le, y_eq, y_nP, y_nPs, y_ltP, y_ltQ, y_ltPP, y_eqP, y_eqQ, y_eqPP, if_pos, if_neg, ite_true, ite_false, not_true_eq_false, not_false_eq_true, and_true, true_and, and_false, false_and, or_true, true_or, or_false, false_or, yc_isHole hN hW, h]
    · unfold f_X12_shut; simp (disch := omega) only [y_lit, y_n1, nI_add, pk_mul, j_lt, j_b1_s, j_b2_s, j_b3_s, j_b0_s, y_bo, y_bo1, y_bo0, y_i0, y_i1, Classical.not_not, nI_clamp, y_ix, y_lt, y_le, y_eq, y_nP, y_nPs, y_ltP, y_ltQ, y_ltPP, y_eqP, y_eqQ, y_eqPP, if_pos, if_neg, ite_true, ite_false, not_true_eq_false, not_false_eq_true, and_true, true_and, and_false, false_and, or_true, true_or, or_false, false_or, ym_isHole hM hW, h]
end Z
/-! ===== train ===== -/
def y_tok (b : Nat → Nat) (q : Nat) (x : Int32) : Prop := (q = 0 ∧ 1 ≤ x.toInt ∧ x.toInt ≤ 9) ∨ (q = 1 ∧ y_rg x 21) ∨ (q = 2 ∧ y_rg x 100) ∨ (q = 3 ∧ y_rg x 10) ∨ (q = 4 ∧ y_rg x (y_ho b))
theorem y_c19 {x : Int32} : (¬ x < nI 1 ∧ ¬ nI 9 < x) ↔ 1 ≤ x.toInt ∧ x.toInt ≤ 9 := by
  rw [j_ltI, j_ltI, nI_toInt (by omega), nI_toInt (by omega)]; omega
section Z
variable {σ τ : j_G}
theorem z_train (hR : j_Rel σ τ) (a1 a2 a3 : Int32) : ∃ v σ1 τ1, f_X11_train a1 a2 a3 σ = some (v, σ1) ∧ f_X12_train a1 a2 a3 τ = some (v, τ1) ∧ j_Rel σ1 τ1 := by
  obtain ⟨b, hW, hN, hM, hK⟩ := id hR
  have h6 := hW.b6
  have h4 := hW.ho
  by_cases h : y_rg a1 (b 6)
  · obtain ⟨p, hp, rfl⟩ := y_of _ _ h.1 h.2
    have done : ∀ q n, q < 5 → ((q = 0 → 1 ≤ n ∧ n ≤ 9) ∧ (q = 1 → n ≤ 20) ∧ (q = 2 → n ≤ 99) ∧ (q = 3 → n ≤ 9) ∧ (q = 4 → n < y_ho b)) → a2 = nI q → a3 = nI n → ∃ v σ1 τ1, f_X11_train (nI p) a2 a3 σ = some (v, σ1) ∧ f_X12_train (nI p) a2 a3 τ = some (v, τ1) ∧ j_Rel σ1 τ1 := by
      intro q n hq hn e2 e3
      subst e2 e3
      have hnn : n < 200 := by obtain ⟨v0, v1, v2, v3, v4⟩ := hn; omega
      have et : f_X2_isTrait 1 (nI q) (nI n) σ = nI 1 := by
        unfold f_X2_isTrait
        obtain ⟨v0, v1, v2, v3, v4⟩ := hn
        obtain rfl | rfl | rfl | rfl | rfl : q = 0 ∨ q = 1 ∨ q = 2 ∨ q = 3 ∨ q = 4 := by omega
        · have := v0 rfl; clear v0 v1 v2 v3 v4; simp (disch := omega) only [y_lit, y_n1, nI_add, pk_mul, j_lt, j_b1_s, j_b2_s, j_b3_s, j_b0_s, y_bo, y_bo1, y_bo0, y_i0, y_i1, Classical.not_not, nI_clamp, y_ix, y_lt, y_le, y_eq, y_nP, y_nPs, y_ltP, y_ltQ, y_ltPP, y_eqP, y_eqQ, y_eqPP, if_pos, if_neg, ite_true, ite_false, not_true_eq_false, not_false_eq_true, and_true, true_and, and_false, false_and, or_true, true_or, or_false, false_or]
        · have := v1 rfl; clear v0 v1 v2 v3 v4; simp (disch := omega) only [y_lit, y_n1, nI_add, pk_mul, j_lt, j_b1_s, j_b2_s, j_b3_s, j_b0_s, y_bo, y_bo1, y_bo0, y_i0, y_i1, Classical.not_not, nI_clamp, y_ix, y_lt, y_le, y_eq, y_nP, y_nPs, y_ltP, y_ltQ, y_ltPP, y_eqP, y_eqQ, y_eqPP, if_pos, if_neg, ite_true, ite_false, not_true_eq_false, not_false_eq_true, and_true, true_and, and_false, false_and, or_true, true_or, or_false, false_or]
        · have := v2 rfl; clear v0 v1 v2 v3 v4; simp (disch := omega) only [y_lit, y_n1, nI_add, pk_mul, j_lt, j_b1_s, j_b2_s, j_b3_s, j_b0_s, y_bo, y_bo1, y_bo0, y_i0, y_i1, Classical.not_not, nI_clamp, y_ix, y_lt, y_le, y_eq, y_nP, y_nPs, y_ltP, y_ltQ, y_ltPP, y_eqP, y_eqQ, y_eqPP, if_pos, if_neg, ite_true, ite_false, not_true_eq_false, not_false_eq_true, and_true, true_and, and_false, false_and, or_true, true_or, or_false, false_or]
        · have := v3 rfl; clear v0 v1 v2 v3 v4; simp (disch := omega) only [y_lit, y_n1, nI_add, pk_mul, j_lt, j_b1_s, j_b2_s, j_b3_s, j_b0_s, y_bo, y_bo1, y_bo0, y_i0, y_i1, Classical.not_not, nI_clamp, y_ix, y_lt, y_le, y_eq, y_nP, y_nPs, y_ltP, y_ltQ, y_ltPP, y_eqP, y_eqQ, y_eqPP, if_pos, if_neg, ite_true, ite_false, not_true_eq_false, not_false_eq_true, and_true, true_and, and_false, false_and, or_true, true_or, or_false, false_or]
        · have := v4 rfl; clear v0 v1 v2 v3 v4; simp (disch := omega) only [y_lit, y_n1, nI_add, pk_mul, j_lt, j_b1_s, j_b2_s, j_b3_s, j_b0_s, y_bo, y_bo1, y_bo0, y_i0, y_i1, Classical.not_not, nI_clamp, y_ix, y_lt, y_le, y_eq, y_nP, y_nPs, y_ltP, y_ltQ, y_ltPP, y_eqP, y_eqQ, y_eqPP, if_pos, if_neg, ite_true, ite_false, not_true_eq_false, not_false_eq_true, and_true, true_and, and_false, false_and, or_true, true_or, or_false, false_or, yc_isHole hN hW, y_rn]
      refine ⟨nI (b (96 + 5 * p + q)), j_si σ 4 (5 * p + q) (nI n), j_si τ 76 (96 + 5 * p + q) (nI n), ?_, ?_, y_u b (96 + 5 * p + q) n, hW.sett hp hq hn, hN.sett hW hp hq, hM.set (by omega), hK.fr2 (y_kc.w (by omega)) y_km.w⟩
      · unfold f_X11_train f_X2_setTrait; simp (disch := omega) only [y_lit, y_n1, nI_add, pk_mul, j_lt, j_b1_s, j_b2_s, j_b3_s, j_b0_s, y_bo, y_bo1, y_bo0, y_i0, y_i1, Classical.not_not, nI_clamp, y_ix, y_lt, y_le, y_eq, y_nP, y_nPs, y_ltP, y_ltQ, y_ltPP, y_eqP, y_eqQ, y_eqPP, if_pos, if_neg, ite_true, ite_false, not_true_eq_false, not_false_eq_true, and_true, true_and, and_false, false_and, or_true, true_or, or_false, false_or, yc_isPlayer hN hW, y_rn, et, yc_trait hN hW, Nat.mul_comm p 5]
      · unfold f_X12_train
        obtain ⟨v0, v1, v2, v3, v4⟩ := hn
        obtain rfl | rfl | rfl | rfl | rfl : q = 0 ∨ q = 1 ∨ q = 2 ∨ q = 3 ∨ q = 4 := by omega
        · have := v0 rfl; clear v0 v1 v2 v3 v4; simp (disch := omega) only [y_lit, y_n1, nI_add, pk_mul, j_lt, j_b1_s, j_b2_s, j_b3_s, j_b0_s, y_bo, y_bo1, y_bo0, y_i0, y_i1, Classical.not_not, nI_clamp, y_ix, y_lt, y_le, y_eq, y_nP, y_nPs, y_ltP, y_ltQ, y_ltPP, y_eqP, y_eqQ, y_eqPP, if_pos, if_neg, ite_true, ite_false, not_true_eq_false, not_false_eq_true, and_true, true_and, and_false, false_and, or_true, true_or, or_false, false_or, ym_isPlayer hM hW, y_rn, y_lit64, y_in, ym_of hM]
        · have := v1 rfl; clear v0 v1 v2 v3 v4; simp (disch := omega) only [y_lit, y_n1, nI_add, pk_mul, j_lt, j_b1_s, j_b2_s, j_b3_s, j_b0_s, y_bo, y_bo1, y_bo0, y_i0, y_i1, Classical.not_not, nI_clamp, y_ix, y_lt, y_le, y_eq, y_nP, y_nPs, y_ltP, y_ltQ, y_ltPP, y_eqP, y_eqQ, y_eqPP, if_pos, if_neg, ite_true, ite_false, not_true_eq_false, not_false_eq_true, and_true, true_and, and_false, false_and, or_true, true_or, or_false, false_or, ym_isPlayer hM hW, y_rn, y_lit64, y_in, ym_of hM]
        · have := v2 rfl; clear v0 v1 v2 v3 v4; simp (disch := omega) only [y_lit, y_n1, nI_add, pk_mul, j_lt, j_b1_s, j_b2_s, j_b3_s, j_b0_s, y_bo, y_bo1, y_bo0, y_i0, y_i1, Classical.not_not, nI_clamp, y_ix, y_lt, y_le, y_eq, y_nP, y_nPs, y_ltP, y_ltQ, y_ltPP, y_eqP, y_eqQ, y_eqPP, if_pos, if_neg, ite_true, ite_false, not_true_eq_false, not_false_eq_true, and_true, true_and, and_false, false_and, or_true, true_or, or_false, false_or, ym_isPlayer hM hW, y_rn, y_lit64, y_in, ym_of hM]
        · have := v3 rfl; clear v0 v1 v2 v3 v4; simp (disch := omega) only [y_lit, y_n1, nI_add, pk_mul, j_lt, j_b1_s, j_b2_s, j_b3_s, j_b0_s, y_bo, y_bo1, y_bo0, y_i0, y_i1, Classical.not_not, nI_clamp, y_ix, y_lt, y_le, y_eq, y_nP, y_nPs, y_ltP, y_ltQ, y_ltPP, y_eqP, y_eqQ, y_eqPP, if_pos, if_neg, ite_true, ite_false, not_true_eq_false, not_false_eq_true, and_true, true_and, and_false, false_and, or_true, true_or, or_false, false_or, ym_isPlayer hM hW, y_rn, y_lit64, y_in, ym_of hM]
        · have := v4 rfl; clear v0 v1 v2 v3 v4; simp (disch := omega) only [y_lit, y_n1, nI_add, pk_mul, j_lt, j_b1_s, j_b2_s, j_b3_s, j_b0_s, y_bo, y_bo1, y_bo0, y_i0, y_i1, Classical.not_not, nI_clamp, y_ix, y_lt, y_le, y_eq, y_nP, y_nPs, y_ltP, y_ltQ, y_ltPP, y_eqP, y_eqQ, y_eqPP, if_pos, if_neg, ite_true, ite_false, not_true_eq_false, not_false_eq_true, and_true, true_and, and_false, false_and, or_true, true_or, or_false, false_or, ym_isPlayer hM hW, y_rn, y_lit64, y_in, ym_of hM, ym_isHole hM hW]
    have bad : f_X2_isTrait 1 a2 a3 σ = nI 0 → f_X12_train (nI p) a2 a3 τ = some (-2, τ) → ∃ v σ1 τ1, f_X11_train (nI p) a2 a3 σ = some (v, σ1) ∧ f_X12_train (nI p) a2 a3 τ = some (v, τ1) ∧ j_Rel σ1 τ1 := by
      intro e1 e2
      refine ⟨-2, σ, τ, ?_, e2, hR⟩
      unfold f_X11_train; simp (disch := omega) only [y_lit, y_n1, nI_add, pk_mul, j_lt, j_b1_s, j_b2_s, j_b3_s, j_b0_s, y_bo, y_bo1, y_bo0, y_i0, y_i1, Classical.not_not, nI_clamp, y_ix, y_lt, y_le, y_eq, y_nP, y_nPs, y_ltP, y_ltQ, y_ltPP, y_eqP, y_eqQ, y_eqPP, if_pos, if_neg, ite_true, ite_false, not_true_eq_false, not_false_eq_true, and_true, true_and, and_false, false_and, or_true, true_or, or_false, false_or, yc_isPlayer hN hW, y_rn, e1]
    by_cases c0 : a2 = nI 0
    · subst c0
      by_cases d : 1 ≤ a3.toInt ∧ a3.toInt ≤ 9
      · obtain ⟨n, hn, rfl⟩ := y_of a3 10 (by omega) (by omega)
        rw [nI_toInt (by omega)] at d
        exact done 0 n (by omega) ⟨fun _ => by omega, fun z => absurd z (by decide), fun z => absurd z (by decide), fun z => absurd z (by decide), fun z => absurd z (by decide)⟩ rfl rfl
      · refine bad ?_ ?_
        · unfold f_X2_isTrait; simp (disch := omega) only [y_lit, y_n1, nI_add, pk_mul, j_lt, j_b1_s, j_b2_s, j_b3_s, j_b0_s, y_bo, y_bo1, y_bo0, y_i0, y_i1, Classical.not_not, nI_clamp, y_ix, y_lt, y_le, y_eq, y_nP, y_nPs, y_ltP, y_ltQ, y_ltPP, y_eqP, y_eqQ, y_eqPP, if_pos, if_neg, ite_true, ite_false, not_true_eq_false, not_false_eq_true, and_true, true_and, and_false, false_and, or_true, true_or, or_false, false_or, y_c19, d]
        · unfold f_X12_train; simp (disch := omega) only [y_lit, y_n1, nI_add, pk_mul, j_lt, j_b1_s, j_b2_s, j_b3_s, j_b0_s, y_bo, y_bo1, y_bo0, y_i0, y_i1, Classical.not_not, nI_clamp, y_ix, y_lt, y_le, y_eq, y_nP, y_nPs, y_ltP, y_ltQ, y_ltPP, y_eqP, y_eqQ, y_eqPP, if_pos, if_neg, ite_true, ite_false, not_true_eq_false, not_false_eq_true, and_true, true_and, and_false, false_and, or_true, true_or, or_false, false_or, ym_isPlayer hM hW, y_rn, y_lit64, y_in, y_c19, d]
    by_cases c1 : a2 = nI 1
    · subst c1
      by_cases d : y_rg a3 21
      · obtain ⟨n, hn, rfl⟩ := y_of _ _ d.1 d.2
        exact done 1 n (by omega) ⟨fun z => absurd z (by decide), fun _ => by omega, fun z => absurd z (by decide), fun z => absurd z (by decide), fun z => absurd z (by decide)⟩ rfl rfl
      · refine bad ?_ ?_
        · unfold f_X2_isTrait; simp (disch := omega) only [y_lit, y_n1, nI_add, pk_mul, j_lt, j_b1_s, j_b2_s, j_b3_s, j_b0_s, y_bo, y_bo1, y_bo0, y_i0, y_i1, Classical.not_not, nI_clamp, y_ix, y_lt, y_le, y_eq, y_nP, y_nPs, y_ltP, y_ltQ, y_ltPP, y_eqP, y_eqQ, y_eqPP, if_pos, if_neg, ite_true, ite_false, not_true_eq_false, not_false_eq_true, and_true, true_and, and_false, false_and, or_true, true_or, or_false, false_or, y_c3, d]
        · unfold f_X12_train; simp (disch := omega) only [y_lit, y_n1, nI_add, pk_mul, j_lt, j_b1_s, j_b2_s, j_b3_s, j_b0_s, y_bo, y_bo1, y_bo0, y_i0, y_i1, Classical.not_not, nI_clamp, y_ix, y_lt, y_le, y_eq, y_nP, y_nPs, y_ltP, y_ltQ, y_ltPP, y_eqP, y_eqQ, y_eqPP, if_pos, if_neg, ite_true, ite_false, not_true_eq_false, not_false_eq_true, and_true, true_and, and_false, false_and, or_true, true_or, or_false, false_or, ym_isPlayer hM hW, y_rn, y_lit64, y_in, y_c3, d]
    by_cases c2 : a2 = nI 2
    · subst c2
      by_cases d : y_rg a3 100
      · obtain ⟨n, hn, rfl⟩ := y_of _ _ d.1 d.2
        exact done 2 n (by omega) ⟨fun z => absurd z (by decide), fun z => absurd z (by decide), fun _ => by omega, fun z => absurd z (by decide), fun z => absurd z (by decide)⟩ rfl rfl
      · refine bad ?_ ?_
        · unfold f_X2_isTrait; simp (disch := omega) only [y_lit, y_n1, nI_add, pk_mul, j_lt, j_b1_s, j_b2_s, j_b3_s, j_b0_s, y_bo, y_bo1, y_bo0, y_i0, y_i1, Classical.not_not, nI_clamp, y_ix, y_lt, y_le, y_eq, y_nP, y_nPs, y_ltP, y_ltQ, y_ltPP, y_eqP, y_eqQ, y_eqPP, if_pos, if_neg, ite_true, ite_false, not_true_eq_false, not_false_eq_true, and_true, true_and, and_false, false_and, or_true, true_or, or_false, false_or, y_c3, d]
        · unfold f_X12_train; simp (disch := omega) only [y_lit, y_n1, nI_add, pk_mul, j_lt, j_b1_s, j_b2_s, j_b3_s, j_b0_s, y_bo, y_bo1, y_bo0, y_i0, y_i1, Classical.not_not, nI_clamp, y_ix, y_lt, y_le, y_eq, y_nP, y_nPs, y_ltP, y_ltQ, y_ltPP, y_eqP, y_eqQ, y_eqPP, if_pos, if_neg, ite_true, ite_false, not_true_eq_false, not_false_eq_true, and_true, true_and, and_false, false_and, or_true, true_or, or_false, false_or, ym_isPlayer hM hW, y_rn, y_lit64, y_in, y_c3, d]
    by_cases c3 : a2 = nI 3
    · subst c3
      by_cases d : y_rg a3 10
      · obtain ⟨n, hn, rfl⟩ := y_of _ _ d.1 d.2
        exact done 3 n (by omega) ⟨fun z => absurd z (by decide), fun z => absurd z (by decide), fun z => absurd z (by decide), fun _ => by omega, fun z => absurd z (by decide)⟩ rfl rfl
      · refine bad ?_ ?_
        · unfold f_X2_isTrait; simp (disch := omega) only [y_lit, y_n1, nI_add, pk_mul, j_lt, j_b1_s, j_b2_s, j_b3_s, j_b0_s, y_bo, y_bo1, y_bo0, y_i0, y_i1, Classical.not_not, nI_clamp, y_ix, y_lt, y_le, y_eq, y_nP, y_nPs, y_ltP, y_ltQ, y_ltPP, y_eqP, y_eqQ, y_eqPP, if_pos, if_neg, ite_true, ite_false, not_true_eq_false, not_false_eq_true, and_true, true_and, and_false, false_and, or_true, true_or, or_false, false_or, y_c3, d]
        · unfold f_X12_train; simp (disch := omega) only [y_lit, y_n1, nI_add, pk_mul, j_lt, j_b1_s, j_b2_s, j_b3_s, j_b0_s, y_bo, y_bo1, y_bo0, y_i0, y_i1, Classical.not_not, nI_clamp, y_ix, y_lt, y_le, y_eq, y_nP, y_nPs, y_ltP, y_ltQ, y_ltPP, y_eqP, y_eqQ, y_eqPP, if_pos, if_neg, ite_true, ite_false, not_true_eq_false, not_false_eq_true, and_true, true_and, and_false, false_and, or_true, true_or, or_false, false_or, ym_isPlayer hM hW, y_rn, y_lit64, y_in, y_c3, d]
    by_cases c4 : a2 = nI 4
    · subst c4
      by_cases d : y_rg a3 (y_ho b)
      · obtain ⟨n, hn, rfl⟩ := y_of _ _ d.1 d.2
        exact done 4 n (by omega) ⟨fun z => absurd z (by decide), fun z => absurd z (by decide), fun z => absurd z (by decide), fun z => absurd z (by decide), fun _ => by omega⟩ rfl rfl
      · refine bad ?_ ?_
        · unfold f_X2_isTrait; simp (disch := omega) only [y_lit, y_n1, nI_add, pk_mul, j_lt, j_b1_s, j_b2_s, j_b3_s, j_b0_s, y_bo, y_bo1, y_bo0, y_i0, y_i1, Classical.not_not, nI_clamp, y_ix, y_lt, y_le, y_eq, y_nP, y_nPs, y_ltP, y_ltQ, y_ltPP, y_eqP, y_eqQ, y_eqPP, if_pos, if_neg, ite_true, ite_false, not_true_eq_false, not_false_eq_true, and_true, true_and, and_false, false_and, or_true, true_or, or_false, false_or, yc_isHole hN hW, d]
        · unfold f_X12_train; simp (disch := omega) only [y_lit, y_n1, nI_add, pk_mul, j_lt, j_b1_s, j_b2_s, j_b3_s, j_b0_s, y_bo, y_bo1, y_bo0, y_i0, y_i1, Classical.not_not, nI_clamp, y_ix, y_lt, y_le, y_eq, y_nP, y_nPs, y_ltP, y_ltQ, y_ltPP, y_eqP, y_eqQ, y_eqPP, if_pos, if_neg, ite_true, ite_false, not_true_eq_false, not_false_eq_true, and_true, true_and, and_false, false_and, or_true, true_or, or_false, false_or, ym_isPlayer hM hW, y_rn, ym_isHole hM hW, d]
    · refine bad ?_ ?_
      · unfold f_X2_isTrait; simp (disch := omega) only [y_lit, y_n1, nI_add, pk_mul, j_lt, j_b1_s, j_b2_s, j_b3_s, j_b0_s, y_bo, y_bo1, y_bo0, y_i0, y_i1, Classical.not_not, nI_clamp, y_ix, y_lt, y_le, y_eq, y_nP, y_nPs, y_ltP, y_ltQ, y_ltPP, y_eqP, y_eqQ, y_eqPP, if_pos, if_neg, ite_true, ite_false, not_true_eq_false, not_false_eq_true, and_true, true_and, and_false, false_and, or_true, true_or, or_false, false_or, c0, c1, c2, c3, c4]
      · unfold f_X12_train; simp (disch := omega) only [y_lit, y_n1, nI_add, pk_mul, j_lt, j_b1_s, j_b2_s, j_b3_s, j_b0_s, y_bo, y_bo1, y_bo0, y_i0, y_i1, Classical.not_not, nI_clamp, y_ix, y_lt, y_le, y_eq, y_nP, y_nPs, y_ltP, y_ltQ, y_ltPP, y_eqP, y_eqQ, y_eqPP, if_pos, if_neg, ite_true, ite_false, not_true_eq_false, not_false_eq_true, and_true, true_and, and_false, false_and, or_true, true_or, or_false, false_or, ym_isPlayer hM hW, y_rn, c0, c1, c2, c3, c4]
  · refine ⟨-2, σ, τ, ?_, ?_, hR⟩
    · unfold f_X11_train; simp (disch := omega) only [y_lit, y_n1, nI_add, pk_mul, j_lt, j_b1_s, j_b2_s, j_b3_s, j_b0_s, y_bo, y_bo1, y_bo0, y_i0, y_i1, Classical.not_not, nI_clamp, y_ix, y_lt, y_le, y_eq, y_nP, y_nPs, y_ltP, y_ltQ, y_ltPP, y_eqP, y_eqQ, y_eqPP, if_pos, if_neg, ite_true, ite_false, not_true_eq_false, not_false_eq_true, and_true, true_and, and_false, false_and, or_true, true_or, or_false, false_or, yc_isPlayer hN hW, h]
    · unfold f_X12_train; simp (disch := omega) only [y_lit, y_n1, nI_add, pk_mul, j_lt, j_b1_s, j_b2_s, j_b3_s, j_b0_s, y_bo, y_bo1, y_bo0, y_i0, y_i1, Classical.not_not, nI_clamp, y_ix, y_lt, y_le, y_eq, y_nP, y_nPs, y_ltP, y_ltQ, y_ltPP, y_eqP, y_eqQ, y_eqPP, if_pos, if_neg, ite_true, ite_false, not_true_eq_false, not_false_eq_true, and_true, true_and, and_false, false_and, or_true, true_or, or_false, false_or, ym_isPlayer hM hW, h]
end Z
/-! ===== the drum round, laws, path, breaks ===== -/
noncomputable def y_rd (b : Nat → Nat) (a : Nat) : Nat := b (24 + 3 * (a % b 5))
theorem y_fmI {a n : Nat} (ha : a < 2 ^ 30) (h0 : 0 < n) (hn : n < 2 ^ 30) : f_J9_floorMod_7cf53 (nI a) (nI n) = some (nI (a % n)) := by
  have hx : a ^^^ n < 2 ^ 30 := Nat.xor_lt_two_pow ha hn
  have hr : nI a - nI (a / n * n) = nI (a % n) := by
    rw [← pk_mul, ← pk_div (by omega) (by omega) (by omega), pk_rem (by omega) (by omega) (by omega)]
  unfold f_J9_floorMod_7cf53
  simp (disch := omega) only [y_lit, y_n1, nI_add, pk_mul, j_lt, j_b1_s, j_b2_s, j_b3_s, j_b0_s, y_bo, y_bo1, y_bo0, y_i0, y_i1, Classical.not_not, nI_clamp, y_ix, y_lt, y_le, y_eq, y_nP, y_nPs, y_ltP, y_ltQ, y_ltPP, y_eqP, y_eqQ, y_eqPP, if_pos, if_neg, ite_true, ite_false, not_true_eq_false, not_false_eq_true, and_true, true_and, and_false, false_and, or_true, true_or, or_false, false_or, y_xor, pk_div, hr]
theorem y_fm1 : ∀ n, n < 25 → 0 < n → f_J9_floorMod_7cf53 (nP 0) (nI n) = some (nI ((2 * n - 1) % n)) := by decide
theorem y_fm2 : ∀ n, n < 25 → 0 < n → f_J9_floorMod_7cf53 (nI 0 - nI 2) (nI n) = some (nI ((2 * n - 2) % n)) := by decide
theorem y_fm3 : ∀ n, n < 25 → 0 < n → f_J9_floorMod_7cf53 (nI 1 - nI 2) (nI n) = some (nI ((1 + 2 * n - 2) % n)) := by decide
theorem y_fmm {k c n : Nat} (hk : k < 100) (h0 : 0 < n) (hn : n < 25) (hc : c = 1 ∨ c = 2) : f_J9_floorMod_7cf53 (nI k - nI c) (nI n) = some (nI ((k + 2 * n - c) % n)) := by
  by_cases h : c ≤ k
  · rw [pk_sub h, y_fmI (by omega) h0 (by omega), show k + 2 * n - c = k - c + n * 2 from by omega, Nat.add_mul_mod_self_left]
  · rcases hc with rfl | rfl
    · obtain rfl : k = 0 := by omega
      rw [show nI 0 - nI 1 = nP 0 from rfl, y_fm1 n hn h0, Nat.zero_add]
    · obtain rfl | rfl : k = 0 ∨ k = 1 := by omega
      · rw [y_fm2 n hn h0, Nat.zero_add]
      · rw [y_fm3 n hn h0]
/-- may it come: its hole, the one ahead and 1, the one ahead of that and 1 -/
noncomputable def y_lz (b : Nat → Nat) (l h one two : Nat) : Nat := if l = 0 then 1 else if l = 1 then (if h + 1 = one then 0 else 1) else if l = 2 then (if one = 0 then 1 else if 1 < y_ap b h (one - 1) then 1 else 0) else (if h + 1 = one then 0 else if h + 1 = two then 0 else 1)
theorem y_lz_le (b : Nat → Nat) (l h one two : Nat) : y_lz b l h one two ≤ 1 := by
  unfold y_lz
  repeat' split
  all_goals omega
section C
variable {σ τ : j_G} {b : Nat → Nat}
theorem y_rd_lt (hW : y_W b) (h5 : 0 < b 5) (a : Nat) : y_rd b a < y_ho b := (hW.co (Nat.mod_lt _ h5)).1
theorem yc_round (hN : y_N σ b) (hW : y_W b) (h5 : 0 < b 5) {a : Nat} (ha : a < 10000) : f_X3_round (nI a) σ = some (nI (y_rd b a)) := by
  have b5 := hW.b5
  have hm : a % b 5 < b 5 := Nat.mod_lt _ h5
  unfold f_X3_round y_rd; simp (disch := omega) only [y_lit, y_n1, nI_add, pk_mul, j_lt, j_b1_s, j_b2_s, j_b3_s, j_b0_s, y_bo, y_bo1, y_bo0, y_i0, y_i1, Classical.not_not, nI_clamp, y_ix, y_lt, y_le, y_eq, y_nP, y_nPs, y_ltP, y_ltQ, y_ltPP, y_eqP, y_eqQ, y_eqPP, if_pos, if_neg, ite_true, ite_false, not_true_eq_false, not_false_eq_true, and_true, true_and, and_false, false_and, or_true, true_or, or_false, false_or, hN.d0, y_fmI]
  rw [hN.k0 hm]
theorem yc_roundm (hN : y_N σ b) (hW : y_W b) (h5 : 0 < b 5) {k c : Nat} (hk : k < 100) (hc : c = 1 ∨ c = 2) : f_X3_round (nI k - nI c) σ = some (nI (y_rd b (k + 2 * b 5 - c))) := by
  have b5 := hW.b5
  have hm : (k + 2 * b 5 - c) % b 5 < b 5 := Nat.mod_lt _ h5
  unfold f_X3_round y_rd
  rw [hN.d0, y_fmm hk h5 (by omega) hc]
  simp (disch := omega) only [y_lit, y_n1, nI_add, pk_mul, j_lt, j_b1_s, j_b2_s, j_b3_s, j_b0_s, y_bo, y_bo1, y_bo0, y_i0, y_i1, Classical.not_not, nI_clamp, y_ix, y_lt, y_le, y_eq, y_nP, y_nPs, y_ltP, y_ltQ, y_ltPP, y_eqP, y_eqQ, y_eqPP, if_pos, if_neg, ite_true, ite_false, not_true_eq_false, not_false_eq_true, and_true, true_and, and_false, false_and, or_true, true_or, or_false, false_or]
  rw [hN.k0 hm]
theorem ym_holeAt (hM : y_M τ b) (hW : y_W b) (h5 : 0 < b 5) {a : Nat} (ha : a < 10000) : f_X12_holeAt (nI a) τ = some (nI (y_rd b a)) := by
  have b5 := hW.b5
  have hm : a % b 5 < b 5 := Nat.mod_lt _ h5
  unfold f_X12_holeAt y_rd; simp (disch := omega) only [y_lit, y_n1, nI_add, pk_mul, j_lt, j_b1_s, j_b2_s, j_b3_s, j_b0_s, y_bo, y_bo1, y_bo0, y_i0, y_i1, Classical.not_not, nI_clamp, y_ix, y_lt, y_le, y_eq, y_nP, y_nPs, y_ltP, y_ltQ, y_ltPP, y_eqP, y_eqQ, y_eqPP, if_pos, if_neg, ite_true, ite_false, not_true_eq_false, not_false_eq_true, and_true, true_and, and_false, false_and, or_true, true_or, or_false, false_or, hM.f, y_fmI, ym_co0 hM]
theorem ym_holeAtm (hM : y_M τ b) (hW : y_W b) (h5 : 0 < b 5) {k c : Nat} (hk : k < 100) (hc : c = 1 ∨ c = 2) : f_X12_holeAt (nI k - nI c) τ = some (nI (y_rd b (k + 2 * b 5 - c))) := by
  have b5 := hW.b5
  have hm : (k + 2 * b 5 - c) % b 5 < b 5 := Nat.mod_lt _ h5
  have e5 := hM.f (j := 5) (by omega)
  unfold f_X12_holeAt y_rd
  rw [show (5 : Int32) = nI 5 from rfl, y_ix (by omega) (by omega), nI_clamp (by omega), e5, y_fmm hk h5 (by omega) hc]
  simp (disch := omega) only [y_lit, y_n1, nI_add, pk_mul, j_lt, j_b1_s, j_b2_s, j_b3_s, j_b0_s, y_bo, y_bo1, y_bo0, y_i0, y_i1, Classical.not_not, nI_clamp, y_ix, y_lt, y_le, y_eq, y_nP, y_nPs, y_ltP, y_ltQ, y_ltPP, y_eqP, y_eqQ, y_eqPP, if_pos, if_neg, ite_true, ite_false, not_true_eq_false, not_false_eq_true, and_true, true_and, and_false, false_and, or_true, true_or, or_false, false_or, ym_co0 hM]
theorem yc_lets (hN : y_N σ b) (hW : y_W b) (h9 : 0 < b 9) {l h one two : Nat} {B L : Int32} (hl : l < 4) (hh : h < 12) (h1 : one ≤ 12) (h2 : two ≤ 12) (hz : one = 0 → two = 0) (eB : B = nP two) (eL : L = nP one) : f_X2_lets (nI l) B L (nI h) σ = some (nI (y_lz b l h one two)) := by
  subst eB eL
  unfold f_X2_lets y_lz
  by_cases z : one = 0
  · subst z
    have hz2 := hz rfl
    subst hz2
    obtain rfl | rfl | rfl | rfl : l = 0 ∨ l = 1 ∨ l = 2 ∨ l = 3 := by omega
    · simp (disch := omega) only [y_lit, y_n1, nI_add, pk_mul, j_lt, j_b1_s, j_b2_s, j_b3_s, j_b0_s, y_bo, y_bo1, y_bo0, y_i0, y_i1, Classical.not_not, nI_clamp, y_ix, y_lt, y_le, y_eq, y_nP, y_nPs, y_ltP, y_ltQ, y_ltPP, y_eqP, y_eqQ, y_eqPP, if_pos, if_neg, ite_true, ite_false, not_true_eq_false, not_false_eq_true, and_true, true_and, and_false, false_and, or_true, true_or, or_false, false_or]
    · simp (disch := omega) only [y_lit, y_n1, nI_add, pk_mul, j_lt, j_b1_s, j_b2_s, j_b3_s, j_b0_s, y_bo, y_bo1, y_bo0, y_i0, y_i1, Classical.not_not, nI_clamp, y_ix, y_lt, y_le, y_eq, y_nP, y_nPs, y_ltP, y_ltQ, y_ltPP, y_eqP, y_eqQ, y_eqPP, if_pos, if_neg, ite_true, ite_false, not_true_eq_false, not_false_eq_true, and_true, true_and, and_false, false_and, or_true, true_or, or_false, false_or]
    · simp (disch := omega) only [y_lit, y_n1, nI_add, pk_mul, j_lt, j_b1_s, j_b2_s, j_b3_s, j_b0_s, y_bo, y_bo1, y_bo0, y_i0, y_i1, Classical.not_not, nI_clamp, y_ix, y_lt, y_le, y_eq, y_nP, y_nPs, y_ltP, y_ltQ, y_ltPP, y_eqP, y_eqQ, y_eqPP, if_pos, if_neg, ite_true, ite_false, not_true_eq_false, not_false_eq_true, and_true, true_and, and_false, false_and, or_true, true_or, or_false, false_or]
    · simp (disch := omega) only [y_lit, y_n1, nI_add, pk_mul, j_lt, j_b1_s, j_b2_s, j_b3_s, j_b0_s, y_bo, y_bo1, y_bo0, y_i0, y_i1, Classical.not_not, nI_clamp, y_ix, y_lt, y_le, y_eq, y_nP, y_nPs, y_ltP, y_ltQ, y_ltPP, y_eqP, y_eqQ, y_eqPP, if_pos, if_neg, ite_true, ite_false, not_true_eq_false, not_false_eq_true, and_true, true_and, and_false, false_and, or_true, true_or, or_false, false_or]
  · obtain ⟨o, rfl⟩ : ∃ o, one = o + 1 := ⟨one - 1, by omega⟩
    rw [y_nPs, Nat.add_sub_cancel]
    have ap := y_ap_bd (b := b) (a := o) (c := h) (by omega) (by omega)
    obtain rfl | rfl | rfl | rfl : l = 0 ∨ l = 1 ∨ l = 2 ∨ l = 3 := by omega
    · simp (disch := omega) only [y_lit, y_n1, nI_add, pk_mul, j_lt, j_b1_s, j_b2_s, j_b3_s, j_b0_s, y_bo, y_bo1, y_bo0, y_i0, y_i1, Classical.not_not, nI_clamp, y_ix, y_lt, y_le, y_eq, y_nP, y_nPs, y_ltP, y_ltQ, y_ltPP, y_eqP, y_eqQ, y_eqPP, if_pos, if_neg, ite_true, ite_false, not_true_eq_false, not_false_eq_true, and_true, true_and, and_false, false_and, or_true, true_or, or_false, false_or]
    · by_cases c : h = o
      · simp (disch := omega) only [y_lit, y_n1, nI_add, pk_mul, j_lt, j_b1_s, j_b2_s, j_b3_s, j_b0_s, y_bo, y_bo1, y_bo0, y_i0, y_i1, Classical.not_not, nI_clamp, y_ix, y_lt, y_le, y_eq, y_nP, y_nPs, y_ltP, y_ltQ, y_ltPP, y_eqP, y_eqQ, y_eqPP, if_pos, if_neg, ite_true, ite_false, not_true_eq_false, not_false_eq_true, and_true, true_and, and_false, false_and, or_true, true_or, or_false, false_or]
      · simp (disch := omega) only [y_lit, y_n1, nI_add, pk_mul, j_lt, j_b1_s, j_b2_s, j_b3_s, j_b0_s, y_bo, y_bo1, y_bo0, y_i0, y_i1, Classical.not_not, nI_clamp, y_ix, y_lt, y_le, y_eq, y_nP, y_nPs, y_ltP, y_ltQ, y_ltPP, y_eqP, y_eqQ, y_eqPP, if_pos, if_neg, ite_true, ite_false, not_true_eq_false, not_false_eq_true, and_true, true_and, and_false, false_and, or_true, true_or, or_false, false_or]
    · simp (disch := omega) only [y_lit, y_n1, nI_add, pk_mul, j_lt, j_b1_s, j_b2_s, j_b3_s, j_b0_s, y_bo, y_bo1, y_bo0, y_i0, y_i1, Classical.not_not, nI_clamp, y_ix, y_lt, y_le, y_eq, y_nP, y_nPs, y_ltP, y_ltQ, y_ltPP, y_eqP, y_eqQ, y_eqPP, if_pos, if_neg, ite_true, ite_false, not_true_eq_false, not_false_eq_true, and_true, true_and, and_false, false_and, or_true, true_or, or_false, false_or, yc_apart hN hW h9]
      rw [y_ap_comm (a := h) (c := o)]
      by_cases c : 1 < y_ap b o h
      · simp (disch := omega) only [y_lit, y_n1, nI_add, pk_mul, j_lt, j_b1_s, j_b2_s, j_b3_s, j_b0_s, y_bo, y_bo1, y_bo0, y_i0, y_i1, Classical.not_not, nI_clamp, y_ix, y_lt, y_le, y_eq, y_nP, y_nPs, y_ltP, y_ltQ, y_ltPP, y_eqP, y_eqQ, y_eqPP, if_pos, if_neg, ite_true, ite_false, not_true_eq_false, not_false_eq_true, and_true, true_and, and_false, false_and, or_true, true_or, or_false, false_or]
      · simp (disch := omega) only [y_lit, y_n1, nI_add, pk_mul, j_lt, j_b1_s, j_b2_s, j_b3_s, j_b0_s, y_bo, y_bo1, y_bo0, y_i0, y_i1, Classical.not_not, nI_clamp, y_ix, y_lt, y_le, y_eq, y_nP, y_nPs, y_ltP, y_ltQ, y_ltPP, y_eqP, y_eqQ, y_eqPP, if_pos, if_neg, ite_true, ite_false, not_true_eq_false, not_false_eq_true, and_true, true_and, and_false, false_and, or_true, true_or, or_false, false_or]
    · by_cases c : h = o
      · simp (disch := omega) only [y_lit, y_n1, nI_add, pk_mul, j_lt, j_b1_s, j_b2_s, j_b3_s, j_b0_s, y_bo, y_bo1, y_bo0, y_i0, y_i1, Classical.not_not, nI_clamp, y_ix, y_lt, y_le, y_eq, y_nP, y_nPs, y_ltP, y_ltQ, y_ltPP, y_eqP, y_eqQ, y_eqPP, if_pos, if_neg, ite_true, ite_false, not_true_eq_false, not_false_eq_true, and_true, true_and, and_false, false_and, or_true, true_or, or_false, false_or]
      · by_cases d : h + 1 = two
        · simp (disch := omega) only [y_lit, y_n1, nI_add, pk_mul, j_lt, j_b1_s, j_b2_s, j_b3_s, j_b0_s, y_bo, y_bo1, y_bo0, y_i0, y_i1, Classical.not_not, nI_clamp, y_ix, y_lt, y_le, y_eq, y_nP, y_nPs, y_ltP, y_ltQ, y_ltPP, y_eqP, y_eqQ, y_eqPP, if_pos, if_neg, ite_true, ite_false, not_true_eq_false, not_false_eq_true, and_true, true_and, and_false, false_and, or_true, true_or, or_false, false_or]
        · simp (disch := omega) only [y_lit, y_n1, nI_add, pk_mul, j_lt, j_b1_s, j_b2_s, j_b3_s, j_b0_s, y_bo, y_bo1, y_bo0, y_i0, y_i1, Classical.not_not, nI_clamp, y_ix, y_lt, y_le, y_eq, y_nP, y_nPs, y_ltP, y_ltQ, y_ltPP, y_eqP, y_eqQ, y_eqPP, if_pos, if_neg, ite_true, ite_false, not_true_eq_false, not_false_eq_true, and_true, true_and, and_false, false_and, or_true, true_or, or_false, false_or]
theorem ym_lets (hM : y_M τ b) (hW : y_W b) (h9 : 0 < b 9) {l h one two : Nat} {B L : Int32} (hl : l < 4) (hh : h < 12) (h1 : one ≤ 12) (h2 : two ≤ 12) (eB : B = nP two) (eL : L = nP one) : f_X12_lets (nI l) (nI h) L B τ = some (nI (if y_sh b h = 1 then 0 else y_lz b l h one two)) := by
  subst eB eL
  unfold f_X12_lets
  simp (disch := omega) only [y_lit, y_n1, nI_add, pk_mul, j_lt, j_b1_s, j_b2_s, j_b3_s, j_b0_s, y_bo, y_bo1, y_bo0, y_i0, y_i1, Classical.not_not, nI_clamp, y_ix, y_lt, y_le, y_eq, y_nP, y_nPs, y_ltP, y_ltQ, y_ltPP, y_eqP, y_eqQ, y_eqPP, if_pos, if_neg, ite_true, ite_false, not_true_eq_false, not_false_eq_true, and_true, true_and, and_false, false_and, or_true, true_or, or_false, false_or, ym_isShut hM hW]
  by_cases s : y_sh b h = 1
  · simp (disch := omega) only [y_lit, y_n1, nI_add, pk_mul, j_lt, j_b1_s, j_b2_s, j_b3_s, j_b0_s, y_bo, y_bo1, y_bo0, y_i0, y_i1, Classical.not_not, nI_clamp, y_ix, y_lt, y_le, y_eq, y_nP, y_nPs, y_ltP, y_ltQ, y_ltPP, y_eqP, y_eqQ, y_eqPP, if_pos, if_neg, ite_true, ite_false, not_true_eq_false, not_false_eq_true, and_true, true_and, and_false, false_and, or_true, true_or, or_false, false_or]
  · rw [if_neg s, if_neg s]
    unfold y_lz
    obtain rfl | rfl | rfl | rfl : l = 0 ∨ l = 1 ∨ l = 2 ∨ l = 3 := by omega
    · simp (disch := omega) only [y_lit, y_n1, nI_add, pk_mul, j_lt, j_b1_s, j_b2_s, j_b3_s, j_b0_s, y_bo, y_bo1, y_bo0, y_i0, y_i1, Classical.not_not, nI_clamp, y_ix, y_lt, y_le, y_eq, y_nP, y_nPs, y_ltP, y_ltQ, y_ltPP, y_eqP, y_eqQ, y_eqPP, if_pos, if_neg, ite_true, ite_false, not_true_eq_false, not_false_eq_true, and_true, true_and, and_false, false_and, or_true, true_or, or_false, false_or]
    · by_cases c : h + 1 = one
      · simp (disch := omega) only [y_lit, y_n1, nI_add, pk_mul, j_lt, j_b1_s, j_b2_s, j_b3_s, j_b0_s, y_bo, y_bo1, y_bo0, y_i0, y_i1, Classical.not_not, nI_clamp, y_ix, y_lt, y_le, y_eq, y_nP, y_nPs, y_ltP, y_ltQ, y_ltPP, y_eqP, y_eqQ, y_eqPP, if_pos, if_neg, ite_true, ite_false, not_true_eq_false, not_false_eq_true, and_true, true_and, and_false, false_and, or_true, true_or, or_false, false_or]
      · simp (disch := omega) only [y_lit, y_n1, nI_add, pk_mul, j_lt, j_b1_s, j_b2_s, j_b3_s, j_b0_s, y_bo, y_bo1, y_bo0, y_i0, y_i1, Classical.not_not, nI_clamp, y_ix, y_lt, y_le, y_eq, y_nP, y_nPs, y_ltP, y_ltQ, y_ltPP, y_eqP, y_eqQ, y_eqPP, if_pos, if_neg, ite_true, ite_false, not_true_eq_false, not_false_eq_true, and_true, true_and, and_false, false_and, or_true, true_or, or_false, false_or]
    · by_cases z : one = 0
      · simp (disch := omega) only [y_lit, y_n1, nI_add, pk_mul, j_lt, j_b1_s, j_b2_s, j_b3_s, j_b0_s, y_bo, y_bo1, y_bo0, y_i0, y_i1, Classical.not_not, nI_clamp, y_ix, y_lt, y_le, y_eq, y_nP, y_nPs, y_ltP, y_ltQ, y_ltPP, y_eqP, y_eqQ, y_eqPP, if_pos, if_neg, ite_true, ite_false, not_true_eq_false, not_false_eq_true, and_true, true_and, and_false, false_and, or_true, true_or, or_false, false_or]
      · obtain ⟨o, rfl⟩ : ∃ o, one = o + 1 := ⟨one - 1, by omega⟩
        have ap := y_ap_bd (b := b) (a := h) (c := o) (by omega) (by omega)
        rw [y_nPs, Nat.add_sub_cancel]
        simp (disch := omega) only [y_lit, y_n1, nI_add, pk_mul, j_lt, j_b1_s, j_b2_s, j_b3_s, j_b0_s, y_bo, y_bo1, y_bo0, y_i0, y_i1, Classical.not_not, nI_clamp, y_ix, y_lt, y_le, y_eq, y_nP, y_nPs, y_ltP, y_ltQ, y_ltPP, y_eqP, y_eqQ, y_eqPP, if_pos, if_neg, ite_true, ite_false, not_true_eq_false, not_false_eq_true, and_true, true_and, and_false, false_and, or_true, true_or, or_false, false_or, ym_stepsOf hM hW h9]
        by_cases c : 1 < y_ap b h o
        · simp (disch := omega) only [y_lit, y_n1, nI_add, pk_mul, j_lt, j_b1_s, j_b2_s, j_b3_s, j_b0_s, y_bo, y_bo1, y_bo0, y_i0, y_i1, Classical.not_not, nI_clamp, y_ix, y_lt, y_le, y_eq, y_nP, y_nPs, y_ltP, y_ltQ, y_ltPP, y_eqP, y_eqQ, y_eqPP, if_pos, if_neg, ite_true, ite_false, not_true_eq_false, not_false_eq_true, and_true, true_and, and_false, false_and, or_true, true_or, or_false, false_or]
        · simp (disch := omega) only [y_lit, y_n1, nI_add, pk_mul, j_lt, j_b1_s, j_b2_s, j_b3_s, j_b0_s, y_bo, y_bo1, y_bo0, y_i0, y_i1, Classical.not_not, nI_clamp, y_ix, y_lt, y_le, y_eq, y_nP, y_nPs, y_ltP, y_ltQ, y_ltPP, y_eqP, y_eqQ, y_eqPP, if_pos, if_neg, ite_true, ite_false, not_true_eq_false, not_false_eq_true, and_true, true_and, and_false, false_and, or_true, true_or, or_false, false_or]
    · by_cases c : h + 1 = one
      · simp (disch := omega) only [y_lit, y_n1, nI_add, pk_mul, j_lt, j_b1_s, j_b2_s, j_b3_s, j_b0_s, y_bo, y_bo1, y_bo0, y_i0, y_i1, Classical.not_not, nI_clamp, y_ix, y_lt, y_le, y_eq, y_nP, y_nPs, y_ltP, y_ltQ, y_ltPP, y_eqP, y_eqQ, y_eqPP, if_pos, if_neg, ite_true, ite_false, not_true_eq_false, not_false_eq_true, and_true, true_and, and_false, false_and, or_true, true_or, or_false, false_or]
      · by_cases d : h + 1 = two
        · simp (disch := omega) only [y_lit, y_n1, nI_add, pk_mul, j_lt, j_b1_s, j_b2_s, j_b3_s, j_b0_s, y_bo, y_bo1, y_bo0, y_i0, y_i1, Classical.not_not, nI_clamp, y_ix, y_lt, y_le, y_eq, y_nP, y_nPs, y_ltP, y_ltQ, y_ltPP, y_eqP, y_eqQ, y_eqPP, if_pos, if_neg, ite_true, ite_false, not_true_eq_false, not_false_eq_true, and_true, true_and, and_false, false_and, or_true, true_or, or_false, false_or]
        · simp (disch := omega) only [y_lit, y_n1, nI_add, pk_mul, j_lt, j_b1_s, j_b2_s, j_b3_s, j_b0_s, y_bo, y_bo1, y_bo0, y_i0, y_i1, Classical.not_not, nI_clamp, y_ix, y_lt, y_le, y_eq, y_nP, y_nPs, y_ltP, y_ltQ, y_ltPP, y_eqP, y_eqQ, y_eqPP, if_pos, if_neg, ite_true, ite_false, not_true_eq_false, not_false_eq_true, and_true, true_and, and_false, false_and, or_true, true_or, or_false, false_or]
noncomputable def y_pf (b : Nat → Nat) : Nat → Nat := fun k => y_ap b (y_rd b k) (y_rd b (k + 1))
noncomputable def y_pa (b : Nat → Nat) : Nat := y_su (y_pf b) (b 5) 0 0
theorem y_pa_le (hW : y_W b) : y_pa b ≤ 576 := by
  have b5 := hW.b5
  have h4 := hW.ho
  rcases Nat.eq_zero_or_pos (b 5) with z | z
  · unfold y_pa; rw [z]; exact Nat.zero_le _
  · have := y_su_bd (f := y_pf b) (c := 24) (b 5) 0 (fun j _ _ => y_ap_bd (by have := y_rd_lt hW z j; omega) (by have := y_rd_lt hW z (j + 1); omega))
    unfold y_pa; omega
theorem yc_path (hN : y_N σ b) (hW : y_W b) : f_X2_pathRound σ = some (nI (y_pa b)) := by
  have b5 := hW.b5
  have h4 := hW.ho
  have key : ∀ m i n v, i + m = b 5 → m < n → p_X2_pathRound_4 σ n (nI v) (nI i) = some (nI (y_su (y_pf b) m i v)) := by
    intro m
    induction m with
    | zero =>
      intro i n v h hn
      obtain ⟨n, rfl⟩ := y_pos hn
      unfold p_X2_pathRound_4 y_su; simp (disch := omega) only [y_lit, y_n1, nI_add, pk_mul, j_lt, j_b1_s, j_b2_s, j_b3_s, j_b0_s, y_bo, y_bo1, y_bo0, y_i0, y_i1, Classical.not_not, nI_clamp, y_ix, y_lt, y_le, y_eq, y_nP, y_nPs, y_ltP, y_ltQ, y_ltPP, y_eqP, y_eqQ, y_eqPP, if_pos, if_neg, ite_true, ite_false, not_true_eq_false, not_false_eq_true, and_true, true_and, and_false, false_and, or_true, true_or, or_false, false_or, hN.d0]
    | succ m ih =>
      intro i n v h hn
      obtain ⟨n, rfl⟩ := y_pos hn
      have h5 : 0 < b 5 := by omega
      have h9 := hW.on0 (Or.inr (Or.inr (Or.inl h5)))
      have r1 := y_rd_lt hW h5 i
      have r2 := y_rd_lt hW h5 (i + 1)
      unfold p_X2_pathRound_4 y_su; simp (disch := omega) only [y_lit, y_n1, nI_add, pk_mul, j_lt, j_b1_s, j_b2_s, j_b3_s, j_b0_s, y_bo, y_bo1, y_bo0, y_i0, y_i1, Classical.not_not, nI_clamp, y_ix, y_lt, y_le, y_eq, y_nP, y_nPs, y_ltP, y_ltQ, y_ltPP, y_eqP, y_eqQ, y_eqPP, if_pos, if_neg, ite_true, ite_false, not_true_eq_false, not_false_eq_true, and_true, true_and, and_false, false_and, or_true, true_or, or_false, false_or, hN.d0, yc_round hN hW h5, yc_apart hN hW h9]
      exact ih (i + 1) n _ (by omega) (by omega)
  unfold f_X2_pathRound
  rw [y_lit, key (b 5) 0 j_F 0 (by omega) (y_F (by omega))]
  rfl
theorem ym_path (hM : y_M τ b) (hW : y_W b) : f_X12_pathOf τ = some (nI (y_pa b)) := by
  have b5 := hW.b5
  have h4 := hW.ho
  have key : ∀ m i n v, i + m = b 5 → m < n → p_X12_pathOf_4 τ n (nI v) (nI i) = some (nI (y_su (y_pf b) m i v)) := by
    intro m
    induction m with
    | zero =>
      intro i n v h hn
      obtain ⟨n, rfl⟩ := y_pos hn
      unfold p_X12_pathOf_4 y_su; simp (disch := omega) only [y_lit, y_n1, nI_add, pk_mul, j_lt, j_b1_s, j_b2_s, j_b3_s, j_b0_s, y_bo, y_bo1, y_bo0, y_i0, y_i1, Classical.not_not, nI_clamp, y_ix, y_lt, y_le, y_eq, y_nP, y_nPs, y_ltP, y_ltQ, y_ltPP, y_eqP, y_eqQ, y_eqPP, if_pos, if_neg, ite_true, ite_false, not_true_eq_false, not_false_eq_true, and_true, true_and, and_false, false_and, or_true, true_or, or_false, false_or, hM.f]
    | succ m ih =>
      intro i n v h hn
      obtain ⟨n, rfl⟩ := y_pos hn
      have h5 : 0 < b 5 := by omega
      have h9 := hW.on0 (Or.inr (Or.inr (Or.inl h5)))
      have r1 := y_rd_lt hW h5 i
      have r2 := y_rd_lt hW h5 (i + 1)
      unfold p_X12_pathOf_4 y_su; simp (disch := omega) only [y_lit, y_n1, nI_add, pk_mul, j_lt, j_b1_s, j_b2_s, j_b3_s, j_b0_s, y_bo, y_bo1, y_bo0, y_i0, y_i1, Classical.not_not, nI_clamp, y_ix, y_lt, y_le, y_eq, y_nP, y_nPs, y_ltP, y_ltQ, y_ltPP, y_eqP, y_eqQ, y_eqPP, if_pos, if_neg, ite_true, ite_false, not_true_eq_false, not_false_eq_true, and_true, true_and, and_false, false_and, or_true, true_or, or_false, false_or, hM.f, ym_holeAt hM hW h5, ym_stepsOf hM hW h9]
      exact ih (i + 1) n _ (by omega) (by omega)
  unfold f_X12_pathOf
  rw [y_lit, key (b 5) 0 j_F 0 (by omega) (y_F (by omega))]
  rfl
theorem yc_isLaw {x : Int32} : f_X11_isLaw x = if y_rg x 4 then nI 1 else nI 0 := by
  unfold f_X11_isLaw; simp only [y_lit]; simp (disch := omega) only [y_c1]
theorem ym_isLaw {x : Int32} : f_X12_isLaw x = if y_rg x 4 then nI 1 else nI 0 := by
  unfold f_X12_isLaw; simp (disch := omega) only [y_lit, y_n1, nI_add, pk_mul, j_lt, j_b1_s, j_b2_s, j_b3_s, j_b0_s, y_bo, y_bo1, y_bo0, y_i0, y_i1, Classical.not_not, nI_clamp, y_ix, y_lt, y_le, y_eq, y_nP, y_nPs, y_ltP, y_ltQ, y_ltPP, y_eqP, y_eqQ, y_eqPP, if_pos, if_neg, ite_true, ite_false, not_true_eq_false, not_false_eq_true, and_true, true_and, and_false, false_and, or_true, true_or, or_false, false_or, y_lit64, y_in, y_c3]
end C
section Z
variable {σ τ : j_G}
theorem z_path (hR : j_Rel σ τ) : ∃ v, f_X11_path σ = some v ∧ f_X12_path τ = some v := by
  obtain ⟨b, hW, hN, hM, hK⟩ := id hR
  by_cases h9 : 0 < b 9
  · refine ⟨nI (y_pa b), ?_, ?_⟩
    · unfold f_X11_path; simp (disch := omega) only [y_lit, y_n1, nI_add, pk_mul, j_lt, j_b1_s, j_b2_s, j_b3_s, j_b0_s, y_bo, y_bo1, y_bo0, y_i0, y_i1, Classical.not_not, nI_clamp, y_ix, y_lt, y_le, y_eq, y_nP, y_nPs, y_ltP, y_ltQ, y_ltPP, y_eqP, y_eqQ, y_eqPP, if_pos, if_neg, ite_true, ite_false, not_true_eq_false, not_false_eq_true, and_true, true_and, and_false, false_and, or_true, true_or, or_false, false_or, yc_isTold hN hW, yc_path hN hW]
    · unfold f_X12_path; simp (disch := omega) only [y_lit, y_n1, nI_add, pk_mul, j_lt, j_b1_s, j_b2_s, j_b3_s, j_b0_s, y_bo, y_bo1, y_bo0, y_i0, y_i1, Classical.not_not, nI_clamp, y_ix, y_lt, y_le, y_eq, y_nP, y_nPs, y_ltP, y_ltQ, y_ltPP, y_eqP, y_eqQ, y_eqPP, if_pos, if_neg, ite_true, ite_false, not_true_eq_false, not_false_eq_true, and_true, true_and, and_false, false_and, or_true, true_or, or_false, false_or, ym_isBoard hM hW, ym_path hM hW]
  · refine ⟨-2, ?_, ?_⟩
    · unfold f_X11_path; simp (disch := omega) only [y_lit, y_n1, nI_add, pk_mul, j_lt, j_b1_s, j_b2_s, j_b3_s, j_b0_s, y_bo, y_bo1, y_bo0, y_i0, y_i1, Classical.not_not, nI_clamp, y_ix, y_lt, y_le, y_eq, y_nP, y_nPs, y_ltP, y_ltQ, y_ltPP, y_eqP, y_eqQ, y_eqPP, if_pos, if_neg, ite_true, ite_false, not_true_eq_false, not_false_eq_true, and_true, true_and, and_false, false_and, or_true, true_or, or_false, false_or, yc_isTold hN hW]
    · unfold f_X12_path; simp (disch := omega) only [y_lit, y_n1, nI_add, pk_mul, j_lt, j_b1_s, j_b2_s, j_b3_s, j_b0_s, y_bo, y_bo1, y_bo0, y_i0, y_i1, Classical.not_not, nI_clamp, y_ix, y_lt, y_le, y_eq, y_nP, y_nPs, y_ltP, y_ltQ, y_ltPP, y_eqP, y_eqQ, y_eqPP, if_pos, if_neg, ite_true, ite_false, not_true_eq_false, not_false_eq_true, and_true, true_and, and_false, false_and, or_true, true_or, or_false, false_or, ym_isBoard hM hW]
theorem z_breaks (hR : j_Rel σ τ) (a1 : Int32) : ∃ v, f_X11_breaks a1 σ = some v ∧ f_X12_breaks a1 τ = some v := by
  obtain ⟨b, hW, hN, hM, hK⟩ := id hR
  have b5 := hW.b5
  have h4 := hW.ho
  by_cases h9 : 0 < b 9
  · by_cases h : y_rg a1 4
    · obtain ⟨l, hl, rfl⟩ := y_of _ _ h.1 h.2
      have both : ∀ m i n, i + m = b 5 → m < n → ∃ v, p_X11_breaks_30 (nI l) σ n (nI i) = some v ∧ p_X12_breaks_19 (nI l) τ n (nI i) = some v := by
        intro m
        induction m with
        | zero =>
          intro i n h hn
          obtain ⟨n, rfl⟩ := y_pos hn
          refine ⟨-1, ?_, ?_⟩
          · unfold p_X11_breaks_30; simp (disch := omega) only [y_lit, y_n1, nI_add, pk_mul, j_lt, j_b1_s, j_b2_s, j_b3_s, j_b0_s, y_bo, y_bo1, y_bo0, y_i0, y_i1, Classical.not_not, nI_clamp, y_ix, y_lt, y_le, y_eq, y_nP, y_nPs, y_ltP, y_ltQ, y_ltPP, y_eqP, y_eqQ, y_eqPP, if_pos, if_neg, ite_true, ite_false, not_true_eq_false, not_false_eq_true, and_true, true_and, and_false, false_and, or_true, true_or, or_false, false_or, hN.d0]
          · unfold p_X12_breaks_19; simp (disch := omega) only [y_lit, y_n1, nI_add, pk_mul, j_lt, j_b1_s, j_b2_s, j_b3_s, j_b0_s, y_bo, y_bo1, y_bo0, y_i0, y_i1, Classical.not_not, nI_clamp, y_ix, y_lt, y_le, y_eq, y_nP, y_nPs, y_ltP, y_ltQ, y_ltPP, y_eqP, y_eqQ, y_eqPP, if_pos, if_neg, ite_true, ite_false, not_true_eq_false, not_false_eq_true, and_true, true_and, and_false, false_and, or_true, true_or, or_false, false_or, hM.f]
        | succ m ih =>
          intro i n h hn
          obtain ⟨n, rfl⟩ := y_pos hn
          have h5 : 0 < b 5 := by omega
          have r0 := y_rd_lt hW h5 i
          have r1 := y_rd_lt hW h5 (i + 2 * b 5 - 1)
          have r2 := y_rd_lt hW h5 (i + 2 * b 5 - 2)
          obtain ⟨v, v1, v2⟩ := ih (i + 1) n (by omega) (by omega)
          have sh0 : ¬ y_sh b (y_rd b i) = 1 := by
            have q := (hW.co (Nat.mod_lt i h5)).2.2.2.2.2.1
            have : y_sh b (y_rd b i) = 0 := q
            omega
          have cl := yc_lets hN hW h9 (l := l) (h := y_rd b i) (one := y_rd b (i + 2 * b 5 - 1) + 1) (two := y_rd b (i + 2 * b 5 - 2) + 1) hl (by omega) (by omega) (by omega) (fun z => by omega) (y_nPs _).symm (y_nPs _).symm
          have ml := ym_lets hM hW h9 (l := l) (h := y_rd b i) (one := y_rd b (i + 2 * b 5 - 1) + 1) (two := y_rd b (i + 2 * b 5 - 2) + 1) hl (by omega) (by omega) (by omega) (y_nPs _).symm (y_nPs _).symm
          rw [if_neg sh0] at ml
          have le := y_lz_le b l (y_rd b i) (y_rd b (i + 2 * b 5 - 1) + 1) (y_rd b (i + 2 * b 5 - 2) + 1)
          have hlt : nI i < nI (b 5) := (y_lt (by omega) (by omega)).mpr (by omega)
          have e5 := hM.f (j := 5) (by omega)
          have kc : p_X11_breaks_30 (nI l) σ (n + 1) (nI i) = if nI (y_lz b l (y_rd b i) (y_rd b (i + 2 * b 5 - 1) + 1) (y_rd b (i + 2 * b 5 - 2) + 1)) = nI 0 then some (nI i) else p_X11_breaks_30 (nI l) σ n (nI (i + 1)) := by
            rw [p_X11_breaks_30, hN.d0, if_pos hlt, show (2 : Int32) = nI 2 from rfl, show (1 : Int32) = nI 1 from rfl, yc_roundm hN hW h5 (by omega) (Or.inr rfl), j_b1_s, yc_roundm hN hW h5 (by omega) (Or.inl rfl), j_b1_s, yc_round hN hW h5 (by omega), j_b1_s, cl, j_b1_s, nI_add]
            rfl
          have km : p_X12_breaks_19 (nI l) τ (n + 1) (nI i) = if nI (y_lz b l (y_rd b i) (y_rd b (i + 2 * b 5 - 1) + 1) (y_rd b (i + 2 * b 5 - 2) + 1)) = nI 0 then some (nI i) else p_X12_breaks_19 (nI l) τ n (nI (i + 1)) := by
            rw [p_X12_breaks_19, show (5 : Int32) = nI 5 from rfl, y_ix (by omega) (by omega), nI_clamp (by omega), e5, if_pos hlt, show (2 : Int32) = nI 2 from rfl, show (1 : Int32) = nI 1 from rfl, ym_holeAt hM hW h5 (by omega), j_b1_s, ym_holeAtm hM hW h5 (by omega) (Or.inl rfl), j_b1_s, ym_holeAtm hM hW h5 (by omega) (Or.inr rfl), j_b1_s, ml, j_b1_s, nI_add]
            rfl
          rw [kc, km]
          generalize y_lz b l (y_rd b i) (y_rd b (i + 2 * b 5 - 1) + 1) (y_rd b (i + 2 * b 5 - 2) + 1) = X at *
          by_cases c : nI X = nI 0
          · rw [if_pos c, if_pos c]; exact ⟨nI i, rfl, rfl⟩
          · rw [if_neg c, if_neg c]; exact ⟨v, v1, v2⟩
      obtain ⟨v, v1, v2⟩ := both (b 5) 0 j_F (by omega) (y_F (by omega))
      refine ⟨v, ?_, ?_⟩
      · unfold f_X11_breaks; simp (disch := omega) only [y_lit, y_n1, nI_add, pk_mul, j_lt, j_b1_s, j_b2_s, j_b3_s, j_b0_s, y_bo, y_bo1, y_bo0, y_i0, y_i1, Classical.not_not, nI_clamp, y_ix, y_lt, y_le, y_eq, y_nP, y_nPs, y_ltP, y_ltQ, y_ltPP, y_eqP, y_eqQ, y_eqPP, if_pos, if_neg, ite_true, ite_false, not_true_eq_false, not_false_eq_true, and_true, true_and, and_false, false_and, or_true, true_or, or_false, false_or, yc_isTold hN hW, yc_isLaw, y_rn]; exact v1
      · unfold f_X12_breaks; simp (disch := omega) only [y_lit, y_n1, nI_add, pk_mul, j_lt, j_b1_s, j_b2_s, j_b3_s, j_b0_s, y_bo, y_bo1, y_bo0, y_i0, y_i1, Classical.not_not, nI_clamp, y_ix, y_lt, y_le, y_eq, y_nP, y_nPs, y_ltP, y_ltQ, y_ltPP, y_eqP, y_eqQ, y_eqPP, if_pos, if_neg, ite_true, ite_false, not_true_eq_false, not_false_eq_true, and_true, true_and, and_false, false_and, or_true, true_or, or_false, false_or, ym_isBoard hM hW, ym_isLaw, y_rn]; exact v2
    · refine ⟨-2, ?_, ?_⟩
      · unfold f_X11_breaks; simp (disch := omega) only [y_lit, y_n1, nI_add, pk_mul, j_lt, j_b1_s, j_b2_s, j_b3_s, j_b0_s, y_bo, y_bo1, y_bo0, y_i0, y_i1, Classical.not_not, nI_clamp, y_ix, y_lt, y_le, y_eq, y_nP, y_nPs, y_ltP, y_ltQ, y_ltPP, y_eqP, y_eqQ, y_eqPP, if_pos, if_neg, ite_true, ite_false, not_true_eq_false, not_false_eq_true, and_true, true_and, and_false, false_and, or_true, true_or, or_false, false_or, yc_isTold hN hW, yc_isLaw, h]
      · unfold f_X12_breaks; simp (disch := omega) only [y_lit, y_n1, nI_add, pk_mul, j_lt, j_b1_s, j_b2_s, j_b3_s, j_b0_s, y_bo, y_bo1, y_bo0, y_i0, y_i1, Classical.not_not, nI_clamp, y_ix, y_lt, y_le, y_eq, y_nP, y_nPs, y_ltP, y_ltQ, y_ltPP, y_eqP, y_eqQ, y_eqPP, if_pos, if_neg, ite_true, ite_false, not_true_eq_false, not_false_eq_true, and_true, true_and, and_false, false_and, or_true, true_or, or_false, false_or, ym_isBoard hM hW, ym_isLaw, h]
  · refine ⟨-2, ?_, ?_⟩
    · unfold f_X11_breaks; simp (disch := omega) only [y_lit, y_n1, nI_add, pk_mul, j_lt, j_b1_s, j_b2_s, j_b3_s, j_b0_s, y_bo, y_bo1, y_bo0, y_i0, y_i1, Classical.not_not, nI_clamp, y_ix, y_lt, y_le, y_eq, y_nP, y_nPs, y_ltP, y_ltQ, y_ltPP, y_eqP, y_eqQ, y_eqPP, if_pos, if_neg, ite_true, ite_false, not_true_eq_false, not_false_eq_true, and_true, true_and, and_false, false_and, or_true, true_or, or_false, false_or, yc_isTold hN hW]
    · unfold f_X12_breaks; simp (disch := omega) only [y_lit, y_n1, nI_add, pk_mul, j_lt, j_b1_s, j_b2_s, j_b3_s, j_b0_s, y_bo, y_bo1, y_bo0, y_i0, y_i1, Classical.not_not, nI_clamp, y_ix, y_lt, y_le, y_eq, y_nP, y_nPs, y_ltP, y_ltQ, y_ltPP, y_eqP, y_eqQ, y_eqPP, if_pos, if_neg, ite_true, ite_false, not_true_eq_false, not_false_eq_true, and_true, true_and, and_false, false_and, or_true, true_or, or_false, false_or, ym_isBoard hM hW]
end Z
/-! ===== swap, better ===== -/
noncomputable def y_tr (k l i : Nat) : Nat := if i = k then l else if i = l then k else i
noncomputable def y_sw (b : Nat → Nat) (k l : Nat) : Nat → Nat := fun j => if 24 ≤ j ∧ j < 96 then b (24 + 3 * y_tr k l ((j - 24) / 3) + (j - 24) % 3) else b j
theorem y_sw_o {b : Nat → Nat} {k l j : Nat} (h : j < 24 ∨ 96 ≤ j) : y_sw b k l j = b j := if_neg (by omega)
theorem y_sw0 {b : Nat → Nat} {k l i : Nat} (h : i < 24) : y_sw b k l (24 + 3 * i) = b (24 + 3 * y_tr k l i) := by
  unfold y_sw; rw [if_pos (by omega), show (24 + 3 * i - 24) / 3 = i from by omega, show (24 + 3 * i - 24) % 3 = 0 from by omega]; rfl
theorem y_sw1 {b : Nat → Nat} {k l i : Nat} (h : i < 24) : y_sw b k l (25 + 3 * i) = b (25 + 3 * y_tr k l i) := by
  unfold y_sw; rw [if_pos (by omega), show (25 + 3 * i - 24) / 3 = i from by omega, show (25 + 3 * i - 24) % 3 = 1 from by omega]; congr 1; omega
theorem y_sw2 {b : Nat → Nat} {k l i : Nat} (h : i < 24) : y_sw b k l (26 + 3 * i) = b (26 + 3 * y_tr k l i) := by
  unfold y_sw; rw [if_pos (by omega), show (26 + 3 * i - 24) / 3 = i from by omega, show (26 + 3 * i - 24) % 3 = 2 from by omega]; congr 1; omega
theorem y_tr_lt {k l i n : Nat} (hk : k < n) (hl : l < n) (hi : i < n) : y_tr k l i < n := by
  unfold y_tr; split
  · exact hl
  · split
    · exact hk
    · exact hi
theorem y_tr_tr {k l i : Nat} : y_tr k l (y_tr k l i) = i := by
  unfold y_tr
  by_cases h1 : i = k
  · rw [if_pos h1]
    by_cases h2 : l = k
    · rw [if_pos h2]; omega
    · rw [if_neg h2, if_pos rfl]; omega
  · rw [if_neg h1]
    by_cases h2 : i = l
    · rw [if_pos h2, if_pos rfl]; omega
    · rw [if_neg h2, if_neg h1, if_neg h2]
theorem y_sw_sw {b : Nat → Nat} {k l : Nat} (hk : k < 24) (hl : l < 24) : y_sw (y_sw b k l) k l = b := by
  funext j
  by_cases h : 24 ≤ j ∧ j < 96
  · have hi : (j - 24) / 3 < 24 := by omega
    have ht := y_tr_lt hk hl hi
    have q : (j - 24) % 3 = 0 ∨ (j - 24) % 3 = 1 ∨ (j - 24) % 3 = 2 := by omega
    have e : y_sw (y_sw b k l) k l j = y_sw b k l (24 + 3 * y_tr k l ((j - 24) / 3) + (j - 24) % 3) := if_pos h
    rw [e]
    rcases q with q | q | q
    · rw [q, Nat.add_zero, y_sw0 ht, y_tr_tr]; congr 1; omega
    · rw [q, show 24 + 3 * y_tr k l ((j - 24) / 3) + 1 = 25 + 3 * y_tr k l ((j - 24) / 3) from by omega, y_sw1 ht, y_tr_tr]; congr 1; omega
    · rw [q, show 24 + 3 * y_tr k l ((j - 24) / 3) + 2 = 26 + 3 * y_tr k l ((j - 24) / 3) from by omega, y_sw2 ht, y_tr_tr]; congr 1; omega
  · rw [y_sw_o (by omega), y_sw_o (by omega)]
theorem y_W.sw {b : Nat → Nat} {k l : Nat} (h : y_W b) (hk : k < b 5) (hl : l < b 5) : y_W (y_sw b k l) := by
  have b5 := h.b5; have b4 := h.b4; have b6 := h.b6
  obtain ⟨h1, h2, h3, h4, h5, h6, h7, h8, h9⟩ := h
  unfold y_W y_ho at *
  refine ⟨?_, ?_, ?_, ?_, ?_, fun j hj => ?_, fun j l' hj hl' => ?_, fun j hj => ?_, fun j hj => ?_⟩
  · simp (disch := omega) only [y_sw_o]; exact h1
  · simp (disch := omega) only [y_sw_o]; exact h2
  · simp (disch := omega) only [y_sw_o]; exact h3
  · simp (disch := omega) only [y_sw_o]; exact h4
  · simp (disch := omega) only [y_sw_o]; exact h5
  · simp (disch := omega) only [y_sw_o] at hj; simp (disch := omega) only [y_sw_o]; exact h6 j hj
  · simp (disch := omega) only [y_sw_o] at hl'; simp (disch := omega) only [y_sw_o]; exact h7 j l' hj hl'
  · simp (disch := omega) only [y_sw_o] at hj
    have q := h8 _ (y_tr_lt hk hl hj)
    rw [y_sw0 (by omega), y_sw1 (by omega), y_sw2 (by omega)]
    simp (disch := omega) only [y_sw_o]
    exact q
  · simp (disch := omega) only [y_sw_o] at hj; simp (disch := omega) only [y_sw_o]; exact h9 j hj
section C
variable {σ τ : j_G} {b : Nat → Nat} {k l : Nat}
theorem yc_exIn {a : Nat} {x : Nat → Int32} (hk : k < 24) (hl : l < 24) (hx : ∀ j, σ.1 a j = x j) : f_X3_exchangeIn a (nI k) (nI l) σ = some (j_si (j_si σ a k (x l)) a l (x k)) := by
  unfold f_X3_exchangeIn
  simp (disch := omega) only [y_lit, y_n1, nI_add, pk_mul, j_lt, j_b1_s, j_b2_s, j_b3_s, j_b0_s, y_bo, y_bo1, y_bo0, y_i0, y_i1, Classical.not_not, nI_clamp, y_ix, y_lt, y_le, y_eq, y_nP, y_nPs, y_ltP, y_ltQ, y_ltPP, y_eqP, y_eqQ, y_eqPP, if_pos, if_neg, ite_true, ite_false, not_true_eq_false, not_false_eq_true, and_true, true_and, and_false, false_and, or_true, true_or, or_false, false_or, hx]
theorem y_exr {a c j k l : Nat} {x y : Int32} {σ : j_G} (h : c ≠ a) : (j_si (j_si σ a k x) a l y).1 c j = σ.1 c j := by rw [j_r_ne h, j_r_ne h]
theorem y_exs {a k l j : Nat} {σ : j_G} : (j_si (j_si σ a k (σ.1 a l)) a l (σ.1 a k)).1 a j = σ.1 a (y_tr k l j) := by
  unfold y_tr
  by_cases h : j = l
  · subst h
    rw [j_r_eq]
    by_cases h2 : j = k
    · rw [if_pos h2, h2]
    · rw [if_neg h2, if_pos rfl]
  · rw [j_r_nj h]
    by_cases h2 : j = k
    · subst h2; rw [j_r_eq, if_pos rfl]
    · rw [j_r_nj h2, if_neg h2, if_neg h]
theorem yc_ex (hN : y_N σ b) (hW : y_W b) (hk : k < b 5) (hl : l < b 5) : ∃ σ', f_X3_exchange (nI k) (nI l) σ = some σ' ∧ y_N σ' (y_sw b k l) ∧ y_fr 6 8 σ σ' := by
  have b5 := hW.b5; have b4 := hW.b4; have b6 := hW.b6
  unfold f_X3_exchange
  simp (disch := omega) only [y_lit, y_n1, nI_add, pk_mul, j_lt, j_b1_s, j_b2_s, j_b3_s, j_b0_s, y_bo, y_bo1, y_bo0, y_i0, y_i1, Classical.not_not, nI_clamp, y_ix, y_lt, y_le, y_eq, y_nP, y_nPs, y_ltP, y_ltQ, y_ltPP, y_eqP, y_eqQ, y_eqPP, if_pos, if_neg, ite_true, ite_false, not_true_eq_false, not_false_eq_true, and_true, true_and, and_false, false_and, or_true, true_or, or_false, false_or, yc_has hN hW, y_rn]
  rw [yc_exIn (x := fun j => σ.1 6 j) (by omega) (by omega) (fun _ => rfl), j_b1_s]
  rw [yc_exIn (x := fun j => σ.1 7 j) (by omega) (by omega) (fun _ => y_exr (by omega)), j_b1_s]
  rw [yc_exIn (x := fun j => σ.1 8 j) (by omega) (by omega) (fun _ => by rw [y_exr (by omega), y_exr (by omega)]), j_b1_s]
  refine ⟨_, rfl, ?_, (((((y_fr.refl.si (by omega) (by omega)).si (by omega) (by omega)).si (by omega) (by omega)).si (by omega) (by omega)).si (by omega) (by omega)).si (by omega) (by omega)⟩
  obtain ⟨⟨f1, f2, f3, f4, f5, f6, f7, f10, d0, d1⟩, f8, s, t, c⟩ := hN
  unfold y_N y_cb
  refine ⟨?_, ?_, fun j hj => ?_, fun p q hp hq => ?_, fun j hj => ?_⟩
  · simp (disch := omega) only [y_exr, y_sw_o]
    exact ⟨f1, f2, f3, f4, f5, f6, f7, f10, d0, d1⟩
  · simp (disch := omega) only [y_exr, y_sw_o]; exact f8
  · simp (disch := omega) only [y_sw_o] at hj; simp (disch := omega) only [y_exr, y_sw_o]; exact s j hj
  · simp (disch := omega) only [y_sw_o] at hp; simp (disch := omega) only [y_exr, y_sw_o]; exact t p q hp hq
  · simp (disch := omega) only [y_sw_o] at hj
    have q := c _ (y_tr_lt hk hl hj)
    rw [y_sw0 (by omega), y_sw1 (by omega), y_sw2 (by omega)]
    refine ⟨?_, ?_, ?_⟩
    · rw [y_exr (by omega), y_exr (by omega), y_exs]; exact q.1
    · rw [y_exr (by omega)]
      have e : (j_si (j_si (j_si (j_si σ 6 k (σ.1 6 l)) 6 l (σ.1 6 k)) 7 k (σ.1 7 l)) 7 l (σ.1 7 k)).1 7 j = σ.1 7 (y_tr k l j) := by
        rw [show σ.1 7 l = (j_si (j_si σ 6 k (σ.1 6 l)) 6 l (σ.1 6 k)).1 7 l from (y_exr (by omega)).symm, show σ.1 7 k = (j_si (j_si σ 6 k (σ.1 6 l)) 6 l (σ.1 6 k)).1 7 k from (y_exr (by omega)).symm, y_exs, y_exr (by omega)]
      rw [e]; exact q.2.1
    · have e : ∀ s2 : j_G, (∀ j, s2.1 8 j = σ.1 8 j) → (j_si (j_si s2 8 k (σ.1 8 l)) 8 l (σ.1 8 k)).1 8 j = σ.1 8 (y_tr k l j) := by
        intro s2 h2
        rw [← h2 l, ← h2 k, y_exs, h2]
      rw [e _ (fun j => by rw [y_exr (by omega), y_exr (by omega)])]; exact q.2.2
theorem ym_ex (hM : y_M τ b) (hk : k < 24) (hl : l < 24) : ∃ τ', f_X12_trade (nI k) (nI l) τ = some τ' ∧ y_M τ' (y_sw b k l) ∧ y_km τ τ' := by
  unfold f_X12_trade
  rw [show j_F = 4996 + 1 + 1 + 1 + 1 from rfl]
  unfold p_X12_trade_2 f_X12_ofComing
  simp (disch := omega) only [y_lit, y_n1, nI_add, pk_mul, j_lt, j_b1_s, j_b2_s, j_b3_s, j_b0_s, y_bo, y_bo1, y_bo0, y_i0, y_i1, Classical.not_not, nI_clamp, y_ix, y_lt, y_le, y_eq, y_nP, y_nPs, y_ltP, y_ltQ, y_ltPP, y_eqP, y_eqQ, y_eqPP, if_pos, if_neg, ite_true, ite_false, not_true_eq_false, not_false_eq_true, and_true, true_and, and_false, false_and, or_true, true_or, or_false, false_or, j_r_ne, j_r_eq, j_r_nj]
  unfold p_X12_trade_2 f_X12_ofComing
  simp (disch := omega) only [y_lit, y_n1, nI_add, pk_mul, j_lt, j_b1_s, j_b2_s, j_b3_s, j_b0_s, y_bo, y_bo1, y_bo0, y_i0, y_i1, Classical.not_not, nI_clamp, y_ix, y_lt, y_le, y_eq, y_nP, y_nPs, y_ltP, y_ltQ, y_ltPP, y_eqP, y_eqQ, y_eqPP, if_pos, if_neg, ite_true, ite_false, not_true_eq_false, not_false_eq_true, and_true, true_and, and_false, false_and, or_true, true_or, or_false, false_or, j_r_ne, j_r_eq, j_r_nj]
  unfold p_X12_trade_2 f_X12_ofComing
  simp (disch := omega) only [y_lit, y_n1, nI_add, pk_mul, j_lt, j_b1_s, j_b2_s, j_b3_s, j_b0_s, y_bo, y_bo1, y_bo0, y_i0, y_i1, Classical.not_not, nI_clamp, y_ix, y_lt, y_le, y_eq, y_nP, y_nPs, y_ltP, y_ltQ, y_ltPP, y_eqP, y_eqQ, y_eqPP, if_pos, if_neg, ite_true, ite_false, not_true_eq_false, not_false_eq_true, and_true, true_and, and_false, false_and, or_true, true_or, or_false, false_or, j_r_ne, j_r_eq, j_r_nj]
  unfold p_X12_trade_2
  simp (disch := omega) only [y_lit, y_n1, nI_add, pk_mul, j_lt, j_b1_s, j_b2_s, j_b3_s, j_b0_s, y_bo, y_bo1, y_bo0, y_i0, y_i1, Classical.not_not, nI_clamp, y_ix, y_lt, y_le, y_eq, y_nP, y_nPs, y_ltP, y_ltQ, y_ltPP, y_eqP, y_eqQ, y_eqPP, if_pos, if_neg, ite_true, ite_false, not_true_eq_false, not_false_eq_true, and_true, true_and, and_false, false_and, or_true, true_or, or_false, false_or, j_r_ne, j_r_eq, j_r_nj]
  refine ⟨_, rfl, fun j hj => ?_, ((((y_km.w.trans y_km.w).trans y_km.w).trans y_km.w).trans y_km.w).trans y_km.w⟩
  have e0 := fun {i : Nat} (h : i < 24) => y_mb.k0 hM h
  have e1 := fun {i : Nat} (h : i < 24) => y_mb.k1 hM h
  have e2 := fun {i : Nat} (h : i < 24) => y_mb.k2 hM h
  by_cases h : 24 ≤ j ∧ j < 96
  · obtain ⟨i, hi⟩ : ∃ i, i = (j - 24) / 3 := ⟨_, rfl⟩
    have hi24 : i < 24 := by omega
    have q : j = 24 + 3 * i ∨ j = 25 + 3 * i ∨ j = 26 + 3 * i := by omega
    rcases q with rfl | rfl | rfl
    · rw [if_neg (by omega), y_sw0 hi24]
      unfold y_tr
      by_cases c1 : i = l
      · subst c1
        by_cases c2 : i = k
        · subst c2; rw [if_pos rfl]; simp (disch := omega) only [j_r_ne, j_r_eq, j_r_nj, Nat.add_zero, e0]
        · rw [if_neg c2, if_pos rfl]; simp (disch := omega) only [j_r_ne, j_r_eq, j_r_nj, Nat.add_zero, e0]
      · by_cases c2 : i = k
        · subst c2; rw [if_pos rfl]; simp (disch := omega) only [j_r_ne, j_r_eq, j_r_nj, Nat.add_zero, e0]
        · rw [if_neg c2, if_neg c1]; simp (disch := omega) only [j_r_ne, j_r_eq, j_r_nj, Nat.add_zero, e0]
    · rw [if_pos (by omega), y_sw1 hi24]
      unfold y_tr
      by_cases c1 : i = l
      · subst c1
        by_cases c2 : i = k
        · subst c2; rw [if_pos rfl]; simp (disch := omega) only [j_r_ne, j_r_eq, j_r_nj, Nat.add_right_comm 24 _ 1, e1]
        · rw [if_neg c2, if_pos rfl]; simp (disch := omega) only [j_r_ne, j_r_eq, j_r_nj, Nat.add_right_comm 24 _ 1, e1]
      · by_cases c2 : i = k
        · subst c2; rw [if_pos rfl]; simp (disch := omega) only [j_r_ne, j_r_eq, j_r_nj, Nat.add_right_comm 24 _ 1, e1]
        · rw [if_neg c2, if_neg c1]; simp (disch := omega) only [j_r_ne, j_r_eq, j_r_nj, Nat.add_right_comm 24 _ 1, e1]
    · rw [if_neg (by omega), y_sw2 hi24]
      unfold y_tr
      by_cases c1 : i = l
      · subst c1
        by_cases c2 : i = k
        · subst c2; rw [if_pos rfl]; simp (disch := omega) only [j_r_ne, j_r_eq, j_r_nj, Nat.add_right_comm 24 _ 2, e2]
        · rw [if_neg c2, if_pos rfl]; simp (disch := omega) only [j_r_ne, j_r_eq, j_r_nj, Nat.add_right_comm 24 _ 2, e2]
      · by_cases c2 : i = k
        · subst c2; rw [if_pos rfl]; simp (disch := omega) only [j_r_ne, j_r_eq, j_r_nj, Nat.add_right_comm 24 _ 2, e2]
        · rw [if_neg c2, if_neg c1]; simp (disch := omega) only [j_r_ne, j_r_eq, j_r_nj, Nat.add_right_comm 24 _ 2, e2]
  · rw [y_sw_o (by omega)]
    have := hM j hj
    simp (disch := omega) only [j_r_ne, j_r_eq, j_r_nj]
    exact this
end C
section Z
variable {σ τ : j_G}
theorem z_swap (hR : j_Rel σ τ) (a1 a2 : Int32) : ∃ v σ1 τ1, f_X11_swap a1 a2 σ = some (v, σ1) ∧ f_X12_swap a1 a2 τ = some (v, τ1) ∧ j_Rel σ1 τ1 := by
  obtain ⟨b, hW, hN, hM, hK⟩ := id hR
  have h5 := hW.b5
  by_cases h : y_rg a1 (b 5)
  · by_cases h2 : y_rg a2 (b 5)
    · obtain ⟨k, hk, rfl⟩ := y_of _ _ h.1 h.2
      obtain ⟨l, hl, rfl⟩ := y_of _ _ h2.1 h2.2
      obtain ⟨σ1, e1, e2, e3⟩ := yc_ex hN hW hk hl
      obtain ⟨τ1, f1, f2, f3⟩ := ym_ex (k := k) (l := l) hM (by omega) (by omega)
      refine ⟨0, σ1, τ1, ?_, ?_, y_sw b k l, hW.sw hk hl, e2, f2, hK.fr2 (y_kc.of e3 (by omega) (by omega)) f3⟩
      · unfold f_X11_swap; simp (disch := omega) only [y_lit, y_n1, nI_add, pk_mul, j_lt, j_b1_s, j_b2_s, j_b3_s, j_b0_s, y_bo, y_bo1, y_bo0, y_i0, y_i1, Classical.not_not, nI_clamp, y_ix, y_lt, y_le, y_eq, y_nP, y_nPs, y_ltP, y_ltQ, y_ltPP, y_eqP, y_eqQ, y_eqPP, if_pos, if_neg, ite_true, ite_false, not_true_eq_false, not_false_eq_true, and_true, true_and, and_false, false_and, or_true, true_or, or_false, false_or, yc_has hN hW, y_rn, e1]
      · unfold f_X12_swap; simp (disch := omega) only [y_lit, y_n1, nI_add, pk_mul, j_lt, j_b1_s, j_b2_s, j_b3_s, j_b0_s, y_bo, y_bo1, y_bo0, y_i0, y_i1, Classical.not_not, nI_clamp, y_ix, y_lt, y_le, y_eq, y_nP, y_nPs, y_ltP, y_ltQ, y_ltPP, y_eqP, y_eqQ, y_eqPP, if_pos, if_neg, ite_true, ite_false, not_true_eq_false, not_false_eq_true, and_true, true_and, and_false, false_and, or_true, true_or, or_false, false_or, ym_isComing hM hW, y_rn, f1]
    · refine ⟨-2, σ, τ, ?_, ?_, hR⟩
      · unfold f_X11_swap; simp (disch := omega) only [y_lit, y_n1, nI_add, pk_mul, j_lt, j_b1_s, j_b2_s, j_b3_s, j_b0_s, y_bo, y_bo1, y_bo0, y_i0, y_i1, Classical.not_not, nI_clamp, y_ix, y_lt, y_le, y_eq, y_nP, y_nPs, y_ltP, y_ltQ, y_ltPP, y_eqP, y_eqQ, y_eqPP, if_pos, if_neg, ite_true, ite_false, not_true_eq_false, not_false_eq_true, and_true, true_and, and_false, false_and, or_true, true_or, or_false, false_or, yc_has hN hW, h2]
      · unfold f_X12_swap; simp (disch := omega) only [y_lit, y_n1, nI_add, pk_mul, j_lt, j_b1_s, j_b2_s, j_b3_s, j_b0_s, y_bo, y_bo1, y_bo0, y_i0, y_i1, Classical.not_not, nI_clamp, y_ix, y_lt, y_le, y_eq, y_nP, y_nPs, y_ltP, y_ltQ, y_ltPP, y_eqP, y_eqQ, y_eqPP, if_pos, if_neg, ite_true, ite_false, not_true_eq_false, not_false_eq_true, and_true, true_and, and_false, false_and, or_true, true_or, or_false, false_or, ym_isComing hM hW, h, h2]
  · refine ⟨-2, σ, τ, ?_, ?_, hR⟩
    · unfold f_X11_swap; simp (disch := omega) only [y_lit, y_n1, nI_add, pk_mul, j_lt, j_b1_s, j_b2_s, j_b3_s, j_b0_s, y_bo, y_bo1, y_bo0, y_i0, y_i1, Classical.not_not, nI_clamp, y_ix, y_lt, y_le, y_eq, y_nP, y_nPs, y_ltP, y_ltQ, y_ltPP, y_eqP, y_eqQ, y_eqPP, if_pos, if_neg, ite_true, ite_false, not_true_eq_false, not_false_eq_true, and_true, true_and, and_false, false_and, or_true, true_or, or_false, false_or, yc_has hN hW, h]
    · unfold f_X12_swap; simp (disch := omega) only [y_lit, y_n1, nI_add, pk_mul, j_lt, j_b1_s, j_b2_s, j_b3_s, j_b0_s, y_bo, y_bo1, y_bo0, y_i0, y_i1, Classical.not_not, nI_clamp, y_ix, y_lt, y_le, y_eq, y_nP, y_nPs, y_ltP, y_ltQ, y_ltPP, y_eqP, y_eqQ, y_eqPP, if_pos, if_neg, ite_true, ite_false, not_true_eq_false, not_false_eq_true, and_true, true_and, and_false, false_and, or_true, true_or, or_false, false_or, ym_isComing hM hW, h]
theorem z_better (hR : j_Rel σ τ) (a1 : Int32) : ∃ v σ1 τ1, f_X11_better a1 σ = some (v, σ1) ∧ f_X12_better a1 τ = some (v, τ1) ∧ j_Rel σ1 τ1 := by
  obtain ⟨b, hW, hN, hM, hK⟩ := id hR
  have h5 := hW.b5
  by_cases h9 : 0 < b 9
  · by_cases h : y_rg a1 2
    · have inner : ∀ k, k < b 5 → ∀ m l n f x σ' τ', l + m = b 5 → m < n → x ≤ 576 → y_N σ' b → y_M τ' b → ∃ f' x' σ'' τ'', x' ≤ 576 ∧ p_X11_better_56 a1 (nI k) n f (nI x) (nI l) σ' = some (f', nI x', σ'') ∧ p_X12_better_47 a1 (nI k) n f (nI x) (nI l) τ' = some (f', nI x', τ'') ∧ y_N σ'' b ∧ y_M τ'' b ∧ y_kc σ' σ'' ∧ y_km τ' τ'' := by
        intro k hk m
        induction m with
        | zero =>
          intro l n f x σ' τ' h hn hx hN hM
          obtain ⟨n, rfl⟩ := y_pos hn
          refine ⟨f, x, σ', τ', hx, ?_, ?_, hN, hM, y_kc.refl, y_km.refl⟩
          · unfold p_X11_better_56; simp (disch := omega) only [y_lit, y_n1, nI_add, pk_mul, j_lt, j_b1_s, j_b2_s, j_b3_s, j_b0_s, y_bo, y_bo1, y_bo0, y_i0, y_i1, Classical.not_not, nI_clamp, y_ix, y_lt, y_le, y_eq, y_nP, y_nPs, y_ltP, y_ltQ, y_ltPP, y_eqP, y_eqQ, y_eqPP, if_pos, if_neg, ite_true, ite_false, not_true_eq_false, not_false_eq_true, and_true, true_and, and_false, false_and, or_true, true_or, or_false, false_or, hN.d0]
          · unfold p_X12_better_47; simp (disch := omega) only [y_lit, y_n1, nI_add, pk_mul, j_lt, j_b1_s, j_b2_s, j_b3_s, j_b0_s, y_bo, y_bo1, y_bo0, y_i0, y_i1, Classical.not_not, nI_clamp, y_ix, y_lt, y_le, y_eq, y_nP, y_nPs, y_ltP, y_ltQ, y_ltPP, y_eqP, y_eqQ, y_eqPP, if_pos, if_neg, ite_true, ite_false, not_true_eq_false, not_false_eq_true, and_true, true_and, and_false, false_and, or_true, true_or, or_false, false_or, hM.f]
        | succ m ih =>
          intro l n f x σ' τ' h hn hx hN hM
          obtain ⟨n, rfl⟩ := y_pos hn
          have hl : l < b 5 := by omega
          obtain ⟨σ1, e1, e2, e3⟩ := yc_ex hN hW hk hl
          obtain ⟨τ1, f1, f2, f3⟩ := ym_ex (k := k) (l := l) hM (by omega) (by omega)
          have hW1 := hW.sw hk hl
          have s5 : y_sw b k l 5 = b 5 := y_sw_o (by omega)
          obtain ⟨σ2, g1, g2, g3⟩ := yc_ex e2 hW1 (k := k) (l := l) (by omega) (by omega)
          obtain ⟨τ2, k1, k2, k3⟩ := ym_ex (k := k) (l := l) f2 (by omega) (by omega)
          rw [y_sw_sw (by omega) (by omega)] at g2 k2
          have pl := y_pa_le hW1
          have pc := yc_path e2 hW1
          have pm := ym_path f2 hW1
          generalize y_pa (y_sw b k l) = X at *
          have c1 : y_kc σ' σ2 := (y_kc.of e3 (by omega) (by omega)).trans (y_kc.of g3 (by omega) (by omega))
          have c2 := f3.trans k3
          have hlt : nI l < nI (b 5) := (y_lt (by omega) (by omega)).mpr hl
          have e5 := hM.f (j := 5) (by omega)
          have kc : p_X11_better_56 a1 (nI k) (n + 1) f (nI x) (nI l) σ' = p_X11_better_56 a1 (nI k) n (if a1 = nI 0 then (if nI x < nI X then (nI 100 * nI k + nI l, nI X) else (f, nI x)) else (if nI X < nI x then (nI 100 * nI k + nI l, nI X) else (f, nI x))).1 (if a1 = nI 0 then (if nI x < nI X then (nI 100 * nI k + nI l, nI X) else (f, nI x)) else (if nI X < nI x then (nI 100 * nI k + nI l, nI X) else (f, nI x))).2 (nI (l + 1)) σ2 := by
            rw [p_X11_better_56, hN.d0, if_pos hlt, e1, j_b1_s, pc, j_b1_s, g1, j_b1_s, show (1 : Int32) = nI 1 from rfl, nI_add]
            rfl
          have km : p_X12_better_47 a1 (nI k) (n + 1) f (nI x) (nI l) τ' = p_X12_better_47 a1 (nI k) n (if a1 = nI 0 then (if ¬ nI x < nI X then (f, nI x) else (nI 100 * nI k + nI l, nI X)) else (if ¬ nI X < nI x then (f, nI x) else (nI 100 * nI k + nI l, nI X))).1 (if a1 = nI 0 then (if ¬ nI x < nI X then (f, nI x) else (nI 100 * nI k + nI l, nI X)) else (if ¬ nI X < nI x then (f, nI x) else (nI 100 * nI k + nI l, nI X))).2 (nI (l + 1)) τ2 := by
            rw [p_X12_better_47, show (5 : Int32) = nI 5 from rfl, y_ix (by omega) (by omega), nI_clamp (by omega), e5, if_pos hlt, f1, j_b1_s, pm, j_b1_s, k1, j_b1_s, show (1 : Int32) = nI 1 from rfl, nI_add]
            rfl
          rw [kc, km]
          have go : ∀ f x, x ≤ 576 → ∃ f' x' σ'' τ'', x' ≤ 576 ∧ p_X11_better_56 a1 (nI k) n f (nI x) (nI (l + 1)) σ2 = some (f', nI x', σ'') ∧ p_X12_better_47 a1 (nI k) n f (nI x) (nI (l + 1)) τ2 = some (f', nI x', τ'') ∧ y_N σ'' b ∧ y_M τ'' b ∧ y_kc σ' σ'' ∧ y_km τ' τ'' := by
            intro f x hx
            obtain ⟨f', x', σ'', τ'', r0, r1, r2, r3, r4, r5, r6⟩ := ih (l + 1) n f x σ2 τ2 (by omega) (by omega) hx g2 k2
            exact ⟨f', x', σ'', τ'', r0, r1, r2, r3, r4, c1.trans r5, c2.trans r6⟩
          by_cases a0 : a1 = nI 0
          · simp only [if_pos a0]
            by_cases c : nI x < nI X
            · rw [if_pos c, if_neg (fun z => z c)]; exact go _ _ pl
            · rw [if_neg c, if_pos c]; exact go _ _ hx
          · simp only [if_neg a0]
            by_cases c : nI X < nI x
            · rw [if_pos c, if_neg (fun z => z c)]; exact go _ _ pl
            · rw [if_neg c, if_pos c]; exact go _ _ hx
      have outer : ∀ m k n f x σ' τ', k + m = b 5 → m < n → x ≤ 576 → y_N σ' b → y_M τ' b → ∃ v σ'' τ'', p_X11_better_35 a1 n f (nI x) (nI k) σ' = some (v, σ'') ∧ p_X12_better_30 a1 n f (nI x) (nI k) τ' = some (v, τ'') ∧ y_N σ'' b ∧ y_M τ'' b ∧ y_kc σ' σ'' ∧ y_km τ' τ'' := by
        intro m
        induction m with
        | zero =>
          intro k n f x σ' τ' h hn hx hN hM
          obtain ⟨n, rfl⟩ := y_pos hn
          refine ⟨f, σ', τ', ?_, ?_, hN, hM, y_kc.refl, y_km.refl⟩
          · unfold p_X11_better_35; simp (disch := omega) only [y_lit, y_n1, nI_add, pk_mul, j_lt, j_b1_s, j_b2_s, j_b3_s, j_b0_s, y_bo, y_bo1, y_bo0, y_i0, y_i1, Classical.not_not, nI_clamp, y_ix, y_lt, y_le, y_eq, y_nP, y_nPs, y_ltP, y_ltQ, y_ltPP, y_eqP, y_eqQ, y_eqPP, if_pos, if_neg, ite_true, ite_false, not_true_eq_false, not_false_eq_true, and_true, true_and, and_false, false_and, or_true, true_or, or_false, false_or, hN.d0]
          · unfold p_X12_better_30; simp (disch := omega) only [y_lit, y_n1, nI_add, pk_mul, j_lt, j_b1_s, j_b2_s, j_b3_s, j_b0_s, y_bo, y_bo1, y_bo0, y_i0, y_i1, Classical.not_not, nI_clamp, y_ix, y_lt, y_le, y_eq, y_nP, y_nPs, y_ltP, y_ltQ, y_ltPP, y_eqP, y_eqQ, y_eqPP, if_pos, if_neg, ite_true, ite_false, not_true_eq_false, not_false_eq_true, and_true, true_and, and_false, false_and, or_true, true_or, or_false, false_or, hM.f]
        | succ m ih =>
          intro k n f x σ' τ' h hn hx hN hM
          obtain ⟨n, rfl⟩ := y_pos hn
          obtain ⟨f', x', σ1, τ1, r0, r1, r2, r3, r4, r5, r6⟩ := inner k (by omega) m (k + 1) j_F f x σ' τ' (by omega) (y_F (by omega)) hx hN hM
          obtain ⟨v, σ2, τ2, s1, s2, s3, s4, s5, s6⟩ := ih (k + 1) n f' x' σ1 τ1 (by omega) (by omega) r0 r3 r4
          have hlt : nI k < nI (b 5) := (y_lt (by omega) (by omega)).mpr (by omega)
          have e5 := hM.f (j := 5) (by omega)
          refine ⟨v, σ2, τ2, ?_, ?_, s3, s4, r5.trans s5, r6.trans s6⟩
          · rw [p_X11_better_35, hN.d0, if_pos hlt, show (1 : Int32) = nI 1 from rfl, nI_add]
            simp only [j_lt]
            rw [r1, j_b3_s]; exact s1
          · rw [p_X12_better_30, show (5 : Int32) = nI 5 from rfl, y_ix (by omega) (by omega), nI_clamp (by omega), e5, if_pos hlt, show (1 : Int32) = nI 1 from rfl, nI_add]
            simp only [j_lt]
            rw [r2, j_b3_s]; exact s2
      obtain ⟨v, σ1, τ1, r1, r2, r3, r4, r5, r6⟩ := outer (b 5) 0 j_F (nP 0) (y_pa b) σ τ (by omega) (y_F (by omega)) (y_pa_le hW) hN hM
      refine ⟨v, σ1, τ1, ?_, ?_, b, hW, r3, r4, hK.fr2 r5 r6⟩
      · unfold f_X11_better; simp (disch := omega) only [y_lit, y_n1, nI_add, pk_mul, j_lt, j_b1_s, j_b2_s, j_b3_s, j_b0_s, y_bo, y_bo1, y_bo0, y_i0, y_i1, Classical.not_not, nI_clamp, y_ix, y_lt, y_le, y_eq, y_nP, y_nPs, y_ltP, y_ltQ, y_ltPP, y_eqP, y_eqQ, y_eqPP, if_pos, if_neg, ite_true, ite_false, not_true_eq_false, not_false_eq_true, and_true, true_and, and_false, false_and, or_true, true_or, or_false, false_or, yc_isTold hN hW, y_c5, h, yc_path hN hW, r1]
      · unfold f_X12_better; simp (disch := omega) only [y_lit, y_n1, nI_add, pk_mul, j_lt, j_b1_s, j_b2_s, j_b3_s, j_b0_s, y_bo, y_bo1, y_bo0, y_i0, y_i1, Classical.not_not, nI_clamp, y_ix, y_lt, y_le, y_eq, y_nP, y_nPs, y_ltP, y_ltQ, y_ltPP, y_eqP, y_eqQ, y_eqPP, if_pos, if_neg, ite_true, ite_false, not_true_eq_false, not_false_eq_true, and_true, true_and, and_false, false_and, or_true, true_or, or_false, false_or, ym_isBoard hM hW, y_lit64, y_in, y_c3, h, ym_path hM hW, r2]
    · refine ⟨-2, σ, τ, ?_, ?_, hR⟩
      · unfold f_X11_better; simp (disch := omega) only [y_lit, y_n1, nI_add, pk_mul, j_lt, j_b1_s, j_b2_s, j_b3_s, j_b0_s, y_bo, y_bo1, y_bo0, y_i0, y_i1, Classical.not_not, nI_clamp, y_ix, y_lt, y_le, y_eq, y_nP, y_nPs, y_ltP, y_ltQ, y_ltPP, y_eqP, y_eqQ, y_eqPP, if_pos, if_neg, ite_true, ite_false, not_true_eq_false, not_false_eq_true, and_true, true_and, and_false, false_and, or_true, true_or, or_false, false_or, yc_isTold hN hW, y_c5, h]
      · unfold f_X12_better; simp (disch := omega) only [y_lit, y_n1, nI_add, pk_mul, j_lt, j_b1_s, j_b2_s, j_b3_s, j_b0_s, y_bo, y_bo1, y_bo0, y_i0, y_i1, Classical.not_not, nI_clamp, y_ix, y_lt, y_le, y_eq, y_nP, y_nPs, y_ltP, y_ltQ, y_ltPP, y_eqP, y_eqQ, y_eqPP, if_pos, if_neg, ite_true, ite_false, not_true_eq_false, not_false_eq_true, and_true, true_and, and_false, false_and, or_true, true_or, or_false, false_or, ym_isBoard hM hW, y_lit64, y_in, y_c3, h]
  · refine ⟨-2, σ, τ, ?_, ?_, hR⟩
    · unfold f_X11_better; simp (disch := omega) only [y_lit, y_n1, nI_add, pk_mul, j_lt, j_b1_s, j_b2_s, j_b3_s, j_b0_s, y_bo, y_bo1, y_bo0, y_i0, y_i1, Classical.not_not, nI_clamp, y_ix, y_lt, y_le, y_eq, y_nP, y_nPs, y_ltP, y_ltQ, y_ltPP, y_eqP, y_eqQ, y_eqPP, if_pos, if_neg, ite_true, ite_false, not_true_eq_false, not_false_eq_true, and_true, true_and, and_false, false_and, or_true, true_or, or_false, false_or, yc_isTold hN hW]
    · unfold f_X12_better; simp (disch := omega) only [y_lit, y_n1, nI_add, pk_mul, j_lt, j_b1_s, j_b2_s, j_b3_s, j_b0_s, y_bo, y_bo1, y_bo0, y_i0, y_i1, Classical.not_not, nI_clamp, y_ix, y_lt, y_le, y_eq, y_nP, y_nPs, y_ltP, y_ltQ, y_ltPP, y_eqP, y_eqQ, y_eqPP, if_pos, if_neg, ite_true, ite_false, not_true_eq_false, not_false_eq_true, and_true, true_and, and_false, false_and, or_true, true_or, or_false, false_or, ym_isBoard hM hW]
end Z
/-! ===== nights ===== -/
theorem y_litL (n : Nat) : (OfNat.ofNat n : Int64) = lN (OfNat.ofNat n) := Eq.trans rfl (Eq.refl _)
noncomputable def y_nx (x : Nat) : Nat := (1103515245 * x + 12345) % 2147483648
/-- whether a hole may come now -/
noncomputable def y_ok (b : Nat → Nat) (l one two h : Nat) : Nat := if y_sh b h = 1 then 0 else y_lz b l h one two
noncomputable def y_cn (b : Nat → Nat) (l one two : Nat) : Nat := y_su (y_ok b l one two) (y_ho b) 0 0
noncomputable def y_nt (b : Nat → Nat) (l one two : Nat) : Nat → Nat → Nat → Nat
  | 0, _, _ => 0
  | m + 1, h, z => if y_ok b l one two h = 0 then y_nt b l one two m (h + 1) z else if z = 0 then h + 1 else y_nt b l one two m (h + 1) (z - 1)
noncomputable def y_nh (b : Nat → Nat) (l one two x : Nat) : Nat := y_nt b l one two (y_ho b) 0 (y_nx x / 65536 % y_cn b l one two)
noncomputable def y_ng (b : Nat → Nat) (l : Nat) : Nat → Nat → Nat → Nat → Nat → (Nat → Nat) → Nat × (Nat → Nat)
  | 0, i, _, _, _, g => (i, g)
  | m + 1, i, x, one, two, g => if y_last b i < b 2 then (if y_cn b l one two = 0 then (i, g) else y_ng b l m (i + 1) (y_nx x) (y_nh b l one two x) one (y_u (y_u (y_u g (3 * i) (y_nh b l one two x - 1)) (3 * i + 1) 0) (3 * i + 2) 0)) else (i, g)
noncomputable def y_nig (b : Nat → Nat) (l x : Nat) : Nat × (Nat → Nat) := y_ng b l 60 0 x 0 0 (fun _ => 0)
theorem y_ok_le (b : Nat → Nat) (l one two h : Nat) : y_ok b l one two h ≤ 1 := by
  have := y_lz_le b l h one two
  unfold y_ok; split <;> omega
theorem y_cn_le {b : Nat → Nat} (hW : y_W b) (l one two : Nat) : y_cn b l one two ≤ 12 := by
  have := hW.ho
  have := y_su_bd (f := y_ok b l one two) (c := 1) (y_ho b) 0 (fun j _ _ => y_ok_le _ _ _ _ _)
  unfold y_cn; omega
theorem y_nt_le {b : Nat → Nat} {l one two : Nat} : ∀ m h z, y_nt b l one two m h z ≤ h + m := by
  intro m
  induction m with
  | zero => intro h z; exact Nat.zero_le _
  | succ m ih =>
    intro h z
    unfold y_nt
    split
    · have := ih (h + 1) z; omega
    · split
      · omega
      · have := ih (h + 1) (z - 1); omega
theorem y_nt_pos {b : Nat → Nat} {l one two : Nat} : ∀ m h z, z < y_su (y_ok b l one two) m h 0 → 0 < y_nt b l one two m h z := by
  intro m
  induction m with
  | zero => intro h z hz; exact absurd hz (Nat.not_lt_zero _)
  | succ m ih =>
    intro h z hz
    rw [y_su_s] at hz
    have := y_ok_le b l one two h
    unfold y_nt
    split
    · exact ih (h + 1) z (by omega)
    · split
      · omega
      · exact ih (h + 1) (z - 1) (by omega)
theorem y_nh_bd {b : Nat → Nat} {l one two x : Nat} (hc : y_cn b l one two ≠ 0) : 0 < y_nh b l one two x ∧ y_nh b l one two x ≤ y_ho b := by
  unfold y_nh
  refine ⟨y_nt_pos _ _ _ (Nat.mod_lt _ (by omega)), ?_⟩
  have := y_nt_le (b := b) (l := l) (one := one) (two := two) (y_ho b) 0 (y_nx x / 65536 % y_cn b l one two)
  omega
theorem y_nx_lt (x : Nat) : y_nx x < 2147483648 := Nat.mod_lt _ (by omega)
theorem y_cg.congr {σ : j_G} {b g g' : Nat → Nat} {s : Nat} (h : y_cg σ b s g) (e : ∀ j, j < 3 * s → g' j = g j) : y_cg σ b s g' := by
  refine ⟨h.1, fun i hi => ?_⟩
  have := h.2 i hi
  rw [e (3 * i) (by omega), e (3 * i + 1) (by omega), e (3 * i + 2) (by omega)]
  exact this
theorem y_mg.congr {σ : j_G} {b g g' : Nat → Nat} {s : Nat} (h : y_mg σ b s g) (e : ∀ j, j < 3 * s → g' j = g j) : y_mg σ b s g' := by
  refine ⟨h.1, fun i hi => ?_⟩
  have := h.2 i hi
  rw [e (3 * i) (by omega), e (3 * i + 1) (by omega), e (3 * i + 2) (by omega)]
  exact this
section C
variable {σ τ : j_G} {b : Nat → Nat} {l one two : Nat} {B L : Int32}
theorem yc_count {x6 : Int32} {x4 : Int64} (hN : y_N σ b) (hW : y_W b) (h9 : 0 < b 9) (hl : l < 4) (h1 : one ≤ 12) (h2 : two ≤ 12) (hz : one = 0 → two = 0) (eB : B = nP two) (eL : L = nP one) : p_X4_draw_38 (nI l) x4 B L x6 σ j_F (nI 0) (nI 0) = some (nI (y_cn b l one two)) := by
  have h4 := hW.ho
  have key : ∀ m i n v, i + m = y_ho b → m < n → p_X4_draw_38 (nI l) x4 B L x6 σ n (nI v) (nI i) = some (nI (y_su (y_ok b l one two) m i v)) := by
    intro m
    induction m with
    | zero =>
      intro i n v h hn
      obtain ⟨n, rfl⟩ := y_pos hn
      unfold p_X4_draw_38 y_su; simp (disch := omega) only [y_lit, y_n1, nI_add, pk_mul, j_lt, j_b1_s, j_b2_s, j_b3_s, j_b0_s, y_bo, y_bo1, y_bo0, y_i0, y_i1, Classical.not_not, nI_clamp, y_ix, y_lt, y_le, y_eq, y_nP, y_nPs, y_ltP, y_ltQ, y_ltPP, y_eqP, y_eqQ, y_eqPP, if_pos, if_neg, ite_true, ite_false, not_true_eq_false, not_false_eq_true, and_true, true_and, and_false, false_and, or_true, true_or, or_false, false_or, yc_holes hN]
    | succ m ih =>
      intro i n v h hn
      obtain ⟨n, rfl⟩ := y_pos hn
      have sl := y_sh_le b i
      have ll := y_lz_le b l i one two
      have cl := yc_lets hN hW h9 (l := l) (h := i) hl (by omega) h1 h2 hz eB eL
      unfold p_X4_draw_38 y_su; simp (disch := omega) only [y_lit, y_n1, nI_add, pk_mul, j_lt, j_b1_s, j_b2_s, j_b3_s, j_b0_s, y_bo, y_bo1, y_bo0, y_i0, y_i1, Classical.not_not, nI_clamp, y_ix, y_lt, y_le, y_eq, y_nP, y_nPs, y_ltP, y_ltQ, y_ltPP, y_eqP, y_eqQ, y_eqPP, if_pos, if_neg, ite_true, ite_false, not_true_eq_false, not_false_eq_true, and_true, true_and, and_false, false_and, or_true, true_or, or_false, false_or, yc_holes hN, yc_isShut hN hW]
      by_cases c : y_sh b i = 1
      · have e : y_ok b l one two i = 0 := if_pos c
        rw [e]; simp (disch := omega) only [y_lit, y_n1, nI_add, pk_mul, j_lt, j_b1_s, j_b2_s, j_b3_s, j_b0_s, y_bo, y_bo1, y_bo0, y_i0, y_i1, Classical.not_not, nI_clamp, y_ix, y_lt, y_le, y_eq, y_nP, y_nPs, y_ltP, y_ltQ, y_ltPP, y_eqP, y_eqQ, y_eqPP, if_pos, if_neg, ite_true, ite_false, not_true_eq_false, not_false_eq_true, and_true, true_and, and_false, false_and, or_true, true_or, or_false, false_or]
        exact ih (i + 1) n _ (by omega) (by omega)
      · have e : y_ok b l one two i = y_lz b l i one two := if_neg c
        rw [e]; simp (disch := omega) only [y_lit, y_n1, nI_add, pk_mul, j_lt, j_b1_s, j_b2_s, j_b3_s, j_b0_s, y_bo, y_bo1, y_bo0, y_i0, y_i1, Classical.not_not, nI_clamp, y_ix, y_lt, y_le, y_eq, y_nP, y_nPs, y_ltP, y_ltQ, y_ltPP, y_eqP, y_eqQ, y_eqPP, if_pos, if_neg, ite_true, ite_false, not_true_eq_false, not_false_eq_true, and_true, true_and, and_false, false_and, or_true, true_or, or_false, false_or, cl]
        by_cases d : y_lz b l i one two = 0
        · rw [d]; simp (disch := omega) only [y_lit, y_n1, nI_add, pk_mul, j_lt, j_b1_s, j_b2_s, j_b3_s, j_b0_s, y_bo, y_bo1, y_bo0, y_i0, y_i1, Classical.not_not, nI_clamp, y_ix, y_lt, y_le, y_eq, y_nP, y_nPs, y_ltP, y_ltQ, y_ltPP, y_eqP, y_eqQ, y_eqPP, if_pos, if_neg, ite_true, ite_false, not_true_eq_false, not_false_eq_true, and_true, true_and, and_false, false_and, or_true, true_or, or_false, false_or]
          exact ih (i + 1) n _ (by omega) (by omega)
        · have d1 : y_lz b l i one two = 1 := by omega
          rw [d1]; simp (disch := omega) only [y_lit, y_n1, nI_add, pk_mul, j_lt, j_b1_s, j_b2_s, j_b3_s, j_b0_s, y_bo, y_bo1, y_bo0, y_i0, y_i1, Classical.not_not, nI_clamp, y_ix, y_lt, y_le, y_eq, y_nP, y_nPs, y_ltP, y_ltQ, y_ltPP, y_eqP, y_eqQ, y_eqPP, if_pos, if_neg, ite_true, ite_false, not_true_eq_false, not_false_eq_true, and_true, true_and, and_false, false_and, or_true, true_or, or_false, false_or]
          exact ih (i + 1) n _ (by omega) (by omega)
  exact key (y_ho b) 0 j_F 0 (by omega) (y_F (by omega))
theorem yc_nth (hN : y_N σ b) (hW : y_W b) (h9 : 0 < b 9) (hl : l < 4) (h1 : one ≤ 12) (h2 : two ≤ 12) (hz : one = 0 → two = 0) (eB : B = nP two) (eL : L = nP one) {z : Nat} (hzz : z < 100) : f_X4_nthLet (nI l) B L (nI z) σ = some (nP (y_nt b l one two (y_ho b) 0 z)) := by
  have h4 := hW.ho
  have key : ∀ m i n v, i + m = y_ho b → m < n → v ≤ z → p_X4_nthLet_6 (nI l) B L (nI z) σ n (nI v) (nI i) = some (nP (y_nt b l one two m i (z - v))) := by
    intro m
    induction m with
    | zero =>
      intro i n v h hn hv
      obtain ⟨n, rfl⟩ := y_pos hn
      unfold p_X4_nthLet_6 y_nt; simp (disch := omega) only [y_lit, y_n1, nI_add, pk_mul, j_lt, j_b1_s, j_b2_s, j_b3_s, j_b0_s, y_bo, y_bo1, y_bo0, y_i0, y_i1, Classical.not_not, nI_clamp, y_ix, y_lt, y_le, y_eq, y_nP, y_nPs, y_ltP, y_ltQ, y_ltPP, y_eqP, y_eqQ, y_eqPP, if_pos, if_neg, ite_true, ite_false, not_true_eq_false, not_false_eq_true, and_true, true_and, and_false, false_and, or_true, true_or, or_false, false_or, yc_holes hN]
    | succ m ih =>
      intro i n v h hn hv
      obtain ⟨n, rfl⟩ := y_pos hn
      have sl := y_sh_le b i
      have ll := y_lz_le b l i one two
      have cl := yc_lets hN hW h9 (l := l) (h := i) hl (by omega) h1 h2 hz eB eL
      unfold p_X4_nthLet_6 y_nt; simp (disch := omega) only [y_lit, y_n1, nI_add, pk_mul, j_lt, j_b1_s, j_b2_s, j_b3_s, j_b0_s, y_bo, y_bo1, y_bo0, y_i0, y_i1, Classical.not_not, nI_clamp, y_ix, y_lt, y_le, y_eq, y_nP, y_nPs, y_ltP, y_ltQ, y_ltPP, y_eqP, y_eqQ, y_eqPP, if_pos, if_neg, ite_true, ite_false, not_true_eq_false, not_false_eq_true, and_true, true_and, and_false, false_and, or_true, true_or, or_false, false_or, yc_holes hN, yc_isShut hN hW]
      by_cases c : y_sh b i = 1
      · have e : y_ok b l one two i = 0 := if_pos c
        rw [e]; simp (disch := omega) only [y_lit, y_n1, nI_add, pk_mul, j_lt, j_b1_s, j_b2_s, j_b3_s, j_b0_s, y_bo, y_bo1, y_bo0, y_i0, y_i1, Classical.not_not, nI_clamp, y_ix, y_lt, y_le, y_eq, y_nP, y_nPs, y_ltP, y_ltQ, y_ltPP, y_eqP, y_eqQ, y_eqPP, if_pos, if_neg, ite_true, ite_false, not_true_eq_false, not_false_eq_true, and_true, true_and, and_false, false_and, or_true, true_or, or_false, false_or]
        exact ih (i + 1) n _ (by omega) (by omega) hv
      · have e : y_ok b l one two i = y_lz b l i one two := if_neg c
        rw [e]; simp (disch := omega) only [y_lit, y_n1, nI_add, pk_mul, j_lt, j_b1_s, j_b2_s, j_b3_s, j_b0_s, y_bo, y_bo1, y_bo0, y_i0, y_i1, Classical.not_not, nI_clamp, y_ix, y_lt, y_le, y_eq, y_nP, y_nPs, y_ltP, y_ltQ, y_ltPP, y_eqP, y_eqQ, y_eqPP, if_pos, if_neg, ite_true, ite_false, not_true_eq_false, not_false_eq_true, and_true, true_and, and_false, false_and, or_true, true_or, or_false, false_or, cl]
        by_cases d : y_lz b l i one two = 0
        · simp (disch := omega) only [y_lit, y_n1, nI_add, pk_mul, j_lt, j_b1_s, j_b2_s, j_b3_s, j_b0_s, y_bo, y_bo1, y_bo0, y_i0, y_i1, Classical.not_not, nI_clamp, y_ix, y_lt, y_le, y_eq, y_nP, y_nPs, y_ltP, y_ltQ, y_ltPP, y_eqP, y_eqQ, y_eqPP, if_pos, if_neg, ite_true, ite_false, not_true_eq_false, not_false_eq_true, and_true, true_and, and_false, false_and, or_true, true_or, or_false, false_or]
          exact ih (i + 1) n _ (by omega) (by omega) hv
        · simp (disch := omega) only [y_lit, y_n1, nI_add, pk_mul, j_lt, j_b1_s, j_b2_s, j_b3_s, j_b0_s, y_bo, y_bo1, y_bo0, y_i0, y_i1, Classical.not_not, nI_clamp, y_ix, y_lt, y_le, y_eq, y_nP, y_nPs, y_ltP, y_ltQ, y_ltPP, y_eqP, y_eqQ, y_eqPP, if_pos, if_neg, ite_true, ite_false, not_true_eq_false, not_false_eq_true, and_true, true_and, and_false, false_and, or_true, true_or, or_false, false_or]
          by_cases q : v = z
          · simp (disch := omega) only [y_lit, y_n1, nI_add, pk_mul, j_lt, j_b1_s, j_b2_s, j_b3_s, j_b0_s, y_bo, y_bo1, y_bo0, y_i0, y_i1, Classical.not_not, nI_clamp, y_ix, y_lt, y_le, y_eq, y_nP, y_nPs, y_ltP, y_ltQ, y_ltPP, y_eqP, y_eqQ, y_eqPP, if_pos, if_neg, ite_true, ite_false, not_true_eq_false, not_false_eq_true, and_true, true_and, and_false, false_and, or_true, true_or, or_false, false_or]
          · simp (disch := omega) only [y_lit, y_n1, nI_add, pk_mul, j_lt, j_b1_s, j_b2_s, j_b3_s, j_b0_s, y_bo, y_bo1, y_bo0, y_i0, y_i1, Classical.not_not, nI_clamp, y_ix, y_lt, y_le, y_eq, y_nP, y_nPs, y_ltP, y_ltQ, y_ltPP, y_eqP, y_eqQ, y_eqPP, if_pos, if_neg, ite_true, ite_false, not_true_eq_false, not_false_eq_true, and_true, true_and, and_false, false_and, or_true, true_or, or_false, false_or]
            rw [ih (i + 1) n _ (by omega) (by omega) (by omega), show z - (v + 1) = z - v - 1 from by omega]
  have k := key (y_ho b) 0 j_F 0 (by omega) (y_F (by omega)) (Nat.zero_le _)
  unfold f_X4_nthLet
  rw [y_lit, k]
  rfl
theorem ym_count (hM : y_M τ b) (hW : y_W b) (h9 : 0 < b 9) (hl : l < 4) (h1 : one ≤ 12) (h2 : two ≤ 12) (eB : B = nP two) (eL : L = nP one) : p_X12_holeByLot_54 (nI l) L B τ j_F (nI 0) (nI 0) = some (nI (y_cn b l one two)) := by
  have h4 := hW.ho
  have key : ∀ m i n v, i + m = y_ho b → m < n → p_X12_holeByLot_54 (nI l) L B τ n (nI v) (nI i) = some (nI (y_su (y_ok b l one two) m i v)) := by
    intro m
    induction m with
    | zero =>
      intro i n v h hn
      obtain ⟨n, rfl⟩ := y_pos hn
      unfold p_X12_holeByLot_54 y_su; simp (disch := omega) only [y_lit, y_n1, nI_add, pk_mul, j_lt, j_b1_s, j_b2_s, j_b3_s, j_b0_s, y_bo, y_bo1, y_bo0, y_i0, y_i1, Classical.not_not, nI_clamp, y_ix, y_lt, y_le, y_eq, y_nP, y_nPs, y_ltP, y_ltQ, y_ltPP, y_eqP, y_eqQ, y_eqPP, if_pos, if_neg, ite_true, ite_false, not_true_eq_false, not_false_eq_true, and_true, true_and, and_false, false_and, or_true, true_or, or_false, false_or, ym_holes hM]
    | succ m ih =>
      intro i n v h hn
      obtain ⟨n, rfl⟩ := y_pos hn
      have ll := y_ok_le b l one two i
      have cl : f_X12_lets (nI l) (nI i) L B τ = some (nI (y_ok b l one two i)) := ym_lets hM hW h9 (l := l) (h := i) hl (by omega) h1 h2 eB eL
      unfold p_X12_holeByLot_54 y_su; simp (disch := omega) only [y_lit, y_n1, nI_add, pk_mul, j_lt, j_b1_s, j_b2_s, j_b3_s, j_b0_s, y_bo, y_bo1, y_bo0, y_i0, y_i1, Classical.not_not, nI_clamp, y_ix, y_lt, y_le, y_eq, y_nP, y_nPs, y_ltP, y_ltQ, y_ltPP, y_eqP, y_eqQ, y_eqPP, if_pos, if_neg, ite_true, ite_false, not_true_eq_false, not_false_eq_true, and_true, true_and, and_false, false_and, or_true, true_or, or_false, false_or, ym_holes hM, cl]
      by_cases d : y_ok b l one two i = 0
      · rw [d]; simp (disch := omega) only [y_lit, y_n1, nI_add, pk_mul, j_lt, j_b1_s, j_b2_s, j_b3_s, j_b0_s, y_bo, y_bo1, y_bo0, y_i0, y_i1, Classical.not_not, nI_clamp, y_ix, y_lt, y_le, y_eq, y_nP, y_nPs, y_ltP, y_ltQ, y_ltPP, y_eqP, y_eqQ, y_eqPP, if_pos, if_neg, ite_true, ite_false, not_true_eq_false, not_false_eq_true, and_true, true_and, and_false, false_and, or_true, true_or, or_false, false_or]
        exact ih (i + 1) n _ (by omega) (by omega)
      · have d1 : y_ok b l one two i = 1 := by omega
        rw [d1]; simp (disch := omega) only [y_lit, y_n1, nI_add, pk_mul, j_lt, j_b1_s, j_b2_s, j_b3_s, j_b0_s, y_bo, y_bo1, y_bo0, y_i0, y_i1, Classical.not_not, nI_clamp, y_ix, y_lt, y_le, y_eq, y_nP, y_nPs, y_ltP, y_ltQ, y_ltPP, y_eqP, y_eqQ, y_eqPP, if_pos, if_neg, ite_true, ite_false, not_true_eq_false, not_false_eq_true, and_true, true_and, and_false, false_and, or_true, true_or, or_false, false_or]
        exact ih (i + 1) n _ (by omega) (by omega)
  exact key (y_ho b) 0 j_F 0 (by omega) (y_F (by omega))
theorem ym_nth (hM : y_M τ b) (hW : y_W b) (h9 : 0 < b 9) (hl : l < 4) (h1 : one ≤ 12) (h2 : two ≤ 12) (eB : B = nP two) (eL : L = nP one) {z : Nat} (hzz : z < 100) : p_X12_holeByLot_109 (nI l) L B τ j_F (nI z) (nI 0) = some (nP (y_nt b l one two (y_ho b) 0 z), τ) := by
  have h4 := hW.ho
  have key : ∀ m i n v, i + m = y_ho b → m < n → v < 100 → p_X12_holeByLot_109 (nI l) L B τ n (nI v) (nI i) = some (nP (y_nt b l one two m i v), τ) := by
    intro m
    induction m with
    | zero =>
      intro i n v h hn hv
      obtain ⟨n, rfl⟩ := y_pos hn
      unfold p_X12_holeByLot_109 y_nt; simp (disch := omega) only [y_lit, y_n1, nI_add, pk_mul, j_lt, j_b1_s, j_b2_s, j_b3_s, j_b0_s, y_bo, y_bo1, y_bo0, y_i0, y_i1, Classical.not_not, nI_clamp, y_ix, y_lt, y_le, y_eq, y_nP, y_nPs, y_ltP, y_ltQ, y_ltPP, y_eqP, y_eqQ, y_eqPP, if_pos, if_neg, ite_true, ite_false, not_true_eq_false, not_false_eq_true, and_true, true_and, and_false, false_and, or_true, true_or, or_false, false_or, ym_holes hM]
    | succ m ih =>
      intro i n v h hn hv
      obtain ⟨n, rfl⟩ := y_pos hn
      have ll := y_ok_le b l one two i
      have cl : f_X12_lets (nI l) (nI i) L B τ = some (nI (y_ok b l one two i)) := ym_lets hM hW h9 (l := l) (h := i) hl (by omega) h1 h2 eB eL
      have ep : ∀ v, 0 < v → nI v + nP 0 = nI (v - 1) := by
        intro v hv
        obtain ⟨w, rfl⟩ : ∃ w, v = w + 1 := ⟨v - 1, by omega⟩
        exact pk_m1 w
      unfold p_X12_holeByLot_109 y_nt; simp (disch := omega) only [y_lit, y_n1, nI_add, pk_mul, j_lt, j_b1_s, j_b2_s, j_b3_s, j_b0_s, y_bo, y_bo1, y_bo0, y_i0, y_i1, Classical.not_not, nI_clamp, y_ix, y_lt, y_le, y_eq, y_nP, y_nPs, y_ltP, y_ltQ, y_ltPP, y_eqP, y_eqQ, y_eqPP, if_pos, if_neg, ite_true, ite_false, not_true_eq_false, not_false_eq_true, and_true, true_and, and_false, false_and, or_true, true_or, or_false, false_or, ym_holes hM, cl]
      by_cases d : y_ok b l one two i = 0
      · simp (disch := omega) only [y_lit, y_n1, nI_add, pk_mul, j_lt, j_b1_s, j_b2_s, j_b3_s, j_b0_s, y_bo, y_bo1, y_bo0, y_i0, y_i1, Classical.not_not, nI_clamp, y_ix, y_lt, y_le, y_eq, y_nP, y_nPs, y_ltP, y_ltQ, y_ltPP, y_eqP, y_eqQ, y_eqPP, if_pos, if_neg, ite_true, ite_false, not_true_eq_false, not_false_eq_true, and_true, true_and, and_false, false_and, or_true, true_or, or_false, false_or]
        exact ih (i + 1) n _ (by omega) (by omega) hv
      · simp (disch := omega) only [y_lit, y_n1, nI_add, pk_mul, j_lt, j_b1_s, j_b2_s, j_b3_s, j_b0_s, y_bo, y_bo1, y_bo0, y_i0, y_i1, Classical.not_not, nI_clamp, y_ix, y_lt, y_le, y_eq, y_nP, y_nPs, y_ltP, y_ltQ, y_ltPP, y_eqP, y_eqQ, y_eqPP, if_pos, if_neg, ite_true, ite_false, not_true_eq_false, not_false_eq_true, and_true, true_and, and_false, false_and, or_true, true_or, or_false, false_or]
        by_cases q : v = 0
        · simp (disch := omega) only [y_lit, y_n1, nI_add, pk_mul, j_lt, j_b1_s, j_b2_s, j_b3_s, j_b0_s, y_bo, y_bo1, y_bo0, y_i0, y_i1, Classical.not_not, nI_clamp, y_ix, y_lt, y_le, y_eq, y_nP, y_nPs, y_ltP, y_ltQ, y_ltPP, y_eqP, y_eqQ, y_eqPP, if_pos, if_neg, ite_true, ite_false, not_true_eq_false, not_false_eq_true, and_true, true_and, and_false, false_and, or_true, true_or, or_false, false_or]
        · simp (disch := omega) only [y_lit, y_n1, nI_add, pk_mul, j_lt, j_b1_s, j_b2_s, j_b3_s, j_b0_s, y_bo, y_bo1, y_bo0, y_i0, y_i1, Classical.not_not, nI_clamp, y_ix, y_lt, y_le, y_eq, y_nP, y_nPs, y_ltP, y_ltQ, y_ltPP, y_eqP, y_eqQ, y_eqPP, if_pos, if_neg, ite_true, ite_false, not_true_eq_false, not_false_eq_true, and_true, true_and, and_false, false_and, or_true, true_or, or_false, false_or, ep]
          exact ih (i + 1) n _ (by omega) (by omega) (by omega)
  exact key (y_ho b) 0 j_F z (by omega) (y_F (by omega)) hzz
theorem y_rnd {x n : Nat} (hx : x < 2147483648) (h0 : 0 < n) (hn : n < 100) :
    (((((1103515245 : Int64) * lN x) + (12345 : Int64)) - (((1103515245 : Int64) * lN x) + (12345 : Int64)) / (2147483648 : Int64) * (2147483648 : Int64)) = lN (y_nx x)) ∧
    (((lN (y_nx x) / (65536 : Int64)) - (lN (y_nx x) / (65536 : Int64)) / (nI n).toInt64 * (nI n).toInt64)).toInt32 = nI (y_nx x / 65536 % n) := by
  have hy := y_nx_lt x
  constructor
  · simp only [y_litL, lN_mul, lN_add]
    rw [pk_lRem (by omega) (by omega) (by omega)]
    rfl
  · rw [nI_l (by omega)]
    simp only [y_litL]
    rw [pk_lDiv (by omega) (by omega) (by omega), pk_lRem (by omega) (by omega) (by omega), lN_i]
end C
/-! ===== nights laid out ===== -/
/-- the game with one coming more -/
noncomputable def y_g1 (g : Nat → Nat) (i h : Nat) : Nat → Nat := y_u (y_u (y_u g (3 * i) (h - 1)) (3 * i + 1) 0) (3 * i + 2) 0
theorem y_ng_s {b : Nat → Nat} {l m i x one two : Nat} {g : Nat → Nat} : y_ng b l (m + 1) i x one two g = if y_last b i < b 2 then (if y_cn b l one two = 0 then (i, g) else y_ng b l m (i + 1) (y_nx x) (y_nh b l one two x) one (y_g1 g i (y_nh b l one two x))) else (i, g) := rfl
theorem y_g1_o {g : Nat → Nat} {i h j : Nat} (hj : j < 3 * i) : y_g1 g i h j = g j := by
  unfold y_g1; rw [y_un (by omega), y_un (by omega), y_un (by omega)]
theorem y_g10 {g : Nat → Nat} {i h : Nat} : y_g1 g i h (3 * i) = h - 1 := by
  unfold y_g1; rw [y_un (by omega), y_un (by omega), y_ue]
theorem y_g11 {g : Nat → Nat} {i h : Nat} : y_g1 g i h (3 * i + 1) = 0 := by
  unfold y_g1; rw [y_un (by omega), y_ue]
theorem y_g12 {g : Nat → Nat} {i h : Nat} : y_g1 g i h (3 * i + 2) = 0 := by
  unfold y_g1; rw [y_ue]
theorem y_ng_vg {b : Nat → Nat} {l : Nat} (hW : y_W b) : ∀ m i x one two g, i + m = 60 → y_vg b i g → y_vg b (y_ng b l m i x one two g).1 (y_ng b l m i x one two g).2 := by
  intro m
  induction m with
  | zero => intro i x one two g _ h; exact h
  | succ m ih =>
    intro i x one two g h hv
    rw [y_ng_s]
    by_cases c : y_last b i < b 2
    · rw [if_pos c]
      by_cases d : y_cn b l one two = 0
      · rw [if_pos d]; exact hv
      · rw [if_neg d]
        have nb := y_nh_bd (x := x) d
        refine ih _ _ _ _ _ (by omega) ⟨by omega, fun j hj => ?_⟩
        by_cases e : j = i
        · subst e
          rw [y_g10, y_g11, y_g12]
          exact ⟨by omega, by omega, by omega, by omega, fun z => absurd z (by omega), c⟩
        · rw [y_g1_o (by omega), y_g1_o (by omega), y_g1_o (by omega)]
          exact hv.2 j (by omega)
    · rw [if_neg c]; exact hv
theorem y_nig_vg {b : Nat → Nat} (hW : y_W b) (l x : Nat) : y_vg b (y_nig b l x).1 (y_nig b l x).2 := y_ng_vg hW 60 0 x 0 0 _ (by omega) ⟨by omega, fun i hi => absurd hi (by omega)⟩
theorem yc_draw_l {b : Nat → Nat} {l : Nat} (hW : y_W b) (h9 : 0 < b 9) (hl : l < 4) : ∀ m i n x one two g σ, i + m = 60 → m < n → x < 2147483648 → one ≤ 12 → two ≤ 12 → (one = 0 → two = 0) → y_N σ b → (i = 0 ∨ y_last b (i - 1) < b 2) → y_ci σ b i g → ∃ σ', p_X4_draw_17 (nI l) n (lN x) (nP two) (nP one) (nI i) σ = some σ' ∧ y_cg σ' b (y_ng b l m i x one two g).1 (y_ng b l m i x one two g).2 ∧ y_fr 22 27 σ σ' := by
  have h4 := hW.ho
  intro m
  induction m with
  | zero =>
    intro i n x one two g σ h hn hx h1 h2 hz hN hf hc
    obtain ⟨n, rfl⟩ := y_pos hn
    refine ⟨σ, ?_, hc.1, y_fr.refl⟩
    unfold p_X4_draw_17; simp (disch := omega) only [y_lit, y_n1, nI_add, pk_mul, j_lt, j_b1_s, j_b2_s, j_b3_s, j_b0_s, y_bo, y_bo1, y_bo0, y_i0, y_i1, Classical.not_not, nI_clamp, y_ix, y_lt, y_le, y_eq, y_nP, y_nPs, y_ltP, y_ltQ, y_ltPP, y_eqP, y_eqQ, y_eqPP, if_pos, if_neg, ite_true, ite_false, not_true_eq_false, not_false_eq_true, and_true, true_and, and_false, false_and, or_true, true_or, or_false, false_or]
  | succ m ih =>
    intro i n x one two g σ h hn hx h1 h2 hz hN hf hc
    obtain ⟨n, rfl⟩ := y_pos hn
    have ff := y_from_bd hW hf
    have cl := y_cn_le hW l one two
    have cnt := fun x6 => yc_count (l := l) (one := one) (two := two) (x6 := x6) (x4 := lN x) hN hW h9 hl h1 h2 hz rfl rfl
    have hlt : nI i < nI 60 := (y_lt (by omega) (by omega)).mpr (by omega)
    rw [y_ng_s]
    by_cases c : y_last b i < b 2
    · rw [if_pos c]
      have hroom := yc_room hN hW (show i ≤ 60 by omega) ff hc
      rw [if_pos ⟨by omega, c⟩] at hroom
      by_cases d : y_cn b l one two = 0
      · rw [if_pos d]
        refine ⟨σ, ?_, hc.1, y_fr.refl⟩
        rw [p_X4_draw_17, show (60 : Int32) = nI 60 from rfl, if_pos hlt, hroom, j_b1_s, show (0 : Int32) = nI 0 from rfl, if_pos (show ¬ nI 1 = nI 0 from by decide), cnt, j_b1_s, d, if_pos rfl]
      · rw [if_neg d]
        have nb := y_nh_bd (x := x) d
        obtain ⟨r1, r2⟩ := y_rnd (x := x) (n := y_cn b l one two) hx (by omega) (by omega)
        have nth := yc_nth (l := l) (one := one) (two := two) hN hW h9 hl h1 h2 hz rfl rfl (z := y_nx x / 65536 % y_cn b l one two) (by have := Nat.mod_lt (y_nx x / 65536) (show 0 < y_cn b l one two by omega); omega)
        have hc2 : y_ci σ b i (y_g1 g i (y_nh b l one two x)) := ⟨hc.1.congr (fun j hj => y_g1_o hj), hc.2⟩
        have en : nP (y_nh b l one two x) = nI (y_nh b l one two x - 1) := by
          obtain ⟨w, hw⟩ : ∃ w, y_nh b l one two x = w + 1 := ⟨y_nh b l one two x - 1, by omega⟩
          rw [hw, y_nPs]; rfl
        obtain ⟨σ1, a1, a2, a3⟩ := yc_add (x := nP (y_nh b l one two x)) (y := nP 0) (z := nI 0) hN hW (by omega) ff hc2 (by rw [y_g10, en]) (by rw [y_g11]) (by rw [y_g12])
        obtain ⟨σ2, g1, g2, g3⟩ := ih (i + 1) n (y_nx x) (y_nh b l one two x) one (y_g1 g i (y_nh b l one two x)) σ1 (by omega) (by omega) (y_nx_lt x) (by omega) h1 (fun z => by omega) (hN.fr a3 (by omega)) (Or.inr c) a2
        refine ⟨σ2, ?_, g2, a3.trans g3⟩
        have n1 : ¬ (2147483648 : Int64) = 0 := by decide
        have n2 : ¬ (65536 : Int64) = 0 := by decide
        have n3 : ¬ (nI (y_cn b l one two)).toInt64 = 0 := by
          rw [nI_l (by omega)]
          intro z
          have := (pk_lEQ (a := y_cn b l one two) (b := 0) (by omega) (by omega)).mp z
          omega
        have n4 : ¬ nI (y_cn b l one two) = nI 0 := by rw [y_eq (by omega) (by omega)]; exact d
        rw [p_X4_draw_17, show (60 : Int32) = nI 60 from rfl, if_pos hlt, hroom, j_b1_s, show (0 : Int32) = nI 0 from rfl, if_pos (show ¬ nI 1 = nI 0 from by decide), cnt, j_b1_s, if_neg n4, if_neg n1]
        simp only [j_lt]
        rw [if_neg n2, if_neg n3, r1, r2, nth, j_b1_s, y_m1]
        show j_b1 (f_X4_add (nP (y_nh b l one two x)) (nP 0) (nI 0) σ) _ = _
        rw [a1, j_b1_s, show (1 : Int32) = nI 1 from rfl, nI_add]
        exact g1
    · rw [if_neg c]
      refine ⟨σ, ?_, hc.1, y_fr.refl⟩
      have hroom := yc_room hN hW (show i ≤ 60 by omega) ff hc
      rw [if_neg (fun z => c z.2)] at hroom
      unfold p_X4_draw_17; simp (disch := omega) only [y_lit, y_n1, nI_add, pk_mul, j_lt, j_b1_s, j_b2_s, j_b3_s, j_b0_s, y_bo, y_bo1, y_bo0, y_i0, y_i1, Classical.not_not, nI_clamp, y_ix, y_lt, y_le, y_eq, y_nP, y_nPs, y_ltP, y_ltQ, y_ltPP, y_eqP, y_eqQ, y_eqPP, if_pos, if_neg, ite_true, ite_false, not_true_eq_false, not_false_eq_true, and_true, true_and, and_false, false_and, or_true, true_or, or_false, false_or, hroom]
theorem yc_draw {σ : j_G} {b : Nat → Nat} {l x : Nat} (hN : y_N σ b) (hW : y_W b) (h9 : 0 < b 9) (hl : l < 4) (hx : x < 2147483648) : ∃ σ', f_X4_draw (nI x) (nI l) σ = some σ' ∧ y_cg σ' b (y_nig b l x).1 (y_nig b l x).2 ∧ y_fr 22 27 σ σ' := by
  unfold f_X4_draw f_X4_begin
  simp only [j_lt, j_b1_s, y_lit, y_n1]
  rw [nI_l (by omega)]
  have f : y_fr 22 27 σ (j_si (j_si σ 22 0 (nI 0)) 22 6 (nI 0)) := (y_fr.refl.si (by omega) (by omega)).si (by omega) (by omega)
  have hN1 := hN.fr f (by omega)
  have hc : y_ci (j_si (j_si σ 22 0 (nI 0)) 22 6 (nI 0)) b 0 (fun _ => 0) := ⟨⟨by simp (disch := omega) only [j_r_ne, j_r_eq, j_r_nj], fun i hi => absurd hi (by omega)⟩, j_r_eq⟩
  obtain ⟨σ2, g1, g2, g3⟩ := yc_draw_l hW h9 hl 60 0 j_F x 0 0 _ _ (by omega) (y_F (by omega)) hx (by omega) (by omega) (fun _ => rfl) hN1 (Or.inl rfl) hc
  exact ⟨σ2, g1, g2, f.trans g3⟩
theorem ym_night_l {b : Nat → Nat} {l : Nat} (hW : y_W b) (h9 : 0 < b 9) (hl : l < 4) : ∀ m i n x one two g τ, i + m = 60 → m < n → x < 2147483648 → one = (if i = 0 then 0 else g (3 * (i - 1)) + 1) → two = (if i < 2 then 0 else g (3 * (i - 2)) + 1) → one ≤ 12 → two ≤ 12 → y_M τ b → (i = 0 ∨ y_last b (i - 1) < b 2) → y_mg τ b i g → τ.2 75 42 = lN x → ∃ τ', p_X12_layNight_10 (nI l) n τ = some τ' ∧ y_mg τ' b (y_ng b l m i x one two g).1 (y_ng b l m i x one two g).2 ∧ y_fm 18 18 82 84 τ τ' := by
  have h4 := hW.ho
  have hb2 := (hW.on h9).2.2.1
  intro m
  induction m with
  | zero =>
    intro i n x one two g τ h hn hx e1 e2 h1 h2 hM hf hc hxx
    obtain ⟨n, rfl⟩ := y_pos hn
    have ff := y_from_bd hW hf
    refine ⟨τ, ?_, hc, y_fm.refl⟩
    have hroom := ym_may hM hW (show i ≤ 60 by omega) ff hb2 hc
    rw [if_neg (fun z => by omega)] at hroom
    unfold p_X12_layNight_10; simp (disch := omega) only [y_lit, y_n1, nI_add, pk_mul, j_lt, j_b1_s, j_b2_s, j_b3_s, j_b0_s, y_bo, y_bo1, y_bo0, y_i0, y_i1, Classical.not_not, nI_clamp, y_ix, y_lt, y_le, y_eq, y_nP, y_nPs, y_ltP, y_ltQ, y_ltPP, y_eqP, y_eqQ, y_eqPP, if_pos, if_neg, ite_true, ite_false, not_true_eq_false, not_false_eq_true, and_true, true_and, and_false, false_and, or_true, true_or, or_false, false_or, hroom]
  | succ m ih =>
    intro i n x one two g τ h hn hx e1 e2 h1 h2 hM hf hc hxx
    obtain ⟨n, rfl⟩ := y_pos hn
    have ff := y_from_bd hW hf
    have cl := y_cn_le hW l one two
    have hroom := ym_may hM hW (show i ≤ 60 by omega) ff hb2 hc
    rw [y_ng_s]
    by_cases c : y_last b i < b 2
    · rw [if_pos c]
      rw [if_pos ⟨by omega, c⟩] at hroom
      have v1 : (if (τ.1 75 18) < (1 : Int32) then (some (-1 : Int32)) else (j_b1 (f_X12_inGame ((τ.1 75 18) - (1 : Int32)) (0 : Int32) τ) fun v2 => some v2)) = some (nP one) := by
        rw [hc.1, e1]
        by_cases z : i = 0
        · simp (disch := omega) only [y_lit, y_n1, nI_add, pk_mul, j_lt, j_b1_s, j_b2_s, j_b3_s, j_b0_s, y_bo, y_bo1, y_bo0, y_i0, y_i1, Classical.not_not, nI_clamp, y_ix, y_lt, y_le, y_eq, y_nP, y_nPs, y_ltP, y_ltQ, y_ltPP, y_eqP, y_eqQ, y_eqPP, if_pos, if_neg, ite_true, ite_false, not_true_eq_false, not_false_eq_true, and_true, true_and, and_false, false_and, or_true, true_or, or_false, false_or, z]
        · have q := (hc.2 (i - 1) (by omega)).1
          unfold f_X12_inGame
          simp (disch := omega) only [y_lit, y_n1, nI_add, pk_mul, j_lt, j_b1_s, j_b2_s, j_b3_s, j_b0_s, y_bo, y_bo1, y_bo0, y_i0, y_i1, Classical.not_not, nI_clamp, y_ix, y_lt, y_le, y_eq, y_nP, y_nPs, y_ltP, y_ltQ, y_ltPP, y_eqP, y_eqQ, y_eqPP, if_pos, if_neg, ite_true, ite_false, not_true_eq_false, not_false_eq_true, and_true, true_and, and_false, false_and, or_true, true_or, or_false, false_or, pk_sub, Nat.add_zero, q]
      have v3 : (if (τ.1 75 18) < (2 : Int32) then (some (-1 : Int32)) else (j_b1 (f_X12_inGame ((τ.1 75 18) - (2 : Int32)) (0 : Int32) τ) fun v4 => some v4)) = some (nP two) := by
        rw [hc.1, e2]
        by_cases z : i < 2
        · simp (disch := omega) only [y_lit, y_n1, nI_add, pk_mul, j_lt, j_b1_s, j_b2_s, j_b3_s, j_b0_s, y_bo, y_bo1, y_bo0, y_i0, y_i1, Classical.not_not, nI_clamp, y_ix, y_lt, y_le, y_eq, y_nP, y_nPs, y_ltP, y_ltQ, y_ltPP, y_eqP, y_eqQ, y_eqPP, if_pos, if_neg, ite_true, ite_false, not_true_eq_false, not_false_eq_true, and_true, true_and, and_false, false_and, or_true, true_or, or_false, false_or]
        · have q := (hc.2 (i - 2) (by omega)).1
          unfold f_X12_inGame
          simp (disch := omega) only [y_lit, y_n1, nI_add, pk_mul, j_lt, j_b1_s, j_b2_s, j_b3_s, j_b0_s, y_bo, y_bo1, y_bo0, y_i0, y_i1, Classical.not_not, nI_clamp, y_ix, y_lt, y_le, y_eq, y_nP, y_nPs, y_ltP, y_ltQ, y_ltPP, y_eqP, y_eqQ, y_eqPP, if_pos, if_neg, ite_true, ite_false, not_true_eq_false, not_false_eq_true, and_true, true_and, and_false, false_and, or_true, true_or, or_false, false_or, pk_sub, Nat.add_zero, q]
      have cnt := ym_count (l := l) (one := one) (two := two) hM hW h9 hl h1 h2 rfl rfl
      by_cases d : y_cn b l one two = 0
      · rw [if_pos d]
        refine ⟨τ, ?_, hc, y_fm.refl⟩
        have hh : f_X12_holeByLot (nI l) τ = some (nP 0, τ) := by
          unfold f_X12_holeByLot
          rw [v1, j_b1_s, v3, j_b1_s, show (0 : Int32) = nI 0 from rfl, cnt, j_b1_s, d, if_pos rfl]; rfl
        rw [p_X12_layNight_10, hroom, j_b1_s, show (0 : Int32) = nI 0 from rfl, if_pos (show ¬ nI 1 = nI 0 from by decide), hh, j_b2_s, y_m1, if_pos rfl]
      · rw [if_neg d]
        have nb := y_nh_bd (x := x) d
        obtain ⟨r1, r2⟩ := y_rnd (x := x) (n := y_cn b l one two) hx (by omega) (by omega)
        have f1 : y_fm 18 18 82 84 τ (j_sl τ 75 42 (lN (y_nx x))) := y_fm.refl.slo
        have hM1 := hM.fr f1 (by omega)
        have hg1 : y_mg (j_sl τ 75 42 (lN (y_nx x))) b i g := hc
        have n1 : ¬ (2147483648 : Int64) = 0 := by decide
        have n2 : ¬ (65536 : Int64) = 0 := by decide
        have n3 : ¬ (nI (y_cn b l one two)).toInt64 = 0 := by
          rw [nI_l (by omega)]
          intro z
          have := (pk_lEQ (a := y_cn b l one two) (b := 0) (by omega) (by omega)).mp z
          omega
        have n4 : ¬ nI (y_cn b l one two) = nI 0 := by rw [y_eq (by omega) (by omega)]; exact d
        have dr : f_X12_draw (nI (y_cn b l one two)) τ = some (nI (y_nx x / 65536 % y_cn b l one two), j_sl τ 75 42 (lN (y_nx x))) := by
          unfold f_X12_draw
          rw [if_neg n1]
          simp only [j_lt]
          rw [if_neg n2, if_neg n3, hxx, r1, j_l_eq, r2]
        have nth := ym_nth (l := l) (one := one) (two := two) hM1 hW h9 hl h1 h2 rfl rfl (z := y_nx x / 65536 % y_cn b l one two) (by have := Nat.mod_lt (y_nx x / 65536) (show 0 < y_cn b l one two by omega); omega)
        have hh : f_X12_holeByLot (nI l) τ = some (nP (y_nh b l one two x), j_sl τ 75 42 (lN (y_nx x))) := by
          unfold f_X12_holeByLot
          rw [v1, j_b1_s, v3, j_b1_s, show (0 : Int32) = nI 0 from rfl, cnt, j_b1_s, if_neg n4, dr, j_b2_s]
          exact nth
        have hc2 : y_mg (j_sl τ 75 42 (lN (y_nx x))) b i (y_g1 g i (y_nh b l one two x)) := hg1.congr (fun j hj => y_g1_o hj)
        have en : nP (y_nh b l one two x) = nI (y_nh b l one two x - 1) := by
          obtain ⟨w, hw⟩ : ∃ w, y_nh b l one two x = w + 1 := ⟨y_nh b l one two x - 1, by omega⟩
          rw [hw, y_nPs]; rfl
        obtain ⟨τ1, a1, a2, a3, a5⟩ := ym_come (x := nP (y_nh b l one two x)) (y := nP 0) (z := nI 0) hM1 hW (by omega) ff hc2 (by rw [y_g10, en]) (by rw [y_g11]) (by rw [y_g12])
        have a4 : τ1.2 75 42 = lN (y_nx x) := by rw [a5, j_l_eq]
        obtain ⟨τ2, g1, g2, g3⟩ := ih (i + 1) n (y_nx x) (y_nh b l one two x) one (y_g1 g i (y_nh b l one two x)) τ1 (by omega) (by omega) (y_nx_lt x) (by rw [if_neg (Nat.succ_ne_zero i), Nat.add_sub_cancel, y_g10]; omega) (by
          rw [e1]
          by_cases z : i = 0
          · rw [if_pos z, if_pos (by omega)]
          · rw [if_neg z, if_neg (by omega), show i + 1 - 2 = i - 1 from by omega, y_g1_o (by omega)]) (by omega) h1 (hM1.fr a3 (by omega)) (Or.inr c) a2 a4
        refine ⟨τ2, ?_, g2, f1.trans (a3.trans g3)⟩
        have n5 : ¬ nP (y_nh b l one two x) = nP 0 := by rw [y_eqPP (by omega) (by omega)]; omega
        rw [p_X12_layNight_10, hroom, j_b1_s, show (0 : Int32) = nI 0 from rfl, if_pos (show ¬ nI 1 = nI 0 from by decide), hh, j_b2_s, y_m1, if_neg n5, a1, j_b1_s]
        exact g1
    · rw [if_neg c]
      refine ⟨τ, ?_, hc, y_fm.refl⟩
      rw [if_neg (fun z => c z.2)] at hroom
      unfold p_X12_layNight_10; simp (disch := omega) only [y_lit, y_n1, nI_add, pk_mul, j_lt, j_b1_s, j_b2_s, j_b3_s, j_b0_s, y_bo, y_bo1, y_bo0, y_i0, y_i1, Classical.not_not, nI_clamp, y_ix, y_lt, y_le, y_eq, y_nP, y_nPs, y_ltP, y_ltQ, y_ltPP, y_eqP, y_eqQ, y_eqPP, if_pos, if_neg, ite_true, ite_false, not_true_eq_false, not_false_eq_true, and_true, true_and, and_false, false_and, or_true, true_or, or_false, false_or, hroom]
theorem ym_night {τ : j_G} {b : Nat → Nat} {l x : Nat} (hM : y_M τ b) (hW : y_W b) (h9 : 0 < b 9) (hl : l < 4) (hx : x < 2147483648) : ∃ τ', f_X12_layNight (lN x) (nI l) τ = some τ' ∧ y_mg τ' b (y_nig b l x).1 (y_nig b l x).2 ∧ y_fm 18 18 82 84 τ τ' := by
  unfold f_X12_layNight
  simp only [j_lt, y_lit]
  have f : y_fm 18 18 82 84 τ (j_si (j_sl τ 75 42 (lN x)) 75 18 (nI 0)) := y_fm.refl.slo.so (by omega) (by omega)
  have hM1 := hM.fr f (by omega)
  have hc : y_mg (j_si (j_sl τ 75 42 (lN x)) 75 18 (nI 0)) b 0 (fun _ => 0) := ⟨by simp (disch := omega) only [j_r_ne, j_r_eq, j_r_nj], fun i hi => absurd hi (by omega)⟩
  obtain ⟨σ2, g1, g2, g3⟩ := ym_night_l hW h9 hl 60 0 j_F x 0 0 _ _ (by omega) (y_F (by omega)) hx (by rw [if_pos rfl]) (by rw [if_pos (by omega)]) (by omega) (by omega) hM1 (Or.inl rfl) hc (by rw [j_r_2, j_l_eq])
  exact ⟨σ2, g1, g2, f.trans g3⟩
/-! ===== drawn, night, years, lucky ===== -/
noncomputable def y_NH (b : Nat → Nat) (l x : Nat) (q : Nat → Nat) : Nat := y_run b (y_nig b l x).2 q y_k1 0 (y_nig b l x).1 0
section C
variable {σ τ : j_G} {b q : Nat → Nat} {l x p : Nat}
theorem yc_isSeed {x : Int32} : f_X11_isSeed x = if y_rg x 2000000001 then nI 1 else nI 0 := by
  unfold f_X11_isSeed; simp only [y_lit]; simp (disch := omega) only [y_c3]
theorem ym_isSeed {x : Int32} : f_X12_isSeed x = if y_rg x 2000000001 then nI 1 else nI 0 := by
  unfold f_X12_isSeed; simp (disch := omega) only [y_lit, y_n1, nI_add, pk_mul, j_lt, j_b1_s, j_b2_s, j_b3_s, j_b0_s, y_bo, y_bo1, y_bo0, y_i0, y_i1, Classical.not_not, nI_clamp, y_ix, y_lt, y_le, y_eq, y_nP, y_nPs, y_ltP, y_ltQ, y_ltPP, y_eqP, y_eqQ, y_eqPP, if_pos, if_neg, ite_true, ite_false, not_true_eq_false, not_false_eq_true, and_true, true_and, and_false, false_and, or_true, true_or, or_false, false_or, y_lit64, y_in, y_c3]
theorem y_NH_le (hW : y_W b) (hq : y_vq b q) : y_NH b l x q ≤ 120 := (y_run_br hW (y_nig_vg hW l x) hq).1
theorem yc_nightH (hN : y_N σ b) (hp : y_cp σ 28 q) (hW : y_W b) (h9 : 0 < b 9) (hq : y_vq b q) (hl : l < 4) (hx : x < 2147483648) : ∃ σ1 σ2, f_X4_draw (nI x) (nI l) σ = some σ1 ∧ f_X9_good 30 28 22 31 32 25 23 24 26 33 34 (nP 0) σ1 = some (nI (y_NH b l x q), σ2) ∧ y_N σ2 b ∧ y_cp σ2 28 q ∧ y_fr 22 41 σ σ2 := by
  obtain ⟨σ1, e1, e2, e3⟩ := yc_draw hN hW h9 hl hx
  have hN1 := hN.fr e3 (by omega)
  have hp1 := hp.fr e3 (by omega)
  obtain ⟨σ2, f1, f2, f3⟩ := yc_good hN1 hW h9 e2 (y_nig_vg hW l x) hp1 (by omega) hq y_mkC
  exact ⟨σ1, σ2, e1, f1, hN1.fr f3 (by omega), hp1.fr f3 (by omega), (e3.wide (by omega) (by omega)).trans (f3.wide (by omega) (by omega))⟩
theorem ym_nightH (hM : y_M τ b) (hW : y_W b) (hp : p < b 6) (hl : l < 4) (hx : x < 2147483648) : ∃ τ', f_X12_nightOf (lN x) (nI l) (nI p) τ = some (nI (y_NH b l x (y_pq b p)), τ') ∧ y_M τ' b ∧ y_fm 18 42 80 93 τ τ' := by
  have h9 := hW.on0 (Or.inr (Or.inr (Or.inr (Or.inl (by omega : 0 < b 6)))))
  obtain ⟨τ1, e1, e2, e3⟩ := ym_night hM hW h9 hl hx
  have hM1 := hM.fr e3 (by omega)
  obtain ⟨τ2, g1, g2, g3, g4, g5⟩ := ym_told hM1 hW hp
  have hM2 := hM1.fr g5 (by omega)
  have hg2 : y_mg τ2 b (y_nig b l x).1 (y_nig b l x).2 := by
    unfold y_mg at *
    rw [(g5.2 82 (by omega) (by omega)).1, (g5.2 83 (by omega) (by omega)).1, (g5.2 84 (by omega) (by omega)).1, g5.1 18 (by omega)]
    exact e2
  obtain ⟨τ3, k1, k2, k3⟩ := ym_run (k := y_k1) (red := 0) hM2 hW h9 hg2 (y_nig_vg hW l x) g2 (y_pqv hW hp) (by rw [g3]; exact y_mkM) (by omega) g4
  unfold f_X12_nightOf
  rw [e1, j_b1_s, g1, j_b1_s, k1]
  refine ⟨τ3, by rw [j_b1_s, k2.1.1]; rfl, hM2.fr k3 (by omega), (e3.wide (by omega) (by omega) (by omega) (by omega)).trans ((g5.wide (by omega) (by omega) (by omega) (by omega)).trans (k3.wide (by omega) (by omega) (by omega) (by omega)))⟩
end C
section Z
variable {σ τ : j_G}
theorem z_drawn (hR : j_Rel σ τ) (a1 a2 a3 : Int32) : ∃ v σ1 τ1, f_X11_drawn a1 a2 a3 σ = some (v, σ1) ∧ f_X12_drawn a1 a2 a3 τ = some (v, τ1) ∧ j_Rel σ1 τ1 := by
  obtain ⟨b, hW, hN, hM, hK⟩ := id hR
  by_cases h9 : 0 < b 9
  · by_cases h : y_rg a1 2000000001
    · by_cases h2 : y_rg a2 4
      · obtain ⟨x, hx, rfl⟩ := y_of _ _ h.1 h.2
        obtain ⟨l, hl, rfl⟩ := y_of _ _ h2.1 h2.2
        obtain ⟨σ1, e1, e2, e3⟩ := yc_draw (x := x) hN hW h9 hl (by omega)
        obtain ⟨τ1, f1, f2, f3⟩ := ym_night (x := x) hM hW h9 hl (by omega)
        have hv := y_nig_vg hW l x
        have hr := y_done hR (e3.wide (by omega) (by omega)) (f3.wide (by omega) (by omega) (by omega) (by omega))
        generalize y_nig b l x = P at *
        have hs := hv.1
        by_cases h3 : y_rg a3 P.1
        · obtain ⟨i, hi, rfl⟩ := y_of _ _ h3.1 h3.2
          have c := e2.2 i hi
          have m := f2.2 i hi
          refine ⟨nI (P.2 (3 * i)), σ1, τ1, ?_, ?_, hr⟩
          · unfold f_X11_drawn; simp (disch := omega) only [y_lit, y_n1, nI_add, pk_mul, j_lt, j_b1_s, j_b2_s, j_b3_s, j_b0_s, y_bo, y_bo1, y_bo0, y_i0, y_i1, Classical.not_not, nI_clamp, y_ix, y_lt, y_le, y_eq, y_nP, y_nPs, y_ltP, y_ltQ, y_ltPP, y_eqP, y_eqQ, y_eqPP, if_pos, if_neg, ite_true, ite_false, not_true_eq_false, not_false_eq_true, and_true, true_and, and_false, false_and, or_true, true_or, or_false, false_or, yc_isTold hN hW, yc_isSeed, yc_isLaw, y_rn, e1, yc_ghas e2 hs, c]
          · unfold f_X12_drawn f_X12_inGame; simp (disch := omega) only [y_lit, y_n1, nI_add, pk_mul, j_lt, j_b1_s, j_b2_s, j_b3_s, j_b0_s, y_bo, y_bo1, y_bo0, y_i0, y_i1, Classical.not_not, nI_clamp, y_ix, y_lt, y_le, y_eq, y_nP, y_nPs, y_ltP, y_ltQ, y_ltPP, y_eqP, y_eqQ, y_eqPP, if_pos, if_neg, ite_true, ite_false, not_true_eq_false, not_false_eq_true, and_true, true_and, and_false, false_and, or_true, true_or, or_false, false_or, ym_isBoard hM hW, ym_isSeed, ym_isLaw, y_rn, nI_l, f1, ym_ing f2.1 hs, m, Nat.add_zero]
        · refine ⟨-1, σ1, τ1, ?_, ?_, hr⟩
          · unfold f_X11_drawn; simp (disch := omega) only [y_lit, y_n1, nI_add, pk_mul, j_lt, j_b1_s, j_b2_s, j_b3_s, j_b0_s, y_bo, y_bo1, y_bo0, y_i0, y_i1, Classical.not_not, nI_clamp, y_ix, y_lt, y_le, y_eq, y_nP, y_nPs, y_ltP, y_ltQ, y_ltPP, y_eqP, y_eqQ, y_eqPP, if_pos, if_neg, ite_true, ite_false, not_true_eq_false, not_false_eq_true, and_true, true_and, and_false, false_and, or_true, true_or, or_false, false_or, yc_isTold hN hW, yc_isSeed, yc_isLaw, y_rn, e1, yc_ghas e2 hs, h3]
          · unfold f_X12_drawn; simp (disch := omega) only [y_lit, y_n1, nI_add, pk_mul, j_lt, j_b1_s, j_b2_s, j_b3_s, j_b0_s, y_bo, y_bo1, y_bo0, y_i0, y_i1, Classical.not_not, nI_clamp, y_ix, y_lt, y_le, y_eq, y_nP, y_nPs, y_ltP, y_ltQ, y_ltPP, y_eqP, y_eqQ, y_eqPP, if_pos, if_neg, ite_true, ite_false, not_true_eq_false, not_false_eq_true, and_true, true_and, and_false, false_and, or_true, true_or, or_false, false_or, ym_isBoard hM hW, ym_isSeed, ym_isLaw, y_rn, nI_l, f1, ym_ing f2.1 hs, h3]
      · refine ⟨-2, σ, τ, ?_, ?_, hR⟩
        · unfold f_X11_drawn; simp (disch := omega) only [y_lit, y_n1, nI_add, pk_mul, j_lt, j_b1_s, j_b2_s, j_b3_s, j_b0_s, y_bo, y_bo1, y_bo0, y_i0, y_i1, Classical.not_not, nI_clamp, y_ix, y_lt, y_le, y_eq, y_nP, y_nPs, y_ltP, y_ltQ, y_ltPP, y_eqP, y_eqQ, y_eqPP, if_pos, if_neg, ite_true, ite_false, not_true_eq_false, not_false_eq_true, and_true, true_and, and_false, false_and, or_true, true_or, or_false, false_or, yc_isTold hN hW, yc_isSeed, yc_isLaw, h, h2]
        · unfold f_X12_drawn; simp (disch := omega) only [y_lit, y_n1, nI_add, pk_mul, j_lt, j_b1_s, j_b2_s, j_b3_s, j_b0_s, y_bo, y_bo1, y_bo0, y_i0, y_i1, Classical.not_not, nI_clamp, y_ix, y_lt, y_le, y_eq, y_nP, y_nPs, y_ltP, y_ltQ, y_ltPP, y_eqP, y_eqQ, y_eqPP, if_pos, if_neg, ite_true, ite_false, not_true_eq_false, not_false_eq_true, and_true, true_and, and_false, false_and, or_true, true_or, or_false, false_or, ym_isBoard hM hW, ym_isSeed, ym_isLaw, h, h2]
    · refine ⟨-2, σ, τ, ?_, ?_, hR⟩
      · unfold f_X11_drawn; simp (disch := omega) only [y_lit, y_n1, nI_add, pk_mul, j_lt, j_b1_s, j_b2_s, j_b3_s, j_b0_s, y_bo, y_bo1, y_bo0, y_i0, y_i1, Classical.not_not, nI_clamp, y_ix, y_lt, y_le, y_eq, y_nP, y_nPs, y_ltP, y_ltQ, y_ltPP, y_eqP, y_eqQ, y_eqPP, if_pos, if_neg, ite_true, ite_false, not_true_eq_false, not_false_eq_true, and_true, true_and, and_false, false_and, or_true, true_or, or_false, false_or, yc_isTold hN hW, yc_isSeed, h]
      · unfold f_X12_drawn; simp (disch := omega) only [y_lit, y_n1, nI_add, pk_mul, j_lt, j_b1_s, j_b2_s, j_b3_s, j_b0_s, y_bo, y_bo1, y_bo0, y_i0, y_i1, Classical.not_not, nI_clamp, y_ix, y_lt, y_le, y_eq, y_nP, y_nPs, y_ltP, y_ltQ, y_ltPP, y_eqP, y_eqQ, y_eqPP, if_pos, if_neg, ite_true, ite_false, not_true_eq_false, not_false_eq_true, and_true, true_and, and_false, false_and, or_true, true_or, or_false, false_or, ym_isBoard hM hW, ym_isSeed, h]
  · refine ⟨-2, σ, τ, ?_, ?_, hR⟩
    · unfold f_X11_drawn; simp (disch := omega) only [y_lit, y_n1, nI_add, pk_mul, j_lt, j_b1_s, j_b2_s, j_b3_s, j_b0_s, y_bo, y_bo1, y_bo0, y_i0, y_i1, Classical.not_not, nI_clamp, y_ix, y_lt, y_le, y_eq, y_nP, y_nPs, y_ltP, y_ltQ, y_ltPP, y_eqP, y_eqQ, y_eqPP, if_pos, if_neg, ite_true, ite_false, not_true_eq_false, not_false_eq_true, and_true, true_and, and_false, false_and, or_true, true_or, or_false, false_or, yc_isTold hN hW]
    · unfold f_X12_drawn; simp (disch := omega) only [y_lit, y_n1, nI_add, pk_mul, j_lt, j_b1_s, j_b2_s, j_b3_s, j_b0_s, y_bo, y_bo1, y_bo0, y_i0, y_i1, Classical.not_not, nI_clamp, y_ix, y_lt, y_le, y_eq, y_nP, y_nPs, y_ltP, y_ltQ, y_ltPP, y_eqP, y_eqQ, y_eqPP, if_pos, if_neg, ite_true, ite_false, not_true_eq_false, not_false_eq_true, and_true, true_and, and_false, false_and, or_true, true_or, or_false, false_or, ym_isBoard hM hW]
theorem y_years {b : Nat → Nat} {x l p k : Nat} (hW : y_W b) (hp : p < b 6) (hl : l < 4) (hx : x ≤ 2000000000) (hk : k ≤ 20) : ∀ m i n v σ τ, i + m = k → m < n → v ≤ 120 * i → y_N σ b → y_cp σ 28 (y_pq b p) → y_M τ b → ∃ w σ1 τ1, p_X11_years_59 (nI x) (nI k) (nI l) n (nI v) (nI i) σ = some (w, σ1) ∧ p_X12_years_44 (nI x) (nI k) (nI l) (nI p) n (nI v) (nI i) τ = some (w, τ1) ∧ y_fr 22 41 σ σ1 ∧ y_fm 18 42 80 93 τ τ1 := by
  have h9 := hW.on0 (Or.inr (Or.inr (Or.inr (Or.inl (by omega : 0 < b 6)))))
  have hq := y_pqv hW hp
  intro m
  induction m with
  | zero =>
    intro i n v σ τ h hn hv hN hc hM
    obtain ⟨n, rfl⟩ := y_pos hn
    refine ⟨nI v, σ, τ, ?_, ?_, y_fr.refl, y_fm.refl⟩
    · unfold p_X11_years_59; simp (disch := omega) only [y_lit, y_n1, nI_add, pk_mul, j_lt, j_b1_s, j_b2_s, j_b3_s, j_b0_s, y_bo, y_bo1, y_bo0, y_i0, y_i1, Classical.not_not, nI_clamp, y_ix, y_lt, y_le, y_eq, y_nP, y_nPs, y_ltP, y_ltQ, y_ltPP, y_eqP, y_eqQ, y_eqPP, if_pos, if_neg, ite_true, ite_false, not_true_eq_false, not_false_eq_true, and_true, true_and, and_false, false_and, or_true, true_or, or_false, false_or]
    · unfold p_X12_years_44; simp (disch := omega) only [y_lit, y_n1, nI_add, pk_mul, j_lt, j_b1_s, j_b2_s, j_b3_s, j_b0_s, y_bo, y_bo1, y_bo0, y_i0, y_i1, Classical.not_not, nI_clamp, y_ix, y_lt, y_le, y_eq, y_nP, y_nPs, y_ltP, y_ltQ, y_ltPP, y_eqP, y_eqQ, y_eqPP, if_pos, if_neg, ite_true, ite_false, not_true_eq_false, not_false_eq_true, and_true, true_and, and_false, false_and, or_true, true_or, or_false, false_or]
  | succ m ih =>
    intro i n v σ τ h hn hv hN hc hM
    obtain ⟨n, rfl⟩ := y_pos hn
    obtain ⟨σ1, σ2, e1, e2, e3, e4, e5⟩ := yc_nightH (x := x + i) hN hc hW h9 hq hl (by omega)
    obtain ⟨τ2, f1, f2, f3⟩ := ym_nightH (x := x + i) hM hW hp hl (by omega)
    have le := y_NH_le (l := l) (x := x + i) hW hq
    have eL : (nI x).toInt64 + (nI i).toInt64 = lN (x + i) := by rw [nI_l (by omega), nI_l (by omega), lN_add]
    obtain ⟨w, σ3, τ3, g1, g2, g3, g4⟩ := ih (i + 1) n (v + y_NH b l (x + i) (y_pq b p)) σ2 τ2 (by omega) (by omega) (by omega) e3 e4 f2
    refine ⟨w, σ3, τ3, ?_, ?_, e5.trans g3, f3.trans g4⟩
    · unfold p_X11_years_59; simp (disch := omega) only [y_lit, y_n1, nI_add, pk_mul, j_lt, j_b1_s, j_b2_s, j_b3_s, j_b0_s, y_bo, y_bo1, y_bo0, y_i0, y_i1, Classical.not_not, nI_clamp, y_ix, y_lt, y_le, y_eq, y_nP, y_nPs, y_ltP, y_ltQ, y_ltPP, y_eqP, y_eqQ, y_eqPP, if_pos, if_neg, ite_true, ite_false, not_true_eq_false, not_false_eq_true, and_true, true_and, and_false, false_and, or_true, true_or, or_false, false_or, e1, e2, g1]
    · unfold p_X12_years_44; simp (disch := omega) only [y_lit, y_n1, nI_add, pk_mul, j_lt, j_b1_s, j_b2_s, j_b3_s, j_b0_s, y_bo, y_bo1, y_bo0, y_i0, y_i1, Classical.not_not, nI_clamp, y_ix, y_lt, y_le, y_eq, y_nP, y_nPs, y_ltP, y_ltQ, y_ltPP, y_eqP, y_eqQ, y_eqPP, if_pos, if_neg, ite_true, ite_false, not_true_eq_false, not_false_eq_true, and_true, true_and, and_false, false_and, or_true, true_or, or_false, false_or, eL, f1, g2]
theorem z_years (hR : j_Rel σ τ) (a1 a2 a3 a4 : Int32) : ∃ v σ1 τ1, f_X11_years a1 a2 a3 a4 σ = some (v, σ1) ∧ f_X12_years a1 a2 a3 a4 τ = some (v, τ1) ∧ j_Rel σ1 τ1 := by
  obtain ⟨b, hW, hN, hM, hK⟩ := id hR
  have c20 : ∀ x : Int32, (x < nI 1 ∨ nI 20 < x) ↔ ¬ (1 ≤ x.toInt ∧ x.toInt ≤ 20) := fun x => by
    rw [j_ltI, j_ltI, nI_toInt (by omega), nI_toInt (by omega)]; omega
  have d20 : ∀ x : Int32, (¬ x < nI 1 ∧ ¬ nI 20 < x) ↔ (1 ≤ x.toInt ∧ x.toInt ≤ 20) := fun x => by
    rw [j_ltI, j_ltI, nI_toInt (by omega), nI_toInt (by omega)]; omega
  by_cases h : y_rg a1 2000000001
  · by_cases h2 : 1 ≤ a2.toInt ∧ a2.toInt ≤ 20
    · by_cases h3 : y_rg a3 4
      · by_cases h4 : y_rg a4 (b 6)
        · obtain ⟨x, hx, rfl⟩ := y_of _ _ h.1 h.2
          obtain ⟨k, hk, rfl⟩ := y_of a2 21 (by omega) (by omega)
          obtain ⟨l, hl, rfl⟩ := y_of _ _ h3.1 h3.2
          obtain ⟨p, hp, rfl⟩ := y_of _ _ h4.1 h4.2
          rw [nI_toInt (by omega)] at h2
          obtain ⟨σ1, e1, e2, e3⟩ := yc_take (a := 28) hN hW hp (by omega)
          obtain ⟨w, σ2, τ2, g1, g2, g3, g4⟩ := y_years (x := x) (k := k) hW hp hl (by omega) (by omega) k 0 j_F 0 σ1 τ (by omega) (y_F (by omega)) (by omega) (hN.fr e3 (by omega)) e2 hM
          refine ⟨w, σ2, τ2, ?_, ?_, y_done hR ((e3.wide (by omega) (by omega)).trans g3) g4⟩
          · unfold f_X11_years; simp (disch := omega) only [y_lit, y_n1, nI_add, pk_mul, j_lt, j_b1_s, j_b2_s, j_b3_s, j_b0_s, y_bo, y_bo1, y_bo0, y_i0, y_i1, Classical.not_not, nI_clamp, y_ix, y_lt, y_le, y_eq, y_nP, y_nPs, y_ltP, y_ltQ, y_ltPP, y_eqP, y_eqQ, y_eqPP, if_pos, if_neg, ite_true, ite_false, not_true_eq_false, not_false_eq_true, and_true, true_and, and_false, false_and, or_true, true_or, or_false, false_or, yc_isSeed, yc_isLaw, yc_isPlayer hN hW, y_rn, e1, g1]
          · unfold f_X12_years; simp (disch := omega) only [y_lit, y_n1, nI_add, pk_mul, j_lt, j_b1_s, j_b2_s, j_b3_s, j_b0_s, y_bo, y_bo1, y_bo0, y_i0, y_i1, Classical.not_not, nI_clamp, y_ix, y_lt, y_le, y_eq, y_nP, y_nPs, y_ltP, y_ltQ, y_ltPP, y_eqP, y_eqQ, y_eqPP, if_pos, if_neg, ite_true, ite_false, not_true_eq_false, not_false_eq_true, and_true, true_and, and_false, false_and, or_true, true_or, or_false, false_or, ym_isSeed, ym_isLaw, ym_isPlayer hM hW, y_rn, y_lit64, y_in, g2]
        · refine ⟨-2, σ, τ, ?_, ?_, hR⟩
          · unfold f_X11_years; simp (disch := omega) only [y_lit, y_n1, nI_add, pk_mul, j_lt, j_b1_s, j_b2_s, j_b3_s, j_b0_s, y_bo, y_bo1, y_bo0, y_i0, y_i1, Classical.not_not, nI_clamp, y_ix, y_lt, y_le, y_eq, y_nP, y_nPs, y_ltP, y_ltQ, y_ltPP, y_eqP, y_eqQ, y_eqPP, if_pos, if_neg, ite_true, ite_false, not_true_eq_false, not_false_eq_true, and_true, true_and, and_false, false_and, or_true, true_or, or_false, false_or, yc_isSeed, yc_isLaw, yc_isPlayer hN hW, h4]
          · unfold f_X12_years; simp (disch := omega) only [y_lit, y_n1, nI_add, pk_mul, j_lt, j_b1_s, j_b2_s, j_b3_s, j_b0_s, y_bo, y_bo1, y_bo0, y_i0, y_i1, Classical.not_not, nI_clamp, y_ix, y_lt, y_le, y_eq, y_nP, y_nPs, y_ltP, y_ltQ, y_ltPP, y_eqP, y_eqQ, y_eqPP, if_pos, if_neg, ite_true, ite_false, not_true_eq_false, not_false_eq_true, and_true, true_and, and_false, false_and, or_true, true_or, or_false, false_or, ym_isSeed, ym_isLaw, ym_isPlayer hM hW, y_lit64, y_in, d20, h, h2, h3, h4]
      · refine ⟨-2, σ, τ, ?_, ?_, hR⟩
        · unfold f_X11_years; simp (disch := omega) only [y_lit, y_n1, nI_add, pk_mul, j_lt, j_b1_s, j_b2_s, j_b3_s, j_b0_s, y_bo, y_bo1, y_bo0, y_i0, y_i1, Classical.not_not, nI_clamp, y_ix, y_lt, y_le, y_eq, y_nP, y_nPs, y_ltP, y_ltQ, y_ltPP, y_eqP, y_eqQ, y_eqPP, if_pos, if_neg, ite_true, ite_false, not_true_eq_false, not_false_eq_true, and_true, true_and, and_false, false_and, or_true, true_or, or_false, false_or, yc_isSeed, yc_isLaw, h3]
        · unfold f_X12_years; simp (disch := omega) only [y_lit, y_n1, nI_add, pk_mul, j_lt, j_b1_s, j_b2_s, j_b3_s, j_b0_s, y_bo, y_bo1, y_bo0, y_i0, y_i1, Classical.not_not, nI_clamp, y_ix, y_lt, y_le, y_eq, y_nP, y_nPs, y_ltP, y_ltQ, y_ltPP, y_eqP, y_eqQ, y_eqPP, if_pos, if_neg, ite_true, ite_false, not_true_eq_false, not_false_eq_true, and_true, true_and, and_false, false_and, or_true, true_or, or_false, false_or, ym_isSeed, ym_isLaw, h3]
    · refine ⟨-2, σ, τ, ?_, ?_, hR⟩
      · have q := (c20 a2).mpr h2
        unfold f_X11_years
        rw [if_pos]
        rcases q with q | q
        · exact Or.inr (Or.inl q)
        · exact Or.inr (Or.inr (Or.inl q))
      · unfold f_X12_years; simp (disch := omega) only [y_lit, y_n1, nI_add, pk_mul, j_lt, j_b1_s, j_b2_s, j_b3_s, j_b0_s, y_bo, y_bo1, y_bo0, y_i0, y_i1, Classical.not_not, nI_clamp, y_ix, y_lt, y_le, y_eq, y_nP, y_nPs, y_ltP, y_ltQ, y_ltPP, y_eqP, y_eqQ, y_eqPP, if_pos, if_neg, ite_true, ite_false, not_true_eq_false, not_false_eq_true, and_true, true_and, and_false, false_and, or_true, true_or, or_false, false_or, ym_isSeed, ym_isLaw, y_lit64, y_in, d20, h2]
  · refine ⟨-2, σ, τ, ?_, ?_, hR⟩
    · unfold f_X11_years; simp (disch := omega) only [y_lit, y_n1, nI_add, pk_mul, j_lt, j_b1_s, j_b2_s, j_b3_s, j_b0_s, y_bo, y_bo1, y_bo0, y_i0, y_i1, Classical.not_not, nI_clamp, y_ix, y_lt, y_le, y_eq, y_nP, y_nPs, y_ltP, y_ltQ, y_ltPP, y_eqP, y_eqQ, y_eqPP, if_pos, if_neg, ite_true, ite_false, not_true_eq_false, not_false_eq_true, and_true, true_and, and_false, false_and, or_true, true_or, or_false, false_or, yc_isSeed, h]
    · unfold f_X12_years; simp (disch := omega) only [y_lit, y_n1, nI_add, pk_mul, j_lt, j_b1_s, j_b2_s, j_b3_s, j_b0_s, y_bo, y_bo1, y_bo0, y_i0, y_i1, Classical.not_not, nI_clamp, y_ix, y_lt, y_le, y_eq, y_nP, y_nPs, y_ltP, y_ltQ, y_ltPP, y_eqP, y_eqQ, y_eqPP, if_pos, if_neg, ite_true, ite_false, not_true_eq_false, not_false_eq_true, and_true, true_and, and_false, false_and, or_true, true_or, or_false, false_or, ym_isSeed, h]
theorem z_night (hR : j_Rel σ τ) (a1 a2 a3 : Int32) : ∃ v σ1 τ1, f_X11_night a1 a2 a3 σ = some (v, σ1) ∧ f_X12_night a1 a2 a3 τ = some (v, τ1) ∧ j_Rel σ1 τ1 := by
  obtain ⟨b, hW, hN, hM, hK⟩ := id hR
  by_cases h : y_rg a1 2000000001
  · by_cases h3 : y_rg a2 4
    · by_cases h4 : y_rg a3 (b 6)
      · obtain ⟨x, hx, rfl⟩ := y_of _ _ h.1 h.2
        obtain ⟨l, hl, rfl⟩ := y_of _ _ h3.1 h3.2
        obtain ⟨p, hp, rfl⟩ := y_of _ _ h4.1 h4.2
        have h9 := hW.on0 (Or.inr (Or.inr (Or.inr (Or.inl (by omega : 0 < b 6)))))
        have hq := y_pqv hW hp
        obtain ⟨σ1, e1, e2, e3⟩ := yc_take (a := 28) hN hW hp (by omega)
        obtain ⟨σ2, σ3, c1, c2, c3, c4, c5⟩ := yc_nightH (x := x) (hN.fr e3 (by omega)) e2 hW h9 hq hl (by omega)
        obtain ⟨τ2, f1, f2, f3⟩ := ym_nightH (x := x) hM hW hp hl (by omega)
        refine ⟨nI (y_NH b l x (y_pq b p)), σ3, τ2, ?_, ?_, y_done hR ((e3.wide (by omega) (by omega)).trans c5) f3⟩
        · have w : p_X11_years_59 (nI x) (nI 1) (nI l) j_F (nI 0) (nI 0) σ1 = some (nI (y_NH b l x (y_pq b p)), σ3) := by
            rw [show j_F = 4998 + 1 + 1 from rfl]
            unfold p_X11_years_59
            rw [y_m1]
            simp (disch := omega) only [y_lit, y_n1, nI_add, pk_mul, j_lt, j_b1_s, j_b2_s, j_b3_s, j_b0_s, y_bo, y_bo1, y_bo0, y_i0, y_i1, Classical.not_not, nI_clamp, y_ix, y_lt, y_le, y_eq, y_nP, y_nPs, y_ltP, y_ltQ, y_ltPP, y_eqP, y_eqQ, y_eqPP, if_pos, if_neg, ite_true, ite_false, not_true_eq_false, not_false_eq_true, and_true, true_and, and_false, false_and, or_true, true_or, or_false, false_or, Nat.add_zero, c1, c2, Nat.zero_add]
            unfold p_X11_years_59
            simp (disch := omega) only [y_lit, y_n1, nI_add, pk_mul, j_lt, j_b1_s, j_b2_s, j_b3_s, j_b0_s, y_bo, y_bo1, y_bo0, y_i0, y_i1, Classical.not_not, nI_clamp, y_ix, y_lt, y_le, y_eq, y_nP, y_nPs, y_ltP, y_ltQ, y_ltPP, y_eqP, y_eqQ, y_eqPP, if_pos, if_neg, ite_true, ite_false, not_true_eq_false, not_false_eq_true, and_true, true_and, and_false, false_and, or_true, true_or, or_false, false_or]
          unfold f_X11_night f_X11_years; simp (disch := omega) only [y_lit, y_n1, nI_add, pk_mul, j_lt, j_b1_s, j_b2_s, j_b3_s, j_b0_s, y_bo, y_bo1, y_bo0, y_i0, y_i1, Classical.not_not, nI_clamp, y_ix, y_lt, y_le, y_eq, y_nP, y_nPs, y_ltP, y_ltQ, y_ltPP, y_eqP, y_eqQ, y_eqPP, if_pos, if_neg, ite_true, ite_false, not_true_eq_false, not_false_eq_true, and_true, true_and, and_false, false_and, or_true, true_or, or_false, false_or, yc_isSeed, yc_isLaw, yc_isPlayer hN hW, y_rn, e1, w]
        · unfold f_X12_night; simp (disch := omega) only [y_lit, y_n1, nI_add, pk_mul, j_lt, j_b1_s, j_b2_s, j_b3_s, j_b0_s, y_bo, y_bo1, y_bo0, y_i0, y_i1, Classical.not_not, nI_clamp, y_ix, y_lt, y_le, y_eq, y_nP, y_nPs, y_ltP, y_ltQ, y_ltPP, y_eqP, y_eqQ, y_eqPP, if_pos, if_neg, ite_true, ite_false, not_true_eq_false, not_false_eq_true, and_true, true_and, and_false, false_and, or_true, true_or, or_false, false_or, ym_isSeed, ym_isLaw, ym_isPlayer hM hW, y_rn, nI_l, f1]
      · refine ⟨-2, σ, τ, ?_, ?_, hR⟩
        · unfold f_X11_night f_X11_years; simp (disch := omega) only [y_lit, y_n1, nI_add, pk_mul, j_lt, j_b1_s, j_b2_s, j_b3_s, j_b0_s, y_bo, y_bo1, y_bo0, y_i0, y_i1, Classical.not_not, nI_clamp, y_ix, y_lt, y_le, y_eq, y_nP, y_nPs, y_ltP, y_ltQ, y_ltPP, y_eqP, y_eqQ, y_eqPP, if_pos, if_neg, ite_true, ite_false, not_true_eq_false, not_false_eq_true, and_true, true_and, and_false, false_and, or_true, true_or, or_false, false_or, yc_isSeed, yc_isLaw, yc_isPlayer hN hW, h4]
        · unfold f_X12_night; simp (disch := omega) only [y_lit, y_n1, nI_add, pk_mul, j_lt, j_b1_s, j_b2_s, j_b3_s, j_b0_s, y_bo, y_bo1, y_bo0, y_i0, y_i1, Classical.not_not, nI_clamp, y_ix, y_lt, y_le, y_eq, y_nP, y_nPs, y_ltP, y_ltQ, y_ltPP, y_eqP, y_eqQ, y_eqPP, if_pos, if_neg, ite_true, ite_false, not_true_eq_false, not_false_eq_true, and_true, true_and, and_false, false_and, or_true, true_or, or_false, false_or, ym_isSeed, ym_isLaw, ym_isPlayer hM hW, h, h3, h4]
    · refine ⟨-2, σ, τ, ?_, ?_, hR⟩
      · unfold f_X11_night f_X11_years; simp (disch := omega) only [y_lit, y_n1, nI_add, pk_mul, j_lt, j_b1_s, j_b2_s, j_b3_s, j_b0_s, y_bo, y_bo1, y_bo0, y_i0, y_i1, Classical.not_not, nI_clamp, y_ix, y_lt, y_le, y_eq, y_nP, y_nPs, y_ltP, y_ltQ, y_ltPP, y_eqP, y_eqQ, y_eqPP, if_pos, if_neg, ite_true, ite_false, not_true_eq_false, not_false_eq_true, and_true, true_and, and_false, false_and, or_true, true_or, or_false, false_or, yc_isSeed, yc_isLaw, h3]
      · unfold f_X12_night; simp (disch := omega) only [y_lit, y_n1, nI_add, pk_mul, j_lt, j_b1_s, j_b2_s, j_b3_s, j_b0_s, y_bo, y_bo1, y_bo0, y_i0, y_i1, Classical.not_not, nI_clamp, y_ix, y_lt, y_le, y_eq, y_nP, y_nPs, y_ltP, y_ltQ, y_ltPP, y_eqP, y_eqQ, y_eqPP, if_pos, if_neg, ite_true, ite_false, not_true_eq_false, not_false_eq_true, and_true, true_and, and_false, false_and, or_true, true_or, or_false, false_or, ym_isSeed, ym_isLaw, h3]
  · refine ⟨-2, σ, τ, ?_, ?_, hR⟩
    · unfold f_X11_night f_X11_years; simp (disch := omega) only [y_lit, y_n1, nI_add, pk_mul, j_lt, j_b1_s, j_b2_s, j_b3_s, j_b0_s, y_bo, y_bo1, y_bo0, y_i0, y_i1, Classical.not_not, nI_clamp, y_ix, y_lt, y_le, y_eq, y_nP, y_nPs, y_ltP, y_ltQ, y_ltPP, y_eqP, y_eqQ, y_eqPP, if_pos, if_neg, ite_true, ite_false, not_true_eq_false, not_false_eq_true, and_true, true_and, and_false, false_and, or_true, true_or, or_false, false_or, yc_isSeed, h]
    · unfold f_X12_night; simp (disch := omega) only [y_lit, y_n1, nI_add, pk_mul, j_lt, j_b1_s, j_b2_s, j_b3_s, j_b0_s, y_bo, y_bo1, y_bo0, y_i0, y_i1, Classical.not_not, nI_clamp, y_ix, y_lt, y_le, y_eq, y_nP, y_nPs, y_ltP, y_ltQ, y_ltPP, y_eqP, y_eqQ, y_eqPP, if_pos, if_neg, ite_true, ite_false, not_true_eq_false, not_false_eq_true, and_true, true_and, and_false, false_and, or_true, true_or, or_false, false_or, ym_isSeed, h]
end Z
/-! another stand -/
section U
variable {b : Nat → Nat} {k : Nat}
theorem y8_st (t : Nat) : ∀ m i s v, y_st (y_u b 8 k) t m i s v = y_st b t m i s v := by
  intro m
  induction m with
  | zero => intro i s v; rfl
  | succ m ih => intro i s v; unfold y_st; rw [y_un (by omega), y_un (by omega), ih, ih]
theorem y8_stay : y_stay (y_u b 8 k) = y_stay b := by
  funext t; unfold y_stay; rw [y8_st, y_un (by omega)]
theorem y8_from : y_from (y_u b 8 k) = y_from b := by
  funext i
  induction i with
  | zero => rfl
  | succ i ih => unfold y_from; rw [ih, y8_stay, y_un (by omega)]
theorem y8_last : y_last (y_u b 8 k) = y_last b := by
  funext i; unfold y_last; rw [y8_from, y8_stay]
theorem y8_gn : ∀ m i, y_gn (y_u b 8 k) m i = y_gn b m i := by
  intro m
  induction m with
  | zero => intro i; rfl
  | succ m ih => intro i; unfold y_gn; rw [y8_last, ih, y_un (by omega)]
theorem y8_gs : y_gs (y_u b 8 k) = y_gs b := by unfold y_gs; rw [y8_gn, y_un (by omega)]
theorem y8_dg : y_dg (y_u b 8 k) k = y_dg b k := by
  funext j; unfold y_dg; rw [y_un (by omega), y_un (by omega)]
theorem y8_ap : y_ap (y_u b 8 k) = y_ap b := by
  funext a c; unfold y_ap; rw [y_un (by omega)]
theorem y8_pq {p : Nat} : y_pq (y_u b 8 k) p = y_pq b p := by
  funext j; unfold y_pq; rw [y_un (by omega)]
theorem y8_go {g q : Nat → Nat} : y_go (y_u b 8 k) g q = y_go b g q := by
  funext i to R; unfold y_go y_set y_at y_th y_aw; rw [y8_ap, y8_from, y8_last]
theorem y8_go2 {g q : Nat → Nat} : y_go2 (y_u b 8 k) g q = y_go2 b g q := by
  funext i to th R; unfold y_go2 y_at y_th y_aw; rw [y8_go, y8_ap, y8_from, y8_last]
theorem y8_gf {g q kk : Nat → Nat} : y_gf (y_u b 8 k) g q kk = y_gf b g q kk := by
  funext i R; unfold y_gf; rw [y8_go, y8_go2, y8_ap]
theorem y8_rl {g q kk : Nat → Nat} {red : Nat} : ∀ m i R, y_rl (y_u b 8 k) g q kk red m i R = y_rl b g q kk red m i R := by
  intro m
  induction m with
  | zero => intro i R; rfl
  | succ m ih => intro i R; unfold y_rl; rw [y8_gf, ih]
theorem y8_own {p : Nat} : y_own (y_u b 8 k) p = y_run b (y_dg b k) (y_pq b p) y_k1 0 (y_gs b) := by
  unfold y_own y_run
  rw [y_ue, y8_gs, y8_dg, y8_pq, y8_rl]
end U
section Z
variable {σ τ : j_G}
theorem z_lucky (hR : j_Rel σ τ) (a1 : Int32) : ∃ v σ1 τ1, f_X11_lucky a1 σ = some (v, σ1) ∧ f_X12_lucky a1 τ = some (v, τ1) ∧ j_Rel σ1 τ1 := by
  obtain ⟨b, hW, hN, hM, hK⟩ := id hR
  have h5 := hW.b5
  by_cases h : y_rg a1 (b 6)
  · obtain ⟨p, hp, rfl⟩ := y_of _ _ h.1 h.2
    have h9 := hW.on0 (Or.inr (Or.inr (Or.inr (Or.inl (by omega : 0 < b 6)))))
    have hq := y_pqv hW hp
    obtain ⟨σ1, e1, e2, e3⟩ := yc_take (a := 28) hN hW hp (by omega)
    have hN1 := hN.fr e3 (by omega)
    have both : ∀ m k n f x kk σ' τ', k + m = b 5 → m < n → x ≤ 121 → y_N σ' b → y_cp σ' 28 (y_pq b p) → y_M τ' (y_u b 8 kk) → ∃ v σ'' τ'' kk', p_X11_lucky_33 n f (nP x) (nI k) σ' = some (v, σ'') ∧ y_fr 22 41 σ' σ'' ∧ p_X12_lucky_27 (nI p) (nI (b 8)) n f (nP x) (nI k) τ' = some (v, τ'') ∧ y_M τ'' (y_u b 8 kk') ∧ y_km τ' τ'' := by
      intro m
      induction m with
      | zero =>
        intro k n f x kk σ' τ' h hn hx hN hc hM
        obtain ⟨n, rfl⟩ := y_pos hn
        have e5 : τ'.1 76 5 = nI (b 5) := by rw [hM.f (j := 5) (by omega), y_un (by omega)]
        refine ⟨f, σ', τ', kk, ?_, y_fr.refl, ?_, hM, y_km.refl⟩
        · unfold p_X11_lucky_33; simp (disch := omega) only [y_lit, y_n1, nI_add, pk_mul, j_lt, j_b1_s, j_b2_s, j_b3_s, j_b0_s, y_bo, y_bo1, y_bo0, y_i0, y_i1, Classical.not_not, nI_clamp, y_ix, y_lt, y_le, y_eq, y_nP, y_nPs, y_ltP, y_ltQ, y_ltPP, y_eqP, y_eqQ, y_eqPP, if_pos, if_neg, ite_true, ite_false, not_true_eq_false, not_false_eq_true, and_true, true_and, and_false, false_and, or_true, true_or, or_false, false_or, hN.d0]
        · unfold p_X12_lucky_27; simp (disch := omega) only [y_lit, y_n1, nI_add, pk_mul, j_lt, j_b1_s, j_b2_s, j_b3_s, j_b0_s, y_bo, y_bo1, y_bo0, y_i0, y_i1, Classical.not_not, nI_clamp, y_ix, y_lt, y_le, y_eq, y_nP, y_nPs, y_ltP, y_ltQ, y_ltPP, y_eqP, y_eqQ, y_eqPP, if_pos, if_neg, ite_true, ite_false, not_true_eq_false, not_false_eq_true, and_true, true_and, and_false, false_and, or_true, true_or, or_false, false_or, e5]
      | succ m ih =>
        intro k n f x kk σ' τ' h hn hx hN hc hM
        obtain ⟨n, rfl⟩ := y_pos hn
        have e5 : τ'.1 76 5 = nI (b 5) := by rw [hM.f (j := 5) (by omega), y_un (by omega)]
        obtain ⟨σ2, c1, c2, c3⟩ := yc_deal (st := k) hN hW (Or.inr (by omega))
        have hN2 := hN.fr c3 (by omega)
        have hc2 := hc.fr c3 (by omega)
        obtain ⟨σ3, d1, d2, d3⟩ := yc_good hN2 hW h9 c2 (y_dg_vg hW k) hc2 (by omega) hq y_mkC
        have hWk := hW.set8 (k := k) (by omega)
        have hM1 := hM.set (j := 8) (v := k) (by omega)
        rw [y_uu] at hM1
        have hpk : p < y_u b 8 k 6 := by rw [y_un (by omega)]; exact hp
        obtain ⟨τ1, g1, g2, g3, g4, g5⟩ := ym_ras hM1 hWk hpk
        have r0 := g3.1.1
        rw [y8_own] at r0
        have le := (y_run_br (k := y_k1) (red := 0) hW (y_dg_vg hW k) hq).1
        have km : y_km τ' τ1 := y_km.w.trans (y_km.of g5 (by omega) (by omega) (by omega))
        have cm : y_fr 22 41 σ' σ3 := (c3.wide (by omega) (by omega)).trans (d3.wide (by omega) (by omega))
        have hlt : nI k < nI (b 5) := (y_lt (by omega) (by omega)).mpr (by omega)
        generalize y_run b (y_dg b k) (y_pq b p) y_k1 0 (y_gs b) 0 = H at *
        have kc : p_X11_lucky_33 (n + 1) f (nP x) (nI k) σ' = p_X11_lucky_33 n (if nP x < nI H then (nI k, nI H) else (f, nP x)).1 (if nP x < nI H then (nI k, nI H) else (f, nP x)).2 (nI (k + 1)) σ3 := by
          rw [p_X11_lucky_33, hN.d0, if_pos hlt, c1, j_b1_s, y_m1, d1, j_b2_s, show (1 : Int32) = nI 1 from rfl, nI_add]
          rfl
        have kM : p_X12_lucky_27 (nI p) (nI (b 8)) (n + 1) f (nP x) (nI k) τ' = p_X12_lucky_27 (nI p) (nI (b 8)) n (if ¬ nP x < nI H then (f, nP x) else (nI k, nI H)).1 (if ¬ nP x < nI H then (f, nP x) else (nI k, nI H)).2 (nI (k + 1)) τ1 := by
          rw [p_X12_lucky_27, show (5 : Int32) = nI 5 from rfl, y_ix (by omega) (by omega), nI_clamp (by omega), e5, if_pos hlt, show (8 : Int32) = nI 8 from rfl, y_ix (by omega) (by omega), nI_clamp (by omega)]
          simp only [j_lt]
          rw [g1, j_b1_s, r0, show (1 : Int32) = nI 1 from rfl, nI_add]
        rw [kc, kM]
        by_cases c : nP x < nI H
        · rw [if_pos c, if_neg (fun z => z c)]
          obtain ⟨v, σ4, τ4, kk', l1, l2, l3, l4, l5⟩ := ih (k + 1) n (nI k) (H + 1) k σ3 τ1 (by omega) (by omega) (by omega) (hN2.fr d3 (by omega)) (hc2.fr d3 (by omega)) g2.1
          rw [y_nPs] at l1 l3
          exact ⟨v, σ4, τ4, kk', l1, cm.trans l2, l3, l4, km.trans l5⟩
        · rw [if_neg c, if_pos c]
          obtain ⟨v, σ4, τ4, kk', l1, l2, l3, l4, l5⟩ := ih (k + 1) n f x k σ3 τ1 (by omega) (by omega) hx (hN2.fr d3 (by omega)) (hc2.fr d3 (by omega)) g2.1
          exact ⟨v, σ4, τ4, kk', l1, cm.trans l2, l3, l4, km.trans l5⟩
    obtain ⟨v, σ2, τ2, kk', l1, l2, l3, l4, l5⟩ := both (b 5) 0 j_F (nP 0) 0 (b 8) σ1 τ (by omega) (y_F (by omega)) (by omega) hN1 e2 (by rw [y_uid]; exact hM)
    have hM3 := l4.set (j := 8) (v := b 8) (by omega)
    rw [y_uu, y_uid] at hM3
    refine ⟨v, σ2, j_si τ2 76 8 (nI (b 8)), ?_, ?_, b, hW, hN1.fr l2 (by omega), hM3, hK.fr2 ((y_kc.of e3 (by omega) (by omega)).trans (y_kc.of l2 (by omega) (by omega))) (l5.trans y_km.w)⟩
    · unfold f_X11_lucky; simp (disch := omega) only [y_lit, y_n1, nI_add, pk_mul, j_lt, j_b1_s, j_b2_s, j_b3_s, j_b0_s, y_bo, y_bo1, y_bo0, y_i0, y_i1, Classical.not_not, nI_clamp, y_ix, y_lt, y_le, y_eq, y_nP, y_nPs, y_ltP, y_ltQ, y_ltPP, y_eqP, y_eqQ, y_eqPP, if_pos, if_neg, ite_true, ite_false, not_true_eq_false, not_false_eq_true, and_true, true_and, and_false, false_and, or_true, true_or, or_false, false_or, yc_isPlayer hN hW, y_rn, e1, l1]
    · unfold f_X12_lucky; simp (disch := omega) only [y_lit, y_n1, nI_add, pk_mul, j_lt, j_b1_s, j_b2_s, j_b3_s, j_b0_s, y_bo, y_bo1, y_bo0, y_i0, y_i1, Classical.not_not, nI_clamp, y_ix, y_lt, y_le, y_eq, y_nP, y_nPs, y_ltP, y_ltQ, y_ltPP, y_eqP, y_eqQ, y_eqPP, if_pos, if_neg, ite_true, ite_false, not_true_eq_false, not_false_eq_true, and_true, true_and, and_false, false_and, or_true, true_or, or_false, false_or, ym_isPlayer hM hW, y_rn, hM.f, l3]
  · refine ⟨-2, σ, τ, ?_, ?_, hR⟩
    · unfold f_X11_lucky; simp (disch := omega) only [y_lit, y_n1, nI_add, pk_mul, j_lt, j_b1_s, j_b2_s, j_b3_s, j_b0_s, y_bo, y_bo1, y_bo0, y_i0, y_i1, Classical.not_not, nI_clamp, y_ix, y_lt, y_le, y_eq, y_nP, y_nPs, y_ltP, y_ltQ, y_ltPP, y_eqP, y_eqQ, y_eqPP, if_pos, if_neg, ite_true, ite_false, not_true_eq_false, not_false_eq_true, and_true, true_and, and_false, false_and, or_true, true_or, or_false, false_or, yc_isPlayer hN hW, h]
    · unfold f_X12_lucky; simp (disch := omega) only [y_lit, y_n1, nI_add, pk_mul, j_lt, j_b1_s, j_b2_s, j_b3_s, j_b0_s, y_bo, y_bo1, y_bo0, y_i0, y_i1, Classical.not_not, nI_clamp, y_ix, y_lt, y_le, y_eq, y_nP, y_nPs, y_ltP, y_ltQ, y_ltPP, y_eqP, y_eqQ, y_eqPP, if_pos, if_neg, ite_true, ite_false, not_true_eq_false, not_false_eq_true, and_true, true_and, and_false, false_and, or_true, true_or, or_false, false_or, ym_isPlayer hM hW, h]
end Z
/-! ===== what was heard ===== -/
def y_sc (s c d : Nat) : Prop := (s = 0 ∧ c = 67 ∧ d = 68) ∨ (s = 1 ∧ c = 69 ∧ d = 70) ∨ (s = 2 ∧ c = 71 ∧ d = 72) ∨ (s = 3 ∧ c = 73 ∧ d = 74)
/-- a slot's row of n numbers of a width -/
def y_ro (σ τ : j_G) (s c d n w : Nat) : Prop := y_sc s c d ∧ n ≤ 60 ∧ w ≤ 3 ∧ σ.1 c 0 = nI n ∧ τ.1 94 s = nI n ∧ σ.1 c 1 = nI w ∧ τ.1 95 s = nI w ∧ ∀ i, i < n → σ.2 d i = τ.2 96 (60 * s + i)
/-- a slot's row of numbers that are told by e -/
def y_hd (σ τ : j_G) (s c d n : Nat) (e : Nat → Nat) : Prop := y_sc s c d ∧ n ≤ 60 ∧ σ.1 c 0 = nI n ∧ τ.1 94 s = nI n ∧ ∀ i, i < n → e i < 1000 ∧ σ.2 d i = lN (e i) ∧ τ.2 96 (60 * s + i) = lN (e i)
theorem y_K.slot {σ τ : j_G} (h : y_K σ τ) (s : Nat) (hs : s < 4) : ∃ c d, y_sc s c d ∧ ((σ.1 c 0 = nP 0 ∧ τ.1 94 s = nP 0) ∨ ∃ n w, y_ro σ τ s c d n w) := by
  have q := h.2.1
  have go : ∀ c d, y_sc s c d → y_sl σ τ s c d → ∃ c d, y_sc s c d ∧ ((σ.1 c 0 = nP 0 ∧ τ.1 94 s = nP 0) ∨ ∃ n w, y_ro σ τ s c d n w) := by
    intro c d hc hl
    refine ⟨c, d, hc, ?_⟩
    rcases hl with hl | ⟨n, w, h1, h2, h3, h4, h5, h6, h7⟩
    · exact Or.inl hl
    · exact Or.inr ⟨n, w, hc, h1, h2, h3, h4, h5, h6, h7⟩
  obtain rfl | rfl | rfl | rfl : s = 0 ∨ s = 1 ∨ s = 2 ∨ s = 3 := by omega
  · exact go 67 68 (Or.inl ⟨rfl, rfl, rfl⟩) q.1
  · exact go 69 70 (Or.inr (Or.inl ⟨rfl, rfl, rfl⟩)) q.2.1
  · exact go 71 72 (Or.inr (Or.inr (Or.inl ⟨rfl, rfl, rfl⟩))) q.2.2.1
  · exact go 73 74 (Or.inr (Or.inr (Or.inr ⟨rfl, rfl, rfl⟩))) q.2.2.2
/-- a number that may be looked at -/
abbrev y_nb (x : Int64) (n : Nat) : Prop := 0 ≤ x.toInt ∧ x.toInt < n
theorem y_nbe {x : Int64} {n : Nat} (h : y_nb x n) : ∃ k, k < n ∧ x = lN k := by
  have h0 : ¬ x < 0 := by
    rw [Int64.lt_iff_toInt_lt, show (0 : Int64).toInt = 0 from by decide]
    have := h.1; omega
  obtain ⟨k, hk, rfl⟩ := pk_lOf h0
  have := h.2
  rw [pk_lT hk] at this
  exact ⟨k, by omega, rfl⟩
theorem y_nbN {k n : Nat} (hk : k < 2 ^ 62) : y_nb (lN k) n ↔ k < n := by
  unfold y_nb; rw [pk_lT (by omega)]; omega
theorem y_nb1 {x : Int64} {n : Nat} (hn : n < 2 ^ 31) : (¬ x < (0 : Int64) ∧ ¬ ¬ x < (nI n).toInt64) ↔ y_nb x n := by
  rw [Int64.lt_iff_toInt_lt, Int64.lt_iff_toInt_lt, show (0 : Int64).toInt = 0 from by decide, j_l64, nI_toInt hn]
  unfold y_nb; omega
theorem y_nb2 {x : Int64} {n : Nat} (hn : n < 2 ^ 31) : f_X12_in x (0 : Int64) (nP n).toInt64 = if 0 ≤ x.toInt ∧ x.toInt < n then nI 1 else nI 0 := by
  unfold f_X12_in
  simp only [Int64.lt_iff_toInt_lt, show (0 : Int64).toInt = 0 from by decide, j_l64, y_nPt hn]
  by_cases h : 0 ≤ x.toInt ∧ x.toInt < n
  · rw [if_pos h, if_pos (by omega)]; rfl
  · rw [if_neg h, if_neg (by omega)]; rfl
section C
variable {σ τ : j_G} {b : Nat → Nat} {s c d n w : Nat}
theorem yc_isSlot {x : Int32} : f_X11_isSlot x = if y_rg x 4 then nI 1 else nI 0 := by
  unfold f_X11_isSlot; simp only [y_lit]; simp (disch := omega) only [y_c1]
theorem ym_isSlot {x : Int32} : f_X12_isSlot x = if y_rg x 4 then nI 1 else nI 0 := by
  unfold f_X12_isSlot; simp (disch := omega) only [y_lit, y_n1, nI_add, pk_mul, j_lt, j_b1_s, j_b2_s, j_b3_s, j_b0_s, y_bo, y_bo1, y_bo0, y_i0, y_i1, Classical.not_not, nI_clamp, y_ix, y_lt, y_le, y_eq, y_nP, y_nPs, y_ltP, y_ltQ, y_ltPP, y_eqP, y_eqQ, y_eqPP, if_pos, if_neg, ite_true, ite_false, not_true_eq_false, not_false_eq_true, and_true, true_and, and_false, false_and, or_true, true_or, or_false, false_or, y_lit64, y_in, y_c3]
theorem ym_isHoleL (hM : y_M τ b) (hW : y_W b) (x : Int64) : f_X12_isHole x τ = some (if 0 ≤ x.toInt ∧ x.toInt < y_ho b then nI 1 else nI 0) := by
  have := hW.ho
  unfold f_X12_isHole; rw [ym_holes hM, j_b1_s, show (1 : Int32) = nI 1 from rfl, y_nP, y_nb2 (by omega), y_bo]
theorem ym_isTickL (hM : y_M τ b) (hW : y_W b) (x : Int64) : f_X12_isTick x τ = some (if 0 ≤ x.toInt ∧ x.toInt < b 2 then nI 1 else nI 0) := by
  have := hW.b2
  have e2 := hM.f (j := 2) (by omega)
  unfold f_X12_isTick; rw [show (2 : Int32) = nI 2 from rfl, y_ix (by omega) (by omega), nI_clamp (by omega), e2, show (1 : Int32) = nI 1 from rfl, y_nP, y_nb2 (by omega), y_bo]
theorem ym_num (hr : y_ro σ τ s c d n w) {i : Nat} (hi : i < n) : f_X12_numberAt (nI s) (nI i) τ = some (σ.2 d i) := by
  obtain ⟨hs, hn, hw, h1, h2, h3, h4, h5⟩ := hr
  have s4 : s < 4 := by unfold y_sc at hs; omega
  unfold f_X12_numberAt; simp (disch := omega) only [y_lit, y_n1, nI_add, pk_mul, j_lt, j_b1_s, j_b2_s, j_b3_s, j_b0_s, y_bo, y_bo1, y_bo0, y_i0, y_i1, Classical.not_not, nI_clamp, y_ix, y_lt, y_le, y_eq, y_nP, y_nPs, y_ltP, y_ltQ, y_ltPP, y_eqP, y_eqQ, y_eqPP, if_pos, if_neg, ite_true, ite_false, not_true_eq_false, not_false_eq_true, and_true, true_and, and_false, false_and, or_true, true_or, or_false, false_or]
  rw [h5 i hi]
/-- both look whether all are holes -/
theorem y_below (hr : y_ro σ τ s c d n w) (hN : y_N σ b) (hM : y_M τ b) (hW : y_W b) : (f_X8_isBelow c d (nI (y_ho b)) (nI (y_ho b)) σ = some (nI 0) ∧ p_X12_asksHeard_32 (nI s) τ j_F (nI 0) = some (-2)) ∨ (f_X8_isBelow c d (nI (y_ho b)) (nI (y_ho b)) σ = some (nI 1) ∧ p_X12_asksHeard_32 (nI s) τ j_F (nI 0) = some (nI 0) ∧ ∃ e, y_hd σ τ s c d n e ∧ ∀ i, i < n → e i < y_ho b) := by
  have h4 := hW.ho
  obtain ⟨hs, hn, hw, h1, h2, h3, h4', h5⟩ := id hr
  have s4 : s < 4 := by unfold y_sc at hs; omega
  have key : ∀ m i f, i + m = n → m < f → (p_X8_isBelow_2 c d (nI (y_ho b)) (nI (y_ho b)) σ f (nI i) = some (nI 0) ∧ p_X12_asksHeard_32 (nI s) τ f (nI i) = some (-2)) ∨ (p_X8_isBelow_2 c d (nI (y_ho b)) (nI (y_ho b)) σ f (nI i) = some (nI 1) ∧ p_X12_asksHeard_32 (nI s) τ f (nI i) = some (nI 0) ∧ ∀ j, i ≤ j → j < n → y_nb (σ.2 d j) (y_ho b)) := by
    intro m
    induction m with
    | zero =>
      intro i f h hf
      obtain ⟨f, rfl⟩ := y_pos hf
      refine Or.inr ⟨?_, ?_, fun j _ _ => by omega⟩
      · unfold p_X8_isBelow_2; simp (disch := omega) only [y_lit, y_n1, nI_add, pk_mul, j_lt, j_b1_s, j_b2_s, j_b3_s, j_b0_s, y_bo, y_bo1, y_bo0, y_i0, y_i1, Classical.not_not, nI_clamp, y_ix, y_lt, y_le, y_eq, y_nP, y_nPs, y_ltP, y_ltQ, y_ltPP, y_eqP, y_eqQ, y_eqPP, if_pos, if_neg, ite_true, ite_false, not_true_eq_false, not_false_eq_true, and_true, true_and, and_false, false_and, or_true, true_or, or_false, false_or, h1]
      · unfold p_X12_asksHeard_32; simp (disch := omega) only [y_lit, y_n1, nI_add, pk_mul, j_lt, j_b1_s, j_b2_s, j_b3_s, j_b0_s, y_bo, y_bo1, y_bo0, y_i0, y_i1, Classical.not_not, nI_clamp, y_ix, y_lt, y_le, y_eq, y_nP, y_nPs, y_ltP, y_ltQ, y_ltPP, y_eqP, y_eqQ, y_eqPP, if_pos, if_neg, ite_true, ite_false, not_true_eq_false, not_false_eq_true, and_true, true_and, and_false, false_and, or_true, true_or, or_false, false_or, h2]
    | succ m ih =>
      intro i f h hf
      obtain ⟨f, rfl⟩ := y_pos hf
      have num := ym_num hr (i := i) (by omega)
      have hlt : nI i < nI n := (y_lt (by omega) (by omega)).mpr (by omega)
      have e1 : p_X8_isBelow_2 c d (nI (y_ho b)) (nI (y_ho b)) σ (f + 1) (nI i) = if ¬ σ.2 d i < (0 : Int64) then (if ¬ σ.2 d i < (nI (y_ho b)).toInt64 then some (nI 0) else p_X8_isBelow_2 c d (nI (y_ho b)) (nI (y_ho b)) σ f (nI (i + 1))) else some (nI 0) := by
        rw [p_X8_isBelow_2, h1, if_pos hlt, if_neg (by decide)]
        simp only [j_lt, ite_self]
        rw [y_ix (by omega) (by omega), y_ix (by omega) (by omega), nI_clamp (by omega), show (1 : Int32) = nI 1 from rfl, nI_add]
        rfl
      have e2 : p_X12_asksHeard_32 (nI s) τ (f + 1) (nI i) = if (if 0 ≤ (σ.2 d i).toInt ∧ (σ.2 d i).toInt < y_ho b then nI 1 else nI 0) = nI 0 then some (-2) else p_X12_asksHeard_32 (nI s) τ f (nI (i + 1)) := by
        rw [p_X12_asksHeard_32, y_ix (by omega) (by omega), nI_clamp (by omega), h2, if_pos hlt, num, j_b1_s, ym_isHoleL hM hW, j_b1_s, show (1 : Int32) = nI 1 from rfl, nI_add]
        rfl
      rw [e1, e2]
      have q := y_nb1 (x := σ.2 d i) (n := y_ho b) (by omega)
      by_cases z : y_nb (σ.2 d i) (y_ho b)
      · have z' := q.mpr z
        rw [if_pos z'.1, if_neg z'.2, if_pos (show 0 ≤ (σ.2 d i).toInt ∧ (σ.2 d i).toInt < y_ho b from z), if_neg (show ¬ nI 1 = nI 0 from by decide)]
        rcases ih (i + 1) f (by omega) (by omega) with k | ⟨k1, k2, k3⟩
        · exact Or.inl k
        · refine Or.inr ⟨k1, k2, fun j h1 h2 => ?_⟩
          by_cases e : j = i
          · subst e; exact z
          · exact k3 j (by omega) h2
      · rw [if_neg (show ¬ (0 ≤ (σ.2 d i).toInt ∧ (σ.2 d i).toInt < y_ho b) from z), if_pos rfl]
        refine Or.inl ⟨?_, rfl⟩
        by_cases z1 : ¬ σ.2 d i < (0 : Int64)
        · rw [if_pos z1, if_pos (fun z2 => z (q.mp ⟨z1, fun z3 => z3 z2⟩))]
        · rw [if_neg z1]
  rcases key n 0 j_F (by omega) (y_F (by omega)) with k | ⟨k1, k2, k3⟩
  · exact Or.inl k
  · refine Or.inr ⟨k1, k2, fun i => (σ.2 d i).toInt.toNat, ⟨hs, hn, h1, h2, fun i hi => ?_⟩, fun i hi => ?_⟩
    · obtain ⟨k, hk, e⟩ := y_nbe (k3 i (by omega) hi)
      have e' : (σ.2 d i).toInt.toNat = k := by rw [e, pk_lT (by omega)]; rfl
      refine ⟨by show (σ.2 d i).toInt.toNat < 1000; omega, ?_, ?_⟩
      · show _ = lN (σ.2 d i).toInt.toNat; rw [e', e]
      · show _ = lN (σ.2 d i).toInt.toNat; rw [← h5 i hi, e', e]
    · obtain ⟨k, hk, e⟩ := y_nbe (k3 i (by omega) hi)
      have e' : (σ.2 d i).toInt.toNat = k := by rw [e, pk_lT (by omega)]; rfl
      show (σ.2 d i).toInt.toNat < _; omega
end C
/-- is it a row of holes -/
theorem y_why {σ τ : j_G} {b : Nat → Nat} (hW : y_W b) (hN : y_N σ b) (hM : y_M τ b) (hK : y_K σ τ) (a1 : Int32) : (∃ k : Int32, k < 0 ∧ ¬ k = 0 ∧ f_X11_whyUnheard a1 σ = some k ∧ f_X12_asksHeard a1 τ = some k) ∨ (f_X11_whyUnheard a1 σ = some (nI 0) ∧ f_X12_asksHeard a1 τ = some (nI 0) ∧ 0 < b 9 ∧ ∃ s c d n e, a1 = nI s ∧ y_hd σ τ s c d n e ∧ ∀ i, i < n → e i < y_ho b) := by
  have h4 := hW.ho
  by_cases h : y_rg a1 4
  · by_cases h9 : 0 < b 9
    · obtain ⟨s, hs, rfl⟩ := y_of _ _ h.1 h.2
      obtain ⟨c, d, hc, hk⟩ := hK.slot s hs
      rcases hk with ⟨k1, k2⟩ | ⟨n, w, hr⟩
      · refine Or.inl ⟨-6, by decide, by decide, ?_, ?_⟩
        · unfold f_X11_whyUnheard f_X8_isMade
          rcases hc with ⟨rfl, rfl, rfl⟩ | ⟨rfl, rfl, rfl⟩ | ⟨rfl, rfl, rfl⟩ | ⟨rfl, rfl, rfl⟩
          · simp (disch := omega) only [y_lit, y_n1, nI_add, pk_mul, j_lt, j_b1_s, j_b2_s, j_b3_s, j_b0_s, y_bo, y_bo1, y_bo0, y_i0, y_i1, Classical.not_not, nI_clamp, y_ix, y_lt, y_le, y_eq, y_nP, y_nPs, y_ltP, y_ltQ, y_ltPP, y_eqP, y_eqQ, y_eqPP, if_pos, if_neg, ite_true, ite_false, not_true_eq_false, not_false_eq_true, and_true, true_and, and_false, false_and, or_true, true_or, or_false, false_or, yc_isSlot, y_rn, yc_isTold hN hW, k1]
          · simp (disch := omega) only [y_lit, y_n1, nI_add, pk_mul, j_lt, j_b1_s, j_b2_s, j_b3_s, j_b0_s, y_bo, y_bo1, y_bo0, y_i0, y_i1, Classical.not_not, nI_clamp, y_ix, y_lt, y_le, y_eq, y_nP, y_nPs, y_ltP, y_ltQ, y_ltPP, y_eqP, y_eqQ, y_eqPP, if_pos, if_neg, ite_true, ite_false, not_true_eq_false, not_false_eq_true, and_true, true_and, and_false, false_and, or_true, true_or, or_false, false_or, yc_isSlot, y_rn, yc_isTold hN hW, k1]
          · simp (disch := omega) only [y_lit, y_n1, nI_add, pk_mul, j_lt, j_b1_s, j_b2_s, j_b3_s, j_b0_s, y_bo, y_bo1, y_bo0, y_i0, y_i1, Classical.not_not, nI_clamp, y_ix, y_lt, y_le, y_eq, y_nP, y_nPs, y_ltP, y_ltQ, y_ltPP, y_eqP, y_eqQ, y_eqPP, if_pos, if_neg, ite_true, ite_false, not_true_eq_false, not_false_eq_true, and_true, true_and, and_false, false_and, or_true, true_or, or_false, false_or, yc_isSlot, y_rn, yc_isTold hN hW, k1]
          · simp (disch := omega) only [y_lit, y_n1, nI_add, pk_mul, j_lt, j_b1_s, j_b2_s, j_b3_s, j_b0_s, y_bo, y_bo1, y_bo0, y_i0, y_i1, Classical.not_not, nI_clamp, y_ix, y_lt, y_le, y_eq, y_nP, y_nPs, y_ltP, y_ltQ, y_ltPP, y_eqP, y_eqQ, y_eqPP, if_pos, if_neg, ite_true, ite_false, not_true_eq_false, not_false_eq_true, and_true, true_and, and_false, false_and, or_true, true_or, or_false, false_or, yc_isSlot, y_rn, yc_isTold hN hW, k1]
        · unfold f_X12_asksHeard; simp (disch := omega) only [y_lit, y_n1, nI_add, pk_mul, j_lt, j_b1_s, j_b2_s, j_b3_s, j_b0_s, y_bo, y_bo1, y_bo0, y_i0, y_i1, Classical.not_not, nI_clamp, y_ix, y_lt, y_le, y_eq, y_nP, y_nPs, y_ltP, y_ltQ, y_ltPP, y_eqP, y_eqQ, y_eqPP, if_pos, if_neg, ite_true, ite_false, not_true_eq_false, not_false_eq_true, and_true, true_and, and_false, false_and, or_true, true_or, or_false, false_or, ym_isSlot, y_rn, ym_isBoard hM hW, k2]
      · obtain ⟨_, hn, hw, r1, r2, r3, r4, r5⟩ := id hr
        have cw : f_X11_whyUnheard (nI s) σ = j_b1 (f_X8_isBelow c d (nI (y_ho b)) (nI (y_ho b)) σ) (fun v1 => if ¬ v1 = nI 0 then some (nI 0) else some (-2)) := by
          unfold f_X11_whyUnheard f_X8_isMade
          rcases hc with ⟨rfl, rfl, rfl⟩ | ⟨rfl, rfl, rfl⟩ | ⟨rfl, rfl, rfl⟩ | ⟨rfl, rfl, rfl⟩
          · simp (disch := omega) only [y_lit, y_n1, nI_add, pk_mul, j_lt, j_b1_s, j_b2_s, j_b3_s, j_b0_s, y_bo, y_bo1, y_bo0, y_i0, y_i1, Classical.not_not, nI_clamp, y_ix, y_lt, y_le, y_eq, y_nP, y_nPs, y_ltP, y_ltQ, y_ltPP, y_eqP, y_eqQ, y_eqPP, if_pos, if_neg, ite_true, ite_false, not_true_eq_false, not_false_eq_true, and_true, true_and, and_false, false_and, or_true, true_or, or_false, false_or, yc_isSlot, y_rn, yc_isTold hN hW, r1, yc_holes hN]
          · simp (disch := omega) only [y_lit, y_n1, nI_add, pk_mul, j_lt, j_b1_s, j_b2_s, j_b3_s, j_b0_s, y_bo, y_bo1, y_bo0, y_i0, y_i1, Classical.not_not, nI_clamp, y_ix, y_lt, y_le, y_eq, y_nP, y_nPs, y_ltP, y_ltQ, y_ltPP, y_eqP, y_eqQ, y_eqPP, if_pos, if_neg, ite_true, ite_false, not_true_eq_false, not_false_eq_true, and_true, true_and, and_false, false_and, or_true, true_or, or_false, false_or, yc_isSlot, y_rn, yc_isTold hN hW, r1, yc_holes hN]
          · simp (disch := omega) only [y_lit, y_n1, nI_add, pk_mul, j_lt, j_b1_s, j_b2_s, j_b3_s, j_b0_s, y_bo, y_bo1, y_bo0, y_i0, y_i1, Classical.not_not, nI_clamp, y_ix, y_lt, y_le, y_eq, y_nP, y_nPs, y_ltP, y_ltQ, y_ltPP, y_eqP, y_eqQ, y_eqPP, if_pos, if_neg, ite_true, ite_false, not_true_eq_false, not_false_eq_true, and_true, true_and, and_false, false_and, or_true, true_or, or_false, false_or, yc_isSlot, y_rn, yc_isTold hN hW, r1, yc_holes hN]
          · simp (disch := omega) only [y_lit, y_n1, nI_add, pk_mul, j_lt, j_b1_s, j_b2_s, j_b3_s, j_b0_s, y_bo, y_bo1, y_bo0, y_i0, y_i1, Classical.not_not, nI_clamp, y_ix, y_lt, y_le, y_eq, y_nP, y_nPs, y_ltP, y_ltQ, y_ltPP, y_eqP, y_eqQ, y_eqPP, if_pos, if_neg, ite_true, ite_false, not_true_eq_false, not_false_eq_true, and_true, true_and, and_false, false_and, or_true, true_or, or_false, false_or, yc_isSlot, y_rn, yc_isTold hN hW, r1, yc_holes hN]
        have mw : f_X12_asksHeard (nI s) τ = p_X12_asksHeard_32 (nI s) τ j_F (nI 0) := by
          unfold f_X12_asksHeard; simp (disch := omega) only [y_lit, y_n1, nI_add, pk_mul, j_lt, j_b1_s, j_b2_s, j_b3_s, j_b0_s, y_bo, y_bo1, y_bo0, y_i0, y_i1, Classical.not_not, nI_clamp, y_ix, y_lt, y_le, y_eq, y_nP, y_nPs, y_ltP, y_ltQ, y_ltPP, y_eqP, y_eqQ, y_eqPP, if_pos, if_neg, ite_true, ite_false, not_true_eq_false, not_false_eq_true, and_true, true_and, and_false, false_and, or_true, true_or, or_false, false_or, ym_isSlot, y_rn, ym_isBoard hM hW, r2]
        rcases y_below hr hN hM hW with ⟨q1, q2⟩ | ⟨q1, q2, e, q3, q4⟩
        · refine Or.inl ⟨-2, by decide, by decide, ?_, ?_⟩
          · rw [cw, q1]; rfl
          · rw [mw, q2]
        · refine Or.inr ⟨?_, ?_, h9, s, c, d, n, e, rfl, q3, q4⟩
          · rw [cw, q1]; rfl
          · rw [mw, q2]
    · refine Or.inl ⟨-2, by decide, by decide, ?_, ?_⟩
      · unfold f_X11_whyUnheard; simp (disch := omega) only [y_lit, y_n1, nI_add, pk_mul, j_lt, j_b1_s, j_b2_s, j_b3_s, j_b0_s, y_bo, y_bo1, y_bo0, y_i0, y_i1, Classical.not_not, nI_clamp, y_ix, y_lt, y_le, y_eq, y_nP, y_nPs, y_ltP, y_ltQ, y_ltPP, y_eqP, y_eqQ, y_eqPP, if_pos, if_neg, ite_true, ite_false, not_true_eq_false, not_false_eq_true, and_true, true_and, and_false, false_and, or_true, true_or, or_false, false_or, yc_isSlot, yc_isTold hN hW]
      · unfold f_X12_asksHeard; simp (disch := omega) only [y_lit, y_n1, nI_add, pk_mul, j_lt, j_b1_s, j_b2_s, j_b3_s, j_b0_s, y_bo, y_bo1, y_bo0, y_i0, y_i1, Classical.not_not, nI_clamp, y_ix, y_lt, y_le, y_eq, y_nP, y_nPs, y_ltP, y_ltQ, y_ltPP, y_eqP, y_eqQ, y_eqPP, if_pos, if_neg, ite_true, ite_false, not_true_eq_false, not_false_eq_true, and_true, true_and, and_false, false_and, or_true, true_or, or_false, false_or, ym_isSlot, h, ym_isBoard hM hW]
  · refine Or.inl ⟨-2, by decide, by decide, ?_, ?_⟩
    · unfold f_X11_whyUnheard; simp (disch := omega) only [y_lit, y_n1, nI_add, pk_mul, j_lt, j_b1_s, j_b2_s, j_b3_s, j_b0_s, y_bo, y_bo1, y_bo0, y_i0, y_i1, Classical.not_not, nI_clamp, y_ix, y_lt, y_le, y_eq, y_nP, y_nPs, y_ltP, y_ltQ, y_ltPP, y_eqP, y_eqQ, y_eqPP, if_pos, if_neg, ite_true, ite_false, not_true_eq_false, not_false_eq_true, and_true, true_and, and_false, false_and, or_true, true_or, or_false, false_or, yc_isSlot, h]
    · unfold f_X12_asksHeard; simp (disch := omega) only [y_lit, y_n1, nI_add, pk_mul, j_lt, j_b1_s, j_b2_s, j_b3_s, j_b0_s, y_bo, y_bo1, y_bo0, y_i0, y_i1, Classical.not_not, nI_clamp, y_ix, y_lt, y_le, y_eq, y_nP, y_nPs, y_ltP, y_ltQ, y_ltPP, y_eqP, y_eqQ, y_eqPP, if_pos, if_neg, ite_true, ite_false, not_true_eq_false, not_false_eq_true, and_true, true_and, and_false, false_and, or_true, true_or, or_false, false_or, ym_isSlot, h]
/-! ===== periods, luck, fits, place, next ===== -/
noncomputable def y_ip (e : Nat → Nat) (p : Nat) : Nat → Nat → Nat
  | 0, _ => 1
  | m + 1, i => if e i = e (i - p) then y_ip e p m (i + 1) else 0
noncomputable def y_lp (e : Nat → Nat) (n : Nat) : Nat → Nat → Nat
  | 0, _ => 0
  | m + 1, p => if y_ip e p (n - p) p = 0 then y_lp e n m (p + 1) else p + 1
theorem y_ip_le {e : Nat → Nat} {p : Nat} : ∀ m i, y_ip e p m i ≤ 1 := by
  intro m
  induction m with
  | zero => intro i; exact Nat.le_refl _
  | succ m ih => intro i; unfold y_ip; split; exact ih _; omega
theorem y_lp_le {e : Nat → Nat} {n : Nat} : ∀ m p, y_lp e n m p = 0 ∨ (p < y_lp e n m p ∧ y_lp e n m p ≤ p + m) := by
  intro m
  induction m with
  | zero => intro p; exact Or.inl rfl
  | succ m ih =>
    intro p; unfold y_lp; split
    · have := ih (p + 1); omega
    · omega
noncomputable def y_gt (b e : Nat → Nat) (k : Nat) : Nat → Nat → Nat
  | 0, _ => 1
  | m + 1, i => if e i = y_rd b (k + i) then y_gt b e k m (i + 1) else 0
theorem y_gt_le {b e : Nat → Nat} {k : Nat} : ∀ m i, y_gt b e k m i ≤ 1 := by
  intro m
  induction m with
  | zero => intro i; exact Nat.le_refl _
  | succ m ih => intro i; unfold y_gt; split; exact ih _; omega
section C
variable {σ τ : j_G} {b e : Nat → Nat} {s c d n : Nat}
theorem y_hd.s4 (h : y_hd σ τ s c d n e) : s < 4 := by have := h.1; unfold y_sc at this; omega
theorem ym_numH (h : y_hd σ τ s c d n e) {i : Nat} (hi : i < n) : f_X12_numberAt (nI s) (nI i) τ = some (lN (e i)) := by
  have s4 := h.s4
  have hn := h.2.1
  unfold f_X12_numberAt; simp (disch := omega) only [y_lit, y_n1, nI_add, pk_mul, j_lt, j_b1_s, j_b2_s, j_b3_s, j_b0_s, y_bo, y_bo1, y_bo0, y_i0, y_i1, Classical.not_not, nI_clamp, y_ix, y_lt, y_le, y_eq, y_nP, y_nPs, y_ltP, y_ltQ, y_ltPP, y_eqP, y_eqQ, y_eqPP, if_pos, if_neg, ite_true, ite_false, not_true_eq_false, not_false_eq_true, and_true, true_and, and_false, false_and, or_true, true_or, or_false, false_or]
  rw [(h.2.2.2.2 i hi).2.2]
theorem yc_isPeriod (h : y_hd σ τ s c d n e) {p : Nat} (hp : 0 < p) (hpn : p ≤ n) : f_X8_isPeriod c d (nI p) σ = some (nI (y_ip e p (n - p) p)) := by
  have hn := h.2.1
  have key : ∀ m i f, i + m = n → m < f → p ≤ i → p_X8_isPeriod_2 c d (nI p) σ f (nI i) = some (nI (y_ip e p m i)) := by
    intro m
    induction m with
    | zero =>
      intro i f hh hf hi
      obtain ⟨f, rfl⟩ := y_pos hf
      unfold p_X8_isPeriod_2 y_ip; simp (disch := omega) only [y_lit, y_n1, nI_add, pk_mul, j_lt, j_b1_s, j_b2_s, j_b3_s, j_b0_s, y_bo, y_bo1, y_bo0, y_i0, y_i1, Classical.not_not, nI_clamp, y_ix, y_lt, y_le, y_eq, y_nP, y_nPs, y_ltP, y_ltQ, y_ltPP, y_eqP, y_eqQ, y_eqPP, if_pos, if_neg, ite_true, ite_false, not_true_eq_false, not_false_eq_true, and_true, true_and, and_false, false_and, or_true, true_or, or_false, false_or, h.2.2.1]
    | succ m ih =>
      intro i f hh hf hi
      obtain ⟨f, rfl⟩ := y_pos hf
      have e1 := h.2.2.2.2 i (by omega)
      have e2 := h.2.2.2.2 (i - p) (by omega)
      unfold p_X8_isPeriod_2 y_ip; simp (disch := omega) only [y_lit, y_n1, nI_add, pk_mul, j_lt, j_b1_s, j_b2_s, j_b3_s, j_b0_s, y_bo, y_bo1, y_bo0, y_i0, y_i1, Classical.not_not, nI_clamp, y_ix, y_lt, y_le, y_eq, y_nP, y_nPs, y_ltP, y_ltQ, y_ltPP, y_eqP, y_eqQ, y_eqPP, if_pos, if_neg, ite_true, ite_false, not_true_eq_false, not_false_eq_true, and_true, true_and, and_false, false_and, or_true, true_or, or_false, false_or, h.2.2.1, pk_sub, e1.2.1, e2.2.1, pk_lEQ]
      by_cases q : e i = e (i - p)
      · simp (disch := omega) only [y_lit, y_n1, nI_add, pk_mul, j_lt, j_b1_s, j_b2_s, j_b3_s, j_b0_s, y_bo, y_bo1, y_bo0, y_i0, y_i1, Classical.not_not, nI_clamp, y_ix, y_lt, y_le, y_eq, y_nP, y_nPs, y_ltP, y_ltQ, y_ltPP, y_eqP, y_eqQ, y_eqPP, if_pos, if_neg, ite_true, ite_false, not_true_eq_false, not_false_eq_true, and_true, true_and, and_false, false_and, or_true, true_or, or_false, false_or]; exact ih (i + 1) f (by omega) (by omega) (by omega)
      · simp (disch := omega) only [y_lit, y_n1, nI_add, pk_mul, j_lt, j_b1_s, j_b2_s, j_b3_s, j_b0_s, y_bo, y_bo1, y_bo0, y_i0, y_i1, Classical.not_not, nI_clamp, y_ix, y_lt, y_le, y_eq, y_nP, y_nPs, y_ltP, y_ltQ, y_ltPP, y_eqP, y_eqQ, y_eqPP, if_pos, if_neg, ite_true, ite_false, not_true_eq_false, not_false_eq_true, and_true, true_and, and_false, false_and, or_true, true_or, or_false, false_or]
  unfold f_X8_isPeriod
  exact key (n - p) p j_F (by omega) (y_F (by omega)) (by omega)
theorem ym_isPeriod (h : y_hd σ τ s c d n e) {p : Nat} (hp : 0 < p) (hpn : p ≤ n) : f_X12_isPeriod (nI s) (nI p) τ = some (nI (y_ip e p (n - p) p)) := by
  have hn := h.2.1
  have s4 := h.s4
  have key : ∀ m i f, i + m = n → m < f → p ≤ i → p_X12_isPeriod_2 (nI s) (nI p) τ f (nI i) = some (nI (y_ip e p m i)) := by
    intro m
    induction m with
    | zero =>
      intro i f hh hf hi
      obtain ⟨f, rfl⟩ := y_pos hf
      unfold p_X12_isPeriod_2 y_ip; simp (disch := omega) only [y_lit, y_n1, nI_add, pk_mul, j_lt, j_b1_s, j_b2_s, j_b3_s, j_b0_s, y_bo, y_bo1, y_bo0, y_i0, y_i1, Classical.not_not, nI_clamp, y_ix, y_lt, y_le, y_eq, y_nP, y_nPs, y_ltP, y_ltQ, y_ltPP, y_eqP, y_eqQ, y_eqPP, if_pos, if_neg, ite_true, ite_false, not_true_eq_false, not_false_eq_true, and_true, true_and, and_false, false_and, or_true, true_or, or_false, false_or, h.2.2.2.1]
    | succ m ih =>
      intro i f hh hf hi
      obtain ⟨f, rfl⟩ := y_pos hf
      have e1 := h.2.2.2.2 i (by omega)
      have e2 := h.2.2.2.2 (i - p) (by omega)
      unfold p_X12_isPeriod_2 y_ip; simp (disch := omega) only [y_lit, y_n1, nI_add, pk_mul, j_lt, j_b1_s, j_b2_s, j_b3_s, j_b0_s, y_bo, y_bo1, y_bo0, y_i0, y_i1, Classical.not_not, nI_clamp, y_ix, y_lt, y_le, y_eq, y_nP, y_nPs, y_ltP, y_ltQ, y_ltPP, y_eqP, y_eqQ, y_eqPP, if_pos, if_neg, ite_true, ite_false, not_true_eq_false, not_false_eq_true, and_true, true_and, and_false, false_and, or_true, true_or, or_false, false_or, h.2.2.2.1, pk_sub, ym_numH h, pk_lEQ]
      by_cases q : e i = e (i - p)
      · simp (disch := omega) only [y_lit, y_n1, nI_add, pk_mul, j_lt, j_b1_s, j_b2_s, j_b3_s, j_b0_s, y_bo, y_bo1, y_bo0, y_i0, y_i1, Classical.not_not, nI_clamp, y_ix, y_lt, y_le, y_eq, y_nP, y_nPs, y_ltP, y_ltQ, y_ltPP, y_eqP, y_eqQ, y_eqPP, if_pos, if_neg, ite_true, ite_false, not_true_eq_false, not_false_eq_true, and_true, true_and, and_false, false_and, or_true, true_or, or_false, false_or]; exact ih (i + 1) f (by omega) (by omega) (by omega)
      · simp (disch := omega) only [y_lit, y_n1, nI_add, pk_mul, j_lt, j_b1_s, j_b2_s, j_b3_s, j_b0_s, y_bo, y_bo1, y_bo0, y_i0, y_i1, Classical.not_not, nI_clamp, y_ix, y_lt, y_le, y_eq, y_nP, y_nPs, y_ltP, y_ltQ, y_ltPP, y_eqP, y_eqQ, y_eqPP, if_pos, if_neg, ite_true, ite_false, not_true_eq_false, not_false_eq_true, and_true, true_and, and_false, false_and, or_true, true_or, or_false, false_or]
  unfold f_X12_isPeriod
  exact key (n - p) p j_F (by omega) (y_F (by omega)) (by omega)
theorem yc_lp (h : y_hd σ τ s c d n e) : f_X8_leastPeriod c d σ = some (nP (y_lp e n (n - 1) 1)) := by
  have hn := h.2.1
  have key : ∀ m p f, (p + m = n ∨ (m = 0 ∧ n ≤ p)) → m < f → 0 < p → p < 100 → p_X8_leastPeriod_2 c d σ f (nI p) = some (nP (y_lp e n m p)) := by
    intro m
    induction m with
    | zero =>
      intro p f hh hf hp hp2
      obtain ⟨f, rfl⟩ := y_pos hf
      unfold p_X8_leastPeriod_2 y_lp; simp (disch := omega) only [y_lit, y_n1, nI_add, pk_mul, j_lt, j_b1_s, j_b2_s, j_b3_s, j_b0_s, y_bo, y_bo1, y_bo0, y_i0, y_i1, Classical.not_not, nI_clamp, y_ix, y_lt, y_le, y_eq, y_nP, y_nPs, y_ltP, y_ltQ, y_ltPP, y_eqP, y_eqQ, y_eqPP, if_pos, if_neg, ite_true, ite_false, not_true_eq_false, not_false_eq_true, and_true, true_and, and_false, false_and, or_true, true_or, or_false, false_or, h.2.2.1]
    | succ m ih =>
      intro p f hh hf hp hp2
      obtain ⟨f, rfl⟩ := y_pos hf
      have le := y_ip_le (e := e) (p := p) (n - p) p
      unfold p_X8_leastPeriod_2 y_lp; simp (disch := omega) only [y_lit, y_n1, nI_add, pk_mul, j_lt, j_b1_s, j_b2_s, j_b3_s, j_b0_s, y_bo, y_bo1, y_bo0, y_i0, y_i1, Classical.not_not, nI_clamp, y_ix, y_lt, y_le, y_eq, y_nP, y_nPs, y_ltP, y_ltQ, y_ltPP, y_eqP, y_eqQ, y_eqPP, if_pos, if_neg, ite_true, ite_false, not_true_eq_false, not_false_eq_true, and_true, true_and, and_false, false_and, or_true, true_or, or_false, false_or, h.2.2.1, yc_isPeriod h]
      by_cases q : y_ip e p (n - p) p = 0
      · simp (disch := omega) only [y_lit, y_n1, nI_add, pk_mul, j_lt, j_b1_s, j_b2_s, j_b3_s, j_b0_s, y_bo, y_bo1, y_bo0, y_i0, y_i1, Classical.not_not, nI_clamp, y_ix, y_lt, y_le, y_eq, y_nP, y_nPs, y_ltP, y_ltQ, y_ltPP, y_eqP, y_eqQ, y_eqPP, if_pos, if_neg, ite_true, ite_false, not_true_eq_false, not_false_eq_true, and_true, true_and, and_false, false_and, or_true, true_or, or_false, false_or]; exact ih (p + 1) f (by omega) (by omega) (by omega) (by omega)
      · simp (disch := omega) only [y_lit, y_n1, nI_add, pk_mul, j_lt, j_b1_s, j_b2_s, j_b3_s, j_b0_s, y_bo, y_bo1, y_bo0, y_i0, y_i1, Classical.not_not, nI_clamp, y_ix, y_lt, y_le, y_eq, y_nP, y_nPs, y_ltP, y_ltQ, y_ltPP, y_eqP, y_eqQ, y_eqPP, if_pos, if_neg, ite_true, ite_false, not_true_eq_false, not_false_eq_true, and_true, true_and, and_false, false_and, or_true, true_or, or_false, false_or]
  unfold f_X8_leastPeriod
  rw [show (1 : Int32) = nI 1 from rfl]
  exact key (n - 1) 1 j_F (by omega) (y_F (by omega)) (by omega) (by omega)
theorem ym_lp (h : y_hd σ τ s c d n e) : f_X12_leastPeriod (nI s) τ = some (nP (y_lp e n (n - 1) 1)) := by
  have hn := h.2.1
  have s4 := h.s4
  have key : ∀ m p f, (p + m = n ∨ (m = 0 ∧ n ≤ p)) → m < f → 0 < p → p < 100 → p_X12_leastPeriod_2 (nI s) τ f (nI p) = some (nP (y_lp e n m p)) := by
    intro m
    induction m with
    | zero =>
      intro p f hh hf hp hp2
      obtain ⟨f, rfl⟩ := y_pos hf
      unfold p_X12_leastPeriod_2 y_lp; simp (disch := omega) only [y_lit, y_n1, nI_add, pk_mul, j_lt, j_b1_s, j_b2_s, j_b3_s, j_b0_s, y_bo, y_bo1, y_bo0, y_i0, y_i1, Classical.not_not, nI_clamp, y_ix, y_lt, y_le, y_eq, y_nP, y_nPs, y_ltP, y_ltQ, y_ltPP, y_eqP, y_eqQ, y_eqPP, if_pos, if_neg, ite_true, ite_false, not_true_eq_false, not_false_eq_true, and_true, true_and, and_false, false_and, or_true, true_or, or_false, false_or, h.2.2.2.1]
    | succ m ih =>
      intro p f hh hf hp hp2
      obtain ⟨f, rfl⟩ := y_pos hf
      have le := y_ip_le (e := e) (p := p) (n - p) p
      unfold p_X12_leastPeriod_2 y_lp; simp (disch := omega) only [y_lit, y_n1, nI_add, pk_mul, j_lt, j_b1_s, j_b2_s, j_b3_s, j_b0_s, y_bo, y_bo1, y_bo0, y_i0, y_i1, Classical.not_not, nI_clamp, y_ix, y_lt, y_le, y_eq, y_nP, y_nPs, y_ltP, y_ltQ, y_ltPP, y_eqP, y_eqQ, y_eqPP, if_pos, if_neg, ite_true, ite_false, not_true_eq_false, not_false_eq_true, and_true, true_and, and_false, false_and, or_true, true_or, or_false, false_or, h.2.2.2.1, ym_isPeriod h]
      by_cases q : y_ip e p (n - p) p = 0
      · simp (disch := omega) only [y_lit, y_n1, nI_add, pk_mul, j_lt, j_b1_s, j_b2_s, j_b3_s, j_b0_s, y_bo, y_bo1, y_bo0, y_i0, y_i1, Classical.not_not, nI_clamp, y_ix, y_lt, y_le, y_eq, y_nP, y_nPs, y_ltP, y_ltQ, y_ltPP, y_eqP, y_eqQ, y_eqPP, if_pos, if_neg, ite_true, ite_false, not_true_eq_false, not_false_eq_true, and_true, true_and, and_false, false_and, or_true, true_or, or_false, false_or]; exact ih (p + 1) f (by omega) (by omega) (by omega) (by omega)
      · simp (disch := omega) only [y_lit, y_n1, nI_add, pk_mul, j_lt, j_b1_s, j_b2_s, j_b3_s, j_b0_s, y_bo, y_bo1, y_bo0, y_i0, y_i1, Classical.not_not, nI_clamp, y_ix, y_lt, y_le, y_eq, y_nP, y_nPs, y_ltP, y_ltQ, y_ltPP, y_eqP, y_eqQ, y_eqPP, if_pos, if_neg, ite_true, ite_false, not_true_eq_false, not_false_eq_true, and_true, true_and, and_false, false_and, or_true, true_or, or_false, false_or]
  unfold f_X12_leastPeriod
  rw [show (1 : Int32) = nI 1 from rfl]
  exact key (n - 1) 1 j_F (by omega) (y_F (by omega)) (by omega) (by omega)
theorem yc_pall (h : y_hd σ τ s c d n e) : f_X8_periodsInAll c d σ = some (nI (y_su (fun p => y_ip e p (n - p) p) (n - 1) 1 0)) := by
  have hn := h.2.1
  have key : ∀ m p f v, (p + m = n ∨ (m = 0 ∧ n ≤ p)) → m < f → 0 < p → p < 100 → p_X8_periodsInAll_4 c d σ f (nI v) (nI p) = some (nI (y_su (fun p => y_ip e p (n - p) p) m p v)) := by
    intro m
    induction m with
    | zero =>
      intro p f v hh hf hp hp2
      obtain ⟨f, rfl⟩ := y_pos hf
      unfold p_X8_periodsInAll_4 y_su; simp (disch := omega) only [y_lit, y_n1, nI_add, pk_mul, j_lt, j_b1_s, j_b2_s, j_b3_s, j_b0_s, y_bo, y_bo1, y_bo0, y_i0, y_i1, Classical.not_not, nI_clamp, y_ix, y_lt, y_le, y_eq, y_nP, y_nPs, y_ltP, y_ltQ, y_ltPP, y_eqP, y_eqQ, y_eqPP, if_pos, if_neg, ite_true, ite_false, not_true_eq_false, not_false_eq_true, and_true, true_and, and_false, false_and, or_true, true_or, or_false, false_or, h.2.2.1]
    | succ m ih =>
      intro p f v hh hf hp hp2
      obtain ⟨f, rfl⟩ := y_pos hf
      have le := y_ip_le (e := e) (p := p) (n - p) p
      unfold p_X8_periodsInAll_4 y_su; simp (disch := omega) only [y_lit, y_n1, nI_add, pk_mul, j_lt, j_b1_s, j_b2_s, j_b3_s, j_b0_s, y_bo, y_bo1, y_bo0, y_i0, y_i1, Classical.not_not, nI_clamp, y_ix, y_lt, y_le, y_eq, y_nP, y_nPs, y_ltP, y_ltQ, y_ltPP, y_eqP, y_eqQ, y_eqPP, if_pos, if_neg, ite_true, ite_false, not_true_eq_false, not_false_eq_true, and_true, true_and, and_false, false_and, or_true, true_or, or_false, false_or, h.2.2.1, yc_isPeriod h]
      by_cases q : y_ip e p (n - p) p = 0
      · simp (disch := omega) only [y_lit, y_n1, nI_add, pk_mul, j_lt, j_b1_s, j_b2_s, j_b3_s, j_b0_s, y_bo, y_bo1, y_bo0, y_i0, y_i1, Classical.not_not, nI_clamp, y_ix, y_lt, y_le, y_eq, y_nP, y_nPs, y_ltP, y_ltQ, y_ltPP, y_eqP, y_eqQ, y_eqPP, if_pos, if_neg, ite_true, ite_false, not_true_eq_false, not_false_eq_true, and_true, true_and, and_false, false_and, or_true, true_or, or_false, false_or, q]; exact ih (p + 1) f _ (by omega) (by omega) (by omega) (by omega)
      · have q1 : y_ip e p (n - p) p = 1 := by omega
        simp (disch := omega) only [y_lit, y_n1, nI_add, pk_mul, j_lt, j_b1_s, j_b2_s, j_b3_s, j_b0_s, y_bo, y_bo1, y_bo0, y_i0, y_i1, Classical.not_not, nI_clamp, y_ix, y_lt, y_le, y_eq, y_nP, y_nPs, y_ltP, y_ltQ, y_ltPP, y_eqP, y_eqQ, y_eqPP, if_pos, if_neg, ite_true, ite_false, not_true_eq_false, not_false_eq_true, and_true, true_and, and_false, false_and, or_true, true_or, or_false, false_or, q1]; exact ih (p + 1) f _ (by omega) (by omega) (by omega) (by omega)
  unfold f_X8_periodsInAll
  rw [show (1 : Int32) = nI 1 from rfl, show (0 : Int32) = nI 0 from rfl, key (n - 1) 1 j_F 0 (by omega) (y_F (by omega)) (by omega) (by omega)]
  rfl
theorem ym_pall (h : y_hd σ τ s c d n e) : p_X12_periods_17 (nI s) τ j_F (nI 0) (nI 1) = some (nI (y_su (fun p => y_ip e p (n - p) p) (n - 1) 1 0)) := by
  have hn := h.2.1
  have s4 := h.s4
  have key : ∀ m p f v, (p + m = n ∨ (m = 0 ∧ n ≤ p)) → m < f → 0 < p → p < 100 → p_X12_periods_17 (nI s) τ f (nI v) (nI p) = some (nI (y_su (fun p => y_ip e p (n - p) p) m p v)) := by
    intro m
    induction m with
    | zero =>
      intro p f v hh hf hp hp2
      obtain ⟨f, rfl⟩ := y_pos hf
      unfold p_X12_periods_17 y_su; simp (disch := omega) only [y_lit, y_n1, nI_add, pk_mul, j_lt, j_b1_s, j_b2_s, j_b3_s, j_b0_s, y_bo, y_bo1, y_bo0, y_i0, y_i1, Classical.not_not, nI_clamp, y_ix, y_lt, y_le, y_eq, y_nP, y_nPs, y_ltP, y_ltQ, y_ltPP, y_eqP, y_eqQ, y_eqPP, if_pos, if_neg, ite_true, ite_false, not_true_eq_false, not_false_eq_true, and_true, true_and, and_false, false_and, or_true, true_or, or_false, false_or, h.2.2.2.1]
    | succ m ih =>
      intro p f v hh hf hp hp2
      obtain ⟨f, rfl⟩ := y_pos hf
      have le := y_ip_le (e := e) (p := p) (n - p) p
      unfold p_X12_periods_17 y_su; simp (disch := omega) only [y_lit, y_n1, nI_add, pk_mul, j_lt, j_b1_s, j_b2_s, j_b3_s, j_b0_s, y_bo, y_bo1, y_bo0, y_i0, y_i1, Classical.not_not, nI_clamp, y_ix, y_lt, y_le, y_eq, y_nP, y_nPs, y_ltP, y_ltQ, y_ltPP, y_eqP, y_eqQ, y_eqPP, if_pos, if_neg, ite_true, ite_false, not_true_eq_false, not_false_eq_true, and_true, true_and, and_false, false_and, or_true, true_or, or_false, false_or, h.2.2.2.1, ym_isPeriod h]
      by_cases q : y_ip e p (n - p) p = 0
      · simp (disch := omega) only [y_lit, y_n1, nI_add, pk_mul, j_lt, j_b1_s, j_b2_s, j_b3_s, j_b0_s, y_bo, y_bo1, y_bo0, y_i0, y_i1, Classical.not_not, nI_clamp, y_ix, y_lt, y_le, y_eq, y_nP, y_nPs, y_ltP, y_ltQ, y_ltPP, y_eqP, y_eqQ, y_eqPP, if_pos, if_neg, ite_true, ite_false, not_true_eq_false, not_false_eq_true, and_true, true_and, and_false, false_and, or_true, true_or, or_false, false_or, q]; exact ih (p + 1) f _ (by omega) (by omega) (by omega) (by omega)
      · have q1 : y_ip e p (n - p) p = 1 := by omega
        simp (disch := omega) only [y_lit, y_n1, nI_add, pk_mul, j_lt, j_b1_s, j_b2_s, j_b3_s, j_b0_s, y_bo, y_bo1, y_bo0, y_i0, y_i1, Classical.not_not, nI_clamp, y_ix, y_lt, y_le, y_eq, y_nP, y_nPs, y_ltP, y_ltQ, y_ltPP, y_eqP, y_eqQ, y_eqPP, if_pos, if_neg, ite_true, ite_false, not_true_eq_false, not_false_eq_true, and_true, true_and, and_false, false_and, or_true, true_or, or_false, false_or, q1]; exact ih (p + 1) f _ (by omega) (by omega) (by omega) (by omega)
  exact key (n - 1) 1 j_F 0 (by omega) (y_F (by omega)) (by omega) (by omega)
theorem yc_goesSo (h : y_hd σ τ s c d n e) (hN : y_N σ b) (hW : y_W b) (h5 : 0 < b 5) {k : Nat} (hk : k < 100) : f_X3_goesSo c d (nI k) σ = some (nI (y_gt b e k n 0)) := by
  have hn := h.2.1
  have h4 := hW.ho
  have key : ∀ m i f, i + m = n → m < f → p_X3_goesSo_2 c d (nI k) σ f (nI i) = some (nI (y_gt b e k m i)) := by
    intro m
    induction m with
    | zero =>
      intro i f hh hf
      obtain ⟨f, rfl⟩ := y_pos hf
      unfold p_X3_goesSo_2 y_gt; simp (disch := omega) only [y_lit, y_n1, nI_add, pk_mul, j_lt, j_b1_s, j_b2_s, j_b3_s, j_b0_s, y_bo, y_bo1, y_bo0, y_i0, y_i1, Classical.not_not, nI_clamp, y_ix, y_lt, y_le, y_eq, y_nP, y_nPs, y_ltP, y_ltQ, y_ltPP, y_eqP, y_eqQ, y_eqPP, if_pos, if_neg, ite_true, ite_false, not_true_eq_false, not_false_eq_true, and_true, true_and, and_false, false_and, or_true, true_or, or_false, false_or, h.2.2.1]
    | succ m ih =>
      intro i f hh hf
      obtain ⟨f, rfl⟩ := y_pos hf
      have e1 := h.2.2.2.2 i (by omega)
      have r1 := y_rd_lt hW h5 (k + i)
      unfold p_X3_goesSo_2 y_gt; simp (disch := omega) only [y_lit, y_n1, nI_add, pk_mul, j_lt, j_b1_s, j_b2_s, j_b3_s, j_b0_s, y_bo, y_bo1, y_bo0, y_i0, y_i1, Classical.not_not, nI_clamp, y_ix, y_lt, y_le, y_eq, y_nP, y_nPs, y_ltP, y_ltQ, y_ltPP, y_eqP, y_eqQ, y_eqPP, if_pos, if_neg, ite_true, ite_false, not_true_eq_false, not_false_eq_true, and_true, true_and, and_false, false_and, or_true, true_or, or_false, false_or, h.2.2.1, yc_round hN hW h5, e1.2.1, nI_l, pk_lEQ]
      by_cases q : e i = y_rd b (k + i)
      · simp (disch := omega) only [y_lit, y_n1, nI_add, pk_mul, j_lt, j_b1_s, j_b2_s, j_b3_s, j_b0_s, y_bo, y_bo1, y_bo0, y_i0, y_i1, Classical.not_not, nI_clamp, y_ix, y_lt, y_le, y_eq, y_nP, y_nPs, y_ltP, y_ltQ, y_ltPP, y_eqP, y_eqQ, y_eqPP, if_pos, if_neg, ite_true, ite_false, not_true_eq_false, not_false_eq_true, and_true, true_and, and_false, false_and, or_true, true_or, or_false, false_or]; exact ih (i + 1) f (by omega) (by omega)
      · simp (disch := omega) only [y_lit, y_n1, nI_add, pk_mul, j_lt, j_b1_s, j_b2_s, j_b3_s, j_b0_s, y_bo, y_bo1, y_bo0, y_i0, y_i1, Classical.not_not, nI_clamp, y_ix, y_lt, y_le, y_eq, y_nP, y_nPs, y_ltP, y_ltQ, y_ltPP, y_eqP, y_eqQ, y_eqPP, if_pos, if_neg, ite_true, ite_false, not_true_eq_false, not_false_eq_true, and_true, true_and, and_false, false_and, or_true, true_or, or_false, false_or]
  unfold f_X3_goesSo
  exact key n 0 j_F (by omega) (y_F (by omega))
theorem ym_fitsFrom (h : y_hd σ τ s c d n e) (hM : y_M τ b) (hW : y_W b) (h5 : 0 < b 5) {k : Nat} (hk : k < 100) : f_X12_fitsFrom (nI s) (nI k) τ = some (nI (y_gt b e k n 0)) := by
  have hn := h.2.1
  have h4 := hW.ho
  have s4 := h.s4
  have key : ∀ m i f, i + m = n → m < f → p_X12_fitsFrom_2 (nI s) (nI k) τ f (nI i) = some (nI (y_gt b e k m i)) := by
    intro m
    induction m with
    | zero =>
      intro i f hh hf
      obtain ⟨f, rfl⟩ := y_pos hf
      unfold p_X12_fitsFrom_2 y_gt; simp (disch := omega) only [y_lit, y_n1, nI_add, pk_mul, j_lt, j_b1_s, j_b2_s, j_b3_s, j_b0_s, y_bo, y_bo1, y_bo0, y_i0, y_i1, Classical.not_not, nI_clamp, y_ix, y_lt, y_le, y_eq, y_nP, y_nPs, y_ltP, y_ltQ, y_ltPP, y_eqP, y_eqQ, y_eqPP, if_pos, if_neg, ite_true, ite_false, not_true_eq_false, not_false_eq_true, and_true, true_and, and_false, false_and, or_true, true_or, or_false, false_or, h.2.2.2.1]
    | succ m ih =>
      intro i f hh hf
      obtain ⟨f, rfl⟩ := y_pos hf
      have e1 := h.2.2.2.2 i (by omega)
      have r1 := y_rd_lt hW h5 (k + i)
      unfold p_X12_fitsFrom_2 y_gt; simp (disch := omega) only [y_lit, y_n1, nI_add, pk_mul, j_lt, j_b1_s, j_b2_s, j_b3_s, j_b0_s, y_bo, y_bo1, y_bo0, y_i0, y_i1, Classical.not_not, nI_clamp, y_ix, y_lt, y_le, y_eq, y_nP, y_nPs, y_ltP, y_ltQ, y_ltPP, y_eqP, y_eqQ, y_eqPP, if_pos, if_neg, ite_true, ite_false, not_true_eq_false, not_false_eq_true, and_true, true_and, and_false, false_and, or_true, true_or, or_false, false_or, h.2.2.2.1, ym_holeAt hM hW h5, ym_numH h, nI_l, pk_lEQ]
      by_cases q : e i = y_rd b (k + i)
      · simp (disch := omega) only [y_lit, y_n1, nI_add, pk_mul, j_lt, j_b1_s, j_b2_s, j_b3_s, j_b0_s, y_bo, y_bo1, y_bo0, y_i0, y_i1, Classical.not_not, nI_clamp, y_ix, y_lt, y_le, y_eq, y_nP, y_nPs, y_ltP, y_ltQ, y_ltPP, y_eqP, y_eqQ, y_eqPP, if_pos, if_neg, ite_true, ite_false, not_true_eq_false, not_false_eq_true, and_true, true_and, and_false, false_and, or_true, true_or, or_false, false_or]; exact ih (i + 1) f (by omega) (by omega)
      · simp (disch := omega) only [y_lit, y_n1, nI_add, pk_mul, j_lt, j_b1_s, j_b2_s, j_b3_s, j_b0_s, y_bo, y_bo1, y_bo0, y_i0, y_i1, Classical.not_not, nI_clamp, y_ix, y_lt, y_le, y_eq, y_nP, y_nPs, y_ltP, y_ltQ, y_ltPP, y_eqP, y_eqQ, y_eqPP, if_pos, if_neg, ite_true, ite_false, not_true_eq_false, not_false_eq_true, and_true, true_and, and_false, false_and, or_true, true_or, or_false, false_or]
  unfold f_X12_fitsFrom
  exact key n 0 j_F (by omega) (y_F (by omega))
end C
section Z
variable {σ τ : j_G}
theorem z_period (hR : j_Rel σ τ) (a1 : Int32) : ∃ v, f_X11_period a1 σ = some v ∧ f_X12_period a1 τ = some v := by
  obtain ⟨b, hW, hN, hM, hK⟩ := id hR
  rcases y_why hW hN hM hK a1 with ⟨k, k1, k2, k3, k4⟩ | ⟨k3, k4, h9, s, c, d, n, e, rfl, h, he⟩
  · refine ⟨k, ?_, ?_⟩
    · unfold f_X11_period; rw [k3, j_b1_s, if_neg k2]
    · unfold f_X12_period; rw [k4, j_b1_s, if_pos k1]
  · refine ⟨nP (y_lp e n (n - 1) 1), ?_, ?_⟩
    · have q := yc_lp h
      unfold f_X11_period
      rcases h.1 with ⟨rfl, rfl, rfl⟩ | ⟨rfl, rfl, rfl⟩ | ⟨rfl, rfl, rfl⟩ | ⟨rfl, rfl, rfl⟩
      · simp (disch := omega) only [y_lit, y_n1, nI_add, pk_mul, j_lt, j_b1_s, j_b2_s, j_b3_s, j_b0_s, y_bo, y_bo1, y_bo0, y_i0, y_i1, Classical.not_not, nI_clamp, y_ix, y_lt, y_le, y_eq, y_nP, y_nPs, y_ltP, y_ltQ, y_ltPP, y_eqP, y_eqQ, y_eqPP, if_pos, if_neg, ite_true, ite_false, not_true_eq_false, not_false_eq_true, and_true, true_and, and_false, false_and, or_true, true_or, or_false, false_or, k3, q]
      · simp (disch := omega) only [y_lit, y_n1, nI_add, pk_mul, j_lt, j_b1_s, j_b2_s, j_b3_s, j_b0_s, y_bo, y_bo1, y_bo0, y_i0, y_i1, Classical.not_not, nI_clamp, y_ix, y_lt, y_le, y_eq, y_nP, y_nPs, y_ltP, y_ltQ, y_ltPP, y_eqP, y_eqQ, y_eqPP, if_pos, if_neg, ite_true, ite_false, not_true_eq_false, not_false_eq_true, and_true, true_and, and_false, false_and, or_true, true_or, or_false, false_or, k3, q]
      · simp (disch := omega) only [y_lit, y_n1, nI_add, pk_mul, j_lt, j_b1_s, j_b2_s, j_b3_s, j_b0_s, y_bo, y_bo1, y_bo0, y_i0, y_i1, Classical.not_not, nI_clamp, y_ix, y_lt, y_le, y_eq, y_nP, y_nPs, y_ltP, y_ltQ, y_ltPP, y_eqP, y_eqQ, y_eqPP, if_pos, if_neg, ite_true, ite_false, not_true_eq_false, not_false_eq_true, and_true, true_and, and_false, false_and, or_true, true_or, or_false, false_or, k3, q]
      · simp (disch := omega) only [y_lit, y_n1, nI_add, pk_mul, j_lt, j_b1_s, j_b2_s, j_b3_s, j_b0_s, y_bo, y_bo1, y_bo0, y_i0, y_i1, Classical.not_not, nI_clamp, y_ix, y_lt, y_le, y_eq, y_nP, y_nPs, y_ltP, y_ltQ, y_ltPP, y_eqP, y_eqQ, y_eqPP, if_pos, if_neg, ite_true, ite_false, not_true_eq_false, not_false_eq_true, and_true, true_and, and_false, false_and, or_true, true_or, or_false, false_or, k3, q]
    · unfold f_X12_period; simp (disch := omega) only [y_lit, y_n1, nI_add, pk_mul, j_lt, j_b1_s, j_b2_s, j_b3_s, j_b0_s, y_bo, y_bo1, y_bo0, y_i0, y_i1, Classical.not_not, nI_clamp, y_ix, y_lt, y_le, y_eq, y_nP, y_nPs, y_ltP, y_ltQ, y_ltPP, y_eqP, y_eqQ, y_eqPP, if_pos, if_neg, ite_true, ite_false, not_true_eq_false, not_false_eq_true, and_true, true_and, and_false, false_and, or_true, true_or, or_false, false_or, k4, ym_lp h]
theorem z_periods (hR : j_Rel σ τ) (a1 : Int32) : ∃ v, f_X11_periods a1 σ = some v ∧ f_X12_periods a1 τ = some v := by
  obtain ⟨b, hW, hN, hM, hK⟩ := id hR
  rcases y_why hW hN hM hK a1 with ⟨k, k1, k2, k3, k4⟩ | ⟨k3, k4, h9, s, c, d, n, e, rfl, h, he⟩
  · refine ⟨k, ?_, ?_⟩
    · unfold f_X11_periods; rw [k3, j_b1_s, if_neg k2]
    · unfold f_X12_periods; rw [k4, j_b1_s, if_pos k1]
  · refine ⟨nI (y_su (fun p => y_ip e p (n - p) p) (n - 1) 1 0), ?_, ?_⟩
    · have q := yc_pall h
      unfold f_X11_periods
      rcases h.1 with ⟨rfl, rfl, rfl⟩ | ⟨rfl, rfl, rfl⟩ | ⟨rfl, rfl, rfl⟩ | ⟨rfl, rfl, rfl⟩
      · simp (disch := omega) only [y_lit, y_n1, nI_add, pk_mul, j_lt, j_b1_s, j_b2_s, j_b3_s, j_b0_s, y_bo, y_bo1, y_bo0, y_i0, y_i1, Classical.not_not, nI_clamp, y_ix, y_lt, y_le, y_eq, y_nP, y_nPs, y_ltP, y_ltQ, y_ltPP, y_eqP, y_eqQ, y_eqPP, if_pos, if_neg, ite_true, ite_false, not_true_eq_false, not_false_eq_true, and_true, true_and, and_false, false_and, or_true, true_or, or_false, false_or, k3, q]
      · simp (disch := omega) only [y_lit, y_n1, nI_add, pk_mul, j_lt, j_b1_s, j_b2_s, j_b3_s, j_b0_s, y_bo, y_bo1, y_bo0, y_i0, y_i1, Classical.not_not, nI_clamp, y_ix, y_lt, y_le, y_eq, y_nP, y_nPs, y_ltP, y_ltQ, y_ltPP, y_eqP, y_eqQ, y_eqPP, if_pos, if_neg, ite_true, ite_false, not_true_eq_false, not_false_eq_true, and_true, true_and, and_false, false_and, or_true, true_or, or_false, false_or, k3, q]
      · simp (disch := omega) only [y_lit, y_n1, nI_add, pk_mul, j_lt, j_b1_s, j_b2_s, j_b3_s, j_b0_s, y_bo, y_bo1, y_bo0, y_i0, y_i1, Classical.not_not, nI_clamp, y_ix, y_lt, y_le, y_eq, y_nP, y_nPs, y_ltP, y_ltQ, y_ltPP, y_eqP, y_eqQ, y_eqPP, if_pos, if_neg, ite_true, ite_false, not_true_eq_false, not_false_eq_true, and_true, true_and, and_false, false_and, or_true, true_or, or_false, false_or, k3, q]
      · simp (disch := omega) only [y_lit, y_n1, nI_add, pk_mul, j_lt, j_b1_s, j_b2_s, j_b3_s, j_b0_s, y_bo, y_bo1, y_bo0, y_i0, y_i1, Classical.not_not, nI_clamp, y_ix, y_lt, y_le, y_eq, y_nP, y_nPs, y_ltP, y_ltQ, y_ltPP, y_eqP, y_eqQ, y_eqPP, if_pos, if_neg, ite_true, ite_false, not_true_eq_false, not_false_eq_true, and_true, true_and, and_false, false_and, or_true, true_or, or_false, false_or, k3, q]
    · unfold f_X12_periods; simp (disch := omega) only [y_lit, y_n1, nI_add, pk_mul, j_lt, j_b1_s, j_b2_s, j_b3_s, j_b0_s, y_bo, y_bo1, y_bo0, y_i0, y_i1, Classical.not_not, nI_clamp, y_ix, y_lt, y_le, y_eq, y_nP, y_nPs, y_ltP, y_ltQ, y_ltPP, y_eqP, y_eqQ, y_eqPP, if_pos, if_neg, ite_true, ite_false, not_true_eq_false, not_false_eq_true, and_true, true_and, and_false, false_and, or_true, true_or, or_false, false_or, k4, ym_pall h]
theorem z_luck (hR : j_Rel σ τ) (a1 : Int32) : ∃ v, f_X11_luck a1 σ = some v ∧ f_X12_luck a1 τ = some v := by
  obtain ⟨b, hW, hN, hM, hK⟩ := id hR
  rcases y_why hW hN hM hK a1 with ⟨k, k1, k2, k3, k4⟩ | ⟨k3, k4, h9, s, c, d, n, e, rfl, h, he⟩
  · refine ⟨k, ?_, ?_⟩
    · unfold f_X11_luck; rw [k3, j_b1_s, if_pos k2]
    · unfold f_X12_luck; rw [k4, j_b1_s, if_pos k1]
  · have hn := h.2.1
    have s4 := h.s4
    have q := yc_lp h
    have qm := ym_lp h
    have ol := y_op_le hW
    have ll := y_lp_le (e := e) (n := n) (n - 1) 1
    by_cases z : y_lp e n (n - 1) 1 = 0
    · rw [z] at q qm
      refine ⟨-1, ?_, ?_⟩
      · unfold f_X11_luck
        rcases h.1 with ⟨rfl, rfl, rfl⟩ | ⟨rfl, rfl, rfl⟩ | ⟨rfl, rfl, rfl⟩ | ⟨rfl, rfl, rfl⟩
        · simp (disch := omega) only [y_lit, y_n1, nI_add, pk_mul, j_lt, j_b1_s, j_b2_s, j_b3_s, j_b0_s, y_bo, y_bo1, y_bo0, y_i0, y_i1, Classical.not_not, nI_clamp, y_ix, y_lt, y_le, y_eq, y_nP, y_nPs, y_ltP, y_ltQ, y_ltPP, y_eqP, y_eqQ, y_eqPP, if_pos, if_neg, ite_true, ite_false, not_true_eq_false, not_false_eq_true, and_true, true_and, and_false, false_and, or_true, true_or, or_false, false_or, k3, q]
        · simp (disch := omega) only [y_lit, y_n1, nI_add, pk_mul, j_lt, j_b1_s, j_b2_s, j_b3_s, j_b0_s, y_bo, y_bo1, y_bo0, y_i0, y_i1, Classical.not_not, nI_clamp, y_ix, y_lt, y_le, y_eq, y_nP, y_nPs, y_ltP, y_ltQ, y_ltPP, y_eqP, y_eqQ, y_eqPP, if_pos, if_neg, ite_true, ite_false, not_true_eq_false, not_false_eq_true, and_true, true_and, and_false, false_and, or_true, true_or, or_false, false_or, k3, q]
        · simp (disch := omega) only [y_lit, y_n1, nI_add, pk_mul, j_lt, j_b1_s, j_b2_s, j_b3_s, j_b0_s, y_bo, y_bo1, y_bo0, y_i0, y_i1, Classical.not_not, nI_clamp, y_ix, y_lt, y_le, y_eq, y_nP, y_nPs, y_ltP, y_ltQ, y_ltPP, y_eqP, y_eqQ, y_eqPP, if_pos, if_neg, ite_true, ite_false, not_true_eq_false, not_false_eq_true, and_true, true_and, and_false, false_and, or_true, true_or, or_false, false_or, k3, q]
        · simp (disch := omega) only [y_lit, y_n1, nI_add, pk_mul, j_lt, j_b1_s, j_b2_s, j_b3_s, j_b0_s, y_bo, y_bo1, y_bo0, y_i0, y_i1, Classical.not_not, nI_clamp, y_ix, y_lt, y_le, y_eq, y_nP, y_nPs, y_ltP, y_ltQ, y_ltPP, y_eqP, y_eqQ, y_eqPP, if_pos, if_neg, ite_true, ite_false, not_true_eq_false, not_false_eq_true, and_true, true_and, and_false, false_and, or_true, true_or, or_false, false_or, k3, q]
      · unfold f_X12_luck; simp (disch := omega) only [y_lit, y_n1, nI_add, pk_mul, j_lt, j_b1_s, j_b2_s, j_b3_s, j_b0_s, y_bo, y_bo1, y_bo0, y_i0, y_i1, Classical.not_not, nI_clamp, y_ix, y_lt, y_le, y_eq, y_nP, y_nPs, y_ltP, y_ltQ, y_ltPP, y_eqP, y_eqQ, y_eqPP, if_pos, if_neg, ite_true, ite_false, not_true_eq_false, not_false_eq_true, and_true, true_and, and_false, false_and, or_true, true_or, or_false, false_or, k4, qm]
    · obtain ⟨p, hp⟩ : ∃ p, y_lp e n (n - 1) 1 = p + 1 := ⟨y_lp e n (n - 1) 1 - 1, by omega⟩
      rw [hp, y_nPs] at q qm
      have both : ∀ m i f pw, i + m = n → m < f → pw ≤ 1000000000 → ∃ w, w < 2 ^ 62 ∧ p_X11_luck_44 c (nI (y_op b)) σ (f + 1) (lN pw) (nI i) = some (lN w) ∧ p_X12_luck_31 (nI s) τ (f + 1) (lN pw) (nI i) = some (if lN 1000000000 < lN w then nP 0 else (lN w).toInt32) := by
        intro m
        induction m with
        | zero =>
          intro i f pw hh hf hpw
          refine ⟨pw, by omega, ?_, ?_⟩
          · unfold p_X11_luck_44; simp (disch := omega) only [y_lit, y_n1, nI_add, pk_mul, j_lt, j_b1_s, j_b2_s, j_b3_s, j_b0_s, y_bo, y_bo1, y_bo0, y_i0, y_i1, Classical.not_not, nI_clamp, y_ix, y_lt, y_le, y_eq, y_nP, y_nPs, y_ltP, y_ltQ, y_ltPP, y_eqP, y_eqQ, y_eqPP, if_pos, if_neg, ite_true, ite_false, not_true_eq_false, not_false_eq_true, and_true, true_and, and_false, false_and, or_true, true_or, or_false, false_or, h.2.2.1]
          · have : ¬ lN 1000000000 < lN pw := by rw [pk_lLT (by omega) (by omega)]; omega
            rw [if_neg this]
            unfold p_X12_luck_31; simp (disch := omega) only [y_lit, y_n1, nI_add, pk_mul, j_lt, j_b1_s, j_b2_s, j_b3_s, j_b0_s, y_bo, y_bo1, y_bo0, y_i0, y_i1, Classical.not_not, nI_clamp, y_ix, y_lt, y_le, y_eq, y_nP, y_nPs, y_ltP, y_ltQ, y_ltPP, y_eqP, y_eqQ, y_eqPP, if_pos, if_neg, ite_true, ite_false, not_true_eq_false, not_false_eq_true, and_true, true_and, and_false, false_and, or_true, true_or, or_false, false_or, h.2.2.2.1]
        | succ m ih =>
          intro i f pw hh hf hpw
          obtain ⟨f, rfl⟩ := y_pos hf
          have mle : pw * y_op b ≤ 1000000000 * 12 := Nat.mul_le_mul hpw ol
          have hlt : nI i < nI n := (y_lt (by omega) (by omega)).mpr (by omega)
          have n0 : ¬ lN 1000000000 < lN pw := by rw [pk_lLT (by omega) (by omega)]; omega
          have c1 : p_X11_luck_44 c (nI (y_op b)) σ (f + 1 + 1) (lN pw) (nI i) = p_X11_luck_44 c (nI (y_op b)) σ (f + 1) (lN (pw * y_op b)) (nI (i + 1)) := by
            rw [p_X11_luck_44, h.2.2.1, y_litL, if_pos ⟨hlt, n0⟩, nI_l (by omega), show (1 : Int32) = nI 1 from rfl, nI_add]
            simp only [j_lt]
            rw [lN_mul]
          have c2 : p_X12_luck_31 (nI s) τ (f + 1 + 1) (lN pw) (nI i) = if lN 1000000000 < lN (pw * y_op b) then some (nP 0) else p_X12_luck_31 (nI s) τ (f + 1) (lN (pw * y_op b)) (nI (i + 1)) := by
            rw [p_X12_luck_31, y_ix (by omega) (by omega), nI_clamp (by omega), h.2.2.2.1, if_pos hlt, ym_open hM hW, j_b1_s, nI_l (by omega), show (1 : Int32) = nI 1 from rfl, nI_add, lN_mul]
            rfl
          rw [c1, c2]
          by_cases y : pw * y_op b ≤ 1000000000
          · have n1 : ¬ lN 1000000000 < lN (pw * y_op b) := by rw [pk_lLT (by omega) (by omega)]; omega
            rw [if_neg n1]
            exact ih (i + 1) f (pw * y_op b) (by omega) (by omega) y
          · have n1 : lN 1000000000 < lN (pw * y_op b) := by rw [pk_lLT (by omega) (by omega)]; omega
            rw [if_pos n1]
            refine ⟨pw * y_op b, by omega, ?_, ?_⟩
            · rw [p_X11_luck_44, h.2.2.1, y_litL, if_neg (fun z => z.2 n1)]
            · rw [if_pos n1]
      obtain ⟨w, hw, w1, w2⟩ := both (n - p) p 4999 1 (by omega) (by omega) (by omega)
      have w1' : p_X11_luck_44 c (nI (y_op b)) σ j_F (1 : Int64) (nI p) = some (lN w) := w1
      have w2' : p_X12_luck_31 (nI s) τ j_F (1 : Int64) (nI p) = some (if lN 1000000000 < lN w then nP 0 else (lN w).toInt32) := w2
      refine ⟨if lN 1000000000 < lN w then nP 0 else (lN w).toInt32, ?_, ?_⟩
      · have np : ¬ nI p = nP 0 := by rw [y_eqQ (by omega) (by omega)]; omega
        have fin : (if (1000000000 : Int64) < lN w then some (-1) else some (lN w).toInt32) = some (if lN 1000000000 < lN w then nP 0 else (lN w).toInt32) := by
          rw [y_m1, y_litL]
          split <;> rfl
        have o := yc_open hN hW
        unfold f_X11_luck
        rcases h.1 with ⟨rfl, rfl, rfl⟩ | ⟨rfl, rfl, rfl⟩ | ⟨rfl, rfl, rfl⟩ | ⟨rfl, rfl, rfl⟩
        · rw [k3, j_b1_s, if_neg (fun z => z rfl), if_pos (show nI 0 = (0 : Int32) from rfl), q, j_b1_s, y_m1, if_neg np, o]
          simp only [j_lt]; rw [w1', j_b1_s, ← y_m1]; exact fin
        · rw [k3, j_b1_s, if_neg (fun z => z rfl), if_neg (by decide), if_pos (show nI 1 = (1 : Int32) from rfl), q, j_b1_s, y_m1, if_neg np, o]
          simp only [j_lt]; rw [w1', j_b1_s, ← y_m1]; exact fin
        · rw [k3, j_b1_s, if_neg (fun z => z rfl), if_neg (by decide), if_neg (by decide), if_pos (show nI 2 = (2 : Int32) from rfl), q, j_b1_s, y_m1, if_neg np, o]
          simp only [j_lt]; rw [w1', j_b1_s, ← y_m1]; exact fin
        · rw [k3, j_b1_s, if_neg (fun z => z rfl), if_neg (by decide), if_neg (by decide), if_neg (by decide), if_pos (show nI 3 = (3 : Int32) from rfl), q, j_b1_s, y_m1, if_neg np, o]
          simp only [j_lt]; rw [w1', j_b1_s, ← y_m1]; exact fin
      · have np : ¬ nI p = nP 0 := by rw [y_eqQ (by omega) (by omega)]; omega
        unfold f_X12_luck
        rw [k4, j_b1_s, if_neg (by decide), qm, j_b1_s, y_m1, if_neg np]
        exact w2'
end Z
/-! ===== fits, place, next ===== -/
section Z
variable {σ τ : j_G}
theorem z_fits (hR : j_Rel σ τ) (a1 : Int32) : ∃ v, f_X11_fits a1 σ = some v ∧ f_X12_fits a1 τ = some v := by
  obtain ⟨b, hW, hN, hM, hK⟩ := id hR
  have b5 := hW.b5
  rcases y_why hW hN hM hK a1 with ⟨k, k1, k2, k3, k4⟩ | ⟨k3, k4, h9, s, c, d, n, e, rfl, h, he⟩
  · refine ⟨k, ?_, ?_⟩
    · unfold f_X11_fits; rw [k3, j_b1_s, if_pos k2]
    · unfold f_X12_fits; rw [k4, j_b1_s, if_pos k1]
  · have both : ∀ m k f v, k + m = b 5 → m < f → ∃ w, p_X11_fits_17 c d σ f (nI v) (nI k) = some w ∧ p_X12_fits_17 (nI s) τ f (nI v) (nI k) = some w := by
      intro m
      induction m with
      | zero =>
        intro k f v hh hf
        obtain ⟨f, rfl⟩ := y_pos hf
        refine ⟨nI v, ?_, ?_⟩
        · unfold p_X11_fits_17; simp (disch := omega) only [y_lit, y_n1, nI_add, pk_mul, j_lt, j_b1_s, j_b2_s, j_b3_s, j_b0_s, y_bo, y_bo1, y_bo0, y_i0, y_i1, Classical.not_not, nI_clamp, y_ix, y_lt, y_le, y_eq, y_nP, y_nPs, y_ltP, y_ltQ, y_ltPP, y_eqP, y_eqQ, y_eqPP, if_pos, if_neg, ite_true, ite_false, not_true_eq_false, not_false_eq_true, and_true, true_and, and_false, false_and, or_true, true_or, or_false, false_or, hN.d0]
        · unfold p_X12_fits_17; simp (disch := omega) only [y_lit, y_n1, nI_add, pk_mul, j_lt, j_b1_s, j_b2_s, j_b3_s, j_b0_s, y_bo, y_bo1, y_bo0, y_i0, y_i1, Classical.not_not, nI_clamp, y_ix, y_lt, y_le, y_eq, y_nP, y_nPs, y_ltP, y_ltQ, y_ltPP, y_eqP, y_eqQ, y_eqPP, if_pos, if_neg, ite_true, ite_false, not_true_eq_false, not_false_eq_true, and_true, true_and, and_false, false_and, or_true, true_or, or_false, false_or, hM.f]
      | succ m ih =>
        intro k f v hh hf
        obtain ⟨f, rfl⟩ := y_pos hf
        have h5 : 0 < b 5 := by omega
        have le := y_gt_le (b := b) (e := e) (k := k) n 0
        obtain ⟨w, w1, w2⟩ := ih (k + 1) f (v + y_gt b e k n 0) (by omega) (by omega)
        refine ⟨w, ?_, ?_⟩
        · unfold p_X11_fits_17; simp (disch := omega) only [y_lit, y_n1, nI_add, pk_mul, j_lt, j_b1_s, j_b2_s, j_b3_s, j_b0_s, y_bo, y_bo1, y_bo0, y_i0, y_i1, Classical.not_not, nI_clamp, y_ix, y_lt, y_le, y_eq, y_nP, y_nPs, y_ltP, y_ltQ, y_ltPP, y_eqP, y_eqQ, y_eqPP, if_pos, if_neg, ite_true, ite_false, not_true_eq_false, not_false_eq_true, and_true, true_and, and_false, false_and, or_true, true_or, or_false, false_or, hN.d0, yc_goesSo h hN hW h5]
          by_cases q : y_gt b e k n 0 = 0
          · rw [q] at w1; simp (disch := omega) only [y_lit, y_n1, nI_add, pk_mul, j_lt, j_b1_s, j_b2_s, j_b3_s, j_b0_s, y_bo, y_bo1, y_bo0, y_i0, y_i1, Classical.not_not, nI_clamp, y_ix, y_lt, y_le, y_eq, y_nP, y_nPs, y_ltP, y_ltQ, y_ltPP, y_eqP, y_eqQ, y_eqPP, if_pos, if_neg, ite_true, ite_false, not_true_eq_false, not_false_eq_true, and_true, true_and, and_false, false_and, or_true, true_or, or_false, false_or]; exact w1
          · have q1 : y_gt b e k n 0 = 1 := by omega
            rw [q1] at w1; simp (disch := omega) only [y_lit, y_n1, nI_add, pk_mul, j_lt, j_b1_s, j_b2_s, j_b3_s, j_b0_s, y_bo, y_bo1, y_bo0, y_i0, y_i1, Classical.not_not, nI_clamp, y_ix, y_lt, y_le, y_eq, y_nP, y_nPs, y_ltP, y_ltQ, y_ltPP, y_eqP, y_eqQ, y_eqPP, if_pos, if_neg, ite_true, ite_false, not_true_eq_false, not_false_eq_true, and_true, true_and, and_false, false_and, or_true, true_or, or_false, false_or]; exact w1
        · unfold p_X12_fits_17; simp (disch := omega) only [y_lit, y_n1, nI_add, pk_mul, j_lt, j_b1_s, j_b2_s, j_b3_s, j_b0_s, y_bo, y_bo1, y_bo0, y_i0, y_i1, Classical.not_not, nI_clamp, y_ix, y_lt, y_le, y_eq, y_nP, y_nPs, y_ltP, y_ltQ, y_ltPP, y_eqP, y_eqQ, y_eqPP, if_pos, if_neg, ite_true, ite_false, not_true_eq_false, not_false_eq_true, and_true, true_and, and_false, false_and, or_true, true_or, or_false, false_or, hM.f, ym_fitsFrom h hM hW h5]
          by_cases q : y_gt b e k n 0 = 0
          · rw [q] at w2; simp (disch := omega) only [y_lit, y_n1, nI_add, pk_mul, j_lt, j_b1_s, j_b2_s, j_b3_s, j_b0_s, y_bo, y_bo1, y_bo0, y_i0, y_i1, Classical.not_not, nI_clamp, y_ix, y_lt, y_le, y_eq, y_nP, y_nPs, y_ltP, y_ltQ, y_ltPP, y_eqP, y_eqQ, y_eqPP, if_pos, if_neg, ite_true, ite_false, not_true_eq_false, not_false_eq_true, and_true, true_and, and_false, false_and, or_true, true_or, or_false, false_or]; exact w2
          · have q1 : y_gt b e k n 0 = 1 := by omega
            rw [q1] at w2; simp (disch := omega) only [y_lit, y_n1, nI_add, pk_mul, j_lt, j_b1_s, j_b2_s, j_b3_s, j_b0_s, y_bo, y_bo1, y_bo0, y_i0, y_i1, Classical.not_not, nI_clamp, y_ix, y_lt, y_le, y_eq, y_nP, y_nPs, y_ltP, y_ltQ, y_ltPP, y_eqP, y_eqQ, y_eqPP, if_pos, if_neg, ite_true, ite_false, not_true_eq_false, not_false_eq_true, and_true, true_and, and_false, false_and, or_true, true_or, or_false, false_or]; exact w2
    obtain ⟨w, w1, w2⟩ := both (b 5) 0 j_F 0 (by omega) (y_F (by omega))
    refine ⟨w, ?_, ?_⟩
    · unfold f_X11_fits
      rcases h.1 with ⟨rfl, rfl, rfl⟩ | ⟨rfl, rfl, rfl⟩ | ⟨rfl, rfl, rfl⟩ | ⟨rfl, rfl, rfl⟩
      · simp (disch := omega) only [y_lit, y_n1, nI_add, pk_mul, j_lt, j_b1_s, j_b2_s, j_b3_s, j_b0_s, y_bo, y_bo1, y_bo0, y_i0, y_i1, Classical.not_not, nI_clamp, y_ix, y_lt, y_le, y_eq, y_nP, y_nPs, y_ltP, y_ltQ, y_ltPP, y_eqP, y_eqQ, y_eqPP, if_pos, if_neg, ite_true, ite_false, not_true_eq_false, not_false_eq_true, and_true, true_and, and_false, false_and, or_true, true_or, or_false, false_or, k3, w1]
      · simp (disch := omega) only [y_lit, y_n1, nI_add, pk_mul, j_lt, j_b1_s, j_b2_s, j_b3_s, j_b0_s, y_bo, y_bo1, y_bo0, y_i0, y_i1, Classical.not_not, nI_clamp, y_ix, y_lt, y_le, y_eq, y_nP, y_nPs, y_ltP, y_ltQ, y_ltPP, y_eqP, y_eqQ, y_eqPP, if_pos, if_neg, ite_true, ite_false, not_true_eq_false, not_false_eq_true, and_true, true_and, and_false, false_and, or_true, true_or, or_false, false_or, k3, w1]
      · simp (disch := omega) only [y_lit, y_n1, nI_add, pk_mul, j_lt, j_b1_s, j_b2_s, j_b3_s, j_b0_s, y_bo, y_bo1, y_bo0, y_i0, y_i1, Classical.not_not, nI_clamp, y_ix, y_lt, y_le, y_eq, y_nP, y_nPs, y_ltP, y_ltQ, y_ltPP, y_eqP, y_eqQ, y_eqPP, if_pos, if_neg, ite_true, ite_false, not_true_eq_false, not_false_eq_true, and_true, true_and, and_false, false_and, or_true, true_or, or_false, false_or, k3, w1]
      · simp (disch := omega) only [y_lit, y_n1, nI_add, pk_mul, j_lt, j_b1_s, j_b2_s, j_b3_s, j_b0_s, y_bo, y_bo1, y_bo0, y_i0, y_i1, Classical.not_not, nI_clamp, y_ix, y_lt, y_le, y_eq, y_nP, y_nPs, y_ltP, y_ltQ, y_ltPP, y_eqP, y_eqQ, y_eqPP, if_pos, if_neg, ite_true, ite_false, not_true_eq_false, not_false_eq_true, and_true, true_and, and_false, false_and, or_true, true_or, or_false, false_or, k3, w1]
    · unfold f_X12_fits; simp (disch := omega) only [y_lit, y_n1, nI_add, pk_mul, j_lt, j_b1_s, j_b2_s, j_b3_s, j_b0_s, y_bo, y_bo1, y_bo0, y_i0, y_i1, Classical.not_not, nI_clamp, y_ix, y_lt, y_le, y_eq, y_nP, y_nPs, y_ltP, y_ltQ, y_ltPP, y_eqP, y_eqQ, y_eqPP, if_pos, if_neg, ite_true, ite_false, not_true_eq_false, not_false_eq_true, and_true, true_and, and_false, false_and, or_true, true_or, or_false, false_or, k4, w2]
theorem z_place (hR : j_Rel σ τ) (a1 a2 : Int32) : ∃ v, f_X11_place a1 a2 σ = some v ∧ f_X12_place a1 a2 τ = some v := by
  obtain ⟨b, hW, hN, hM, hK⟩ := id hR
  have b5 := hW.b5
  rcases y_why hW hN hM hK a1 with ⟨k, k1, k2, k3, k4⟩ | ⟨k3, k4, h9, s, c, d, n, e, rfl, h, he⟩
  · refine ⟨k, ?_, ?_⟩
    · unfold f_X11_place; rw [k3, j_b1_s, if_pos k2]
    · unfold f_X12_place; rw [k4, j_b1_s, if_pos k1]
  · have ep : ∀ v, 0 < v → nI v + nP 0 = nI (v - 1) := by
      intro v hv
      obtain ⟨w, rfl⟩ : ∃ w, v = w + 1 := ⟨v - 1, by omega⟩
      exact pk_m1 w
    have done : (∃ w, p_X11_place_18 c d a2 σ j_F (nI 0) (nI 0) = some w ∧ p_X12_place_18 (nI s) τ j_F a2 (nI 0) = some w) → ∃ v, f_X11_place (nI s) a2 σ = some v ∧ f_X12_place (nI s) a2 τ = some v := by
      rintro ⟨w, w1, w2⟩
      refine ⟨w, ?_, ?_⟩
      · unfold f_X11_place
        rcases h.1 with ⟨rfl, rfl, rfl⟩ | ⟨rfl, rfl, rfl⟩ | ⟨rfl, rfl, rfl⟩ | ⟨rfl, rfl, rfl⟩
        · simp (disch := omega) only [y_lit, y_n1, nI_add, pk_mul, j_lt, j_b1_s, j_b2_s, j_b3_s, j_b0_s, y_bo, y_bo1, y_bo0, y_i0, y_i1, Classical.not_not, nI_clamp, y_ix, y_lt, y_le, y_eq, y_nP, y_nPs, y_ltP, y_ltQ, y_ltPP, y_eqP, y_eqQ, y_eqPP, if_pos, if_neg, ite_true, ite_false, not_true_eq_false, not_false_eq_true, and_true, true_and, and_false, false_and, or_true, true_or, or_false, false_or, k3, w1]
        · simp (disch := omega) only [y_lit, y_n1, nI_add, pk_mul, j_lt, j_b1_s, j_b2_s, j_b3_s, j_b0_s, y_bo, y_bo1, y_bo0, y_i0, y_i1, Classical.not_not, nI_clamp, y_ix, y_lt, y_le, y_eq, y_nP, y_nPs, y_ltP, y_ltQ, y_ltPP, y_eqP, y_eqQ, y_eqPP, if_pos, if_neg, ite_true, ite_false, not_true_eq_false, not_false_eq_true, and_true, true_and, and_false, false_and, or_true, true_or, or_false, false_or, k3, w1]
        · simp (disch := omega) only [y_lit, y_n1, nI_add, pk_mul, j_lt, j_b1_s, j_b2_s, j_b3_s, j_b0_s, y_bo, y_bo1, y_bo0, y_i0, y_i1, Classical.not_not, nI_clamp, y_ix, y_lt, y_le, y_eq, y_nP, y_nPs, y_ltP, y_ltQ, y_ltPP, y_eqP, y_eqQ, y_eqPP, if_pos, if_neg, ite_true, ite_false, not_true_eq_false, not_false_eq_true, and_true, true_and, and_false, false_and, or_true, true_or, or_false, false_or, k3, w1]
        · simp (disch := omega) only [y_lit, y_n1, nI_add, pk_mul, j_lt, j_b1_s, j_b2_s, j_b3_s, j_b0_s, y_bo, y_bo1, y_bo0, y_i0, y_i1, Classical.not_not, nI_clamp, y_ix, y_lt, y_le, y_eq, y_nP, y_nPs, y_ltP, y_ltQ, y_ltPP, y_eqP, y_eqQ, y_eqPP, if_pos, if_neg, ite_true, ite_false, not_true_eq_false, not_false_eq_true, and_true, true_and, and_false, false_and, or_true, true_or, or_false, false_or, k3, w1]
      · unfold f_X12_place; simp (disch := omega) only [y_lit, y_n1, nI_add, pk_mul, j_lt, j_b1_s, j_b2_s, j_b3_s, j_b0_s, y_bo, y_bo1, y_bo0, y_i0, y_i1, Classical.not_not, nI_clamp, y_ix, y_lt, y_le, y_eq, y_nP, y_nPs, y_ltP, y_ltQ, y_ltPP, y_eqP, y_eqQ, y_eqPP, if_pos, if_neg, ite_true, ite_false, not_true_eq_false, not_false_eq_true, and_true, true_and, and_false, false_and, or_true, true_or, or_false, false_or, k4, w2]
    by_cases neg : a2 < nI 0
    · refine done ⟨-1, ?_, ?_⟩
      · have key : ∀ m k f v, k + m = b 5 → m < f → v ≤ k → p_X11_place_18 c d a2 σ f (nI v) (nI k) = some (-1) := by
          intro m
          induction m with
          | zero =>
            intro k f v hh hf hv
            obtain ⟨f, rfl⟩ := y_pos hf
            unfold p_X11_place_18; simp (disch := omega) only [y_lit, y_n1, nI_add, pk_mul, j_lt, j_b1_s, j_b2_s, j_b3_s, j_b0_s, y_bo, y_bo1, y_bo0, y_i0, y_i1, Classical.not_not, nI_clamp, y_ix, y_lt, y_le, y_eq, y_nP, y_nPs, y_ltP, y_ltQ, y_ltPP, y_eqP, y_eqQ, y_eqPP, if_pos, if_neg, ite_true, ite_false, not_true_eq_false, not_false_eq_true, and_true, true_and, and_false, false_and, or_true, true_or, or_false, false_or, hN.d0]
          | succ m ih =>
            intro k f v hh hf hv
            obtain ⟨f, rfl⟩ := y_pos hf
            have h5 : 0 < b 5 := by omega
            have le := y_gt_le (b := b) (e := e) (k := k) n 0
            have hne : ¬ nI v = a2 := fun z => by rw [← z] at neg; exact absurd neg (nI_pos (by omega))
            have i1 := ih (k + 1) f v (by omega) (by omega) (by omega)
            have i2 := ih (k + 1) f (v + 1) (by omega) (by omega) (by omega)
            rw [y_m1] at i1 i2
            unfold p_X11_place_18; simp (disch := omega) only [y_lit, y_n1, nI_add, pk_mul, j_lt, j_b1_s, j_b2_s, j_b3_s, j_b0_s, y_bo, y_bo1, y_bo0, y_i0, y_i1, Classical.not_not, nI_clamp, y_ix, y_lt, y_le, y_eq, y_nP, y_nPs, y_ltP, y_ltQ, y_ltPP, y_eqP, y_eqQ, y_eqPP, if_pos, if_neg, ite_true, ite_false, not_true_eq_false, not_false_eq_true, and_true, true_and, and_false, false_and, or_true, true_or, or_false, false_or, hN.d0, yc_goesSo h hN hW h5, hne, i1, i2]
            split <;> rfl
        exact key (b 5) 0 j_F 0 (by omega) (y_F (by omega)) (by omega)
      · rw [show j_F = 4999 + 1 from rfl]
        unfold p_X12_place_18; simp (disch := omega) only [y_lit, y_n1, nI_add, pk_mul, j_lt, j_b1_s, j_b2_s, j_b3_s, j_b0_s, y_bo, y_bo1, y_bo0, y_i0, y_i1, Classical.not_not, nI_clamp, y_ix, y_lt, y_le, y_eq, y_nP, y_nPs, y_ltP, y_ltQ, y_ltPP, y_eqP, y_eqQ, y_eqPP, if_pos, if_neg, ite_true, ite_false, not_true_eq_false, not_false_eq_true, and_true, true_and, and_false, false_and, or_true, true_or, or_false, false_or, hM.f, neg]
    · obtain ⟨z, hz, rfl⟩ := nI_of (x := a2) neg
      refine done ?_
      have both : ∀ m k f v, k + m = b 5 → m < f → v ≤ z → v ≤ k → ∃ w, p_X11_place_18 c d (nI z) σ f (nI v) (nI k) = some w ∧ p_X12_place_18 (nI s) τ f (nI (z - v)) (nI k) = some w := by
        intro m
        induction m with
        | zero =>
          intro k f v hh hf hv hvk
          obtain ⟨f, rfl⟩ := y_pos hf
          refine ⟨-1, ?_, ?_⟩
          · unfold p_X11_place_18; simp (disch := omega) only [y_lit, y_n1, nI_add, pk_mul, j_lt, j_b1_s, j_b2_s, j_b3_s, j_b0_s, y_bo, y_bo1, y_bo0, y_i0, y_i1, Classical.not_not, nI_clamp, y_ix, y_lt, y_le, y_eq, y_nP, y_nPs, y_ltP, y_ltQ, y_ltPP, y_eqP, y_eqQ, y_eqPP, if_pos, if_neg, ite_true, ite_false, not_true_eq_false, not_false_eq_true, and_true, true_and, and_false, false_and, or_true, true_or, or_false, false_or, hN.d0]
          · unfold p_X12_place_18; simp (disch := omega) only [y_lit, y_n1, nI_add, pk_mul, j_lt, j_b1_s, j_b2_s, j_b3_s, j_b0_s, y_bo, y_bo1, y_bo0, y_i0, y_i1, Classical.not_not, nI_clamp, y_ix, y_lt, y_le, y_eq, y_nP, y_nPs, y_ltP, y_ltQ, y_ltPP, y_eqP, y_eqQ, y_eqPP, if_pos, if_neg, ite_true, ite_false, not_true_eq_false, not_false_eq_true, and_true, true_and, and_false, false_and, or_true, true_or, or_false, false_or, hM.f]
        | succ m ih =>
          intro k f v hh hf hv hvk
          obtain ⟨f, rfl⟩ := y_pos hf
          have h5 : 0 < b 5 := by omega
          have le := y_gt_le (b := b) (e := e) (k := k) n 0
          unfold p_X11_place_18 p_X12_place_18; simp (disch := omega) only [y_lit, y_n1, nI_add, pk_mul, j_lt, j_b1_s, j_b2_s, j_b3_s, j_b0_s, y_bo, y_bo1, y_bo0, y_i0, y_i1, Classical.not_not, nI_clamp, y_ix, y_lt, y_le, y_eq, y_nP, y_nPs, y_ltP, y_ltQ, y_ltPP, y_eqP, y_eqQ, y_eqPP, if_pos, if_neg, ite_true, ite_false, not_true_eq_false, not_false_eq_true, and_true, true_and, and_false, false_and, or_true, true_or, or_false, false_or, hN.d0, yc_goesSo h hN hW h5, hM.f, ym_fitsFrom h hM hW h5]
          by_cases q : y_gt b e k n 0 = 0
          · simp (disch := omega) only [y_lit, y_n1, nI_add, pk_mul, j_lt, j_b1_s, j_b2_s, j_b3_s, j_b0_s, y_bo, y_bo1, y_bo0, y_i0, y_i1, Classical.not_not, nI_clamp, y_ix, y_lt, y_le, y_eq, y_nP, y_nPs, y_ltP, y_ltQ, y_ltPP, y_eqP, y_eqQ, y_eqPP, if_pos, if_neg, ite_true, ite_false, not_true_eq_false, not_false_eq_true, and_true, true_and, and_false, false_and, or_true, true_or, or_false, false_or]
            exact ih (k + 1) f v (by omega) (by omega) hv (by omega)
          · simp (disch := omega) only [y_lit, y_n1, nI_add, pk_mul, j_lt, j_b1_s, j_b2_s, j_b3_s, j_b0_s, y_bo, y_bo1, y_bo0, y_i0, y_i1, Classical.not_not, nI_clamp, y_ix, y_lt, y_le, y_eq, y_nP, y_nPs, y_ltP, y_ltQ, y_ltPP, y_eqP, y_eqQ, y_eqPP, if_pos, if_neg, ite_true, ite_false, not_true_eq_false, not_false_eq_true, and_true, true_and, and_false, false_and, or_true, true_or, or_false, false_or]
            by_cases y : v = z
            · simp (disch := omega) only [y_lit, y_n1, nI_add, pk_mul, j_lt, j_b1_s, j_b2_s, j_b3_s, j_b0_s, y_bo, y_bo1, y_bo0, y_i0, y_i1, Classical.not_not, nI_clamp, y_ix, y_lt, y_le, y_eq, y_nP, y_nPs, y_ltP, y_ltQ, y_ltPP, y_eqP, y_eqQ, y_eqPP, if_pos, if_neg, ite_true, ite_false, not_true_eq_false, not_false_eq_true, and_true, true_and, and_false, false_and, or_true, true_or, or_false, false_or]
              exact ⟨nI k, rfl, rfl⟩
            · simp (disch := omega) only [y_lit, y_n1, nI_add, pk_mul, j_lt, j_b1_s, j_b2_s, j_b3_s, j_b0_s, y_bo, y_bo1, y_bo0, y_i0, y_i1, Classical.not_not, nI_clamp, y_ix, y_lt, y_le, y_eq, y_nP, y_nPs, y_ltP, y_ltQ, y_ltPP, y_eqP, y_eqQ, y_eqPP, if_pos, if_neg, ite_true, ite_false, not_true_eq_false, not_false_eq_true, and_true, true_and, and_false, false_and, or_true, true_or, or_false, false_or, ep]
              obtain ⟨w, w1, w2⟩ := ih (k + 1) f (v + 1) (by omega) (by omega) (by omega) (by omega)
              rw [show z - (v + 1) = z - v - 1 from by omega] at w2
              exact ⟨w, w1, w2⟩
      exact both (b 5) 0 j_F 0 (by omega) (y_F (by omega)) (by omega) (by omega)
theorem z_next (hR : j_Rel σ τ) (a1 : Int32) : ∃ v, f_X11_next a1 σ = some v ∧ f_X12_next a1 τ = some v := by
  obtain ⟨b, hW, hN, hM, hK⟩ := id hR
  have b5 := hW.b5
  have h4 := hW.ho
  rcases y_why hW hN hM hK a1 with ⟨k, k1, k2, k3, k4⟩ | ⟨k3, k4, h9, s, c, d, n, e, rfl, h, he⟩
  · refine ⟨k, ?_, ?_⟩
    · unfold f_X11_next; rw [k3, j_b1_s, if_pos k2]
    · unfold f_X12_next; rw [k4, j_b1_s, if_pos k1]
  · have s4 := h.s4
    have hn := h.2.1
    have both : ∀ m k f v, k + m = b 5 → m < f → v ≤ 12 → ∃ w, p_X11_next_17 c d c σ f (nP v) (nI k) = some w ∧ p_X12_next_17 (nI s) τ f (nP v) (nI k) = some w := by
      intro m
      induction m with
      | zero =>
        intro k f v hh hf hv
        obtain ⟨f, rfl⟩ := y_pos hf
        refine ⟨nP v, ?_, ?_⟩
        · unfold p_X11_next_17; simp (disch := omega) only [y_lit, y_n1, nI_add, pk_mul, j_lt, j_b1_s, j_b2_s, j_b3_s, j_b0_s, y_bo, y_bo1, y_bo0, y_i0, y_i1, Classical.not_not, nI_clamp, y_ix, y_lt, y_le, y_eq, y_nP, y_nPs, y_ltP, y_ltQ, y_ltPP, y_eqP, y_eqQ, y_eqPP, if_pos, if_neg, ite_true, ite_false, not_true_eq_false, not_false_eq_true, and_true, true_and, and_false, false_and, or_true, true_or, or_false, false_or, hN.d0]
        · unfold p_X12_next_17; simp (disch := omega) only [y_lit, y_n1, nI_add, pk_mul, j_lt, j_b1_s, j_b2_s, j_b3_s, j_b0_s, y_bo, y_bo1, y_bo0, y_i0, y_i1, Classical.not_not, nI_clamp, y_ix, y_lt, y_le, y_eq, y_nP, y_nPs, y_ltP, y_ltQ, y_ltPP, y_eqP, y_eqQ, y_eqPP, if_pos, if_neg, ite_true, ite_false, not_true_eq_false, not_false_eq_true, and_true, true_and, and_false, false_and, or_true, true_or, or_false, false_or, hM.f]
      | succ m ih =>
        intro k f v hh hf hv
        obtain ⟨f, rfl⟩ := y_pos hf
        have h5 : 0 < b 5 := by omega
        have le := y_gt_le (b := b) (e := e) (k := k) n 0
        have r := y_rd_lt hW h5 (k + n)
        unfold p_X11_next_17 p_X12_next_17; simp (disch := omega) only [y_lit, y_n1, nI_add, pk_mul, j_lt, j_b1_s, j_b2_s, j_b3_s, j_b0_s, y_bo, y_bo1, y_bo0, y_i0, y_i1, Classical.not_not, nI_clamp, y_ix, y_lt, y_le, y_eq, y_nP, y_nPs, y_ltP, y_ltQ, y_ltPP, y_eqP, y_eqQ, y_eqPP, if_pos, if_neg, ite_true, ite_false, not_true_eq_false, not_false_eq_true, and_true, true_and, and_false, false_and, or_true, true_or, or_false, false_or, hN.d0, yc_goesSo h hN hW h5, hM.f, ym_fitsFrom h hM hW h5, h.2.2.1, h.2.2.2.1, yc_round hN hW h5, ym_holeAt hM hW h5]
        by_cases q : y_gt b e k n 0 = 0
        · simp (disch := omega) only [y_lit, y_n1, nI_add, pk_mul, j_lt, j_b1_s, j_b2_s, j_b3_s, j_b0_s, y_bo, y_bo1, y_bo0, y_i0, y_i1, Classical.not_not, nI_clamp, y_ix, y_lt, y_le, y_eq, y_nP, y_nPs, y_ltP, y_ltQ, y_ltPP, y_eqP, y_eqQ, y_eqPP, if_pos, if_neg, ite_true, ite_false, not_true_eq_false, not_false_eq_true, and_true, true_and, and_false, false_and, or_true, true_or, or_false, false_or]
          exact ih (k + 1) f v (by omega) (by omega) hv
        · simp (disch := omega) only [y_lit, y_n1, nI_add, pk_mul, j_lt, j_b1_s, j_b2_s, j_b3_s, j_b0_s, y_bo, y_bo1, y_bo0, y_i0, y_i1, Classical.not_not, nI_clamp, y_ix, y_lt, y_le, y_eq, y_nP, y_nPs, y_ltP, y_ltQ, y_ltPP, y_eqP, y_eqQ, y_eqPP, if_pos, if_neg, ite_true, ite_false, not_true_eq_false, not_false_eq_true, and_true, true_and, and_false, false_and, or_true, true_or, or_false, false_or]
          by_cases y : v = 0
          · obtain ⟨w, w1, w2⟩ := ih (k + 1) f (y_rd b (k + n) + 1) (by omega) (by omega) (by omega)
            rw [y_nPs] at w1 w2
            simp (disch := omega) only [y_lit, y_n1, nI_add, pk_mul, j_lt, j_b1_s, j_b2_s, j_b3_s, j_b0_s, y_bo, y_bo1, y_bo0, y_i0, y_i1, Classical.not_not, nI_clamp, y_ix, y_lt, y_le, y_eq, y_nP, y_nPs, y_ltP, y_ltQ, y_ltPP, y_eqP, y_eqQ, y_eqPP, if_pos, if_neg, ite_true, ite_false, not_true_eq_false, not_false_eq_true, and_true, true_and, and_false, false_and, or_true, true_or, or_false, false_or]
            exact ⟨w, w1, w2⟩
          · by_cases x : v = y_rd b (k + n) + 1
            · obtain ⟨w, w1, w2⟩ := ih (k + 1) f (y_rd b (k + n) + 1) (by omega) (by omega) (by omega)
              rw [y_nPs] at w1 w2
              simp (disch := omega) only [y_lit, y_n1, nI_add, pk_mul, j_lt, j_b1_s, j_b2_s, j_b3_s, j_b0_s, y_bo, y_bo1, y_bo0, y_i0, y_i1, Classical.not_not, nI_clamp, y_ix, y_lt, y_le, y_eq, y_nP, y_nPs, y_ltP, y_ltQ, y_ltPP, y_eqP, y_eqQ, y_eqPP, if_pos, if_neg, ite_true, ite_false, not_true_eq_false, not_false_eq_true, and_true, true_and, and_false, false_and, or_true, true_or, or_false, false_or]
              exact ⟨w, w1, w2⟩
            · simp (disch := omega) only [y_lit, y_n1, nI_add, pk_mul, j_lt, j_b1_s, j_b2_s, j_b3_s, j_b0_s, y_bo, y_bo1, y_bo0, y_i0, y_i1, Classical.not_not, nI_clamp, y_ix, y_lt, y_le, y_eq, y_nP, y_nPs, y_ltP, y_ltQ, y_ltPP, y_eqP, y_eqQ, y_eqPP, if_pos, if_neg, ite_true, ite_false, not_true_eq_false, not_false_eq_true, and_true, true_and, and_false, false_and, or_true, true_or, or_false, false_or]
              exact ⟨nP 0, rfl, rfl⟩
    obtain ⟨w, w1, w2⟩ := both (b 5) 0 j_F 0 (by omega) (y_F (by omega)) (by omega)
    refine ⟨w, ?_, ?_⟩
    · unfold f_X11_next
      rcases h.1 with ⟨rfl, rfl, rfl⟩ | ⟨rfl, rfl, rfl⟩ | ⟨rfl, rfl, rfl⟩ | ⟨rfl, rfl, rfl⟩
      · simp (disch := omega) only [y_lit, y_n1, nI_add, pk_mul, j_lt, j_b1_s, j_b2_s, j_b3_s, j_b0_s, y_bo, y_bo1, y_bo0, y_i0, y_i1, Classical.not_not, nI_clamp, y_ix, y_lt, y_le, y_eq, y_nP, y_nPs, y_ltP, y_ltQ, y_ltPP, y_eqP, y_eqQ, y_eqPP, if_pos, if_neg, ite_true, ite_false, not_true_eq_false, not_false_eq_true, and_true, true_and, and_false, false_and, or_true, true_or, or_false, false_or, k3, w1]
      · simp (disch := omega) only [y_lit, y_n1, nI_add, pk_mul, j_lt, j_b1_s, j_b2_s, j_b3_s, j_b0_s, y_bo, y_bo1, y_bo0, y_i0, y_i1, Classical.not_not, nI_clamp, y_ix, y_lt, y_le, y_eq, y_nP, y_nPs, y_ltP, y_ltQ, y_ltPP, y_eqP, y_eqQ, y_eqPP, if_pos, if_neg, ite_true, ite_false, not_true_eq_false, not_false_eq_true, and_true, true_and, and_false, false_and, or_true, true_or, or_false, false_or, k3, w1]
      · simp (disch := omega) only [y_lit, y_n1, nI_add, pk_mul, j_lt, j_b1_s, j_b2_s, j_b3_s, j_b0_s, y_bo, y_bo1, y_bo0, y_i0, y_i1, Classical.not_not, nI_clamp, y_ix, y_lt, y_le, y_eq, y_nP, y_nPs, y_ltP, y_ltQ, y_ltPP, y_eqP, y_eqQ, y_eqPP, if_pos, if_neg, ite_true, ite_false, not_true_eq_false, not_false_eq_true, and_true, true_and, and_false, false_and, or_true, true_or, or_false, false_or, k3, w1]
      · simp (disch := omega) only [y_lit, y_n1, nI_add, pk_mul, j_lt, j_b1_s, j_b2_s, j_b3_s, j_b0_s, y_bo, y_bo1, y_bo0, y_i0, y_i1, Classical.not_not, nI_clamp, y_ix, y_lt, y_le, y_eq, y_nP, y_nPs, y_ltP, y_ltQ, y_ltPP, y_eqP, y_eqQ, y_eqPP, if_pos, if_neg, ite_true, ite_false, not_true_eq_false, not_false_eq_true, and_true, true_and, and_false, false_and, or_true, true_or, or_false, false_or, k3, w1]
    · unfold f_X12_next; simp (disch := omega) only [y_lit, y_n1, nI_add, pk_mul, j_lt, j_b1_s, j_b2_s, j_b3_s, j_b0_s, y_bo, y_bo1, y_bo0, y_i0, y_i1, Classical.not_not, nI_clamp, y_ix, y_lt, y_le, y_eq, y_nP, y_nPs, y_ltP, y_ltQ, y_ltPP, y_eqP, y_eqQ, y_eqPP, if_pos, if_neg, ite_true, ite_false, not_true_eq_false, not_false_eq_true, and_true, true_and, and_false, false_and, or_true, true_or, or_false, false_or, k4, w2]
end Z
/-! ===== needed, known ===== -/
noncomputable def y_al (b : Nat → Nat) (k l : Nat) : Nat → Nat → Nat
  | 0, i => i
  | m + 1, i => if y_rd b (k + i) = y_rd b (l + i) then y_al b k l m (i + 1) else i
noncomputable def y_A (b : Nat → Nat) (k l : Nat) : Nat := y_al b k l (b 5) 0
theorem y_al_bd {b : Nat → Nat} {k l : Nat} : ∀ m i, i ≤ y_al b k l m i ∧ y_al b k l m i ≤ i + m := by
  intro m
  induction m with
  | zero => intro i; exact ⟨Nat.le_refl _, Nat.le_refl _⟩
  | succ m ih => intro i; unfold y_al; have := ih (i + 1); split <;> omega
theorem y_al_self {b : Nat → Nat} {k : Nat} : ∀ m i, y_al b k k m i = i + m := by
  intro m
  induction m with
  | zero => intro i; rfl
  | succ m ih => intro i; unfold y_al; rw [if_pos rfl, ih]; omega
/-- all the same up to n -/
theorem y_al_ge {b : Nat → Nat} {k l : Nat} : ∀ m i n, n ≤ i + m → i ≤ n → (n ≤ y_al b k l m i ↔ ∀ j, i ≤ j → j < n → y_rd b (k + j) = y_rd b (l + j)) := by
  intro m
  induction m with
  | zero => intro i n h1 h2; exact ⟨fun _ j a c => by omega, fun _ => by unfold y_al; omega⟩
  | succ m ih =>
    intro i n h1 h2
    unfold y_al
    by_cases e : i = n
    · subst e
      refine ⟨fun _ j a c => by omega, fun _ => ?_⟩
      split
      · have := (y_al_bd (b := b) (k := k) (l := l) m (i + 1)).1; omega
      · omega
    · by_cases c : y_rd b (k + i) = y_rd b (l + i)
      · rw [if_pos c, ih (i + 1) n (by omega) (by omega)]
        refine ⟨fun h j a d => ?_, fun h j a d => h j (by omega) d⟩
        by_cases f : j = i
        · subst f; exact c
        · exact h j (by omega) d
      · rw [if_neg c]
        exact ⟨fun h => by omega, fun h => absurd (h i (by omega) (by omega)) c⟩
theorem y_su_one {f : Nat → Nat} : ∀ m i j, i ≤ j → j < i + m → f j ≤ y_su f m i 0 := by
  intro m
  induction m with
  | zero => intro i j h1 h2; omega
  | succ m ih =>
    intro i j h1 h2
    rw [y_su_s]
    by_cases e : j = i
    · subst e; omega
    · have := ih (i + 1) j (by omega) (by omega); omega
theorem y_su_two {f : Nat → Nat} : ∀ m i j k, i ≤ j → j < k → k < i + m → f j + f k ≤ y_su f m i 0 := by
  intro m
  induction m with
  | zero => intro i j k h1 h2 h3; omega
  | succ m ih =>
    intro i j k h1 h2 h3
    rw [y_su_s]
    by_cases e : j = i
    · subst e; have := y_su_one (f := f) m (j + 1) k (by omega) (by omega); omega
    · have := ih (i + 1) j k (by omega) h2 (by omega); omega
theorem y_su_z {f : Nat → Nat} : ∀ m i, (∀ j, i ≤ j → j < i + m → f j = 0) → y_su f m i 0 = 0 := by
  intro m
  induction m with
  | zero => intro i _; rfl
  | succ m ih => intro i h; rw [y_su_s, ih (i + 1) (fun j a c => h j (by omega) (by omega)), h i (by omega) (by omega)]
theorem y_su_k {f : Nat → Nat} {k : Nat} : ∀ m i, i ≤ k → k < i + m → (∀ j, i ≤ j → j < i + m → j ≠ k → f j = 0) → y_su f m i 0 = f k := by
  intro m
  induction m with
  | zero => intro i h1 h2; omega
  | succ m ih =>
    intro i h1 h2 h
    rw [y_su_s]
    by_cases e : i = k
    · subst e; rw [y_su_z m (i + 1) (fun j a c => h j (by omega) (by omega) (by omega))]; omega
    · rw [ih (i + 1) (by omega) (by omega) (fun j a c d => h j (by omega) (by omega) d), h i (by omega) (by omega) e]; omega
noncomputable def y_nd (b : Nat → Nat) (k : Nat) : Nat → Nat → Nat → Nat
  | 0, _, v => v
  | m + 1, l, v => y_nd b k m (l + 1) (if l = k then v else if v < y_A b k l + 1 then y_A b k l + 1 else v)
theorem y_nd_le {b : Nat → Nat} {k n : Nat} : ∀ m l v, (y_nd b k m l v ≤ n ↔ v ≤ n ∧ ∀ o, l ≤ o → o < l + m → o ≠ k → y_A b k o < n) := by
  intro m
  induction m with
  | zero => intro l v; exact ⟨fun h => ⟨h, fun o a c => by omega⟩, fun h => h.1⟩
  | succ m ih =>
    intro l v
    unfold y_nd
    rw [ih]
    constructor
    · rintro ⟨h1, h2⟩
      by_cases e : l = k
      · rw [if_pos e] at h1
        exact ⟨h1, fun o a c d => h2 o (by omega) (by omega) d⟩
      · rw [if_neg e] at h1
        have h3 : v ≤ n ∧ y_A b k l < n := by split at h1 <;> omega
        refine ⟨h3.1, fun o a c d => ?_⟩
        by_cases f : o = l
        · subst f; exact h3.2
        · exact h2 o (by omega) (by omega) d
    · rintro ⟨h1, h2⟩
      refine ⟨?_, fun o a c d => h2 o (by omega) (by omega) d⟩
      by_cases e : l = k
      · rw [if_pos e]; exact h1
      · rw [if_neg e]
        have := h2 l (by omega) (by omega) e
        split <;> omega
noncomputable def y_M0 (b : Nat → Nat) (k : Nat) : Nat := y_nd b k (b 5) 0 0
section C
variable {σ τ : j_G} {b : Nat → Nat} {k l : Nat}
theorem y_M0_le (k : Nat) : y_M0 b k ≤ b 5 + 1 := by
  refine (y_nd_le (b 5) 0 0).mpr ⟨by omega, fun o _ _ _ => ?_⟩
  have := (y_al_bd (b := b) (k := k) (l := o) (b 5) 0).2
  unfold y_A; omega
theorem y_cnt {n : Nat} (hk : k < b 5) (hn : n ≤ b 5) : y_su (fun o => if n ≤ y_A b k o then 1 else 0) (b 5) 0 0 = 1 ↔ y_M0 b k ≤ n := by
  have hkk : y_A b k k = b 5 := by unfold y_A; rw [y_al_self]; omega
  have fk : (fun o => if n ≤ y_A b k o then 1 else 0) k = 1 := by show (if n ≤ y_A b k k then 1 else 0) = 1; rw [hkk, if_pos hn]
  unfold y_M0
  rw [y_nd_le]
  constructor
  · intro h
    refine ⟨by omega, fun o _ ho hne => ?_⟩
    by_cases c : n ≤ y_A b k o
    · exfalso
      have fo : (fun o => if n ≤ y_A b k o then 1 else 0) o = 1 := if_pos c
      rcases Nat.lt_or_gt_of_ne hne with q | q
      · have := y_su_two (f := fun o => if n ≤ y_A b k o then 1 else 0) (b 5) 0 o k (by omega) q (by omega)
        rw [if_pos c, if_pos (show n ≤ y_A b k k by omega)] at this; omega
      · have := y_su_two (f := fun o => if n ≤ y_A b k o then 1 else 0) (b 5) 0 k o (by omega) q (by omega)
        rw [if_pos c, if_pos (show n ≤ y_A b k k by omega)] at this; omega
    · omega
  · rintro ⟨_, h⟩
    rw [y_su_k (k := k) (b 5) 0 (by omega) (by omega) (fun j _ hj hne => if_neg (by have := h j (by omega) hj hne; omega))]
    exact fk
theorem yc_alike (hN : y_N σ b) (hW : y_W b) (h5 : 0 < b 5) (hk : k < 100) (hl : l < 100) : f_X3_alike (nI k) (nI l) σ = some (nI (y_A b k l)) := by
  have b5 := hW.b5
  have h4 := hW.ho
  have key : ∀ m i f, i + m = b 5 → m < f → p_X3_alike_2 (nI k) (nI l) σ f (nI i) = some (nI (y_al b k l m i)) := by
    intro m
    induction m with
    | zero =>
      intro i f hh hf
      obtain ⟨f, rfl⟩ := y_pos hf
      unfold p_X3_alike_2 y_al; simp (disch := omega) only [y_lit, y_n1, nI_add, pk_mul, j_lt, j_b1_s, j_b2_s, j_b3_s, j_b0_s, y_bo, y_bo1, y_bo0, y_i0, y_i1, Classical.not_not, nI_clamp, y_ix, y_lt, y_le, y_eq, y_nP, y_nPs, y_ltP, y_ltQ, y_ltPP, y_eqP, y_eqQ, y_eqPP, if_pos, if_neg, ite_true, ite_false, not_true_eq_false, not_false_eq_true, and_true, true_and, and_false, false_and, or_true, true_or, or_false, false_or, hN.d0]
    | succ m ih =>
      intro i f hh hf
      obtain ⟨f, rfl⟩ := y_pos hf
      have r1 := y_rd_lt hW h5 (k + i)
      have r2 := y_rd_lt hW h5 (l + i)
      unfold p_X3_alike_2 y_al; simp (disch := omega) only [y_lit, y_n1, nI_add, pk_mul, j_lt, j_b1_s, j_b2_s, j_b3_s, j_b0_s, y_bo, y_bo1, y_bo0, y_i0, y_i1, Classical.not_not, nI_clamp, y_ix, y_lt, y_le, y_eq, y_nP, y_nPs, y_ltP, y_ltQ, y_ltPP, y_eqP, y_eqQ, y_eqPP, if_pos, if_neg, ite_true, ite_false, not_true_eq_false, not_false_eq_true, and_true, true_and, and_false, false_and, or_true, true_or, or_false, false_or, hN.d0, yc_round hN hW h5]
      by_cases q : y_rd b (k + i) = y_rd b (l + i)
      · simp (disch := omega) only [y_lit, y_n1, nI_add, pk_mul, j_lt, j_b1_s, j_b2_s, j_b3_s, j_b0_s, y_bo, y_bo1, y_bo0, y_i0, y_i1, Classical.not_not, nI_clamp, y_ix, y_lt, y_le, y_eq, y_nP, y_nPs, y_ltP, y_ltQ, y_ltPP, y_eqP, y_eqQ, y_eqPP, if_pos, if_neg, ite_true, ite_false, not_true_eq_false, not_false_eq_true, and_true, true_and, and_false, false_and, or_true, true_or, or_false, false_or]; exact ih (i + 1) f (by omega) (by omega)
      · simp (disch := omega) only [y_lit, y_n1, nI_add, pk_mul, j_lt, j_b1_s, j_b2_s, j_b3_s, j_b0_s, y_bo, y_bo1, y_bo0, y_i0, y_i1, Classical.not_not, nI_clamp, y_ix, y_lt, y_le, y_eq, y_nP, y_nPs, y_ltP, y_ltQ, y_ltPP, y_eqP, y_eqQ, y_eqPP, if_pos, if_neg, ite_true, ite_false, not_true_eq_false, not_false_eq_true, and_true, true_and, and_false, false_and, or_true, true_or, or_false, false_or]
  unfold f_X3_alike
  rw [show (0 : Int32) = nI 0 from rfl, key (b 5) 0 j_F (by omega) (y_F (by omega))]
  rfl
theorem yc_needed (hN : y_N σ b) (hW : y_W b) (hk : k < b 5) : f_X3_neededFrom (nI k) σ = some (if y_M0 b k ≤ b 5 then nI (y_M0 b k) else nP 0) := by
  have b5 := hW.b5
  have h5 : 0 < b 5 := by omega
  have ml := y_M0_le (b := b) k
  have key : ∀ m l f v, l + m = b 5 → m < f → v ≤ 25 → p_X3_neededFrom_4 (nI k) σ f (nI v) (nI l) = some (nI (y_nd b k m l v)) := by
    intro m
    induction m with
    | zero =>
      intro l f v hh hf hv
      obtain ⟨f, rfl⟩ := y_pos hf
      unfold p_X3_neededFrom_4 y_nd; simp (disch := omega) only [y_lit, y_n1, nI_add, pk_mul, j_lt, j_b1_s, j_b2_s, j_b3_s, j_b0_s, y_bo, y_bo1, y_bo0, y_i0, y_i1, Classical.not_not, nI_clamp, y_ix, y_lt, y_le, y_eq, y_nP, y_nPs, y_ltP, y_ltQ, y_ltPP, y_eqP, y_eqQ, y_eqPP, if_pos, if_neg, ite_true, ite_false, not_true_eq_false, not_false_eq_true, and_true, true_and, and_false, false_and, or_true, true_or, or_false, false_or, hN.d0]
    | succ m ih =>
      intro l f v hh hf hv
      obtain ⟨f, rfl⟩ := y_pos hf
      have al := (y_al_bd (b := b) (k := k) (l := l) (b 5) 0).2
      have al' : y_A b k l ≤ 24 := by unfold y_A; omega
      unfold p_X3_neededFrom_4 y_nd; simp (disch := omega) only [y_lit, y_n1, nI_add, pk_mul, j_lt, j_b1_s, j_b2_s, j_b3_s, j_b0_s, y_bo, y_bo1, y_bo0, y_i0, y_i1, Classical.not_not, nI_clamp, y_ix, y_lt, y_le, y_eq, y_nP, y_nPs, y_ltP, y_ltQ, y_ltPP, y_eqP, y_eqQ, y_eqPP, if_pos, if_neg, ite_true, ite_false, not_true_eq_false, not_false_eq_true, and_true, true_and, and_false, false_and, or_true, true_or, or_false, false_or, hN.d0, yc_alike hN hW h5]
      by_cases q : l = k
      · rw [if_pos q]; simp (disch := omega) only [y_lit, y_n1, nI_add, pk_mul, j_lt, j_b1_s, j_b2_s, j_b3_s, j_b0_s, y_bo, y_bo1, y_bo0, y_i0, y_i1, Classical.not_not, nI_clamp, y_ix, y_lt, y_le, y_eq, y_nP, y_nPs, y_ltP, y_ltQ, y_ltPP, y_eqP, y_eqQ, y_eqPP, if_pos, if_neg, ite_true, ite_false, not_true_eq_false, not_false_eq_true, and_true, true_and, and_false, false_and, or_true, true_or, or_false, false_or]; exact ih (l + 1) f v (by omega) (by omega) hv
      · rw [if_neg q]
        by_cases y : v < y_A b k l + 1
        · simp (disch := omega) only [y_lit, y_n1, nI_add, pk_mul, j_lt, j_b1_s, j_b2_s, j_b3_s, j_b0_s, y_bo, y_bo1, y_bo0, y_i0, y_i1, Classical.not_not, nI_clamp, y_ix, y_lt, y_le, y_eq, y_nP, y_nPs, y_ltP, y_ltQ, y_ltPP, y_eqP, y_eqQ, y_eqPP, if_pos, if_neg, ite_true, ite_false, not_true_eq_false, not_false_eq_true, and_true, true_and, and_false, false_and, or_true, true_or, or_false, false_or]; exact ih (l + 1) f _ (by omega) (by omega) (by omega)
        · simp (disch := omega) only [y_lit, y_n1, nI_add, pk_mul, j_lt, j_b1_s, j_b2_s, j_b3_s, j_b0_s, y_bo, y_bo1, y_bo0, y_i0, y_i1, Classical.not_not, nI_clamp, y_ix, y_lt, y_le, y_eq, y_nP, y_nPs, y_ltP, y_ltQ, y_ltPP, y_eqP, y_eqQ, y_eqPP, if_pos, if_neg, ite_true, ite_false, not_true_eq_false, not_false_eq_true, and_true, true_and, and_false, false_and, or_true, true_or, or_false, false_or]; exact ih (l + 1) f _ (by omega) (by omega) (by omega)
  unfold f_X3_neededFrom
  rw [show (0 : Int32) = nI 0 from rfl, key (b 5) 0 j_F 0 (by omega) (y_F (by omega)) (by omega)]
  rw [show y_nd b k (b 5) 0 0 = y_M0 b k from rfl]
  simp (disch := omega) only [y_lit, y_n1, nI_add, pk_mul, j_lt, j_b1_s, j_b2_s, j_b3_s, j_b0_s, y_bo, y_bo1, y_bo0, y_i0, y_i1, Classical.not_not, nI_clamp, y_ix, y_lt, y_le, y_eq, y_nP, y_nPs, y_ltP, y_ltQ, y_ltPP, y_eqP, y_eqQ, y_eqPP, if_pos, if_neg, ite_true, ite_false, not_true_eq_false, not_false_eq_true, and_true, true_and, and_false, false_and, or_true, true_or, or_false, false_or, hN.d0]
  by_cases c : y_M0 b k ≤ b 5
  · simp (disch := omega) only [y_lit, y_n1, nI_add, pk_mul, j_lt, j_b1_s, j_b2_s, j_b3_s, j_b0_s, y_bo, y_bo1, y_bo0, y_i0, y_i1, Classical.not_not, nI_clamp, y_ix, y_lt, y_le, y_eq, y_nP, y_nPs, y_ltP, y_ltQ, y_ltPP, y_eqP, y_eqQ, y_eqPP, if_pos, if_neg, ite_true, ite_false, not_true_eq_false, not_false_eq_true, and_true, true_and, and_false, false_and, or_true, true_or, or_false, false_or]
  · simp (disch := omega) only [y_lit, y_n1, nI_add, pk_mul, j_lt, j_b1_s, j_b2_s, j_b3_s, j_b0_s, y_bo, y_bo1, y_bo0, y_i0, y_i1, Classical.not_not, nI_clamp, y_ix, y_lt, y_le, y_eq, y_nP, y_nPs, y_ltP, y_ltQ, y_ltPP, y_eqP, y_eqQ, y_eqPP, if_pos, if_neg, ite_true, ite_false, not_true_eq_false, not_false_eq_true, and_true, true_and, and_false, false_and, or_true, true_or, or_false, false_or]
theorem ym_alike (hM : y_M τ b) (hW : y_W b) (h5 : 0 < b 5) (hk : k < 100) (hl : l < 100) {n : Nat} (hn : n ≤ b 5) : f_X12_goesAlike (nI k) (nI l) (nI n) τ = some (nI (if n ≤ y_A b k l then 1 else 0)) := by
  have b5 := hW.b5
  have h4 := hW.ho
  have key : ∀ m i f, i + m = n → m < f → p_X12_goesAlike_3 (nI k) (nI l) (nI n) τ f (nI i) = some (nI (if n ≤ y_al b k l (b 5 - i) i then 1 else 0)) := by
    intro m
    induction m with
    | zero =>
      intro i f hh hf
      obtain ⟨f, rfl⟩ := y_pos hf
      have := (y_al_bd (b := b) (k := k) (l := l) (b 5 - i) i).1
      rw [if_pos (by omega)]
      unfold p_X12_goesAlike_3; simp (disch := omega) only [y_lit, y_n1, nI_add, pk_mul, j_lt, j_b1_s, j_b2_s, j_b3_s, j_b0_s, y_bo, y_bo1, y_bo0, y_i0, y_i1, Classical.not_not, nI_clamp, y_ix, y_lt, y_le, y_eq, y_nP, y_nPs, y_ltP, y_ltQ, y_ltPP, y_eqP, y_eqQ, y_eqPP, if_pos, if_neg, ite_true, ite_false, not_true_eq_false, not_false_eq_true, and_true, true_and, and_false, false_and, or_true, true_or, or_false, false_or]
    | succ m ih =>
      intro i f hh hf
      obtain ⟨f, rfl⟩ := y_pos hf
      have r1 := y_rd_lt hW h5 (k + i)
      have r2 := y_rd_lt hW h5 (l + i)
      obtain ⟨t, ht⟩ : ∃ t, b 5 - i = t + 1 := ⟨b 5 - i - 1, by omega⟩
      rw [ht]
      unfold p_X12_goesAlike_3 y_al; simp (disch := omega) only [y_lit, y_n1, nI_add, pk_mul, j_lt, j_b1_s, j_b2_s, j_b3_s, j_b0_s, y_bo, y_bo1, y_bo0, y_i0, y_i1, Classical.not_not, nI_clamp, y_ix, y_lt, y_le, y_eq, y_nP, y_nPs, y_ltP, y_ltQ, y_ltPP, y_eqP, y_eqQ, y_eqPP, if_pos, if_neg, ite_true, ite_false, not_true_eq_false, not_false_eq_true, and_true, true_and, and_false, false_and, or_true, true_or, or_false, false_or, ym_holeAt hM hW h5]
      by_cases q : y_rd b (k + i) = y_rd b (l + i)
      · rw [if_pos q, if_neg (fun z => z q), ih (i + 1) f (by omega) (by omega), show b 5 - (i + 1) = t from by omega]
      · rw [if_neg q, if_pos q, if_neg (by omega)]
  unfold f_X12_goesAlike
  rw [show (0 : Int32) = nI 0 from rfl, key n 0 j_F (by omega) (y_F (by omega))]
  rfl
theorem ym_needed (hM : y_M τ b) (hW : y_W b) (hk : k < b 5) : f_X12_neededFrom (nI k) τ = some (if y_M0 b k ≤ b 5 then nI (y_M0 b k) else nP 0) := by
  have b5 := hW.b5
  have h5 : 0 < b 5 := by omega
  have ml := y_M0_le (b := b) k
  have cnt : ∀ n, n ≤ b 5 → p_X12_neededFrom_17 (nI k) (nI n) τ j_F (nI 0) (nI 0) = some (nI (y_su (fun o => if n ≤ y_A b k o then 1 else 0) (b 5) 0 0)) := by
    intro n hn
    have key : ∀ m l f v, l + m = b 5 → m < f → p_X12_neededFrom_17 (nI k) (nI n) τ f (nI v) (nI l) = some (nI (y_su (fun o => if n ≤ y_A b k o then 1 else 0) m l v)) := by
      intro m
      induction m with
      | zero =>
        intro l f v hh hf
        obtain ⟨f, rfl⟩ := y_pos hf
        unfold p_X12_neededFrom_17 y_su; simp (disch := omega) only [y_lit, y_n1, nI_add, pk_mul, j_lt, j_b1_s, j_b2_s, j_b3_s, j_b0_s, y_bo, y_bo1, y_bo0, y_i0, y_i1, Classical.not_not, nI_clamp, y_ix, y_lt, y_le, y_eq, y_nP, y_nPs, y_ltP, y_ltQ, y_ltPP, y_eqP, y_eqQ, y_eqPP, if_pos, if_neg, ite_true, ite_false, not_true_eq_false, not_false_eq_true, and_true, true_and, and_false, false_and, or_true, true_or, or_false, false_or, hM.f]
      | succ m ih =>
        intro l f v hh hf
        obtain ⟨f, rfl⟩ := y_pos hf
        unfold p_X12_neededFrom_17 y_su; simp (disch := omega) only [y_lit, y_n1, nI_add, pk_mul, j_lt, j_b1_s, j_b2_s, j_b3_s, j_b0_s, y_bo, y_bo1, y_bo0, y_i0, y_i1, Classical.not_not, nI_clamp, y_ix, y_lt, y_le, y_eq, y_nP, y_nPs, y_ltP, y_ltQ, y_ltPP, y_eqP, y_eqQ, y_eqPP, if_pos, if_neg, ite_true, ite_false, not_true_eq_false, not_false_eq_true, and_true, true_and, and_false, false_and, or_true, true_or, or_false, false_or, hM.f, ym_alike hM hW h5 (show k < 100 by omega) (show l < 100 by omega) hn]
        by_cases c : n ≤ y_A b k l
        · rw [if_pos c]; simp (disch := omega) only [y_lit, y_n1, nI_add, pk_mul, j_lt, j_b1_s, j_b2_s, j_b3_s, j_b0_s, y_bo, y_bo1, y_bo0, y_i0, y_i1, Classical.not_not, nI_clamp, y_ix, y_lt, y_le, y_eq, y_nP, y_nPs, y_ltP, y_ltQ, y_ltPP, y_eqP, y_eqQ, y_eqPP, if_pos, if_neg, ite_true, ite_false, not_true_eq_false, not_false_eq_true, and_true, true_and, and_false, false_and, or_true, true_or, or_false, false_or]; exact ih (l + 1) f _ (by omega) (by omega)
        · rw [if_neg c]; simp (disch := omega) only [y_lit, y_n1, nI_add, pk_mul, j_lt, j_b1_s, j_b2_s, j_b3_s, j_b0_s, y_bo, y_bo1, y_bo0, y_i0, y_i1, Classical.not_not, nI_clamp, y_ix, y_lt, y_le, y_eq, y_nP, y_nPs, y_ltP, y_ltQ, y_ltPP, y_eqP, y_eqQ, y_eqPP, if_pos, if_neg, ite_true, ite_false, not_true_eq_false, not_false_eq_true, and_true, true_and, and_false, false_and, or_true, true_or, or_false, false_or]; exact ih (l + 1) f _ (by omega) (by omega)
    exact key (b 5) 0 j_F 0 (by omega) (y_F (by omega))
  have key : ∀ m n f, n + m = b 5 + 1 → m < f → n ≤ y_M0 b k → p_X12_neededFrom_2 (nI k) τ f (nI n) = some (if y_M0 b k ≤ b 5 then nI (y_M0 b k) else nP 0) := by
    intro m
    induction m with
    | zero =>
      intro n f hh hf hn
      obtain ⟨f, rfl⟩ := y_pos hf
      rw [if_neg (by omega)]
      unfold p_X12_neededFrom_2; simp (disch := omega) only [y_lit, y_n1, nI_add, pk_mul, j_lt, j_b1_s, j_b2_s, j_b3_s, j_b0_s, y_bo, y_bo1, y_bo0, y_i0, y_i1, Classical.not_not, nI_clamp, y_ix, y_lt, y_le, y_eq, y_nP, y_nPs, y_ltP, y_ltQ, y_ltPP, y_eqP, y_eqQ, y_eqPP, if_pos, if_neg, ite_true, ite_false, not_true_eq_false, not_false_eq_true, and_true, true_and, and_false, false_and, or_true, true_or, or_false, false_or, hM.f]
    | succ m ih =>
      intro n f hh hf hn
      obtain ⟨f, rfl⟩ := y_pos hf
      have q := y_cnt (n := n) hk (by omega)
      have sb := y_su_bd (f := fun o => if n ≤ y_A b k o then 1 else 0) (c := 1) (b 5) 0 (fun j _ _ => by split <;> omega)
      unfold p_X12_neededFrom_2; simp (disch := omega) only [y_lit, y_n1, nI_add, pk_mul, j_lt, j_b1_s, j_b2_s, j_b3_s, j_b0_s, y_bo, y_bo1, y_bo0, y_i0, y_i1, Classical.not_not, nI_clamp, y_ix, y_lt, y_le, y_eq, y_nP, y_nPs, y_ltP, y_ltQ, y_ltPP, y_eqP, y_eqQ, y_eqPP, if_pos, if_neg, ite_true, ite_false, not_true_eq_false, not_false_eq_true, and_true, true_and, and_false, false_and, or_true, true_or, or_false, false_or, hM.f, cnt]
      by_cases c : y_M0 b k ≤ n
      · rw [if_pos (q.mpr c), if_pos (by omega), show n = y_M0 b k from by omega]
      · rw [if_neg (fun z => c (q.mp z))]
        exact ih (n + 1) f (by omega) (by omega) (by omega)
  unfold f_X12_neededFrom
  exact key (b 5 + 1) 0 j_F (by omega) (y_F (by omega)) (Nat.zero_le _)
end C
section Z
variable {σ τ : j_G}
theorem z_needed (hR : j_Rel σ τ) (a1 : Int32) : ∃ v, f_X11_needed a1 σ = some v ∧ f_X12_needed a1 τ = some v := by
  obtain ⟨b, hW, hN, hM, hK⟩ := id hR
  have b5 := hW.b5
  by_cases h : y_rg a1 (b 5)
  · obtain ⟨k, hk, rfl⟩ := y_of _ _ h.1 h.2
    refine ⟨if y_M0 b k ≤ b 5 then nI (y_M0 b k) else nP 0, ?_, ?_⟩
    · unfold f_X11_needed; simp (disch := omega) only [y_lit, y_n1, nI_add, pk_mul, j_lt, j_b1_s, j_b2_s, j_b3_s, j_b0_s, y_bo, y_bo1, y_bo0, y_i0, y_i1, Classical.not_not, nI_clamp, y_ix, y_lt, y_le, y_eq, y_nP, y_nPs, y_ltP, y_ltQ, y_ltPP, y_eqP, y_eqQ, y_eqPP, if_pos, if_neg, ite_true, ite_false, not_true_eq_false, not_false_eq_true, and_true, true_and, and_false, false_and, or_true, true_or, or_false, false_or, yc_has hN hW, y_rn, yc_needed hN hW]
    · unfold f_X12_needed; simp (disch := omega) only [y_lit, y_n1, nI_add, pk_mul, j_lt, j_b1_s, j_b2_s, j_b3_s, j_b0_s, y_bo, y_bo1, y_bo0, y_i0, y_i1, Classical.not_not, nI_clamp, y_ix, y_lt, y_le, y_eq, y_nP, y_nPs, y_ltP, y_ltQ, y_ltPP, y_eqP, y_eqQ, y_eqPP, if_pos, if_neg, ite_true, ite_false, not_true_eq_false, not_false_eq_true, and_true, true_and, and_false, false_and, or_true, true_or, or_false, false_or, ym_isComing hM hW, y_rn, ym_needed hM hW]
  · refine ⟨-2, ?_, ?_⟩
    · unfold f_X11_needed; simp (disch := omega) only [y_lit, y_n1, nI_add, pk_mul, j_lt, j_b1_s, j_b2_s, j_b3_s, j_b0_s, y_bo, y_bo1, y_bo0, y_i0, y_i1, Classical.not_not, nI_clamp, y_ix, y_lt, y_le, y_eq, y_nP, y_nPs, y_ltP, y_ltQ, y_ltPP, y_eqP, y_eqQ, y_eqPP, if_pos, if_neg, ite_true, ite_false, not_true_eq_false, not_false_eq_true, and_true, true_and, and_false, false_and, or_true, true_or, or_false, false_or, yc_has hN hW, h]
    · unfold f_X12_needed; simp (disch := omega) only [y_lit, y_n1, nI_add, pk_mul, j_lt, j_b1_s, j_b2_s, j_b3_s, j_b0_s, y_bo, y_bo1, y_bo0, y_i0, y_i1, Classical.not_not, nI_clamp, y_ix, y_lt, y_le, y_eq, y_nP, y_nPs, y_ltP, y_ltQ, y_ltPP, y_eqP, y_eqQ, y_eqPP, if_pos, if_neg, ite_true, ite_false, not_true_eq_false, not_false_eq_true, and_true, true_and, and_false, false_and, or_true, true_or, or_false, false_or, ym_isComing hM hW, h]
theorem z_known (hR : j_Rel σ τ) : ∃ v, f_X11_known σ = some v ∧ f_X12_known τ = some v := by
  obtain ⟨b, hW, hN, hM, hK⟩ := id hR
  have b5 := hW.b5
  by_cases h9 : 0 < b 9
  · have both : ∀ m k f x, k + m = b 5 → m < f → ∃ w, p_X11_known_17 σ f x (nI k) = some w ∧ p_X12_known_14 τ f x (nI k) = some w := by
      intro m
      induction m with
      | zero =>
        intro k f x hh hf
        obtain ⟨f, rfl⟩ := y_pos hf
        refine ⟨x, ?_, ?_⟩
        · unfold p_X11_known_17; simp (disch := omega) only [y_lit, y_n1, nI_add, pk_mul, j_lt, j_b1_s, j_b2_s, j_b3_s, j_b0_s, y_bo, y_bo1, y_bo0, y_i0, y_i1, Classical.not_not, nI_clamp, y_ix, y_lt, y_le, y_eq, y_nP, y_nPs, y_ltP, y_ltQ, y_ltPP, y_eqP, y_eqQ, y_eqPP, if_pos, if_neg, ite_true, ite_false, not_true_eq_false, not_false_eq_true, and_true, true_and, and_false, false_and, or_true, true_or, or_false, false_or, hN.d0]
        · unfold p_X12_known_14; simp (disch := omega) only [y_lit, y_n1, nI_add, pk_mul, j_lt, j_b1_s, j_b2_s, j_b3_s, j_b0_s, y_bo, y_bo1, y_bo0, y_i0, y_i1, Classical.not_not, nI_clamp, y_ix, y_lt, y_le, y_eq, y_nP, y_nPs, y_ltP, y_ltQ, y_ltPP, y_eqP, y_eqQ, y_eqPP, if_pos, if_neg, ite_true, ite_false, not_true_eq_false, not_false_eq_true, and_true, true_and, and_false, false_and, or_true, true_or, or_false, false_or, hM.f]
      | succ m ih =>
        intro k f x hh hf
        obtain ⟨f, rfl⟩ := y_pos hf
        have hlt : nI k < nI (b 5) := (y_lt (by omega) (by omega)).mpr (by omega)
        have e5 := hM.f (j := 5) (by omega)
        have c := yc_needed hN hW (k := k) (by omega)
        have m' := ym_needed hM hW (k := k) (by omega)
        generalize (if y_M0 b k ≤ b 5 then nI (y_M0 b k) else nP 0) = X at *
        have c1 : p_X11_known_17 σ (f + 1) x (nI k) = if X = -1 then some (-1) else p_X11_known_17 σ f (if x < X then X else x) (nI (k + 1)) := by
          rw [p_X11_known_17, hN.d0, if_pos hlt, c, j_b1_s, show (1 : Int32) = nI 1 from rfl, nI_add]
          rfl
        have c2 : p_X12_known_14 τ (f + 1) x (nI k) = if X = -1 then some (-1) else p_X12_known_14 τ f (if x < X then X else x) (nI (k + 1)) := by
          rw [p_X12_known_14, show (5 : Int32) = nI 5 from rfl, y_ix (by omega) (by omega), nI_clamp (by omega), e5, if_pos hlt, m', j_b1_s, show (1 : Int32) = nI 1 from rfl, nI_add]
          rfl
        rw [c1, c2]
        by_cases z : X = -1
        · rw [if_pos z, if_pos z]; exact ⟨-1, rfl, rfl⟩
        · rw [if_neg z, if_neg z]; exact ih (k + 1) f _ (by omega) (by omega)
    obtain ⟨w, w1, w2⟩ := both (b 5) 0 j_F (nP 0) (by omega) (y_F (by omega))
    refine ⟨w, ?_, ?_⟩
    · unfold f_X11_known; simp (disch := omega) only [y_lit, y_n1, nI_add, pk_mul, j_lt, j_b1_s, j_b2_s, j_b3_s, j_b0_s, y_bo, y_bo1, y_bo0, y_i0, y_i1, Classical.not_not, nI_clamp, y_ix, y_lt, y_le, y_eq, y_nP, y_nPs, y_ltP, y_ltQ, y_ltPP, y_eqP, y_eqQ, y_eqPP, if_pos, if_neg, ite_true, ite_false, not_true_eq_false, not_false_eq_true, and_true, true_and, and_false, false_and, or_true, true_or, or_false, false_or, yc_isTold hN hW]; exact w1
    · unfold f_X12_known; simp (disch := omega) only [y_lit, y_n1, nI_add, pk_mul, j_lt, j_b1_s, j_b2_s, j_b3_s, j_b0_s, y_bo, y_bo1, y_bo0, y_i0, y_i1, Classical.not_not, nI_clamp, y_ix, y_lt, y_le, y_eq, y_nP, y_nPs, y_ltP, y_ltQ, y_ltPP, y_eqP, y_eqQ, y_eqPP, if_pos, if_neg, ite_true, ite_false, not_true_eq_false, not_false_eq_true, and_true, true_and, and_false, false_and, or_true, true_or, or_false, false_or, ym_isBoard hM hW]; exact w2
  · refine ⟨-2, ?_, ?_⟩
    · unfold f_X11_known; simp (disch := omega) only [y_lit, y_n1, nI_add, pk_mul, j_lt, j_b1_s, j_b2_s, j_b3_s, j_b0_s, y_bo, y_bo1, y_bo0, y_i0, y_i1, Classical.not_not, nI_clamp, y_ix, y_lt, y_le, y_eq, y_nP, y_nPs, y_ltP, y_ltQ, y_ltPP, y_eqP, y_eqQ, y_eqPP, if_pos, if_neg, ite_true, ite_false, not_true_eq_false, not_false_eq_true, and_true, true_and, and_false, false_and, or_true, true_or, or_false, false_or, yc_isTold hN hW]
    · unfold f_X12_known; simp (disch := omega) only [y_lit, y_n1, nI_add, pk_mul, j_lt, j_b1_s, j_b2_s, j_b3_s, j_b0_s, y_bo, y_bo1, y_bo0, y_i0, y_i1, Classical.not_not, nI_clamp, y_ix, y_lt, y_le, y_eq, y_nP, y_nPs, y_ltP, y_ltQ, y_ltPP, y_eqP, y_eqQ, y_eqPP, if_pos, if_neg, ite_true, ite_false, not_true_eq_false, not_false_eq_true, and_true, true_and, and_false, false_and, or_true, true_or, or_false, false_or, ym_isBoard hM hW]
end Z
/-! ===== blows ===== -/
theorem y_below2 {σ τ : j_G} {b : Nat → Nat} {s c d n w : Nat} (hr : y_ro σ τ s c d n w) (hN : y_N σ b) (hM : y_M τ b) (hW : y_W b) (he : n % 2 = 0) : (f_X8_isBelow c d (nI (y_ho b)) (nI (b 2)) σ = some (nI 0) ∧ p_X12_asksBlows_46 (nI s) τ j_F (nI 0) = some (-2)) ∨ (f_X8_isBelow c d (nI (y_ho b)) (nI (b 2)) σ = some (nI 1) ∧ p_X12_asksBlows_46 (nI s) τ j_F (nI 0) = some (nI 0) ∧ ∃ e, y_hd σ τ s c d n e ∧ ∀ i, 2 * i < n → e (2 * i) < y_ho b ∧ e (2 * i + 1) < b 2) := by
  have h4 := hW.ho
  have hb2 := hW.b2
  obtain ⟨hs, hn, hw, h1, h2, h3, h4', h5⟩ := id hr
  have s4 : s < 4 := by unfold y_sc at hs; omega
  have cs : ∀ i f (B : Nat), i < n → B < 2 ^ 31 → (B = if i % 2 = 0 then y_ho b else b 2) → p_X8_isBelow_2 c d (nI (y_ho b)) (nI (b 2)) σ (f + 1) (nI i) = if y_nb (σ.2 d i) B then p_X8_isBelow_2 c d (nI (y_ho b)) (nI (b 2)) σ f (nI (i + 1)) else some (nI 0) := by
    intro i f B hi hB eB
    have hlt : nI i < nI n := (y_lt (by omega) (by omega)).mpr (by omega)
    have em : nI i - nI i / nI 2 * nI 2 = nI (i % 2) := pk_rem (by omega) (by omega) (by omega)
    have eV : (if nI (i % 2) = nI 0 then nI (y_ho b) else nI (b 2)) = nI B := by
      rw [eB]
      by_cases z : i % 2 = 0
      · rw [z, if_pos rfl, if_pos rfl]
      · rw [if_neg z, if_neg (by rw [y_eq (by omega) (by omega)]; exact z)]
    have q := y_nb1 (x := σ.2 d i) (n := B) hB
    rw [p_X8_isBelow_2, h1, if_pos hlt, if_neg (by decide), show (2 : Int32) = nI 2 from rfl, show (0 : Int32) = nI 0 from rfl, em]
    simp only [j_lt]
    rw [eV, y_ix (by omega) (by omega), y_ix (by omega) (by omega), nI_clamp (by omega), show (1 : Int32) = nI 1 from rfl, nI_add]
    by_cases z : y_nb (σ.2 d i) B
    · rw [if_pos z, if_pos (q.mpr z).1, if_neg (q.mpr z).2]
    · rw [if_neg z]
      by_cases z1 : ¬ σ.2 d i < (0 : Int64)
      · rw [if_pos z1, if_pos (fun z2 => z (q.mp ⟨z1, fun z3 => z3 z2⟩))]
      · rw [if_neg z1]
  have key : ∀ m i f f', i + 2 * m = n → i % 2 = 0 → 2 * m < f → m < f' → (p_X8_isBelow_2 c d (nI (y_ho b)) (nI (b 2)) σ f (nI i) = some (nI 0) ∧ p_X12_asksBlows_46 (nI s) τ f' (nI i) = some (-2)) ∨ (p_X8_isBelow_2 c d (nI (y_ho b)) (nI (b 2)) σ f (nI i) = some (nI 1) ∧ p_X12_asksBlows_46 (nI s) τ f' (nI i) = some (nI 0) ∧ ∀ j, i ≤ 2 * j → 2 * j < n → y_nb (σ.2 d (2 * j)) (y_ho b) ∧ y_nb (σ.2 d (2 * j + 1)) (b 2)) := by
    intro m
    induction m with
    | zero =>
      intro i f f' h hp hf hf'
      obtain ⟨f, rfl⟩ := y_pos hf; obtain ⟨f', rfl⟩ := y_pos hf'
      refine Or.inr ⟨?_, ?_, fun j _ _ => by omega⟩
      · unfold p_X8_isBelow_2; simp (disch := omega) only [y_lit, y_n1, nI_add, pk_mul, j_lt, j_b1_s, j_b2_s, j_b3_s, j_b0_s, y_bo, y_bo1, y_bo0, y_i0, y_i1, Classical.not_not, nI_clamp, y_ix, y_lt, y_le, y_eq, y_nP, y_nPs, y_ltP, y_ltQ, y_ltPP, y_eqP, y_eqQ, y_eqPP, if_pos, if_neg, ite_true, ite_false, not_true_eq_false, not_false_eq_true, and_true, true_and, and_false, false_and, or_true, true_or, or_false, false_or, h1]
      · unfold p_X12_asksBlows_46; simp (disch := omega) only [y_lit, y_n1, nI_add, pk_mul, j_lt, j_b1_s, j_b2_s, j_b3_s, j_b0_s, y_bo, y_bo1, y_bo0, y_i0, y_i1, Classical.not_not, nI_clamp, y_ix, y_lt, y_le, y_eq, y_nP, y_nPs, y_ltP, y_ltQ, y_ltPP, y_eqP, y_eqQ, y_eqPP, if_pos, if_neg, ite_true, ite_false, not_true_eq_false, not_false_eq_true, and_true, true_and, and_false, false_and, or_true, true_or, or_false, false_or, h2]
    | succ m ih =>
      intro i f f' h hp hf hf'
      obtain ⟨f, rfl⟩ : ∃ f1, f = f1 + 1 + 1 := ⟨f - 2, by omega⟩
      obtain ⟨f', rfl⟩ := y_pos hf'
      have hlt : nI i < nI n := (y_lt (by omega) (by omega)).mpr (by omega)
      have c1 := cs i (f + 1) (y_ho b) (by omega) (by omega) (by rw [if_pos hp])
      have c2 := cs (i + 1) f (b 2) (by omega) (by omega) (by rw [if_neg (by omega)])
      have num1 := ym_num hr (i := i) (by omega)
      have num2 := ym_num hr (i := i + 1) (by omega)
      have m1 : p_X12_asksBlows_46 (nI s) τ (f' + 1) (nI i) = if y_nb (σ.2 d i) (y_ho b) then (if y_nb (σ.2 d (i + 1)) (b 2) then p_X12_asksBlows_46 (nI s) τ f' (nI (i + 1 + 1)) else some (-2)) else some (-2) := by
        rw [p_X12_asksBlows_46, y_ix (by omega) (by omega), nI_clamp (by omega), h2, if_pos hlt, num1, j_b1_s, ym_isHoleL hM hW, j_b1_s]
        by_cases z : y_nb (σ.2 d i) (y_ho b)
        · rw [if_pos (show 0 ≤ (σ.2 d i).toInt ∧ (σ.2 d i).toInt < y_ho b from z), if_pos (by decide), if_pos z, show (1 : Int32) = nI 1 from rfl, nI_add, num2, j_b1_s, ym_isTickL hM hW, j_b1_s]
          by_cases z2 : y_nb (σ.2 d (i + 1)) (b 2)
          · rw [if_pos (show 0 ≤ (σ.2 d (i + 1)).toInt ∧ (σ.2 d (i + 1)).toInt < b 2 from z2), if_neg (by decide), if_pos z2, show (2 : Int32) = nI 2 from rfl, nI_add]
          · rw [if_neg (show ¬ (0 ≤ (σ.2 d (i + 1)).toInt ∧ (σ.2 d (i + 1)).toInt < b 2) from z2), if_pos (show nI 0 = (0 : Int32) from rfl), if_neg z2]
        · rw [if_neg (show ¬ (0 ≤ (σ.2 d i).toInt ∧ (σ.2 d i).toInt < y_ho b) from z), if_neg (fun q => q rfl), if_neg z]
      rw [c1, c2, m1]
      by_cases z : y_nb (σ.2 d i) (y_ho b)
      · rw [if_pos z, if_pos z]
        by_cases z2 : y_nb (σ.2 d (i + 1)) (b 2)
        · rw [if_pos z2, if_pos z2]
          rcases ih (i + 1 + 1) f f' (by omega) (by omega) (by omega) (by omega) with k | ⟨k1, k2, k3⟩
          · exact Or.inl k
          · refine Or.inr ⟨k1, k2, fun j h1 h2 => ?_⟩
            by_cases e : 2 * j = i
            · rw [e]; exact ⟨z, z2⟩
            · exact k3 j (by omega) h2
        · rw [if_neg z2, if_neg z2]; exact Or.inl ⟨rfl, rfl⟩
      · rw [if_neg z, if_neg z]; exact Or.inl ⟨rfl, rfl⟩
  rcases key (n / 2) 0 j_F j_F (by omega) (by omega) (y_F (by omega)) (y_F (by omega)) with k | ⟨k1, k2, k3⟩
  · exact Or.inl k
  · have all : ∀ i, i < n → ∃ k, k < 201 ∧ σ.2 d i = lN k ∧ (i % 2 = 0 → k < y_ho b) ∧ (i % 2 = 1 → k < b 2) := by
      intro i hi
      have q := k3 (i / 2) (by omega) (by omega)
      by_cases z : i % 2 = 0
      · rw [show 2 * (i / 2) = i from by omega] at q
        obtain ⟨k, hk, e⟩ := y_nbe q.1
        exact ⟨k, by omega, e, fun _ => hk, fun y => by omega⟩
      · rw [show 2 * (i / 2) + 1 = i from by omega] at q
        obtain ⟨k, hk, e⟩ := y_nbe q.2
        exact ⟨k, by omega, e, fun y => by omega, fun _ => hk⟩
    have ee : ∀ i k, σ.2 d i = lN k → k < 201 → (σ.2 d i).toInt.toNat = k := fun i k e hk => by rw [e, pk_lT (by omega)]; rfl
    refine Or.inr ⟨k1, k2, fun i => (σ.2 d i).toInt.toNat, ⟨hs, hn, h1, h2, fun i hi => ?_⟩, fun i hi => ?_⟩
    · obtain ⟨k, hk, e, _, _⟩ := all i hi
      have e' := ee i k e hk
      refine ⟨by show (σ.2 d i).toInt.toNat < 1000; omega, ?_, ?_⟩
      · show _ = lN (σ.2 d i).toInt.toNat; rw [e', e]
      · show _ = lN (σ.2 d i).toInt.toNat; rw [← h5 i hi, e', e]
    · obtain ⟨k, hk, e, a1, a2⟩ := all (2 * i) (by omega)
      obtain ⟨k', hk', e', a1', a2'⟩ := all (2 * i + 1) (by omega)
      have q1 := ee _ k e hk; have q2 := ee _ k' e' hk'
      show (σ.2 d (2 * i)).toInt.toNat < _ ∧ (σ.2 d (2 * i + 1)).toInt.toNat < _
      rw [q1, q2]
      exact ⟨a1 (by omega), a2' (by omega)⟩
/-- is it a row of blows; the class lays the game out -/
theorem y_whyB {σ τ : j_G} {b : Nat → Nat} (hW : y_W b) (hN : y_N σ b) (hM : y_M τ b) (hK : y_K σ τ) (a1 : Int32) : (∃ k : Int32, k < 0 ∧ ¬ k = 0 ∧ f_X11_whyNoBlows a1 σ = some (k, σ) ∧ f_X12_asksBlows a1 τ = some k) ∨ (f_X12_asksBlows a1 τ = some (nI 0) ∧ 0 < b 9 ∧ ∃ σ1 s c d n e, f_X11_whyNoBlows a1 σ = some (nI 0, σ1) ∧ y_cg σ1 b (y_gs b) (y_dg b (b 8)) ∧ y_fr 22 27 σ σ1 ∧ a1 = nI s ∧ n % 2 = 0 ∧ y_hd σ τ s c d n e ∧ ∀ i, 2 * i < n → e (2 * i) < y_ho b ∧ e (2 * i + 1) < b 2) := by
  have h4 := hW.ho
  by_cases h : y_rg a1 4
  · by_cases h9 : 0 < b 9
    · obtain ⟨s, hs, rfl⟩ := y_of _ _ h.1 h.2
      obtain ⟨c, d, hc, hk⟩ := hK.slot s hs
      rcases hk with ⟨k1, k2⟩ | ⟨n, w, hr⟩
      · refine Or.inl ⟨-6, by decide, by decide, ?_, ?_⟩
        · unfold f_X11_whyNoBlows f_X8_isMade
          rcases hc with ⟨rfl, rfl, rfl⟩ | ⟨rfl, rfl, rfl⟩ | ⟨rfl, rfl, rfl⟩ | ⟨rfl, rfl, rfl⟩
          · simp (disch := omega) only [y_lit, y_n1, nI_add, pk_mul, j_lt, j_b1_s, j_b2_s, j_b3_s, j_b0_s, y_bo, y_bo1, y_bo0, y_i0, y_i1, Classical.not_not, nI_clamp, y_ix, y_lt, y_le, y_eq, y_nP, y_nPs, y_ltP, y_ltQ, y_ltPP, y_eqP, y_eqQ, y_eqPP, if_pos, if_neg, ite_true, ite_false, not_true_eq_false, not_false_eq_true, and_true, true_and, and_false, false_and, or_true, true_or, or_false, false_or, yc_isSlot, y_rn, yc_isTold hN hW, k1]
          · simp (disch := omega) only [y_lit, y_n1, nI_add, pk_mul, j_lt, j_b1_s, j_b2_s, j_b3_s, j_b0_s, y_bo, y_bo1, y_bo0, y_i0, y_i1, Classical.not_not, nI_clamp, y_ix, y_lt, y_le, y_eq, y_nP, y_nPs, y_ltP, y_ltQ, y_ltPP, y_eqP, y_eqQ, y_eqPP, if_pos, if_neg, ite_true, ite_false, not_true_eq_false, not_false_eq_true, and_true, true_and, and_false, false_and, or_true, true_or, or_false, false_or, yc_isSlot, y_rn, yc_isTold hN hW, k1]
          · simp (disch := omega) only [y_lit, y_n1, nI_add, pk_mul, j_lt, j_b1_s, j_b2_s, j_b3_s, j_b0_s, y_bo, y_bo1, y_bo0, y_i0, y_i1, Classical.not_not, nI_clamp, y_ix, y_lt, y_le, y_eq, y_nP, y_nPs, y_ltP, y_ltQ, y_ltPP, y_eqP, y_eqQ, y_eqPP, if_pos, if_neg, ite_true, ite_false, not_true_eq_false, not_false_eq_true, and_true, true_and, and_false, false_and, or_true, true_or, or_false, false_or, yc_isSlot, y_rn, yc_isTold hN hW, k1]
          · simp (disch := omega) only [y_lit, y_n1, nI_add, pk_mul, j_lt, j_b1_s, j_b2_s, j_b3_s, j_b0_s, y_bo, y_bo1, y_bo0, y_i0, y_i1, Classical.not_not, nI_clamp, y_ix, y_lt, y_le, y_eq, y_nP, y_nPs, y_ltP, y_ltQ, y_ltPP, y_eqP, y_eqQ, y_eqPP, if_pos, if_neg, ite_true, ite_false, not_true_eq_false, not_false_eq_true, and_true, true_and, and_false, false_and, or_true, true_or, or_false, false_or, yc_isSlot, y_rn, yc_isTold hN hW, k1]
        · unfold f_X12_asksBlows; simp (disch := omega) only [y_lit, y_n1, nI_add, pk_mul, j_lt, j_b1_s, j_b2_s, j_b3_s, j_b0_s, y_bo, y_bo1, y_bo0, y_i0, y_i1, Classical.not_not, nI_clamp, y_ix, y_lt, y_le, y_eq, y_nP, y_nPs, y_ltP, y_ltQ, y_ltPP, y_eqP, y_eqQ, y_eqPP, if_pos, if_neg, ite_true, ite_false, not_true_eq_false, not_false_eq_true, and_true, true_and, and_false, false_and, or_true, true_or, or_false, false_or, ym_isSlot, y_rn, ym_isBoard hM hW, k2]
      · obtain ⟨_, hn, hw, r1, r2, r3, r4, r5⟩ := id hr
        have em : nI n - nI (n / 2 * 2) = nI (n % 2) := by
          rw [← pk_mul, ← pk_div (by omega) (by omega) (by omega), pk_rem (by omega) (by omega) (by omega)]
        have cw : f_X11_whyNoBlows (nI s) σ = if nI (n % 2) = nI 0 then (j_b1 (f_X8_isBelow c d (nI (y_ho b)) (nI (b 2)) σ) (fun v1 => if v1 = nI 0 then some (-2, σ) else (j_b1 (f_X4_deal (σ.1 5 1) σ) fun σ2 => some (nI 0, σ2)))) else some (-2, σ) := by
          unfold f_X11_whyNoBlows f_X8_isMade
          rcases hc with ⟨rfl, rfl, rfl⟩ | ⟨rfl, rfl, rfl⟩ | ⟨rfl, rfl, rfl⟩ | ⟨rfl, rfl, rfl⟩
          · simp (disch := omega) only [y_lit, y_n1, nI_add, pk_mul, j_lt, j_b1_s, j_b2_s, j_b3_s, j_b0_s, y_bo, y_bo1, y_bo0, y_i0, y_i1, Classical.not_not, nI_clamp, y_ix, y_lt, y_le, y_eq, y_nP, y_nPs, y_ltP, y_ltQ, y_ltPP, y_eqP, y_eqQ, y_eqPP, if_pos, if_neg, ite_true, ite_false, not_true_eq_false, not_false_eq_true, and_true, true_and, and_false, false_and, or_true, true_or, or_false, false_or, yc_isSlot, y_rn, yc_isTold hN hW, r1, yc_holes hN, hN.f4, pk_div, em]
          · simp (disch := omega) only [y_lit, y_n1, nI_add, pk_mul, j_lt, j_b1_s, j_b2_s, j_b3_s, j_b0_s, y_bo, y_bo1, y_bo0, y_i0, y_i1, Classical.not_not, nI_clamp, y_ix, y_lt, y_le, y_eq, y_nP, y_nPs, y_ltP, y_ltQ, y_ltPP, y_eqP, y_eqQ, y_eqPP, if_pos, if_neg, ite_true, ite_false, not_true_eq_false, not_false_eq_true, and_true, true_and, and_false, false_and, or_true, true_or, or_false, false_or, yc_isSlot, y_rn, yc_isTold hN hW, r1, yc_holes hN, hN.f4, pk_div, em]
          · simp (disch := omega) only [y_lit, y_n1, nI_add, pk_mul, j_lt, j_b1_s, j_b2_s, j_b3_s, j_b0_s, y_bo, y_bo1, y_bo0, y_i0, y_i1, Classical.not_not, nI_clamp, y_ix, y_lt, y_le, y_eq, y_nP, y_nPs, y_ltP, y_ltQ, y_ltPP, y_eqP, y_eqQ, y_eqPP, if_pos, if_neg, ite_true, ite_false, not_true_eq_false, not_false_eq_true, and_true, true_and, and_false, false_and, or_true, true_or, or_false, false_or, yc_isSlot, y_rn, yc_isTold hN hW, r1, yc_holes hN, hN.f4, pk_div, em]
          · simp (disch := omega) only [y_lit, y_n1, nI_add, pk_mul, j_lt, j_b1_s, j_b2_s, j_b3_s, j_b0_s, y_bo, y_bo1, y_bo0, y_i0, y_i1, Classical.not_not, nI_clamp, y_ix, y_lt, y_le, y_eq, y_nP, y_nPs, y_ltP, y_ltQ, y_ltPP, y_eqP, y_eqQ, y_eqPP, if_pos, if_neg, ite_true, ite_false, not_true_eq_false, not_false_eq_true, and_true, true_and, and_false, false_and, or_true, true_or, or_false, false_or, yc_isSlot, y_rn, yc_isTold hN hW, r1, yc_holes hN, hN.f4, pk_div, em]
        have mw : f_X12_asksBlows (nI s) τ = if ¬ nI (n % 2) = nI 0 then some (-2) else p_X12_asksBlows_46 (nI s) τ j_F (nI 0) := by
          unfold f_X12_asksBlows; simp (disch := omega) only [y_lit, y_n1, nI_add, pk_mul, j_lt, j_b1_s, j_b2_s, j_b3_s, j_b0_s, y_bo, y_bo1, y_bo0, y_i0, y_i1, Classical.not_not, nI_clamp, y_ix, y_lt, y_le, y_eq, y_nP, y_nPs, y_ltP, y_ltQ, y_ltPP, y_eqP, y_eqQ, y_eqPP, if_pos, if_neg, ite_true, ite_false, not_true_eq_false, not_false_eq_true, and_true, true_and, and_false, false_and, or_true, true_or, or_false, false_or, ym_isSlot, y_rn, ym_isBoard hM hW, r2, pk_div, em]
        by_cases ev : n % 2 = 0
        · rw [ev] at cw mw
          rw [if_pos rfl] at cw
          rw [if_neg (fun z => z rfl)] at mw
          rcases y_below2 hr hN hM hW ev with ⟨q1, q2⟩ | ⟨q1, q2, e, q3, q4⟩
          · refine Or.inl ⟨-2, by decide, by decide, ?_, ?_⟩
            · rw [cw, q1]; rfl
            · rw [mw, q2]
          · obtain ⟨σ1, e1, e2, e3⟩ := yc_dealt hN hW
            refine Or.inr ⟨?_, h9, σ1, s, c, d, n, e, ?_, e2, e3, rfl, ev, q3, q4⟩
            · rw [mw, q2]
            · rw [cw, q1, j_b1_s, if_neg (show ¬ nI 1 = nI 0 from by decide), e1]; rfl
        · have nz : ¬ nI (n % 2) = nI 0 := by rw [y_eq (by omega) (by omega)]; exact ev
          refine Or.inl ⟨-2, by decide, by decide, ?_, ?_⟩
          · rw [cw, if_neg nz]
          · rw [mw, if_pos nz]
    · refine Or.inl ⟨-2, by decide, by decide, ?_, ?_⟩
      · unfold f_X11_whyNoBlows; simp (disch := omega) only [y_lit, y_n1, nI_add, pk_mul, j_lt, j_b1_s, j_b2_s, j_b3_s, j_b0_s, y_bo, y_bo1, y_bo0, y_i0, y_i1, Classical.not_not, nI_clamp, y_ix, y_lt, y_le, y_eq, y_nP, y_nPs, y_ltP, y_ltQ, y_ltPP, y_eqP, y_eqQ, y_eqPP, if_pos, if_neg, ite_true, ite_false, not_true_eq_false, not_false_eq_true, and_true, true_and, and_false, false_and, or_true, true_or, or_false, false_or, yc_isSlot, yc_isTold hN hW]
      · unfold f_X12_asksBlows; simp (disch := omega) only [y_lit, y_n1, nI_add, pk_mul, j_lt, j_b1_s, j_b2_s, j_b3_s, j_b0_s, y_bo, y_bo1, y_bo0, y_i0, y_i1, Classical.not_not, nI_clamp, y_ix, y_lt, y_le, y_eq, y_nP, y_nPs, y_ltP, y_ltQ, y_ltPP, y_eqP, y_eqQ, y_eqPP, if_pos, if_neg, ite_true, ite_false, not_true_eq_false, not_false_eq_true, and_true, true_and, and_false, false_and, or_true, true_or, or_false, false_or, ym_isSlot, h, ym_isBoard hM hW]
  · refine Or.inl ⟨-2, by decide, by decide, ?_, ?_⟩
    · unfold f_X11_whyNoBlows; simp (disch := omega) only [y_lit, y_n1, nI_add, pk_mul, j_lt, j_b1_s, j_b2_s, j_b3_s, j_b0_s, y_bo, y_bo1, y_bo0, y_i0, y_i1, Classical.not_not, nI_clamp, y_ix, y_lt, y_le, y_eq, y_nP, y_nPs, y_ltP, y_ltQ, y_ltPP, y_eqP, y_eqQ, y_eqPP, if_pos, if_neg, ite_true, ite_false, not_true_eq_false, not_false_eq_true, and_true, true_and, and_false, false_and, or_true, true_or, or_false, false_or, yc_isSlot, h]
    · unfold f_X12_asksBlows; simp (disch := omega) only [y_lit, y_n1, nI_add, pk_mul, j_lt, j_b1_s, j_b2_s, j_b3_s, j_b0_s, y_bo, y_bo1, y_bo0, y_i0, y_i1, Classical.not_not, nI_clamp, y_ix, y_lt, y_le, y_eq, y_nP, y_nPs, y_ltP, y_ltQ, y_ltPP, y_eqP, y_eqQ, y_eqPP, if_pos, if_neg, ite_true, ite_false, not_true_eq_false, not_false_eq_true, and_true, true_and, and_false, false_and, or_true, true_or, or_false, false_or, ym_isSlot, h]
/-! ===== blows judged: J 0 good, 1 red, 2 soon, 10 + i the sides of a coming that were hit ===== -/
noncomputable def y_sd (g : Nat → Nat) (i h : Nat) : Nat := if g (3 * i) = h then 1 else if g (3 * i + 1) = h + 1 then 2 else 0
noncomputable def y_ju (b g : Nat → Nat) (i h t lag : Nat) (J : Nat → Nat) : Nat → Nat := y_u (y_u (y_u (y_u J (10 + i) (J (10 + i) + y_sd g i h)) 0 (J 0 + (1 - g (3 * i + 2)))) 1 (J 1 + g (3 * i + 2))) 2 (J 2 + (if t - y_from b i < lag then 1 else 0))
noncomputable def y_jo (b g : Nat → Nat) (i h t lag : Nat) (J : Nat → Nat) : Nat → Nat := if y_sd g i h = 0 then J else if J (10 + i) / y_sd g i h % 2 = 1 then J else y_ju b g i h t lag J
noncomputable def y_j1 (b g : Nat → Nat) (s h t lag : Nat) (J : Nat → Nat) : Nat → Nat := if y_ui b t s 0 = 0 then J else y_jo b g (y_ui b t s 0 - 1) h t lag J
noncomputable def y_jl (b g : Nat → Nat) (s : Nat) (e : Nat → Nat) (lag : Nat) : Nat → Nat → (Nat → Nat) → Nat → Nat
  | 0, _, J => J
  | m + 1, i, J => y_jl b g s e lag m (i + 2) (y_j1 b g s (e i) (e (i + 1)) lag J)
noncomputable def y_tk (g : Nat → Nat) (i v : Nat) : Nat := (if v % 2 = 1 then 2 ^ g (3 * i) else 0) ||| (if v / 2 = 1 then 2 ^ (g (3 * i + 1) - 1) else 0)
def y_jv (g J : Nat → Nat) (s : Nat) : Prop := ∀ i, i < s → J (10 + i) ≤ 3 ∧ (J (10 + i) / 2 = 1 → g (3 * i + 1) ≠ 0)
def y_cj (σ : j_G) (g J : Nat → Nat) (s : Nat) : Prop := σ.1 40 0 = nI (J 0) ∧ σ.1 40 1 = nI (J 1) ∧ σ.1 40 2 = nI (J 2) ∧ ∀ i, i < s → σ.1 41 i = nI (y_tk g i (J (10 + i)))
def y_mj (τ : j_G) (J : Nat → Nat) (s : Nat) : Prop := τ.1 75 39 = nI (J 0) ∧ τ.1 75 40 = nI (J 1) ∧ τ.1 75 41 = nI (J 2) ∧ ∀ i, i < s → τ.1 93 i = nI (J (10 + i))
theorem y_sd_c (g : Nat → Nat) (i h : Nat) : y_sd g i h = 0 ∨ y_sd g i h = 1 ∨ y_sd g i h = 2 := by
  unfold y_sd; split
  · omega
  · split <;> omega
theorem y_vs1 : ∀ v, v < 4 → (v &&& 1 = 0 ↔ ¬ v / 1 % 2 = 1) ∧ (¬ v / 1 % 2 = 1 → v ||| 1 = v + 1) ∧ (¬ v / 1 % 2 = 1 → v + 1 < 4) := by decide
theorem y_vs2 : ∀ v, v < 4 → (v &&& 2 = 0 ↔ ¬ v / 2 % 2 = 1) ∧ (¬ v / 2 % 2 = 1 → v ||| 2 = v + 2) ∧ (¬ v / 2 % 2 = 1 → v + 2 < 4) := by decide
theorem y_vs (v : Nat) (hv : v < 4) (d : Nat) (hd : d < 3) (h0 : d ≠ 0) : (v &&& d = 0 ↔ ¬ v / d % 2 = 1) ∧ (¬ v / d % 2 = 1 → v ||| d = v + d ∧ v + d < 4) := by
  obtain rfl | rfl : d = 1 ∨ d = 2 := by omega
  · have q := y_vs1 v hv; exact ⟨q.1, fun z => ⟨q.2.1 z, q.2.2 z⟩⟩
  · have q := y_vs2 v hv; exact ⟨q.1, fun z => ⟨q.2.1 z, q.2.2 z⟩⟩
theorem y_jo_v {b g J : Nat → Nat} {s i h t lag : Nat} (hs : s ≤ 60) (hj : y_jv g J s) (hi : i < s) : y_jv g (y_jo b g i h t lag J) s := by
  unfold y_jo
  split
  · exact hj
  · split
    · exact hj
    · rename_i h0 h1
      intro k hk
      unfold y_ju
      by_cases e : k = i
      · subst e
        have q := hj k hk
        have c := y_sd_c g k h
        have z := (y_vs (J (10 + k)) (by omega) (y_sd g k h) (by omega) h0).2 h1
        simp (disch := omega) only [y_ue, y_un]
        refine ⟨by omega, fun y => ?_⟩
        rcases c with c | c | c
        · exact absurd c h0
        · rw [c] at y h1
          exact q.2 (by omega)
        · unfold y_sd at c
          by_cases c1 : g (3 * k) = h
          · rw [if_pos c1] at c; omega
          · rw [if_neg c1] at c
            by_cases c2 : g (3 * k + 1) = h + 1
            · omega
            · rw [if_neg c2] at c; omega
      · have q := hj k hk
        simp (disch := omega) only [y_ue, y_un]; exact q
theorem y_test {A T h : Nat} (hh : h < 12) : ((nI A &&& (nI T ^^^ nP 0)) &&& nI (2 ^ h) = nI 0) ↔ (A.testBit h = false ∨ T.testBit h = true) := by
  have e : ((nI A &&& (nI T ^^^ nP 0)) &&& nI (2 ^ h)).toBitVec = (BitVec.ofNat 32 A &&& ~~~ BitVec.ofNat 32 T) &&& BitVec.ofNat 32 (2 ^ h) := by
    show ((nI A).toBitVec &&& (nI T ^^^ nP 0).toBitVec) &&& (nI (2 ^ h)).toBitVec = _
    rw [y_nPx]; rfl
  rw [← Int32.toBitVec_inj, e, show (nI 0).toBitVec = 0#32 from rfl]
  have bit : ∀ i, i < 32 → ((BitVec.ofNat 32 A &&& ~~~ BitVec.ofNat 32 T) &&& BitVec.ofNat 32 (2 ^ h)).getLsbD i = ((A.testBit i && !T.testBit i) && decide (h = i)) := by
    intro i hi
    rw [BitVec.getLsbD_and, BitVec.getLsbD_and, BitVec.getLsbD_not, BitVec.getLsbD_ofNat, BitVec.getLsbD_ofNat, BitVec.getLsbD_ofNat, Nat.testBit_two_pow]
    simp [hi]
  constructor
  · intro z
    have q := bit h (by omega)
    rw [z] at q
    simp at q
    cases ha : A.testBit h with
    | false => exact Or.inl rfl
    | true => exact Or.inr (q ha)
  · intro z
    apply BitVec.eq_of_getLsbD_eq
    intro i hi
    rw [bit i hi]
    by_cases c : h = i
    · subst c
      rcases z with z | z
      · simp [z]
      · simp [z]
    · simp [c]
theorem y_hb_t {g : Nat → Nat} {i h : Nat} : (y_hb g i).testBit h = (decide (g (3 * i) = h) || (decide (g (3 * i + 1) ≠ 0) && decide (g (3 * i + 1) - 1 = h))) := by
  unfold y_hb
  rw [Nat.testBit_or, Nat.testBit_two_pow]
  by_cases z : g (3 * i + 1) = 0
  · rw [if_pos z]; simp [z]
  · rw [if_neg z, Nat.testBit_two_pow]; simp [z]
theorem y_tk_t {g : Nat → Nat} {i v h : Nat} : (y_tk g i v).testBit h = ((decide (v % 2 = 1) && decide (g (3 * i) = h)) || (decide (v / 2 = 1) && decide (g (3 * i + 1) - 1 = h))) := by
  unfold y_tk
  rw [Nat.testBit_or]
  by_cases z : v % 2 = 1
  · rw [if_pos z, Nat.testBit_two_pow]
    by_cases y : v / 2 = 1
    · rw [if_pos y, Nat.testBit_two_pow]; simp [z, y]
    · rw [if_neg y]; simp [z, y]
  · rw [if_neg z]
    by_cases y : v / 2 = 1
    · rw [if_pos y, Nat.testBit_two_pow]; simp [z, y]
    · rw [if_neg y]; simp [z, y]
theorem y_tst {g : Nat → Nat} {i v h : Nat} (hv : v ≤ 3) (ho : v / 2 = 1 → g (3 * i + 1) ≠ 0) (hd : g (3 * i + 1) ≠ g (3 * i) + 1) : ((y_hb g i).testBit h = false ∨ (y_tk g i v).testBit h = true) ↔ (y_sd g i h = 0 ∨ v / y_sd g i h % 2 = 1) := by
  rw [y_hb_t, y_tk_t]
  unfold y_sd
  by_cases c1 : g (3 * i) = h
  · have c2 : ¬ (g (3 * i + 1) ≠ 0 ∧ g (3 * i + 1) - 1 = h) := by omega
    rw [if_pos c1]
    have c3 : v / 2 = 1 → ¬ g (3 * i + 1) - 1 = h := fun z y => c2 ⟨ho z, y⟩
    simp only [c1, decide_true, Bool.true_or, Bool.and_true, Bool.or_eq_true, Bool.and_eq_true, decide_eq_true_eq, Nat.div_one]
    constructor
    · rintro (z | z | ⟨z1, z2⟩)
      · cases z
      · exact Or.inr z
      · exact absurd z2 (c3 z1)
    · rintro (z | z)
      · omega
      · exact Or.inr (Or.inl z)
  · rw [if_neg c1]
    by_cases c2 : g (3 * i + 1) = h + 1
    · rw [if_pos c2]
      have c3 : g (3 * i + 1) ≠ 0 := by omega
      have c4 : g (3 * i + 1) - 1 = h := by omega
      simp only [c1, c3, c4, decide_true, decide_false, ne_eq, not_false_eq_true, Bool.and_true, Bool.or_true, Bool.and_false, Bool.false_or, decide_eq_true_eq]
      constructor
      · rintro (z | z)
        · cases z
        · exact Or.inr (by omega)
      · rintro (z | z)
        · omega
        · exact Or.inr (by omega)
    · rw [if_neg c2]
      refine ⟨fun _ => Or.inl rfl, fun _ => Or.inl ?_⟩
      have c4 : ¬ (g (3 * i + 1) ≠ 0 ∧ g (3 * i + 1) - 1 = h) := by omega
      by_cases z : g (3 * i + 1) = 0
      · simp [c1, z]
      · have : ¬ g (3 * i + 1) - 1 = h := fun y => c4 ⟨z, y⟩
        simp [c1, this]
theorem y_tkn {g : Nat → Nat} {i v h : Nat} (hv : v ≤ 3) (h0 : y_sd g i h ≠ 0) (h1 : ¬ v / y_sd g i h % 2 = 1) : y_tk g i v ||| 2 ^ h = y_tk g i (v + y_sd g i h) := by
  have c := y_sd_c g i h
  rcases c with c | c | c
  · exact absurd c h0
  · have c1 : g (3 * i) = h := by
      unfold y_sd at c
      by_cases z : g (3 * i) = h
      · exact z
      · rw [if_neg z] at c; split at c <;> omega
    rw [c] at h1 ⊢
    unfold y_tk
    rw [if_neg (show ¬ v % 2 = 1 by omega), if_pos (show (v + 1) % 2 = 1 by omega), show (v + 1) / 2 = v / 2 from by omega, c1, Nat.zero_or, Nat.or_comm]
  · have c1 : g (3 * i + 1) - 1 = h := by
      unfold y_sd at c
      by_cases z : g (3 * i) = h
      · rw [if_pos z] at c; omega
      · rw [if_neg z] at c
        by_cases y : g (3 * i + 1) = h + 1
        · omega
        · rw [if_neg y] at c; omega
    rw [c] at h1 ⊢
    unfold y_tk
    rw [if_neg (show ¬ v / 2 = 1 by omega), if_pos (show (v + 2) / 2 = 1 by omega), show (v + 2) % 2 = v % 2 from by omega, c1, Nat.or_zero]
section C
variable {σ τ : j_G} {b g J : Nat → Nat} {s h t lag : Nat}
theorem yc_judge1 (hW : y_W b) (hc : y_cg σ b s g) (hv : y_vg b s g) (hj : y_jv g J s) (hJ : y_cj σ g J s) (hh : h < 12) (ht : t < 300) (hlag : lag ≤ 20) : ∃ σ', f_X1_judgeOne (nI h) (nI t) (nI lag) σ = some σ' ∧ y_cj σ' g (y_j1 b g s h t lag J) s ∧ y_fr 40 41 σ σ' := by
  have hs := hv.1
  have h2 := hW.b2
  have h4 := hW.ho
  have ul := y_ui_le (b := b) (t := t) s 0
  unfold f_X1_judgeOne y_j1
  rw [yc_upIn hc hv hW (by omega), j_b1_s]
  by_cases z : y_ui b t s 0 = 0
  · rw [if_pos z, z]
    refine ⟨σ, ?_, hJ, y_fr.refl⟩
    rw [yc_ghas hc hs, if_neg (fun q : y_rg (nP 0) s => absurd q.1 (by decide))]
    simp (disch := omega) only [y_lit, y_n1, nI_add, pk_mul, j_lt, j_b1_s, j_b2_s, j_b3_s, j_b0_s, y_bo, y_bo1, y_bo0, y_i0, y_i1, Classical.not_not, nI_clamp, y_ix, y_lt, y_le, y_eq, y_nP, y_nPs, y_ltP, y_ltQ, y_ltPP, y_eqP, y_eqQ, y_eqPP, if_pos, if_neg, ite_true, ite_false, not_true_eq_false, not_false_eq_true, and_true, true_and, and_false, false_and, or_true, true_or, or_false, false_or]
  · obtain ⟨i, hi⟩ : ∃ i, y_ui b t s 0 = i + 1 := ⟨y_ui b t s 0 - 1, by omega⟩
    have his : i < s := by omega
    rw [if_neg z, hi, Nat.add_sub_cancel, y_nPs]
    have vi := hv.2 i his
    have ci := hc.2 i his
    have ji := hj i his
    have le := y_last_le hW i
    have inr : y_from b i ≤ t := by
      have key : ∀ m k, y_ui b t m k = i + 1 → y_from b i ≤ t := by
        intro m
        induction m with
        | zero => intro k hk; exact absurd hk (by unfold y_ui; omega)
        | succ m ih =>
          intro k hk
          unfold y_ui at hk
          by_cases q : y_from b k ≤ t ∧ t ≤ y_last b k
          · rw [if_pos q] at hk
            obtain rfl : k = i := by omega
            exact q.1
          · rw [if_neg q] at hk; exact ih _ hk
      exact key s 0 hi
    have tki := hJ.2.2.2 i his
    have tt := y_test (A := y_hb g i) (T := y_tk g i (J (10 + i))) hh
    have ts := y_tst (g := g) (i := i) (v := J (10 + i)) (h := h) ji.1 ji.2 vi.2.2.1
    simp (disch := omega) only [y_lit, y_n1, nI_add, pk_mul, j_lt, j_b1_s, j_b2_s, j_b3_s, j_b0_s, y_bo, y_bo1, y_bo0, y_i0, y_i1, Classical.not_not, nI_clamp, y_ix, y_lt, y_le, y_eq, y_nP, y_nPs, y_ltP, y_ltQ, y_ltPP, y_eqP, y_eqQ, y_eqPP, if_pos, if_neg, ite_true, ite_false, not_true_eq_false, not_false_eq_true, and_true, true_and, and_false, false_and, or_true, true_or, or_false, false_or, yc_ghas hc hs, y_rn, yc_holesOf hc hv hW, tki, y_shl]
    unfold y_jo
    by_cases a : y_sd g i h = 0 ∨ J (10 + i) / y_sd g i h % 2 = 1
    · rw [if_pos (tt.mpr (ts.mpr a))]
      refine ⟨σ, rfl, ?_, y_fr.refl⟩
      by_cases a0 : y_sd g i h = 0
      · rw [if_pos a0]; exact hJ
      · rw [if_neg a0, if_pos (by omega)]; exact hJ
    · have a0 : y_sd g i h ≠ 0 := fun y => a (Or.inl y)
      have a1 : ¬ J (10 + i) / y_sd g i h % 2 = 1 := fun y => a (Or.inr y)
      rw [if_neg (fun y => a (ts.mp (tt.mp y))), if_neg a0, if_neg a1]
      have tkn := y_tkn (g := g) (i := i) ji.1 a0 a1
      simp (disch := omega) only [j_r_ne, j_r_eq, j_r_nj, y_lit, y_n1, nI_add, pk_mul, j_lt, j_b1_s, j_b2_s, j_b3_s, j_b0_s, y_bo, y_bo1, y_bo0, y_i0, y_i1, Classical.not_not, nI_clamp, y_ix, y_lt, y_le, y_eq, y_nP, y_nPs, y_ltP, y_ltQ, y_ltPP, y_eqP, y_eqQ, y_eqPP, if_pos, if_neg, ite_true, ite_false, not_true_eq_false, not_false_eq_true, and_true, true_and, and_false, false_and, or_true, true_or, or_false, false_or, y_or, tkn, ci, hJ.1, hJ.2.1, hJ.2.2.1]
      by_cases r : g (3 * i + 2) = 0
      · simp (disch := omega) only [j_r_ne, j_r_eq, j_r_nj, y_lit, y_n1, nI_add, pk_mul, j_lt, j_b1_s, j_b2_s, j_b3_s, j_b0_s, y_bo, y_bo1, y_bo0, y_i0, y_i1, Classical.not_not, nI_clamp, y_ix, y_lt, y_le, y_eq, y_nP, y_nPs, y_ltP, y_ltQ, y_ltPP, y_eqP, y_eqQ, y_eqPP, if_pos, if_neg, ite_true, ite_false, not_true_eq_false, not_false_eq_true, and_true, true_and, and_false, false_and, or_true, true_or, or_false, false_or, ci, pk_sub, hJ.2.2.1]
        by_cases so : t - y_from b i < lag
        · simp (disch := omega) only [y_lit, y_n1, nI_add, pk_mul, j_lt, j_b1_s, j_b2_s, j_b3_s, j_b0_s, y_bo, y_bo1, y_bo0, y_i0, y_i1, Classical.not_not, nI_clamp, y_ix, y_lt, y_le, y_eq, y_nP, y_nPs, y_ltP, y_ltQ, y_ltPP, y_eqP, y_eqQ, y_eqPP, if_pos, if_neg, ite_true, ite_false, not_true_eq_false, not_false_eq_true, and_true, true_and, and_false, false_and, or_true, true_or, or_false, false_or, j_r_ne, j_r_eq, j_r_nj]
          refine ⟨_, rfl, ⟨?_, ?_, ?_, fun k hk => ?_⟩, ((y_fr.refl.si (by omega) (by omega)).si (by omega) (by omega)).si (by omega) (by omega)⟩
          · unfold y_ju; simp (disch := omega) only [j_r_ne, j_r_eq, j_r_nj, y_ue, y_un, r]
          · unfold y_ju; simp (disch := omega) only [j_r_ne, j_r_eq, j_r_nj, y_ue, y_un, r, Nat.add_zero]; exact hJ.2.1
          · unfold y_ju; simp (disch := omega) only [j_r_ne, j_r_eq, j_r_nj, y_ue, y_un, y_lit, y_n1, nI_add, pk_mul, j_lt, j_b1_s, j_b2_s, j_b3_s, j_b0_s, y_bo, y_bo1, y_bo0, y_i0, y_i1, Classical.not_not, nI_clamp, y_ix, y_lt, y_le, y_eq, y_nP, y_nPs, y_ltP, y_ltQ, y_ltPP, y_eqP, y_eqQ, y_eqPP, if_pos, if_neg, ite_true, ite_false, not_true_eq_false, not_false_eq_true, and_true, true_and, and_false, false_and, or_true, true_or, or_false, false_or]
          · unfold y_ju
            by_cases e : k = i
            · subst e; simp (disch := omega) only [j_r_ne, j_r_eq, j_r_nj, y_ue, y_un]
            · simp (disch := omega) only [j_r_ne, j_r_eq, j_r_nj, y_ue, y_un]; exact hJ.2.2.2 k hk
        · simp (disch := omega) only [y_lit, y_n1, nI_add, pk_mul, j_lt, j_b1_s, j_b2_s, j_b3_s, j_b0_s, y_bo, y_bo1, y_bo0, y_i0, y_i1, Classical.not_not, nI_clamp, y_ix, y_lt, y_le, y_eq, y_nP, y_nPs, y_ltP, y_ltQ, y_ltPP, y_eqP, y_eqQ, y_eqPP, if_pos, if_neg, ite_true, ite_false, not_true_eq_false, not_false_eq_true, and_true, true_and, and_false, false_and, or_true, true_or, or_false, false_or, j_r_ne, j_r_eq, j_r_nj]
          refine ⟨_, rfl, ⟨?_, ?_, ?_, fun k hk => ?_⟩, (y_fr.refl.si (by omega) (by omega)).si (by omega) (by omega)⟩
          · unfold y_ju; simp (disch := omega) only [j_r_ne, j_r_eq, j_r_nj, y_ue, y_un, r]
          · unfold y_ju; simp (disch := omega) only [j_r_ne, j_r_eq, j_r_nj, y_ue, y_un, r, Nat.add_zero]; exact hJ.2.1
          · unfold y_ju; simp (disch := omega) only [j_r_ne, j_r_eq, j_r_nj, y_ue, y_un, y_lit, y_n1, nI_add, pk_mul, j_lt, j_b1_s, j_b2_s, j_b3_s, j_b0_s, y_bo, y_bo1, y_bo0, y_i0, y_i1, Classical.not_not, nI_clamp, y_ix, y_lt, y_le, y_eq, y_nP, y_nPs, y_ltP, y_ltQ, y_ltPP, y_eqP, y_eqQ, y_eqPP, if_pos, if_neg, ite_true, ite_false, not_true_eq_false, not_false_eq_true, and_true, true_and, and_false, false_and, or_true, true_or, or_false, false_or, Nat.add_zero]; exact hJ.2.2.1
          · unfold y_ju
            by_cases e : k = i
            · subst e; simp (disch := omega) only [j_r_ne, j_r_eq, j_r_nj, y_ue, y_un]
            · simp (disch := omega) only [j_r_ne, j_r_eq, j_r_nj, y_ue, y_un]; exact hJ.2.2.2 k hk
      · have r1 : g (3 * i + 2) = 1 := by omega
        simp (disch := omega) only [j_r_ne, j_r_eq, j_r_nj, y_lit, y_n1, nI_add, pk_mul, j_lt, j_b1_s, j_b2_s, j_b3_s, j_b0_s, y_bo, y_bo1, y_bo0, y_i0, y_i1, Classical.not_not, nI_clamp, y_ix, y_lt, y_le, y_eq, y_nP, y_nPs, y_ltP, y_ltQ, y_ltPP, y_eqP, y_eqQ, y_eqPP, if_pos, if_neg, ite_true, ite_false, not_true_eq_false, not_false_eq_true, and_true, true_and, and_false, false_and, or_true, true_or, or_false, false_or, ci, pk_sub, hJ.2.2.1]
        by_cases so : t - y_from b i < lag
        · simp (disch := omega) only [y_lit, y_n1, nI_add, pk_mul, j_lt, j_b1_s, j_b2_s, j_b3_s, j_b0_s, y_bo, y_bo1, y_bo0, y_i0, y_i1, Classical.not_not, nI_clamp, y_ix, y_lt, y_le, y_eq, y_nP, y_nPs, y_ltP, y_ltQ, y_ltPP, y_eqP, y_eqQ, y_eqPP, if_pos, if_neg, ite_true, ite_false, not_true_eq_false, not_false_eq_true, and_true, true_and, and_false, false_and, or_true, true_or, or_false, false_or, j_r_ne, j_r_eq, j_r_nj]
          refine ⟨_, rfl, ⟨?_, ?_, ?_, fun k hk => ?_⟩, ((y_fr.refl.si (by omega) (by omega)).si (by omega) (by omega)).si (by omega) (by omega)⟩
          · unfold y_ju; simp (disch := omega) only [j_r_ne, j_r_eq, j_r_nj, y_ue, y_un, r1, Nat.sub_self, Nat.add_zero]; exact hJ.1
          · unfold y_ju; simp (disch := omega) only [j_r_ne, j_r_eq, j_r_nj, y_ue, y_un, r1]
          · unfold y_ju; simp (disch := omega) only [j_r_ne, j_r_eq, j_r_nj, y_ue, y_un, y_lit, y_n1, nI_add, pk_mul, j_lt, j_b1_s, j_b2_s, j_b3_s, j_b0_s, y_bo, y_bo1, y_bo0, y_i0, y_i1, Classical.not_not, nI_clamp, y_ix, y_lt, y_le, y_eq, y_nP, y_nPs, y_ltP, y_ltQ, y_ltPP, y_eqP, y_eqQ, y_eqPP, if_pos, if_neg, ite_true, ite_false, not_true_eq_false, not_false_eq_true, and_true, true_and, and_false, false_and, or_true, true_or, or_false, false_or]
          · unfold y_ju
            by_cases e : k = i
            · subst e; simp (disch := omega) only [j_r_ne, j_r_eq, j_r_nj, y_ue, y_un]
            · simp (disch := omega) only [j_r_ne, j_r_eq, j_r_nj, y_ue, y_un]; exact hJ.2.2.2 k hk
        · simp (disch := omega) only [y_lit, y_n1, nI_add, pk_mul, j_lt, j_b1_s, j_b2_s, j_b3_s, j_b0_s, y_bo, y_bo1, y_bo0, y_i0, y_i1, Classical.not_not, nI_clamp, y_ix, y_lt, y_le, y_eq, y_nP, y_nPs, y_ltP, y_ltQ, y_ltPP, y_eqP, y_eqQ, y_eqPP, if_pos, if_neg, ite_true, ite_false, not_true_eq_false, not_false_eq_true, and_true, true_and, and_false, false_and, or_true, true_or, or_false, false_or, j_r_ne, j_r_eq, j_r_nj]
          refine ⟨_, rfl, ⟨?_, ?_, ?_, fun k hk => ?_⟩, (y_fr.refl.si (by omega) (by omega)).si (by omega) (by omega)⟩
          · unfold y_ju; simp (disch := omega) only [j_r_ne, j_r_eq, j_r_nj, y_ue, y_un, r1, Nat.sub_self, Nat.add_zero]; exact hJ.1
          · unfold y_ju; simp (disch := omega) only [j_r_ne, j_r_eq, j_r_nj, y_ue, y_un, r1]
          · unfold y_ju; simp (disch := omega) only [j_r_ne, j_r_eq, j_r_nj, y_ue, y_un, y_lit, y_n1, nI_add, pk_mul, j_lt, j_b1_s, j_b2_s, j_b3_s, j_b0_s, y_bo, y_bo1, y_bo0, y_i0, y_i1, Classical.not_not, nI_clamp, y_ix, y_lt, y_le, y_eq, y_nP, y_nPs, y_ltP, y_ltQ, y_ltPP, y_eqP, y_eqQ, y_eqPP, if_pos, if_neg, ite_true, ite_false, not_true_eq_false, not_false_eq_true, and_true, true_and, and_false, false_and, or_true, true_or, or_false, false_or, Nat.add_zero]; exact hJ.2.2.1
          · unfold y_ju
            by_cases e : k = i
            · subst e; simp (disch := omega) only [j_r_ne, j_r_eq, j_r_nj, y_ue, y_un]
            · simp (disch := omega) only [j_r_ne, j_r_eq, j_r_nj, y_ue, y_un]; exact hJ.2.2.2 k hk
end C
/-! ===== blows judged: the reference, and the three questions ===== -/
section M
variable {τ : j_G} {b g J : Nat → Nat} {s h t lag : Nat}
theorem y_mg.fr2 {τ τ' : j_G} {b g : Nat → Nat} {s : Nat} (hg : y_mg τ b s g) (e18 : τ'.1 75 18 = τ.1 75 18) (e82 : τ'.1 82 = τ.1 82) (e83 : τ'.1 83 = τ.1 83) (e84 : τ'.1 84 = τ.1 84) : y_mg τ' b s g := by
  unfold y_mg at *; rw [e18, e82, e83, e84]; exact hg
theorem ym_strike (hW : y_W b) (hg : y_mg τ b s g) (hv : y_vg b s g) (hj : y_jv g J s) (hJ : y_mj τ J s) (hh : h < 12) (ht : t < 300) (hlag : lag ≤ 20) : ∃ τ', f_X12_strike (nI h) (nI t) (nI lag) τ = some τ' ∧ y_mj τ' (y_j1 b g s h t lag J) s ∧ y_fm 39 41 93 93 τ τ' := by
  have hs := hv.1
  have h2 := hW.b2
  have h4 := hW.ho
  have side : ∀ i, i < s → (j_b1 (f_X12_inGame (nI i) (nI 0) τ) fun v1 => j_b1 (if v1 = nI h then (some (nI 1)) else (j_b1 (f_X12_inGame (nI i) (nI 1) τ) fun v3 => if v3 = nI h then (some (nI 2)) else (some (nI 0)))) fun v2 => some v2) = some (nI (y_sd g i h)) := by
    intro i hi
    have gi := hg.2 i hi
    have vi := hv.2 i hi
    unfold f_X12_inGame y_sd
    simp (disch := omega) only [y_lit, y_n1, nI_add, pk_mul, j_lt, j_b1_s, j_b2_s, j_b3_s, j_b0_s, y_bo, y_bo1, y_bo0, y_i0, y_i1, Classical.not_not, nI_clamp, y_ix, y_lt, y_le, y_eq, y_nP, y_nPs, y_ltP, y_ltQ, y_ltPP, y_eqP, y_eqQ, y_eqPP, if_pos, if_neg, ite_true, ite_false, not_true_eq_false, not_false_eq_true, and_true, true_and, and_false, false_and, or_true, true_or, or_false, false_or, Nat.add_zero, gi]
    by_cases c1 : g (3 * i) = h
    · simp (disch := omega) only [y_lit, y_n1, nI_add, pk_mul, j_lt, j_b1_s, j_b2_s, j_b3_s, j_b0_s, y_bo, y_bo1, y_bo0, y_i0, y_i1, Classical.not_not, nI_clamp, y_ix, y_lt, y_le, y_eq, y_nP, y_nPs, y_ltP, y_ltQ, y_ltPP, y_eqP, y_eqQ, y_eqPP, if_pos, if_neg, ite_true, ite_false, not_true_eq_false, not_false_eq_true, and_true, true_and, and_false, false_and, or_true, true_or, or_false, false_or]
    · by_cases c2 : g (3 * i + 1) = h + 1
      · simp (disch := omega) only [y_lit, y_n1, nI_add, pk_mul, j_lt, j_b1_s, j_b2_s, j_b3_s, j_b0_s, y_bo, y_bo1, y_bo0, y_i0, y_i1, Classical.not_not, nI_clamp, y_ix, y_lt, y_le, y_eq, y_nP, y_nPs, y_ltP, y_ltQ, y_ltPP, y_eqP, y_eqQ, y_eqPP, if_pos, if_neg, ite_true, ite_false, not_true_eq_false, not_false_eq_true, and_true, true_and, and_false, false_and, or_true, true_or, or_false, false_or]
      · simp (disch := omega) only [y_lit, y_n1, nI_add, pk_mul, j_lt, j_b1_s, j_b2_s, j_b3_s, j_b0_s, y_bo, y_bo1, y_bo0, y_i0, y_i1, Classical.not_not, nI_clamp, y_ix, y_lt, y_le, y_eq, y_nP, y_nPs, y_ltP, y_ltQ, y_ltPP, y_eqP, y_eqQ, y_eqPP, if_pos, if_neg, ite_true, ite_false, not_true_eq_false, not_false_eq_true, and_true, true_and, and_false, false_and, or_true, true_or, or_false, false_or]
  have stp : ∀ i n, i < s → p_X12_strike_3 (nI h) (nI t) (nI lag) τ (n + 1) (nI i) = (if ¬ nI (y_sd g i h) = nI 0 then (if ¬ (if y_from b i ≤ t ∧ t ≤ y_last b i then nI 1 else nI 0) = nI 0 then (if ¬ (nI (J (10 + i)) &&& nI (y_sd g i h)) = nI 0 then p_X12_strike_3 (nI h) (nI t) (nI lag) τ n (nI (i + 1)) else (some (j_si (j_si (j_si (j_si τ 93 i (nI (J (10 + i)) ||| nI (y_sd g i h))) 75 39 (nI (J 0) + (nI 1 - nI (g (3 * i + 2))))) 75 40 (nI (J 1) + nI (g (3 * i + 2)))) 75 41 (nI (J 2) + (if nI t - nI (y_from b i) < nI lag then nI 1 else nI 0))))) else p_X12_strike_3 (nI h) (nI t) (nI lag) τ n (nI (i + 1))) else p_X12_strike_3 (nI h) (nI t) (nI lag) τ n (nI (i + 1))) := by
    intro i n hi
    have gi := hg.2 i hi
    have vi := hv.2 i hi
    have ji := hj i hi
    have le := y_last_le hW i
    have hlt : nI i < nI s := (y_lt (by omega) (by omega)).mpr hi
    have ein : f_X12_in (nI t).toInt64 (nI (y_from b i)).toInt64 (nI (y_last b i)).toInt64 = if y_from b i ≤ t ∧ t ≤ y_last b i then nI 1 else nI 0 := by
      rw [y_in]
      by_cases q : y_from b i ≤ t ∧ t ≤ y_last b i
      · rw [if_pos q, if_pos ⟨by rw [y_lt (by omega) (by omega)]; omega, by rw [y_lt (by omega) (by omega)]; omega⟩]
      · rw [if_neg q, if_neg]
        rw [y_lt (by omega) (by omega), y_lt (by omega) (by omega)]; omega
    have sd := side i hi
    have ig0 : f_X12_inGame (nI i) (nI 0) τ = some (nI (g (3 * i))) := by unfold f_X12_inGame; simp (disch := omega) only [y_lit, y_n1, nI_add, pk_mul, j_lt, j_b1_s, j_b2_s, j_b3_s, j_b0_s, y_bo, y_bo1, y_bo0, y_i0, y_i1, Classical.not_not, nI_clamp, y_ix, y_lt, y_le, y_eq, y_nP, y_nPs, y_ltP, y_ltQ, y_ltPP, y_eqP, y_eqQ, y_eqPP, if_pos, if_neg, ite_true, ite_false, not_true_eq_false, not_false_eq_true, and_true, true_and, and_false, false_and, or_true, true_or, or_false, false_or, Nat.add_zero, gi]
    have ig1 : f_X12_inGame (nI i) (nI 1) τ = some (nP (g (3 * i + 1))) := by unfold f_X12_inGame; simp (disch := omega) only [y_lit, y_n1, nI_add, pk_mul, j_lt, j_b1_s, j_b2_s, j_b3_s, j_b0_s, y_bo, y_bo1, y_bo0, y_i0, y_i1, Classical.not_not, nI_clamp, y_ix, y_lt, y_le, y_eq, y_nP, y_nPs, y_ltP, y_ltQ, y_ltPP, y_eqP, y_eqQ, y_eqPP, if_pos, if_neg, ite_true, ite_false, not_true_eq_false, not_false_eq_true, and_true, true_and, and_false, false_and, or_true, true_or, or_false, false_or, gi]
    have ig2 : ∀ τ' : j_G, τ'.1 82 = τ.1 82 → f_X12_inGame (nI i) (nI 2) τ' = some (nI (g (3 * i + 2))) := by
      intro τ' e; unfold f_X12_inGame; simp (disch := omega) only [y_lit, y_n1, nI_add, pk_mul, j_lt, j_b1_s, j_b2_s, j_b3_s, j_b0_s, y_bo, y_bo1, y_bo0, y_i0, y_i1, Classical.not_not, nI_clamp, y_ix, y_lt, y_le, y_eq, y_nP, y_nPs, y_ltP, y_ltQ, y_ltPP, y_eqP, y_eqQ, y_eqPP, if_pos, if_neg, ite_true, ite_false, not_true_eq_false, not_false_eq_true, and_true, true_and, and_false, false_and, or_true, true_or, or_false, false_or, e, gi]
    have sdv : (if nI (g (3 * i)) = nI h then some (nI 1) else (j_b1 (some (nP (g (3 * i + 1)))) fun v3 => if v3 = nI h then (some (nI 2)) else (some (nI 0)))) = some (nI (y_sd g i h)) := by
      unfold y_sd
      by_cases c1 : g (3 * i) = h
      · simp (disch := omega) only [y_lit, y_n1, nI_add, pk_mul, j_lt, j_b1_s, j_b2_s, j_b3_s, j_b0_s, y_bo, y_bo1, y_bo0, y_i0, y_i1, Classical.not_not, nI_clamp, y_ix, y_lt, y_le, y_eq, y_nP, y_nPs, y_ltP, y_ltQ, y_ltPP, y_eqP, y_eqQ, y_eqPP, if_pos, if_neg, ite_true, ite_false, not_true_eq_false, not_false_eq_true, and_true, true_and, and_false, false_and, or_true, true_or, or_false, false_or]
      · by_cases c2 : g (3 * i + 1) = h + 1
        · simp (disch := omega) only [y_lit, y_n1, nI_add, pk_mul, j_lt, j_b1_s, j_b2_s, j_b3_s, j_b0_s, y_bo, y_bo1, y_bo0, y_i0, y_i1, Classical.not_not, nI_clamp, y_ix, y_lt, y_le, y_eq, y_nP, y_nPs, y_ltP, y_ltQ, y_ltPP, y_eqP, y_eqQ, y_eqPP, if_pos, if_neg, ite_true, ite_false, not_true_eq_false, not_false_eq_true, and_true, true_and, and_false, false_and, or_true, true_or, or_false, false_or]
        · simp (disch := omega) only [y_lit, y_n1, nI_add, pk_mul, j_lt, j_b1_s, j_b2_s, j_b3_s, j_b0_s, y_bo, y_bo1, y_bo0, y_i0, y_i1, Classical.not_not, nI_clamp, y_ix, y_lt, y_le, y_eq, y_nP, y_nPs, y_ltP, y_ltQ, y_ltPP, y_eqP, y_eqQ, y_eqPP, if_pos, if_neg, ite_true, ite_false, not_true_eq_false, not_false_eq_true, and_true, true_and, and_false, false_and, or_true, true_or, or_false, false_or]
    rw [p_X12_strike_3, hg.1, if_pos hlt, show (0 : Int32) = nI 0 from rfl, show (1 : Int32) = nI 1 from rfl, show (2 : Int32) = nI 2 from rfl, ig0, j_b1_s, ig1, sdv, j_b1_s]
    simp only [j_lt]
    simp (disch := omega) only [y_ix, nI_clamp, gi, ein, hJ.2.2.2 i hi, nI_add]
    rw [ig2 _ (by funext j; simp (disch := omega) only [j_r_ne, j_r_eq, j_r_nj]), j_b1_s, ig2 _ (by funext j; simp (disch := omega) only [j_r_ne, j_r_eq, j_r_nj]), j_b1_s]
    simp (disch := omega) only [j_r_ne, j_r_eq, j_r_nj, hJ.1, hJ.2.1, hJ.2.2.1, gi, nI_add]
  have skip : ∀ m i n, i + m = s → m < n → (∀ j, i ≤ j → j < s → t < y_from b j) → p_X12_strike_3 (nI h) (nI t) (nI lag) τ n (nI i) = some τ := by
    intro m
    induction m with
    | zero =>
      intro i n hh hn _
      obtain ⟨n, rfl⟩ := y_pos hn
      unfold p_X12_strike_3; simp (disch := omega) only [y_lit, y_n1, nI_add, pk_mul, j_lt, j_b1_s, j_b2_s, j_b3_s, j_b0_s, y_bo, y_bo1, y_bo0, y_i0, y_i1, Classical.not_not, nI_clamp, y_ix, y_lt, y_le, y_eq, y_nP, y_nPs, y_ltP, y_ltQ, y_ltPP, y_eqP, y_eqQ, y_eqPP, if_pos, if_neg, ite_true, ite_false, not_true_eq_false, not_false_eq_true, and_true, true_and, and_false, false_and, or_true, true_or, or_false, false_or, hg.1]
    | succ m ih =>
      intro i n hh hn hl
      obtain ⟨n, rfl⟩ := y_pos hn
      have i1 := ih (i + 1) n (by omega) (by omega) (fun j a c => hl j (by omega) c)
      have := hl i (by omega) (by omega)
      rw [stp i n (by omega), i1, if_neg (fun q : y_from b i ≤ t ∧ t ≤ y_last b i => by omega), if_neg (show ¬ ¬ nI 0 = nI 0 from fun q => q rfl)]
      split <;> rfl
  have key : ∀ m i n, i + m = s → m < n → ∃ τ', p_X12_strike_3 (nI h) (nI t) (nI lag) τ n (nI i) = some τ' ∧ y_mj τ' (if y_ui b t m i = 0 then J else y_jo b g (y_ui b t m i - 1) h t lag J) s ∧ y_fm 39 41 93 93 τ τ' := by
    intro m
    induction m with
    | zero =>
      intro i n hh hn
      obtain ⟨n, rfl⟩ := y_pos hn
      refine ⟨τ, ?_, hJ, y_fm.refl⟩
      unfold p_X12_strike_3; simp (disch := omega) only [y_lit, y_n1, nI_add, pk_mul, j_lt, j_b1_s, j_b2_s, j_b3_s, j_b0_s, y_bo, y_bo1, y_bo0, y_i0, y_i1, Classical.not_not, nI_clamp, y_ix, y_lt, y_le, y_eq, y_nP, y_nPs, y_ltP, y_ltQ, y_ltPP, y_eqP, y_eqQ, y_eqPP, if_pos, if_neg, ite_true, ite_false, not_true_eq_false, not_false_eq_true, and_true, true_and, and_false, false_and, or_true, true_or, or_false, false_or, hg.1]
    | succ m ih =>
      intro i n hh hn
      obtain ⟨n, rfl⟩ := y_pos hn
      have vi := hv.2 i (by omega)
      have ji := hj i (by omega)
      have le := y_last_le hW i
      rw [stp i n (by omega)]
      unfold y_ui
      by_cases c : y_from b i ≤ t ∧ t ≤ y_last b i
      · have sk := skip m (i + 1) n (by omega) (by omega) (fun j a d => by have := y_apart2 hW (show i < j by omega); omega)
        rw [if_pos c, if_pos c, if_neg (Nat.succ_ne_zero i), Nat.add_sub_cancel, sk]
        unfold y_jo
        rw [if_pos (show ¬ nI 1 = nI 0 from by decide)]
        by_cases a0 : y_sd g i h = 0
        · rw [if_pos a0, a0, if_neg (fun q => q rfl)]
          exact ⟨τ, rfl, hJ, y_fm.refl⟩
        · have scs := y_sd_c g i h
          have n0 : ¬ nI (y_sd g i h) = nI 0 := by rw [y_eq (by omega) (by omega)]; exact a0
          rw [if_neg a0, if_pos n0, y_and]
          have vs := y_vs (J (10 + i)) (by omega) (y_sd g i h) (by omega) a0
          have al : J (10 + i) &&& y_sd g i h < 4 := Nat.and_lt_two_pow (n := 2) _ (by omega)
          by_cases a1 : J (10 + i) / y_sd g i h % 2 = 1
          · rw [if_pos a1, if_pos (by rw [y_eq (by omega) (by omega)]; exact fun q => vs.1.mp q a1)]
            exact ⟨τ, rfl, hJ, y_fm.refl⟩
          · rw [if_neg a1, if_neg (by rw [y_eq (by omega) (by omega)]; exact fun q => q (vs.1.mpr a1))]
            refine ⟨_, rfl, ⟨?_, ?_, ?_, fun k hk => ?_⟩, (((y_fm.refl.si (by omega) (by omega) (by omega)).so (by omega) (by omega)).so (by omega) (by omega)).so (by omega) (by omega)⟩
            · unfold y_ju; simp (disch := omega) only [j_r_ne, j_r_eq, j_r_nj, y_ue, y_un, pk_sub, nI_add]
            · unfold y_ju; simp (disch := omega) only [j_r_ne, j_r_eq, j_r_nj, y_ue, y_un, nI_add]
            · unfold y_ju; simp (disch := omega) only [j_r_ne, j_r_eq, j_r_nj, y_ue, y_un, pk_sub, y_lt, y_pI, nI_add]
            · unfold y_ju
              by_cases e : k = i
              · subst e; simp (disch := omega) only [j_r_ne, j_r_eq, j_r_nj, y_ue, y_un, y_or, (vs.2 a1).1]
              · simp (disch := omega) only [j_r_ne, j_r_eq, j_r_nj, y_ue, y_un]; exact hJ.2.2.2 k hk
      · rw [if_neg c, if_neg c, if_neg (show ¬ ¬ nI 0 = nI 0 from fun q => q rfl)]
        obtain ⟨τ', e1, e2, e3⟩ := ih (i + 1) n (by omega) (by omega)
        refine ⟨τ', ?_, e2, e3⟩
        rw [e1]
        split <;> rfl
  have k := key s 0 j_F (by omega) (y_F (by omega))
  unfold f_X12_strike y_j1
  exact k
end M
section B
variable {b g e : Nat → Nat} {s lag n : Nat}
theorem y_tk0 {i : Nat} : y_tk g i 0 = 0 := by
  unfold y_tk; rw [if_neg (by decide), if_neg (by decide)]; rfl
theorem y_jv0 : y_jv g (fun _ => 0) s := fun i _ => ⟨Nat.zero_le _, fun z => absurd (show 0 / 2 = 1 from z) (by decide)⟩
theorem y_j1_v {J : Nat → Nat} {h t : Nat} (hv : y_vg b s g) (hj : y_jv g J s) : y_jv g (y_j1 b g s h t lag J) s := by
  have ul := y_ui_le (b := b) (t := t) s 0
  unfold y_j1
  split
  · exact hj
  · exact y_jo_v hv.1 hj (by omega)
theorem yc_jl {σ0 τ0 : j_G} {sl c d : Nat} (hW : y_W b) (hv : y_vg b s g) (hlag : lag ≤ 20) (hd : y_hd σ0 τ0 sl c d n e) (hee : ∀ i, 2 * i < n → e (2 * i) < y_ho b ∧ e (2 * i + 1) < b 2) (hev : n % 2 = 0) : ∀ m i f J σ, 2 * i + 2 * m = n → m < f → y_cg σ b s g → y_jv g J s → y_cj σ g J s → (∀ j, σ.1 c j = σ0.1 c j) → (∀ j, σ.2 d j = σ0.2 d j) → ∃ σ', p_X1_judge_44 c d (nI lag) f (nI (2 * i)) σ = some σ' ∧ y_cj σ' g (y_jl b g s e lag m (2 * i) J) s ∧ y_fr 40 41 σ σ' := by
  have h2 := hW.b2
  have h4 := hW.ho
  have hcd : c ≠ 40 ∧ c ≠ 41 ∧ 41 < c ∧ 41 < d := by have := hd.1; unfold y_sc at this; omega
  have hn := hd.2.1
  intro m
  induction m with
  | zero =>
    intro i f J σ hh hf hc hj hJ e1 e2
    obtain ⟨f, rfl⟩ := y_pos hf
    refine ⟨σ, ?_, hJ, y_fr.refl⟩
    unfold p_X1_judge_44; simp (disch := omega) only [y_lit, y_n1, nI_add, pk_mul, j_lt, j_b1_s, j_b2_s, j_b3_s, j_b0_s, y_bo, y_bo1, y_bo0, y_i0, y_i1, Classical.not_not, nI_clamp, y_ix, y_lt, y_le, y_eq, y_nP, y_nPs, y_ltP, y_ltQ, y_ltPP, y_eqP, y_eqQ, y_eqPP, if_pos, if_neg, ite_true, ite_false, not_true_eq_false, not_false_eq_true, and_true, true_and, and_false, false_and, or_true, true_or, or_false, false_or, e1, hd.2.2.1]
  | succ m ih =>
    intro i f J σ hh hf hc hj hJ e1 e2
    obtain ⟨f, rfl⟩ := y_pos hf
    have x1 := (hd.2.2.2.2 (2 * i) (by omega)).2.1
    have x2 := (hd.2.2.2.2 (2 * i + 1) (by omega)).2.1
    have bd := hee i (by omega)
    obtain ⟨σ1, k1, k2, k3⟩ := yc_judge1 (h := e (2 * i)) (t := e (2 * i + 1)) hW hc hv hj hJ (by omega) (by omega) hlag
    have hc1 := hc.fr k3 (by omega)
    obtain ⟨σ2, g1, g2, g3⟩ := ih (i + 1) f _ σ1 (by omega) (by omega) hc1 (y_j1_v hv hj) k2 (fun j => by rw [k3.i c j (by omega), e1]) (fun j => by rw [k3.l d j (by omega), e2])
    refine ⟨σ2, ?_, g2, k3.trans g3⟩
    unfold p_X1_judge_44; simp (disch := omega) only [y_lit, y_n1, nI_add, pk_mul, j_lt, j_b1_s, j_b2_s, j_b3_s, j_b0_s, y_bo, y_bo1, y_bo0, y_i0, y_i1, Classical.not_not, nI_clamp, y_ix, y_lt, y_le, y_eq, y_nP, y_nPs, y_ltP, y_ltQ, y_ltPP, y_eqP, y_eqQ, y_eqPP, if_pos, if_neg, ite_true, ite_false, not_true_eq_false, not_false_eq_true, and_true, true_and, and_false, false_and, or_true, true_or, or_false, false_or, e1, hd.2.2.1, e2, x1, x2, lN_i, k1]
    rw [show 2 * i + 2 = 2 * (i + 1) from by omega]
    exact g1
theorem ym_jl {σ0 τ0 : j_G} {sl c d : Nat} (hW : y_W b) (hv : y_vg b s g) (hlag : lag ≤ 20) (hd : y_hd σ0 τ0 sl c d n e) (hee : ∀ i, 2 * i < n → e (2 * i) < y_ho b ∧ e (2 * i + 1) < b 2) (hev : n % 2 = 0) : ∀ m i f J τ, 2 * i + 2 * m = n → m < f → y_mg τ b s g → y_jv g J s → y_mj τ J s → (∀ j, τ.1 94 j = τ0.1 94 j) → (∀ j, τ.2 96 j = τ0.2 96 j) → ∃ τ', p_X12_layBlows_44 (nI sl) (nI lag) f (nI (2 * i)) τ = some τ' ∧ y_mj τ' (y_jl b g s e lag m (2 * i) J) s ∧ y_fm 39 41 93 93 τ τ' := by
  have h2 := hW.b2
  have h4 := hW.ho
  have hs4 := hd.s4
  have hn := hd.2.1
  intro m
  induction m with
  | zero =>
    intro i f J τ hh hf hc hj hJ e1 e2
    obtain ⟨f, rfl⟩ := y_pos hf
    refine ⟨τ, ?_, hJ, y_fm.refl⟩
    unfold p_X12_layBlows_44; simp (disch := omega) only [y_lit, y_n1, nI_add, pk_mul, j_lt, j_b1_s, j_b2_s, j_b3_s, j_b0_s, y_bo, y_bo1, y_bo0, y_i0, y_i1, Classical.not_not, nI_clamp, y_ix, y_lt, y_le, y_eq, y_nP, y_nPs, y_ltP, y_ltQ, y_ltPP, y_eqP, y_eqQ, y_eqPP, if_pos, if_neg, ite_true, ite_false, not_true_eq_false, not_false_eq_true, and_true, true_and, and_false, false_and, or_true, true_or, or_false, false_or, e1, hd.2.2.2.1]
  | succ m ih =>
    intro i f J τ hh hf hc hj hJ e1 e2
    obtain ⟨f, rfl⟩ := y_pos hf
    have x1 := (hd.2.2.2.2 (2 * i) (by omega)).2.2
    have x2 := (hd.2.2.2.2 (2 * i + 1) (by omega)).2.2
    rw [← Nat.add_assoc] at x2
    have bd := hee i (by omega)
    obtain ⟨τ1, k1, k2, k3⟩ := ym_strike (h := e (2 * i)) (t := e (2 * i + 1)) hW hc hv hj hJ (by omega) (by omega) hlag
    have hc1 := hc.fr k3 (by omega) (by omega)
    obtain ⟨τ2, g1, g2, g3⟩ := ih (i + 1) f _ τ1 (by omega) (by omega) hc1 (y_j1_v hv hj) k2 (fun j => by rw [k3.i 94 j (by omega) (by omega), e1]) (fun j => by rw [k3.l 96 j (by omega) (by omega), e2])
    refine ⟨τ2, ?_, g2, k3.trans g3⟩
    unfold p_X12_layBlows_44 f_X12_numberAt; simp (disch := omega) only [y_lit, y_n1, nI_add, pk_mul, j_lt, j_b1_s, j_b2_s, j_b3_s, j_b0_s, y_bo, y_bo1, y_bo0, y_i0, y_i1, Classical.not_not, nI_clamp, y_ix, y_lt, y_le, y_eq, y_nP, y_nPs, y_ltP, y_ltQ, y_ltPP, y_eqP, y_eqQ, y_eqPP, if_pos, if_neg, ite_true, ite_false, not_true_eq_false, not_false_eq_true, and_true, true_and, and_false, false_and, or_true, true_or, or_false, false_or, e1, hd.2.2.2.1, e2, x1, x2, lN_i, k1, ← Nat.add_assoc]
    rw [show 2 * i + 2 = 2 * (i + 1) from by omega]
    exact g1
theorem yc_clr : ∀ (m i n : Nat) (σ : j_G) (x : Int32), i + m = s → s ≤ 60 → m < n → σ.1 22 0 = nI s → (∀ j, j < i → σ.1 41 j = nI 0) → ∃ σ', p_X1_judge_18 22 41 x n (nI i) σ = some σ' ∧ (∀ j, j < s → σ'.1 41 j = nI 0) ∧ y_fr 41 41 σ σ' := by
  intro m
  induction m with
  | zero =>
    intro i n σ x hh hs hn h0 hj
    obtain ⟨n, rfl⟩ := y_pos hn
    refine ⟨σ, ?_, fun j hj' => hj j (by omega), y_fr.refl⟩
    unfold p_X1_judge_18; simp (disch := omega) only [y_lit, y_n1, nI_add, pk_mul, j_lt, j_b1_s, j_b2_s, j_b3_s, j_b0_s, y_bo, y_bo1, y_bo0, y_i0, y_i1, Classical.not_not, nI_clamp, y_ix, y_lt, y_le, y_eq, y_nP, y_nPs, y_ltP, y_ltQ, y_ltPP, y_eqP, y_eqQ, y_eqPP, if_pos, if_neg, ite_true, ite_false, not_true_eq_false, not_false_eq_true, and_true, true_and, and_false, false_and, or_true, true_or, or_false, false_or, h0]
  | succ m ih =>
    intro i n σ x hh hs hn h0 hj
    obtain ⟨n, rfl⟩ := y_pos hn
    have f : y_fr 41 41 σ (j_si σ 41 i (nI 0)) := y_fr.refl.si (by omega) (by omega)
    obtain ⟨σ1, k1, k2, k3⟩ := ih (i + 1) n (j_si σ 41 i (nI 0)) x (by omega) hs (by omega) (by simp (disch := omega) only [j_r_ne, j_r_eq, j_r_nj, h0]) (fun j hj' => by
      by_cases e : j = i
      · subst e; simp (disch := omega) only [j_r_ne, j_r_eq, j_r_nj]
      · simp (disch := omega) only [j_r_ne, j_r_eq, j_r_nj]; exact hj j (by omega))
    refine ⟨σ1, ?_, k2, f.trans k3⟩
    unfold p_X1_judge_18; simp (disch := omega) only [y_lit, y_n1, nI_add, pk_mul, j_lt, j_b1_s, j_b2_s, j_b3_s, j_b0_s, y_bo, y_bo1, y_bo0, y_i0, y_i1, Classical.not_not, nI_clamp, y_ix, y_lt, y_le, y_eq, y_nP, y_nPs, y_ltP, y_ltQ, y_ltPP, y_eqP, y_eqQ, y_eqPP, if_pos, if_neg, ite_true, ite_false, not_true_eq_false, not_false_eq_true, and_true, true_and, and_false, false_and, or_true, true_or, or_false, false_or, h0]; exact k1
theorem ym_clr : ∀ (m i n : Nat) (τ : j_G) (x y : Int32), i + m = s → s ≤ 60 → m < n → τ.1 75 18 = nI s → (∀ j, j < i → τ.1 93 j = nI 0) → ∃ τ', p_X12_layBlows_21 x y n (nI i) τ = some τ' ∧ (∀ j, j < s → τ'.1 93 j = nI 0) ∧ y_fm 40 39 93 93 τ τ' := by
  intro m
  induction m with
  | zero =>
    intro i n τ x y hh hs hn h0 hj
    obtain ⟨n, rfl⟩ := y_pos hn
    refine ⟨τ, ?_, fun j hj' => hj j (by omega), y_fm.refl⟩
    unfold p_X12_layBlows_21; simp (disch := omega) only [y_lit, y_n1, nI_add, pk_mul, j_lt, j_b1_s, j_b2_s, j_b3_s, j_b0_s, y_bo, y_bo1, y_bo0, y_i0, y_i1, Classical.not_not, nI_clamp, y_ix, y_lt, y_le, y_eq, y_nP, y_nPs, y_ltP, y_ltQ, y_ltPP, y_eqP, y_eqQ, y_eqPP, if_pos, if_neg, ite_true, ite_false, not_true_eq_false, not_false_eq_true, and_true, true_and, and_false, false_and, or_true, true_or, or_false, false_or, h0]
  | succ m ih =>
    intro i n τ x y hh hs hn h0 hj
    obtain ⟨n, rfl⟩ := y_pos hn
    have f : y_fm 40 39 93 93 τ (j_si τ 93 i (nI 0)) := y_fm.refl.si (by omega) (by omega) (by omega)
    obtain ⟨σ1, k1, k2, k3⟩ := ih (i + 1) n (j_si τ 93 i (nI 0)) x y (by omega) hs (by omega) (by simp (disch := omega) only [j_r_ne, j_r_eq, j_r_nj, h0]) (fun j hj' => by
      by_cases e : j = i
      · subst e; simp (disch := omega) only [j_r_ne, j_r_eq, j_r_nj]
      · simp (disch := omega) only [j_r_ne, j_r_eq, j_r_nj]; exact hj j (by omega))
    refine ⟨σ1, ?_, k2, f.trans k3⟩
    unfold p_X12_layBlows_21; simp (disch := omega) only [y_lit, y_n1, nI_add, pk_mul, j_lt, j_b1_s, j_b2_s, j_b3_s, j_b0_s, y_bo, y_bo1, y_bo0, y_i0, y_i1, Classical.not_not, nI_clamp, y_ix, y_lt, y_le, y_eq, y_nP, y_nPs, y_ltP, y_ltQ, y_ltPP, y_eqP, y_eqQ, y_eqPP, if_pos, if_neg, ite_true, ite_false, not_true_eq_false, not_false_eq_true, and_true, true_and, and_false, false_and, or_true, true_or, or_false, false_or, h0]; exact k1
/-- the counts -/
noncomputable def y_J (b g : Nat → Nat) (s : Nat) (e : Nat → Nat) (n lag : Nat) : Nat → Nat := y_jl b g s e lag (n / 2) 0 (fun _ => 0)
theorem yc_judge {σ σ0 τ0 : j_G} {sl c d : Nat} (hW : y_W b) (hc : y_cg σ b s g) (hv : y_vg b s g) (hlag : lag ≤ 20) (hd : y_hd σ0 τ0 sl c d n e) (hee : ∀ i, 2 * i < n → e (2 * i) < y_ho b ∧ e (2 * i + 1) < b 2) (hev : n % 2 = 0) (h1 : ∀ j, σ.1 c j = σ0.1 c j) (h2 : ∀ j, σ.2 d j = σ0.2 d j) : ∃ σ', f_X1_judge 40 22 41 c d (nI lag) σ = some σ' ∧ σ'.1 40 0 = nI (y_J b g s e n lag 0) ∧ σ'.1 40 1 = nI (y_J b g s e n lag 1) ∧ σ'.1 40 2 = nI (y_J b g s e n lag 2) ∧ y_fr 40 41 σ σ' := by
  have hs := hv.1
  have hn := hd.2.1
  have hcd : 41 < c ∧ 41 < d := by have := hd.1; unfold y_sc at this; omega
  unfold f_X1_judge
  simp only [j_lt, y_lit]
  have f : y_fr 40 41 σ (j_si (j_si (j_si σ 40 0 (nI 0)) 40 1 (nI 0)) 40 2 (nI 0)) := ((y_fr.refl.si (by omega) (by omega)).si (by omega) (by omega)).si (by omega) (by omega)
  obtain ⟨σ1, k1, k2, k3⟩ := yc_clr s 0 j_F (j_si (j_si (j_si σ 40 0 (nI 0)) 40 1 (nI 0)) 40 2 (nI 0)) (nI lag) (by omega) hs (y_F (by omega)) (by simp (disch := omega) only [j_r_ne, j_r_eq, j_r_nj]; exact hc.1) (fun j hj => absurd hj (by omega))
  have k3' := k3.wide (lo' := 40) (hi' := 41) (by omega) (by omega)
  have hc1 := (hc.fr f (by omega)).fr k3 (by omega)
  have cj : y_cj σ1 g (fun _ => 0) s := by
    refine ⟨?_, ?_, ?_, fun i hi => ?_⟩
    · rw [k3.i 40 0 (by omega)]; simp (disch := omega) only [j_r_ne, j_r_eq, j_r_nj]
    · rw [k3.i 40 1 (by omega)]; simp (disch := omega) only [j_r_ne, j_r_eq, j_r_nj]
    · rw [k3.i 40 2 (by omega)]; simp (disch := omega) only [j_r_ne, j_r_eq, j_r_nj]
    · rw [k2 i hi]; show nI 0 = nI (y_tk g i 0); rw [y_tk0]
  obtain ⟨σ2, g1, g2, g3⟩ := yc_jl hW hv hlag hd hee hev (n / 2) 0 j_F (fun _ => 0) σ1 (by omega) (y_F (by omega)) hc1 y_jv0 cj (fun j => by rw [k3.i c j (by omega), f.i c j (by omega), h1]) (fun j => by rw [k3.l d j (by omega), f.l d j (by omega), h2])
  rw [k1, j_b1_s]
  rw [Nat.mul_zero] at g1 g2
  rw [g1]
  exact ⟨σ2, rfl, g2.1, g2.2.1, g2.2.2.1, f.trans (k3'.trans g3)⟩
theorem ym_judge {τ σ0 : j_G} {sl c d : Nat} (hM : y_M τ b) (hW : y_W b) (hlag : lag ≤ 20) (hd : y_hd σ0 τ sl c d n e) (hee : ∀ i, 2 * i < n → e (2 * i) < y_ho b ∧ e (2 * i + 1) < b 2) (hev : n % 2 = 0) : ∃ τ', f_X12_layBlows (nI sl) (nI lag) τ = some τ' ∧ τ'.1 75 39 = nI (y_J b (y_dg b (b 8)) (y_gs b) e n lag 0) ∧ τ'.1 75 40 = nI (y_J b (y_dg b (b 8)) (y_gs b) e n lag 1) ∧ τ'.1 75 41 = nI (y_J b (y_dg b (b 8)) (y_gs b) e n lag 2) ∧ y_fm 18 42 80 93 τ τ' := by
  have hv := y_dg_vg hW (b 8)
  have hs := hv.1
  have hn := hd.2.1
  obtain ⟨τ1, e1, e2, e3⟩ := ym_laid hM hW
  unfold f_X12_layBlows
  rw [e1, j_b1_s]
  simp only [j_lt, y_lit]
  have f : y_fm 39 41 93 93 τ1 (j_si (j_si (j_si τ1 75 39 (nI 0)) 75 40 (nI 0)) 75 41 (nI 0)) := ((y_fm.refl.so (by omega) (by omega)).so (by omega) (by omega)).so (by omega) (by omega)
  obtain ⟨τ2, k1, k2, k3⟩ := ym_clr (s := y_gs b) (y_gs b) 0 j_F (j_si (j_si (j_si τ1 75 39 (nI 0)) 75 40 (nI 0)) 75 41 (nI 0)) (nI sl) (nI lag) (by omega) hs (y_F (by omega)) (by simp (disch := omega) only [j_r_ne, j_r_eq, j_r_nj]; exact e2.2.1) (fun j hj => absurd hj (by omega))
  have fk := f.trans (k3.wide (f' := 39) (g' := 41) (lo' := 93) (hi' := 93) (by omega) (by omega) (by omega) (by omega))
  have hg2 := e2.2.fr fk (by omega) (by omega)
  have cj : y_mj τ2 (fun _ => 0) (y_gs b) := by
    refine ⟨?_, ?_, ?_, fun i hi => k2 i hi⟩
    · rw [k3.1 39 (by omega)]; simp (disch := omega) only [j_r_ne, j_r_eq, j_r_nj]
    · rw [k3.1 40 (by omega)]; simp (disch := omega) only [j_r_ne, j_r_eq, j_r_nj]
    · rw [k3.1 41 (by omega)]; simp (disch := omega) only [j_r_ne, j_r_eq, j_r_nj]
  obtain ⟨τ3, g1, g2, g3⟩ := ym_jl hW hv hlag hd hee hev (n / 2) 0 j_F (fun _ => 0) τ2 (by omega) (y_F (by omega)) hg2 y_jv0 cj (fun j => by rw [fk.i 94 j (by omega) (by omega), e3.i 94 j (by omega) (by omega)]) (fun j => by rw [fk.l 96 j (by omega) (by omega), e3.l 96 j (by omega) (by omega)])
  rw [k1, j_b1_s]
  rw [Nat.mul_zero] at g1 g2
  rw [g1]
  exact ⟨τ3, rfl, g2.1, g2.2.1, g2.2.2.1, e3.trans ((fk.trans g3).wide (by omega) (by omega) (by omega) (by omega))⟩
end B
/-! ===== counted, scored, early ===== -/
theorem y_k1000 {k : Int32} : k * nI 1000 = nI 1000 * k := Int32.mul_comm _ _
section Z
variable {σ τ : j_G}
theorem y_blows {b : Nat → Nat} (hR : j_Rel σ τ) (hW : y_W b) (hN : y_N σ b) (hM : y_M τ b) (hK : y_K σ τ) {a1 : Int32} {lag : Nat} (hlag : lag ≤ 20) : (∃ k : Int32, k < 0 ∧ ¬ k = 0 ∧ f_X11_whyNoBlows a1 σ = some (k, σ) ∧ f_X12_asksBlows a1 τ = some k) ∨ (∃ σ1 σ2 τ2 s c d x y z, y_sc s c d ∧ a1 = nI s ∧ f_X11_whyNoBlows a1 σ = some (nI 0, σ1) ∧ f_X1_judge 40 22 41 c d (nI lag) σ1 = some σ2 ∧ σ2.1 40 0 = nI x ∧ σ2.1 40 1 = nI y ∧ σ2.1 40 2 = nI z ∧ f_X12_asksBlows a1 τ = some (nI 0) ∧ f_X12_layBlows a1 (nI lag) τ = some τ2 ∧ τ2.1 75 39 = nI x ∧ τ2.1 75 40 = nI y ∧ τ2.1 75 41 = nI z ∧ j_Rel σ2 τ2) := by
  rcases y_whyB hW hN hM hK a1 with ⟨k, k1, k2, k3, k4⟩ | ⟨k4, h9, σ1, s, c, d, n, e, e1, e2, e3, rfl, ev, h, he⟩
  · exact Or.inl ⟨k, k1, k2, k3, k4⟩
  · have hcd : 41 < c ∧ 41 < d := by have := h.1; unfold y_sc at this; omega
    obtain ⟨σ2, g1, g2, g3, g4, g5⟩ := yc_judge (lag := lag) hW e2 (y_dg_vg hW _) hlag h he ev (fun j => e3.i c j (by omega)) (fun j => e3.l d j (by omega))
    obtain ⟨τ2, f1, f2, f3, f4, f5⟩ := ym_judge (lag := lag) hM hW hlag h he ev
    exact Or.inr ⟨σ1, σ2, τ2, s, c, d, _, _, _, h.1, rfl, e1, g1, g2, g3, g4, k4, f1, f2, f3, f4, y_done hR ((e3.wide (by omega) (by omega)).trans (g5.wide (by omega) (by omega))) f5⟩
theorem z_counted (hR : j_Rel σ τ) (a1 : Int32) : ∃ v σ1 τ1, f_X11_counted a1 σ = some (v, σ1) ∧ f_X12_counted a1 τ = some (v, τ1) ∧ j_Rel σ1 τ1 := by
  obtain ⟨b, hW, hN, hM, hK⟩ := id hR
  rcases y_blows (a1 := a1) (lag := 0) hR hW hN hM hK (by omega) with ⟨k, k1, k2, k3, k4⟩ | ⟨σ1, σ2, τ2, s, c, d, x, y, z, hc, rfl, e1, g1, g2, g3, g4, k4, f1, f2, f3, f4, hr⟩
  · refine ⟨k, σ, τ, ?_, ?_, hR⟩
    · unfold f_X11_counted; rw [k3, j_b2_s, if_pos k2]
    · unfold f_X12_counted; rw [k4, j_b1_s, if_pos k1]
  · refine ⟨nI x, σ2, τ2, ?_, ?_, hr⟩
    · unfold f_X11_counted
      rcases hc with ⟨rfl, rfl, rfl⟩ | ⟨rfl, rfl, rfl⟩ | ⟨rfl, rfl, rfl⟩ | ⟨rfl, rfl, rfl⟩
      · simp (disch := omega) only [y_lit, y_n1, nI_add, pk_mul, j_lt, j_b1_s, j_b2_s, j_b3_s, j_b0_s, y_bo, y_bo1, y_bo0, y_i0, y_i1, Classical.not_not, nI_clamp, y_ix, y_lt, y_le, y_eq, y_nP, y_nPs, y_ltP, y_ltQ, y_ltPP, y_eqP, y_eqQ, y_eqPP, if_pos, if_neg, ite_true, ite_false, not_true_eq_false, not_false_eq_true, and_true, true_and, and_false, false_and, or_true, true_or, or_false, false_or, e1, g1, g2]
      · simp (disch := omega) only [y_lit, y_n1, nI_add, pk_mul, j_lt, j_b1_s, j_b2_s, j_b3_s, j_b0_s, y_bo, y_bo1, y_bo0, y_i0, y_i1, Classical.not_not, nI_clamp, y_ix, y_lt, y_le, y_eq, y_nP, y_nPs, y_ltP, y_ltQ, y_ltPP, y_eqP, y_eqQ, y_eqPP, if_pos, if_neg, ite_true, ite_false, not_true_eq_false, not_false_eq_true, and_true, true_and, and_false, false_and, or_true, true_or, or_false, false_or, e1, g1, g2]
      · simp (disch := omega) only [y_lit, y_n1, nI_add, pk_mul, j_lt, j_b1_s, j_b2_s, j_b3_s, j_b0_s, y_bo, y_bo1, y_bo0, y_i0, y_i1, Classical.not_not, nI_clamp, y_ix, y_lt, y_le, y_eq, y_nP, y_nPs, y_ltP, y_ltQ, y_ltPP, y_eqP, y_eqQ, y_eqPP, if_pos, if_neg, ite_true, ite_false, not_true_eq_false, not_false_eq_true, and_true, true_and, and_false, false_and, or_true, true_or, or_false, false_or, e1, g1, g2]
      · simp (disch := omega) only [y_lit, y_n1, nI_add, pk_mul, j_lt, j_b1_s, j_b2_s, j_b3_s, j_b0_s, y_bo, y_bo1, y_bo0, y_i0, y_i1, Classical.not_not, nI_clamp, y_ix, y_lt, y_le, y_eq, y_nP, y_nPs, y_ltP, y_ltQ, y_ltPP, y_eqP, y_eqQ, y_eqPP, if_pos, if_neg, ite_true, ite_false, not_true_eq_false, not_false_eq_true, and_true, true_and, and_false, false_and, or_true, true_or, or_false, false_or, e1, g1, g2]
    · unfold f_X12_counted; simp (disch := omega) only [y_lit, y_n1, nI_add, pk_mul, j_lt, j_b1_s, j_b2_s, j_b3_s, j_b0_s, y_bo, y_bo1, y_bo0, y_i0, y_i1, Classical.not_not, nI_clamp, y_ix, y_lt, y_le, y_eq, y_nP, y_nPs, y_ltP, y_ltQ, y_ltPP, y_eqP, y_eqQ, y_eqPP, if_pos, if_neg, ite_true, ite_false, not_true_eq_false, not_false_eq_true, and_true, true_and, and_false, false_and, or_true, true_or, or_false, false_or, k4, f1, f2]
theorem z_scored (hR : j_Rel σ τ) (a1 : Int32) : ∃ v σ1 τ1, f_X11_scored a1 σ = some (v, σ1) ∧ f_X12_scored a1 τ = some (v, τ1) ∧ j_Rel σ1 τ1 := by
  obtain ⟨b, hW, hN, hM, hK⟩ := id hR
  rcases y_blows (a1 := a1) (lag := 0) hR hW hN hM hK (by omega) with ⟨k, k1, k2, k3, k4⟩ | ⟨σ1, σ2, τ2, s, c, d, x, y, z, hc, rfl, e1, g1, g2, g3, g4, k4, f1, f2, f3, f4, hr⟩
  · refine ⟨1000 * k, σ, τ, ?_, ?_, hR⟩
    · unfold f_X11_scored; rw [k3, j_b2_s, if_pos k2, Int32.mul_comm]
    · unfold f_X12_scored; rw [k4, j_b1_s, if_pos k1]
  · refine ⟨nI 10 * nI x - nI 20 * nI y, σ2, τ2, ?_, ?_, hr⟩
    · unfold f_X11_scored
      rcases hc with ⟨rfl, rfl, rfl⟩ | ⟨rfl, rfl, rfl⟩ | ⟨rfl, rfl, rfl⟩ | ⟨rfl, rfl, rfl⟩
      · simp (disch := omega) only [y_lit, y_n1, nI_add, pk_mul, j_lt, j_b1_s, j_b2_s, j_b3_s, j_b0_s, y_bo, y_bo1, y_bo0, y_i0, y_i1, Classical.not_not, nI_clamp, y_ix, y_lt, y_le, y_eq, y_nP, y_nPs, y_ltP, y_ltQ, y_ltPP, y_eqP, y_eqQ, y_eqPP, if_pos, if_neg, ite_true, ite_false, not_true_eq_false, not_false_eq_true, and_true, true_and, and_false, false_and, or_true, true_or, or_false, false_or, e1, g1, g2, g3]
      · simp (disch := omega) only [y_lit, y_n1, nI_add, pk_mul, j_lt, j_b1_s, j_b2_s, j_b3_s, j_b0_s, y_bo, y_bo1, y_bo0, y_i0, y_i1, Classical.not_not, nI_clamp, y_ix, y_lt, y_le, y_eq, y_nP, y_nPs, y_ltP, y_ltQ, y_ltPP, y_eqP, y_eqQ, y_eqPP, if_pos, if_neg, ite_true, ite_false, not_true_eq_false, not_false_eq_true, and_true, true_and, and_false, false_and, or_true, true_or, or_false, false_or, e1, g1, g2, g3]
      · simp (disch := omega) only [y_lit, y_n1, nI_add, pk_mul, j_lt, j_b1_s, j_b2_s, j_b3_s, j_b0_s, y_bo, y_bo1, y_bo0, y_i0, y_i1, Classical.not_not, nI_clamp, y_ix, y_lt, y_le, y_eq, y_nP, y_nPs, y_ltP, y_ltQ, y_ltPP, y_eqP, y_eqQ, y_eqPP, if_pos, if_neg, ite_true, ite_false, not_true_eq_false, not_false_eq_true, and_true, true_and, and_false, false_and, or_true, true_or, or_false, false_or, e1, g1, g2, g3]
      · simp (disch := omega) only [y_lit, y_n1, nI_add, pk_mul, j_lt, j_b1_s, j_b2_s, j_b3_s, j_b0_s, y_bo, y_bo1, y_bo0, y_i0, y_i1, Classical.not_not, nI_clamp, y_ix, y_lt, y_le, y_eq, y_nP, y_nPs, y_ltP, y_ltQ, y_ltPP, y_eqP, y_eqQ, y_eqPP, if_pos, if_neg, ite_true, ite_false, not_true_eq_false, not_false_eq_true, and_true, true_and, and_false, false_and, or_true, true_or, or_false, false_or, e1, g1, g2, g3]
    · unfold f_X12_scored; simp (disch := omega) only [y_lit, y_n1, nI_add, pk_mul, j_lt, j_b1_s, j_b2_s, j_b3_s, j_b0_s, y_bo, y_bo1, y_bo0, y_i0, y_i1, Classical.not_not, nI_clamp, y_ix, y_lt, y_le, y_eq, y_nP, y_nPs, y_ltP, y_ltQ, y_ltPP, y_eqP, y_eqQ, y_eqPP, if_pos, if_neg, ite_true, ite_false, not_true_eq_false, not_false_eq_true, and_true, true_and, and_false, false_and, or_true, true_or, or_false, false_or, k4, f1, f2, f3]
theorem z_early (hR : j_Rel σ τ) (a1 a2 : Int32) : ∃ v σ1 τ1, f_X11_early a1 a2 σ = some (v, σ1) ∧ f_X12_early a1 a2 τ = some (v, τ1) ∧ j_Rel σ1 τ1 := by
  obtain ⟨b, hW, hN, hM, hK⟩ := id hR
  by_cases h : y_rg a2 21
  · obtain ⟨lag, hlag, rfl⟩ := y_of _ _ h.1 h.2
    rcases y_blows (a1 := a1) (lag := lag) hR hW hN hM hK (by omega) with ⟨k, k1, k2, k3, k4⟩ | ⟨σ1, σ2, τ2, s, c, d, x, y, z, hc, rfl, e1, g1, g2, g3, g4, k4, f1, f2, f3, f4, hr⟩
    · refine ⟨k, σ, τ, ?_, ?_, hR⟩
      · have k2' : ¬ k = nI 0 := k2
        unfold f_X11_early; simp (disch := omega) only [y_lit, y_n1, nI_add, pk_mul, j_lt, j_b1_s, j_b2_s, j_b3_s, j_b0_s, y_bo, y_bo1, y_bo0, y_i0, y_i1, Classical.not_not, nI_clamp, y_ix, y_lt, y_le, y_eq, y_nP, y_nPs, y_ltP, y_ltQ, y_ltPP, y_eqP, y_eqQ, y_eqPP, if_pos, if_neg, ite_true, ite_false, not_true_eq_false, not_false_eq_true, and_true, true_and, and_false, false_and, or_true, true_or, or_false, false_or, k3, k2']
      · have k1' : k < nI 0 := k1
        unfold f_X12_early; simp (disch := omega) only [y_lit, y_n1, nI_add, pk_mul, j_lt, j_b1_s, j_b2_s, j_b3_s, j_b0_s, y_bo, y_bo1, y_bo0, y_i0, y_i1, Classical.not_not, nI_clamp, y_ix, y_lt, y_le, y_eq, y_nP, y_nPs, y_ltP, y_ltQ, y_ltPP, y_eqP, y_eqQ, y_eqPP, if_pos, if_neg, ite_true, ite_false, not_true_eq_false, not_false_eq_true, and_true, true_and, and_false, false_and, or_true, true_or, or_false, false_or, y_lit64, y_in, k4, k1']
    · refine ⟨nI z, σ2, τ2, ?_, ?_, hr⟩
      · unfold f_X11_early
        rcases hc with ⟨rfl, rfl, rfl⟩ | ⟨rfl, rfl, rfl⟩ | ⟨rfl, rfl, rfl⟩ | ⟨rfl, rfl, rfl⟩
        · simp (disch := omega) only [y_lit, y_n1, nI_add, pk_mul, j_lt, j_b1_s, j_b2_s, j_b3_s, j_b0_s, y_bo, y_bo1, y_bo0, y_i0, y_i1, Classical.not_not, nI_clamp, y_ix, y_lt, y_le, y_eq, y_nP, y_nPs, y_ltP, y_ltQ, y_ltPP, y_eqP, y_eqQ, y_eqPP, if_pos, if_neg, ite_true, ite_false, not_true_eq_false, not_false_eq_true, and_true, true_and, and_false, false_and, or_true, true_or, or_false, false_or, y_c5, h, e1, g1, g4]
        · simp (disch := omega) only [y_lit, y_n1, nI_add, pk_mul, j_lt, j_b1_s, j_b2_s, j_b3_s, j_b0_s, y_bo, y_bo1, y_bo0, y_i0, y_i1, Classical.not_not, nI_clamp, y_ix, y_lt, y_le, y_eq, y_nP, y_nPs, y_ltP, y_ltQ, y_ltPP, y_eqP, y_eqQ, y_eqPP, if_pos, if_neg, ite_true, ite_false, not_true_eq_false, not_false_eq_true, and_true, true_and, and_false, false_and, or_true, true_or, or_false, false_or, y_c5, h, e1, g1, g4]
        · simp (disch := omega) only [y_lit, y_n1, nI_add, pk_mul, j_lt, j_b1_s, j_b2_s, j_b3_s, j_b0_s, y_bo, y_bo1, y_bo0, y_i0, y_i1, Classical.not_not, nI_clamp, y_ix, y_lt, y_le, y_eq, y_nP, y_nPs, y_ltP, y_ltQ, y_ltPP, y_eqP, y_eqQ, y_eqPP, if_pos, if_neg, ite_true, ite_false, not_true_eq_false, not_false_eq_true, and_true, true_and, and_false, false_and, or_true, true_or, or_false, false_or, y_c5, h, e1, g1, g4]
        · simp (disch := omega) only [y_lit, y_n1, nI_add, pk_mul, j_lt, j_b1_s, j_b2_s, j_b3_s, j_b0_s, y_bo, y_bo1, y_bo0, y_i0, y_i1, Classical.not_not, nI_clamp, y_ix, y_lt, y_le, y_eq, y_nP, y_nPs, y_ltP, y_ltQ, y_ltPP, y_eqP, y_eqQ, y_eqPP, if_pos, if_neg, ite_true, ite_false, not_true_eq_false, not_false_eq_true, and_true, true_and, and_false, false_and, or_true, true_or, or_false, false_or, y_c5, h, e1, g1, g4]
      · unfold f_X12_early; simp (disch := omega) only [y_lit, y_n1, nI_add, pk_mul, j_lt, j_b1_s, j_b2_s, j_b3_s, j_b0_s, y_bo, y_bo1, y_bo0, y_i0, y_i1, Classical.not_not, nI_clamp, y_ix, y_lt, y_le, y_eq, y_nP, y_nPs, y_ltP, y_ltQ, y_ltPP, y_eqP, y_eqQ, y_eqPP, if_pos, if_neg, ite_true, ite_false, not_true_eq_false, not_false_eq_true, and_true, true_and, and_false, false_and, or_true, true_or, or_false, false_or, y_lit64, y_in, k4, f1, f4]
  · refine ⟨-2, σ, τ, ?_, ?_, hR⟩
    · unfold f_X11_early; simp (disch := omega) only [y_lit, y_n1, nI_add, pk_mul, j_lt, j_b1_s, j_b2_s, j_b3_s, j_b0_s, y_bo, y_bo1, y_bo0, y_i0, y_i1, Classical.not_not, nI_clamp, y_ix, y_lt, y_le, y_eq, y_nP, y_nPs, y_ltP, y_ltQ, y_ltPP, y_eqP, y_eqQ, y_eqPP, if_pos, if_neg, ite_true, ite_false, not_true_eq_false, not_false_eq_true, and_true, true_and, and_false, false_and, or_true, true_or, or_false, false_or, y_c5, h]
    · unfold f_X12_early; simp (disch := omega) only [y_lit, y_n1, nI_add, pk_mul, j_lt, j_b1_s, j_b2_s, j_b3_s, j_b0_s, y_bo, y_bo1, y_bo0, y_i0, y_i1, Classical.not_not, nI_clamp, y_ix, y_lt, y_le, y_eq, y_nP, y_nPs, y_ltP, y_ltQ, y_ltPP, y_eqP, y_eqQ, y_eqPP, if_pos, if_neg, ite_true, ite_false, not_true_eq_false, not_false_eq_true, and_true, true_and, and_false, false_and, or_true, true_or, or_false, false_or, y_lit64, y_in, y_c3, h]
end Z
/-! ===== count, row, write, paste ===== -/
/-- one slot's cells may be others -/
def y_ks (σ σ' τ τ' : j_G) (s c d : Nat) : Prop := (∀ x, x ≠ c → σ'.1 x = σ.1 x) ∧ (∀ x, x ≠ d → σ'.2 x = σ.2 x) ∧ (∀ x, x ≠ 94 → x ≠ 95 → τ'.1 x = τ.1 x) ∧ (∀ x, x ≠ 96 → x ≠ 97 → τ'.2 x = τ.2 x) ∧ (∀ j, j ≠ s → τ'.1 94 j = τ.1 94 j ∧ τ'.1 95 j = τ.1 95 j) ∧ ∀ j, j < 60 * s ∨ 60 * s + 60 ≤ j → τ'.2 96 j = τ.2 96 j
theorem y_sl.fr2 {σ τ σ' τ' : j_G} {s c d : Nat} (h : y_sl σ τ s c d) (e : σ'.1 c = σ.1 c) (e' : σ'.2 d = σ.2 d) (e1 : τ'.1 94 s = τ.1 94 s) (e2 : τ'.1 95 s = τ.1 95 s) (e3 : ∀ j, 60 * s ≤ j → j < 60 * s + 60 → τ'.2 96 j = τ.2 96 j) : y_sl σ' τ' s c d := by
  rcases h with ⟨h1, h2⟩ | ⟨n, w, h1, h2, h3, h4, h5, h6, h7⟩
  · exact Or.inl ⟨by rw [e]; exact h1, by rw [e1]; exact h2⟩
  · refine Or.inr ⟨n, w, h1, h2, by rw [e]; exact h3, by rw [e1]; exact h4, by rw [e]; exact h5, by rw [e2]; exact h6, fun i hi => ?_⟩
    rw [e', e3 _ (by omega) (by omega)]; exact h7 i hi
theorem y_K.slots {σ τ σ' τ' : j_G} {s c d : Nat} (h : y_K σ τ) (hc : y_sc s c d) (k : y_ks σ σ' τ τ' s c d) (hl : y_sl σ' τ' s c d) : y_K σ' τ' := by
  obtain ⟨⟨i0, i1, i2⟩, ⟨s0, s1, s2, s3⟩, ht, hf⟩ := h
  obtain ⟨k1, k2, k3, k4, k5, k6⟩ := k
  have hcc : 67 ≤ c ∧ c ≤ 73 := by unfold y_sc at hc; omega
  have e77 := k3 77 (by omega) (by omega)
  have e78 := k3 78 (by omega) (by omega)
  refine ⟨⟨i0.fr (fun x hx => k1 x (by omega)) e77 e78, i1.fr (fun x hx => k1 x (by omega)) e77 e78, i2.fr (fun x hx => k1 x (by omega)) e77 e78⟩, ⟨?_, ?_, ?_, ?_⟩, ?_, ?_⟩
  · by_cases e : s = 0
    · obtain ⟨rfl, rfl, rfl⟩ : s = 0 ∧ c = 67 ∧ d = 68 := by unfold y_sc at hc; omega
      exact hl
    · exact s0.fr2 (k1 67 (by unfold y_sc at hc; omega)) (k2 68 (by unfold y_sc at hc; omega)) (k5 0 (by omega)).1 (k5 0 (by omega)).2 (fun j a b => k6 j (by omega))
  · by_cases e : s = 1
    · obtain ⟨rfl, rfl, rfl⟩ : s = 1 ∧ c = 69 ∧ d = 70 := by unfold y_sc at hc; omega
      exact hl
    · exact s1.fr2 (k1 69 (by unfold y_sc at hc; omega)) (k2 70 (by unfold y_sc at hc; omega)) (k5 1 (by omega)).1 (k5 1 (by omega)).2 (fun j a b => k6 j (by omega))
  · by_cases e : s = 2
    · obtain ⟨rfl, rfl, rfl⟩ : s = 2 ∧ c = 71 ∧ d = 72 := by unfold y_sc at hc; omega
      exact hl
    · exact s2.fr2 (k1 71 (by unfold y_sc at hc; omega)) (k2 72 (by unfold y_sc at hc; omega)) (k5 2 (by omega)).1 (k5 2 (by omega)).2 (fun j a b => k6 j (by omega))
  · by_cases e : s = 3
    · obtain ⟨rfl, rfl, rfl⟩ : s = 3 ∧ c = 73 ∧ d = 74 := by unfold y_sc at hc; omega
      exact hl
    · exact s3.fr2 (k1 73 (by unfold y_sc at hc; omega)) (k2 74 (by unfold y_sc at hc; omega)) (k5 3 (by omega)).1 (k5 3 (by omega)).2 (fun j a b => k6 j (by omega))
  · unfold y_tp at *
    rw [k1 19 (by omega), k1 20 (by omega), k3 75 (by omega) (by omega), k3 79 (by omega) (by omega)]
    exact ht
  · unfold y_ft at *
    rw [k1 10 (by omega), k3 75 (by omega) (by omega)]
    exact hf
theorem y_slots {σ τ σ' τ' : j_G} {s c d : Nat} (hR : j_Rel σ τ) (hc : y_sc s c d) (k : y_ks σ σ' τ τ' s c d) (hl : y_sl σ' τ' s c d) : j_Rel σ' τ' := by
  obtain ⟨b, hW, hN, hM, hK⟩ := hR
  have hcc : 67 ≤ c ∧ c ≤ 73 := by unfold y_sc at hc; omega
  refine ⟨b, hW, ?_, ?_, hK.slots hc k hl⟩
  · unfold y_N y_cb at *
    rw [k.1 1 (by omega), k.1 2 (by omega), k.1 3 (by omega), k.1 4 (by omega), k.1 5 (by omega), k.1 6 (by omega), k.1 7 (by omega), k.1 8 (by omega)]
    exact hN
  · unfold y_M; rw [k.2.2.1 76 (by omega) (by omega)]; exact hM
section Z
variable {σ τ : j_G}
theorem z_count (hR : j_Rel σ τ) (a1 : Int32) : ∃ v, f_X11_count a1 σ = some v ∧ f_X12_count a1 τ = some v := by
  obtain ⟨b, hW, hN, hM, hK⟩ := id hR
  obtain ⟨n, hn, t1, t2, t3⟩ := hK.2.2.1
  have mk : ∀ s, s < 4 → ∃ c v, v ≤ 1 ∧ (∃ d, y_sc s c d) ∧ f_X8_isMade c σ = nI v ∧ (if τ.1 94 s = nP 0 then nI 0 else nI 1) = nI v := by
    intro s hs
    obtain ⟨c, d, hc, hk⟩ := hK.slot s hs
    rcases hk with ⟨k1, k2⟩ | ⟨m, w, hr⟩
    · refine ⟨c, 0, by omega, ⟨d, hc⟩, ?_, ?_⟩
      · unfold f_X8_isMade; simp (disch := omega) only [y_lit, y_n1, nI_add, pk_mul, j_lt, j_b1_s, j_b2_s, j_b3_s, j_b0_s, y_bo, y_bo1, y_bo0, y_i0, y_i1, Classical.not_not, nI_clamp, y_ix, y_lt, y_le, y_eq, y_nP, y_nPs, y_ltP, y_ltQ, y_ltPP, y_eqP, y_eqQ, y_eqPP, if_pos, if_neg, ite_true, ite_false, not_true_eq_false, not_false_eq_true, and_true, true_and, and_false, false_and, or_true, true_or, or_false, false_or, k1]
      · rw [k2, if_pos rfl]
    · obtain ⟨_, h1, h2, h3, h4, _⟩ := hr
      refine ⟨c, 1, by omega, ⟨d, hc⟩, ?_, ?_⟩
      · unfold f_X8_isMade; simp (disch := omega) only [y_lit, y_n1, nI_add, pk_mul, j_lt, j_b1_s, j_b2_s, j_b3_s, j_b0_s, y_bo, y_bo1, y_bo0, y_i0, y_i1, Classical.not_not, nI_clamp, y_ix, y_lt, y_le, y_eq, y_nP, y_nPs, y_ltP, y_ltQ, y_ltPP, y_eqP, y_eqQ, y_eqPP, if_pos, if_neg, ite_true, ite_false, not_true_eq_false, not_false_eq_true, and_true, true_and, and_false, false_and, or_true, true_or, or_false, false_or, h3]
      · rw [h4, if_neg (by rw [y_eqQ (by omega) (by omega)]; omega)]
  obtain ⟨c0, v0, l0, ⟨d0, q0⟩, x0, y0⟩ := mk 0 (by omega)
  obtain ⟨c1, v1, l1, ⟨d1, q1⟩, x1, y1⟩ := mk 1 (by omega)
  obtain ⟨c2, v2, l2, ⟨d2, q2⟩, x2, y2⟩ := mk 2 (by omega)
  obtain ⟨c3, v3, l3, ⟨d3, q3⟩, x3, y3⟩ := mk 3 (by omega)
  obtain rfl : c0 = 67 := by unfold y_sc at q0; omega
  obtain rfl : c1 = 69 := by unfold y_sc at q1; omega
  obtain rfl : c2 = 71 := by unfold y_sc at q2; omega
  obtain rfl : c3 = 73 := by unfold y_sc at q3; omega
  have st : ∀ v a, v ≤ 1 → (if ¬ nI v = nI 0 then nI a + nI 1 else nI a) = nI (a + v) := by
    intro v a hv
    by_cases z : v = 0
    · subst z; rw [if_neg (fun q => q rfl)]; rfl
    · obtain rfl : v = 1 := by omega
      rw [if_pos (by decide), nI_add]
  have rk : f_X11_rowsKept σ = some (nI (0 + v0 + v1 + v2 + v3)) := by
    have s0 : ∀ n a, p_X11_rowsKept_4 σ (n + 1) (nI a) (nI 0) = p_X11_rowsKept_4 σ n (nI (a + v0)) (nI 1) := by
      intro n a
      rw [← st v0 a l0, p_X11_rowsKept_4]; simp (disch := omega) only [y_lit, y_n1, nI_add, pk_mul, j_lt, j_b1_s, j_b2_s, j_b3_s, j_b0_s, y_bo, y_bo1, y_bo0, y_i0, y_i1, Classical.not_not, nI_clamp, y_ix, y_lt, y_le, y_eq, y_nP, y_nPs, y_ltP, y_ltQ, y_ltPP, y_eqP, y_eqQ, y_eqPP, if_pos, if_neg, ite_true, ite_false, not_true_eq_false, not_false_eq_true, and_true, true_and, and_false, false_and, or_true, true_or, or_false, false_or, x0]
    have s1 : ∀ n a, p_X11_rowsKept_4 σ (n + 1) (nI a) (nI 1) = p_X11_rowsKept_4 σ n (nI (a + v1)) (nI 2) := by
      intro n a
      rw [← st v1 a l1, p_X11_rowsKept_4]; simp (disch := omega) only [y_lit, y_n1, nI_add, pk_mul, j_lt, j_b1_s, j_b2_s, j_b3_s, j_b0_s, y_bo, y_bo1, y_bo0, y_i0, y_i1, Classical.not_not, nI_clamp, y_ix, y_lt, y_le, y_eq, y_nP, y_nPs, y_ltP, y_ltQ, y_ltPP, y_eqP, y_eqQ, y_eqPP, if_pos, if_neg, ite_true, ite_false, not_true_eq_false, not_false_eq_true, and_true, true_and, and_false, false_and, or_true, true_or, or_false, false_or, x1]
    have s2 : ∀ n a, p_X11_rowsKept_4 σ (n + 1) (nI a) (nI 2) = p_X11_rowsKept_4 σ n (nI (a + v2)) (nI 3) := by
      intro n a
      rw [← st v2 a l2, p_X11_rowsKept_4]; simp (disch := omega) only [y_lit, y_n1, nI_add, pk_mul, j_lt, j_b1_s, j_b2_s, j_b3_s, j_b0_s, y_bo, y_bo1, y_bo0, y_i0, y_i1, Classical.not_not, nI_clamp, y_ix, y_lt, y_le, y_eq, y_nP, y_nPs, y_ltP, y_ltQ, y_ltPP, y_eqP, y_eqQ, y_eqPP, if_pos, if_neg, ite_true, ite_false, not_true_eq_false, not_false_eq_true, and_true, true_and, and_false, false_and, or_true, true_or, or_false, false_or, x2]
    have s3 : ∀ n a, p_X11_rowsKept_4 σ (n + 1) (nI a) (nI 3) = p_X11_rowsKept_4 σ n (nI (a + v3)) (nI 4) := by
      intro n a
      rw [← st v3 a l3, p_X11_rowsKept_4]; simp (disch := omega) only [y_lit, y_n1, nI_add, pk_mul, j_lt, j_b1_s, j_b2_s, j_b3_s, j_b0_s, y_bo, y_bo1, y_bo0, y_i0, y_i1, Classical.not_not, nI_clamp, y_ix, y_lt, y_le, y_eq, y_nP, y_nPs, y_ltP, y_ltQ, y_ltPP, y_eqP, y_eqQ, y_eqPP, if_pos, if_neg, ite_true, ite_false, not_true_eq_false, not_false_eq_true, and_true, true_and, and_false, false_and, or_true, true_or, or_false, false_or, x3]
    have s4 : ∀ n a, p_X11_rowsKept_4 σ (n + 1) (nI a) (nI 4) = some (nI a) := by
      intro n a
      rw [p_X11_rowsKept_4]; simp (disch := omega) only [y_lit, y_n1, nI_add, pk_mul, j_lt, j_b1_s, j_b2_s, j_b3_s, j_b0_s, y_bo, y_bo1, y_bo0, y_i0, y_i1, Classical.not_not, nI_clamp, y_ix, y_lt, y_le, y_eq, y_nP, y_nPs, y_ltP, y_ltQ, y_ltPP, y_eqP, y_eqQ, y_eqPP, if_pos, if_neg, ite_true, ite_false, not_true_eq_false, not_false_eq_true, and_true, true_and, and_false, false_and, or_true, true_or, or_false, false_or]
    unfold f_X11_rowsKept
    rw [show j_F = 4995 + 1 + 1 + 1 + 1 + 1 from rfl, show (0 : Int32) = nI 0 from rfl, s0, s1, s2, s3, s4, j_b1_s]
  have mm : p_X12_count_134 τ j_F (nI 0) (nI 0) = some (nI (0 + v0 + v1 + v2 + v3)) := by
    rw [show j_F = 4995 + 1 + 1 + 1 + 1 + 1 from rfl]
    have stp : ∀ n a i v, i < 4 → (if τ.1 94 i = nP 0 then nI 0 else nI 1) = nI v → p_X12_count_134 τ (n + 1) (nI a) (nI i) = p_X12_count_134 τ n (nI (a + v)) (nI (i + 1)) := by
      intro n a i v hi hv
      rw [p_X12_count_134, show (4 : Int32) = nI 4 from rfl, if_pos ((y_lt (by omega) (by omega)).mpr hi), y_ix (by omega) (by omega), nI_clamp (by omega), y_m1, show (0 : Int32) = nI 0 from rfl, show (1 : Int32) = nI 1 from rfl]
      simp only [j_lt]
      rw [hv, nI_add, nI_add]
    rw [stp _ _ _ _ (by omega) y0, stp _ _ _ _ (by omega) y1, stp _ _ _ _ (by omega) y2, stp _ _ _ _ (by omega) y3]
    rw [p_X12_count_134, if_neg (by decide)]
  unfold f_X11_count f_X12_count
  rw [rk]
  have ee : ∀ j, j < 24 → j_ix (nI j) 116 (some (τ.1 76 (nI j).toNatClampNeg)) = some (nI (b j)) := fun j hj => by
    rw [y_ix (by omega) (by omega), nI_clamp (by omega), hM.f hj]
  have r0 : j_ix (0 : Int32) 116 (some (τ.1 76 ((0 : Int32)).toNatClampNeg)) = some (nI (b 0)) := ee 0 (by omega)
  have r1 : j_ix (1 : Int32) 116 (some (τ.1 76 ((1 : Int32)).toNatClampNeg)) = some (nI (b 1)) := ee 1 (by omega)
  have r2 : j_ix (2 : Int32) 116 (some (τ.1 76 ((2 : Int32)).toNatClampNeg)) = some (nI (b 2)) := ee 2 (by omega)
  have r3 : j_ix (3 : Int32) 116 (some (τ.1 76 ((3 : Int32)).toNatClampNeg)) = some (nI (b 3)) := ee 3 (by omega)
  have r5 : j_ix (5 : Int32) 116 (some (τ.1 76 ((5 : Int32)).toNatClampNeg)) = some (nI (b 5)) := ee 5 (by omega)
  have r6 : j_ix (6 : Int32) 116 (some (τ.1 76 ((6 : Int32)).toNatClampNeg)) = some (nI (b 6)) := ee 6 (by omega)
  have r7 : j_ix (7 : Int32) 116 (some (τ.1 76 ((7 : Int32)).toNatClampNeg)) = some (nI (b 7)) := ee 7 (by omega)
  have r8 : j_ix (8 : Int32) 116 (some (τ.1 76 ((8 : Int32)).toNatClampNeg)) = some (nI (b 8)) := ee 8 (by omega)
  have r9 : j_ix (9 : Int32) 116 (some (τ.1 76 ((9 : Int32)).toNatClampNeg)) = some (nI (b 9)) := ee 9 (by omega)
  have mm' : p_X12_count_134 τ j_F (0 : Int32) (0 : Int32) = some (nI (0 + v0 + v1 + v2 + v3)) := by rw [show (0 : Int32) = nI 0 from rfl]; exact mm
  rw [r0, r1, r2, r3, r5, r6, r7, r8, r9, mm', hN.f2, hN.f3, hN.f4, hN.f5, hN.f7, hN.f6, hN.d0, hN.d1, hN.f1, t1, t2]
  have go : ∀ (p : Prop) [Decidable p] (A B : Option Int32), (∃ v, A = some v) → (∃ v, B = some v) → ∃ v, (if p then A else B) = some v := by
    intro p _ A B hA hB
    by_cases h : p
    · rw [if_pos h]; exact hA
    · rw [if_neg h]; exact hB
  refine (fun (E : Option Int32) (h : ∃ v, E = some v) => (⟨h.choose, h.choose_spec, h.choose_spec⟩ : ∃ v, E = some v ∧ E = some v)) _ ?_
  refine go _ _ _ ⟨_, rfl⟩ ?_
  refine go _ _ _ ⟨_, rfl⟩ ?_
  refine go _ _ _ ⟨_, rfl⟩ ?_
  refine go _ _ _ ⟨_, rfl⟩ ?_
  refine go _ _ _ ⟨_, rfl⟩ ?_
  refine go _ _ _ ⟨_, rfl⟩ ?_
  refine go _ _ _ ⟨_, rfl⟩ ?_
  refine go _ _ _ ⟨_, rfl⟩ ?_
  refine go _ _ _ ⟨_, rfl⟩ ?_
  refine go _ _ _ ⟨_, rfl⟩ ?_
  exact go _ _ _ ⟨_, rfl⟩ ⟨_, rfl⟩
end Z
section R
theorem yc_zero {d : Nat} : ∀ (m i n : Nat) (σ : j_G), i + m = 60 → m < n → ∃ σ', p_X8_make_23 d n (nI i) σ = some σ' ∧ σ'.1 = σ.1 ∧ (∀ x, x ≠ d → σ'.2 x = σ.2 x) ∧ (∀ j, j < i → σ'.2 d j = σ.2 d j) ∧ ∀ j, i ≤ j → j < 60 → σ'.2 d j = 0 := by
  intro m
  induction m with
  | zero =>
    intro i n σ h hn
    obtain ⟨n, rfl⟩ := y_pos hn
    refine ⟨σ, ?_, rfl, fun _ _ => rfl, fun _ _ => rfl, fun j a c => by omega⟩
    unfold p_X8_make_23; simp (disch := omega) only [y_lit, y_n1, nI_add, pk_mul, j_lt, j_b1_s, j_b2_s, j_b3_s, j_b0_s, y_bo, y_bo1, y_bo0, y_i0, y_i1, Classical.not_not, nI_clamp, y_ix, y_lt, y_le, y_eq, y_nP, y_nPs, y_ltP, y_ltQ, y_ltPP, y_eqP, y_eqQ, y_eqPP, if_pos, if_neg, ite_true, ite_false, not_true_eq_false, not_false_eq_true, and_true, true_and, and_false, false_and, or_true, true_or, or_false, false_or]
  | succ m ih =>
    intro i n σ h hn
    obtain ⟨n, rfl⟩ := y_pos hn
    obtain ⟨σ', e1, e2, e3, e4, e5⟩ := ih (i + 1) n (j_sl σ d i 0) (by omega) (by omega)
    refine ⟨σ', ?_, e2, fun x hx => ?_, fun j hj => ?_, fun j a c => ?_⟩
    · unfold p_X8_make_23; simp (disch := omega) only [y_lit, y_n1, nI_add, pk_mul, j_lt, j_b1_s, j_b2_s, j_b3_s, j_b0_s, y_bo, y_bo1, y_bo0, y_i0, y_i1, Classical.not_not, nI_clamp, y_ix, y_lt, y_le, y_eq, y_nP, y_nPs, y_ltP, y_ltQ, y_ltPP, y_eqP, y_eqQ, y_eqPP, if_pos, if_neg, ite_true, ite_false, not_true_eq_false, not_false_eq_true, and_true, true_and, and_false, false_and, or_true, true_or, or_false, false_or]; exact e1
    · rw [e3 x hx]; funext j; exact j_l_ne hx
    · rw [e4 j (by omega), j_l_nj (by omega)]
    · by_cases e : j = i
      · subst e; rw [e4 j (by omega), j_l_eq]
      · exact e5 j (by omega) c
theorem ym_zero {s : Nat} (hs : s < 4) : ∀ (m i n : Nat) (τ : j_G), i + m = 60 → m < n → ∃ τ', p_X12_row_52 (nI s) n (nI i) τ = some τ' ∧ τ'.1 = τ.1 ∧ (∀ x, x ≠ 96 → τ'.2 x = τ.2 x) ∧ (∀ j, j < 60 * s + i ∨ 60 * s + 60 ≤ j → τ'.2 96 j = τ.2 96 j) ∧ ∀ j, i ≤ j → j < 60 → τ'.2 96 (60 * s + j) = 0 := by
  intro m
  induction m with
  | zero =>
    intro i n τ h hn
    obtain ⟨n, rfl⟩ := y_pos hn
    refine ⟨τ, ?_, rfl, fun _ _ => rfl, fun _ _ => rfl, fun j a c => by omega⟩
    unfold p_X12_row_52; simp (disch := omega) only [y_lit, y_n1, nI_add, pk_mul, j_lt, j_b1_s, j_b2_s, j_b3_s, j_b0_s, y_bo, y_bo1, y_bo0, y_i0, y_i1, Classical.not_not, nI_clamp, y_ix, y_lt, y_le, y_eq, y_nP, y_nPs, y_ltP, y_ltQ, y_ltPP, y_eqP, y_eqQ, y_eqPP, if_pos, if_neg, ite_true, ite_false, not_true_eq_false, not_false_eq_true, and_true, true_and, and_false, false_and, or_true, true_or, or_false, false_or]
  | succ m ih =>
    intro i n τ h hn
    obtain ⟨n, rfl⟩ := y_pos hn
    obtain ⟨τ', e1, e2, e3, e4, e5⟩ := ih (i + 1) n (j_sl τ 96 (60 * s + i) 0) (by omega) (by omega)
    refine ⟨τ', ?_, e2, fun x hx => ?_, fun j hj => ?_, fun j a c => ?_⟩
    · unfold p_X12_row_52; simp (disch := omega) only [y_lit, y_n1, nI_add, pk_mul, j_lt, j_b1_s, j_b2_s, j_b3_s, j_b0_s, y_bo, y_bo1, y_bo0, y_i0, y_i1, Classical.not_not, nI_clamp, y_ix, y_lt, y_le, y_eq, y_nP, y_nPs, y_ltP, y_ltQ, y_ltPP, y_eqP, y_eqQ, y_eqPP, if_pos, if_neg, ite_true, ite_false, not_true_eq_false, not_false_eq_true, and_true, true_and, and_false, false_and, or_true, true_or, or_false, false_or]; exact e1
    · rw [e3 x hx]; funext j; exact j_l_ne hx
    · rw [e4 j (by omega), j_l_nj (by omega)]
    · by_cases e : j = i
      · subst e; rw [e4 _ (by omega), j_l_eq]
      · exact e5 j (by omega) c
variable {σ τ : j_G}
theorem z_row (hR : j_Rel σ τ) (a1 a2 a3 : Int32) : ∃ v σ1 τ1, f_X11_row a1 a2 a3 σ = some (v, σ1) ∧ f_X12_row a1 a2 a3 τ = some (v, τ1) ∧ j_Rel σ1 τ1 := by
  have c60 : ∀ x : Int32, nI 60 < x ↔ 60 < x.toInt := fun x => by rw [j_ltI, nI_toInt (by omega)]; rfl
  have c0 : ∀ x : Int32, x < nI 0 ↔ x.toInt < 0 := fun x => by rw [j_ltI, nI_toInt (by omega)]; rfl
  have c3 : ∀ x : Int32, (¬ x < nI 0 ∧ ¬ nI 3 < x) ↔ y_rg x 4 := fun x => y_c3 (by omega)
  have c3' : ∀ x : Int32, ∀ P : Prop, (x < nI 0 ∨ nI 3 < x ∨ P) ↔ (¬ y_rg x 4 ∨ P) := fun x P => by
    rw [← or_assoc, y_c5 (by omega)]
  by_cases h : y_rg a1 4
  · by_cases h2 : y_rg a2 4
    · by_cases h3 : 60 < a3.toInt
      · refine ⟨-2, σ, τ, ?_, ?_, hR⟩
        · unfold f_X11_row; simp (disch := omega) only [y_lit, y_n1, nI_add, pk_mul, j_lt, j_b1_s, j_b2_s, j_b3_s, j_b0_s, y_bo, y_bo1, y_bo0, y_i0, y_i1, Classical.not_not, nI_clamp, y_ix, y_lt, y_le, y_eq, y_nP, y_nPs, y_ltP, y_ltQ, y_ltPP, y_eqP, y_eqQ, y_eqPP, if_pos, if_neg, ite_true, ite_false, not_true_eq_false, not_false_eq_true, and_true, true_and, and_false, false_and, or_true, true_or, or_false, false_or, yc_isSlot, c3', h, h2, c60 a3, h3]
        · unfold f_X12_row; simp (disch := omega) only [y_lit, y_n1, nI_add, pk_mul, j_lt, j_b1_s, j_b2_s, j_b3_s, j_b0_s, y_bo, y_bo1, y_bo0, y_i0, y_i1, Classical.not_not, nI_clamp, y_ix, y_lt, y_le, y_eq, y_nP, y_nPs, y_ltP, y_ltQ, y_ltPP, y_eqP, y_eqQ, y_eqPP, if_pos, if_neg, ite_true, ite_false, not_true_eq_false, not_false_eq_true, and_true, true_and, and_false, false_and, or_true, true_or, or_false, false_or, ym_isSlot, y_lit64, y_in, c3, h, h2, c60 a3, h3]
      · by_cases h4 : a3.toInt < 0
        · refine ⟨-3, σ, τ, ?_, ?_, hR⟩
          · unfold f_X11_row; simp (disch := omega) only [y_lit, y_n1, nI_add, pk_mul, j_lt, j_b1_s, j_b2_s, j_b3_s, j_b0_s, y_bo, y_bo1, y_bo0, y_i0, y_i1, Classical.not_not, nI_clamp, y_ix, y_lt, y_le, y_eq, y_nP, y_nPs, y_ltP, y_ltQ, y_ltPP, y_eqP, y_eqQ, y_eqPP, if_pos, if_neg, ite_true, ite_false, not_true_eq_false, not_false_eq_true, and_true, true_and, and_false, false_and, or_true, true_or, or_false, false_or, yc_isSlot, c3', y_c5, h, h2, c60 a3, h3, c0 a3, h4]
          · unfold f_X12_row; simp (disch := omega) only [y_lit, y_n1, nI_add, pk_mul, j_lt, j_b1_s, j_b2_s, j_b3_s, j_b0_s, y_bo, y_bo1, y_bo0, y_i0, y_i1, Classical.not_not, nI_clamp, y_ix, y_lt, y_le, y_eq, y_nP, y_nPs, y_ltP, y_ltQ, y_ltPP, y_eqP, y_eqQ, y_eqPP, if_pos, if_neg, ite_true, ite_false, not_true_eq_false, not_false_eq_true, and_true, true_and, and_false, false_and, or_true, true_or, or_false, false_or, ym_isSlot, y_lit64, y_in, c3, h, h2, c60 a3, h3, c0 a3, h4]
        · obtain ⟨s, hs, rfl⟩ := y_of _ _ h.1 h.2
          obtain ⟨w, hw, rfl⟩ := y_of _ _ h2.1 h2.2
          obtain ⟨n, hn, rfl⟩ := y_of a3 61 (by omega) (by omega)
          obtain ⟨b, hW, hN, hM, hK⟩ := id hR
          obtain ⟨c, d, hc, _⟩ := hK.slot s hs
          have hcd : c ≠ d := by unfold y_sc at hc; omega
          obtain ⟨σ1, e1, e2, e3, e4, e5⟩ := yc_zero (d := d) 60 0 j_F (j_si (j_si σ c 1 (nI w)) c 0 (nI n)) (by omega) (y_F (by omega))
          obtain ⟨τ1, f1, f2, f3, f4, f5⟩ := ym_zero hs 60 0 j_F (j_si (j_si τ 94 s (nI n)) 95 s (nI w)) (by omega) (y_F (by omega))
          refine ⟨0, σ1, τ1, ?_, ?_, y_slots hR hc ⟨fun x hx => ?_, fun x hx => ?_, fun x h1 h2 => ?_, fun x h1 h2 => ?_, fun j hj => ?_, fun j hj => ?_⟩ (Or.inr ⟨n, w, by omega, by omega, ?_, ?_, ?_, ?_, fun i hi => ?_⟩)⟩
          · unfold f_X11_row f_X8_make
            rcases hc with ⟨rfl, rfl, rfl⟩ | ⟨rfl, rfl, rfl⟩ | ⟨rfl, rfl, rfl⟩ | ⟨rfl, rfl, rfl⟩
            · simp (disch := omega) only [y_lit, y_n1, nI_add, pk_mul, j_lt, j_b1_s, j_b2_s, j_b3_s, j_b0_s, y_bo, y_bo1, y_bo0, y_i0, y_i1, Classical.not_not, nI_clamp, y_ix, y_lt, y_le, y_eq, y_nP, y_nPs, y_ltP, y_ltQ, y_ltPP, y_eqP, y_eqQ, y_eqPP, if_pos, if_neg, ite_true, ite_false, not_true_eq_false, not_false_eq_true, and_true, true_and, and_false, false_and, or_true, true_or, or_false, false_or, yc_isSlot, y_rn, e1]
            · simp (disch := omega) only [y_lit, y_n1, nI_add, pk_mul, j_lt, j_b1_s, j_b2_s, j_b3_s, j_b0_s, y_bo, y_bo1, y_bo0, y_i0, y_i1, Classical.not_not, nI_clamp, y_ix, y_lt, y_le, y_eq, y_nP, y_nPs, y_ltP, y_ltQ, y_ltPP, y_eqP, y_eqQ, y_eqPP, if_pos, if_neg, ite_true, ite_false, not_true_eq_false, not_false_eq_true, and_true, true_and, and_false, false_and, or_true, true_or, or_false, false_or, yc_isSlot, y_rn, e1]
            · simp (disch := omega) only [y_lit, y_n1, nI_add, pk_mul, j_lt, j_b1_s, j_b2_s, j_b3_s, j_b0_s, y_bo, y_bo1, y_bo0, y_i0, y_i1, Classical.not_not, nI_clamp, y_ix, y_lt, y_le, y_eq, y_nP, y_nPs, y_ltP, y_ltQ, y_ltPP, y_eqP, y_eqQ, y_eqPP, if_pos, if_neg, ite_true, ite_false, not_true_eq_false, not_false_eq_true, and_true, true_and, and_false, false_and, or_true, true_or, or_false, false_or, yc_isSlot, y_rn, e1]
            · simp (disch := omega) only [y_lit, y_n1, nI_add, pk_mul, j_lt, j_b1_s, j_b2_s, j_b3_s, j_b0_s, y_bo, y_bo1, y_bo0, y_i0, y_i1, Classical.not_not, nI_clamp, y_ix, y_lt, y_le, y_eq, y_nP, y_nPs, y_ltP, y_ltQ, y_ltPP, y_eqP, y_eqQ, y_eqPP, if_pos, if_neg, ite_true, ite_false, not_true_eq_false, not_false_eq_true, and_true, true_and, and_false, false_and, or_true, true_or, or_false, false_or, yc_isSlot, y_rn, e1]
          · unfold f_X12_row; simp (disch := omega) only [y_lit, y_n1, nI_add, pk_mul, j_lt, j_b1_s, j_b2_s, j_b3_s, j_b0_s, y_bo, y_bo1, y_bo0, y_i0, y_i1, Classical.not_not, nI_clamp, y_ix, y_lt, y_le, y_eq, y_nP, y_nPs, y_ltP, y_ltQ, y_ltPP, y_eqP, y_eqQ, y_eqPP, if_pos, if_neg, ite_true, ite_false, not_true_eq_false, not_false_eq_true, and_true, true_and, and_false, false_and, or_true, true_or, or_false, false_or, ym_isSlot, y_rn, y_lit64, y_in, f1]
          · rw [e2]; funext j; rw [j_r_ne hx, j_r_ne hx]
          · rw [e3 x hx]; rfl
          · rw [f2]; funext j; rw [j_r_ne h2, j_r_ne h1]
          · rw [f3 x h1]; rfl
          · rw [f2]; exact ⟨by rw [j_r_ne (by omega), j_r_nj hj], by rw [j_r_nj hj, j_r_ne (by omega)]⟩
          · rw [f4 j (by omega)]; rfl
          · rw [e2, j_r_eq]
          · rw [f2, j_r_ne (by omega), j_r_eq]
          · rw [e2, j_r_nj (by omega), j_r_eq]
          · rw [f2, j_r_eq]
          · rw [e5 i (by omega) (by omega), f5 i (by omega) (by omega)]
    · refine ⟨-2, σ, τ, ?_, ?_, hR⟩
      · unfold f_X11_row; simp (disch := omega) only [y_lit, y_n1, nI_add, pk_mul, j_lt, j_b1_s, j_b2_s, j_b3_s, j_b0_s, y_bo, y_bo1, y_bo0, y_i0, y_i1, Classical.not_not, nI_clamp, y_ix, y_lt, y_le, y_eq, y_nP, y_nPs, y_ltP, y_ltQ, y_ltPP, y_eqP, y_eqQ, y_eqPP, if_pos, if_neg, ite_true, ite_false, not_true_eq_false, not_false_eq_true, and_true, true_and, and_false, false_and, or_true, true_or, or_false, false_or, yc_isSlot, c3', h2]
      · unfold f_X12_row; simp (disch := omega) only [y_lit, y_n1, nI_add, pk_mul, j_lt, j_b1_s, j_b2_s, j_b3_s, j_b0_s, y_bo, y_bo1, y_bo0, y_i0, y_i1, Classical.not_not, nI_clamp, y_ix, y_lt, y_le, y_eq, y_nP, y_nPs, y_ltP, y_ltQ, y_ltPP, y_eqP, y_eqQ, y_eqPP, if_pos, if_neg, ite_true, ite_false, not_true_eq_false, not_false_eq_true, and_true, true_and, and_false, false_and, or_true, true_or, or_false, false_or, ym_isSlot, y_lit64, y_in, c3, h2]
  · refine ⟨-2, σ, τ, ?_, ?_, hR⟩
    · unfold f_X11_row; simp (disch := omega) only [y_lit, y_n1, nI_add, pk_mul, j_lt, j_b1_s, j_b2_s, j_b3_s, j_b0_s, y_bo, y_bo1, y_bo0, y_i0, y_i1, Classical.not_not, nI_clamp, y_ix, y_lt, y_le, y_eq, y_nP, y_nPs, y_ltP, y_ltQ, y_ltPP, y_eqP, y_eqQ, y_eqPP, if_pos, if_neg, ite_true, ite_false, not_true_eq_false, not_false_eq_true, and_true, true_and, and_false, false_and, or_true, true_or, or_false, false_or, yc_isSlot, h]
    · unfold f_X12_row; simp (disch := omega) only [y_lit, y_n1, nI_add, pk_mul, j_lt, j_b1_s, j_b2_s, j_b3_s, j_b0_s, y_bo, y_bo1, y_bo0, y_i0, y_i1, Classical.not_not, nI_clamp, y_ix, y_lt, y_le, y_eq, y_nP, y_nPs, y_ltP, y_ltQ, y_ltPP, y_eqP, y_eqQ, y_eqPP, if_pos, if_neg, ite_true, ite_false, not_true_eq_false, not_false_eq_true, and_true, true_and, and_false, false_and, or_true, true_or, or_false, false_or, ym_isSlot, h]
end R
/-! ===== write ===== -/
theorem y_cutB (v : BitVec 64) (k : Nat) (hk : 0 < k) (hk2 : k ≤ 64) (i : Nat) (hi : i < 64) : ((v <<< (64 - k)).sshiftRight (64 - k)).getLsbD i = if i < k then v.getLsbD i else v.getLsbD (k - 1) := by
  rw [BitVec.getLsbD_sshiftRight, BitVec.msb_eq_getLsbD_last, BitVec.getLsbD_shiftLeft, BitVec.getLsbD_shiftLeft]
  by_cases h : i < k
  · rw [if_pos h, if_pos (by omega)]
    have e : 64 - k + i - (64 - k) = i := by omega
    rw [e]
    simp [show ¬ 64 ≤ i by omega, show 64 - k + i < 64 by omega]
  · rw [if_neg h, if_neg (by omega)]
    have e : 64 - 1 - (64 - k) = k - 1 := by omega
    rw [e]
    simp [show ¬ 64 ≤ i by omega, show 64 - k ≤ 63 by omega]
theorem y_sx {m k : Nat} (x : BitVec m) (i : Nat) (hi : i < k) (hm : 0 < m) : (x.signExtend k).getLsbD i = if i < m then x.getLsbD i else x.getLsbD (m - 1) := by
  rw [BitVec.getLsbD_signExtend, BitVec.msb_eq_getLsbD_last]
  simp [hi]
theorem y_shlr (v K : Int64) (k : Nat) (hK : (K.toBitVec.smod 64).toNat = k) : ((v <<< K) >>> K).toBitVec = (v.toBitVec <<< k).sshiftRight k := by
  show BitVec.sshiftRight' (v.toBitVec <<< (K.toBitVec.smod 64)) (K.toBitVec.smod 64) = _
  rw [BitVec.sshiftRight_eq', BitVec.shiftLeft_eq', hK]
theorem y_cut0 (v : Int64) : f_X12_cut v (nI 0) = ((v.toInt32).toInt8.toInt32).toInt64 := by
  unfold f_X12_cut
  simp only [j_lt]
  rw [show ((64 : Int32) - ((8 : Int32) <<< (nI 0 &&& 31))).toInt64 &&& 63 = (56 : Int64) from by decide]
  apply Int64.toBitVec_inj.mp
  rw [y_shlr v 56 56 (by decide)]
  apply BitVec.eq_of_getLsbD_eq
  intro i hi
  rw [show (56 : Nat) = 64 - 8 from rfl, y_cutB v.toBitVec 8 (by omega) (by omega) i hi]
  show _ = ((((v.toBitVec.signExtend 32).signExtend 8).signExtend 32).signExtend 64).getLsbD i
  rw [y_sx _ i hi (by omega)]
  by_cases h : i < 8
  · rw [if_pos h, if_pos (by omega), y_sx _ i (by omega) (by omega), if_pos h, y_sx _ i h (by omega), if_pos (by omega), y_sx _ i (by omega) (by omega), if_pos (by omega)]
  · rw [if_neg h]
    by_cases h2 : i < 32
    · rw [if_pos h2, y_sx _ i h2 (by omega), if_neg h, y_sx _ _ (by omega) (by omega), if_pos (by omega), y_sx _ _ (by omega) (by omega), if_pos (by omega)]
    · rw [if_neg h2, y_sx _ _ (by omega) (by omega), if_neg (by omega), y_sx _ _ (by omega) (by omega), if_pos (by omega), y_sx _ _ (by omega) (by omega), if_pos (by omega)]
theorem y_cut1 (v : Int64) : f_X12_cut v (nI 1) = ((v.toInt32).toInt16.toInt32).toInt64 := by
  unfold f_X12_cut
  simp only [j_lt]
  rw [show ((64 : Int32) - ((8 : Int32) <<< (nI 1 &&& 31))).toInt64 &&& 63 = (48 : Int64) from by decide]
  apply Int64.toBitVec_inj.mp
  rw [y_shlr v 48 48 (by decide)]
  apply BitVec.eq_of_getLsbD_eq
  intro i hi
  rw [show (48 : Nat) = 64 - 16 from rfl, y_cutB v.toBitVec 16 (by omega) (by omega) i hi]
  show _ = ((((v.toBitVec.signExtend 32).signExtend 16).signExtend 32).signExtend 64).getLsbD i
  rw [y_sx _ i hi (by omega)]
  by_cases h : i < 16
  · rw [if_pos h, if_pos (by omega), y_sx _ i (by omega) (by omega), if_pos h, y_sx _ i h (by omega), if_pos (by omega), y_sx _ i (by omega) (by omega), if_pos (by omega)]
  · rw [if_neg h]
    by_cases h2 : i < 32
    · rw [if_pos h2, y_sx _ i h2 (by omega), if_neg h, y_sx _ _ (by omega) (by omega), if_pos (by omega), y_sx _ _ (by omega) (by omega), if_pos (by omega)]
    · rw [if_neg h2, y_sx _ _ (by omega) (by omega), if_neg (by omega), y_sx _ _ (by omega) (by omega), if_pos (by omega), y_sx _ _ (by omega) (by omega), if_pos (by omega)]
theorem y_cut2 (v : Int64) : f_X12_cut v (nI 2) = (v.toInt32).toInt64 := by
  unfold f_X12_cut
  simp only [j_lt]
  rw [show ((64 : Int32) - ((8 : Int32) <<< (nI 2 &&& 31))).toInt64 &&& 63 = (32 : Int64) from by decide]
  apply Int64.toBitVec_inj.mp
  rw [y_shlr v 32 32 (by decide)]
  apply BitVec.eq_of_getLsbD_eq
  intro i hi
  rw [show (32 : Nat) = 64 - 32 from rfl, y_cutB v.toBitVec 32 (by omega) (by omega) i hi]
  show _ = ((v.toBitVec.signExtend 32).signExtend 64).getLsbD i
  rw [y_sx _ i hi (by omega)]
  by_cases h : i < 32
  · rw [if_pos h, if_pos h, y_sx _ i h (by omega), if_pos (by omega)]
  · rw [if_neg h, if_neg h, y_sx _ _ (by omega) (by omega), if_pos (by omega)]
theorem y_cut3 (v : Int64) : f_X12_cut v (nI 3) = v := by
  unfold f_X12_cut
  simp only [j_lt]
  rw [show ((64 : Int32) - ((8 : Int32) <<< (nI 3 &&& 31))).toInt64 &&& 63 = (0 : Int64) from by decide]
  apply Int64.toBitVec_inj.mp
  rw [y_shlr v 0 0 (by decide)]
  simp
section Z
variable {σ τ : j_G}
theorem y_ro.sl {s c d n w : Nat} (h : y_ro σ τ s c d n w) : y_sl σ τ s c d := Or.inr ⟨n, w, h.2.1, h.2.2.1, h.2.2.2.1, h.2.2.2.2.1, h.2.2.2.2.2.1, h.2.2.2.2.2.2.1, h.2.2.2.2.2.2.2⟩
theorem z_write (hR : j_Rel σ τ) (a1 a2 : Int32) (a3 : Int64) : ∃ v σ1 τ1, f_X11_write a1 a2 a3 σ = some (v, σ1) ∧ f_X12_write a1 a2 a3 τ = some (v, τ1) ∧ j_Rel σ1 τ1 := by
  obtain ⟨b, hW, hN, hM, hK⟩ := id hR
  by_cases h : y_rg a1 4
  · obtain ⟨s, hs, rfl⟩ := y_of _ _ h.1 h.2
    obtain ⟨c, d, hc, hk⟩ := hK.slot s hs
    rcases hk with ⟨k1, k2⟩ | ⟨n, w, hr⟩
    · refine ⟨-6, σ, τ, ?_, ?_, hR⟩
      · unfold f_X11_write f_X8_isMade
        rcases hc with ⟨rfl, rfl, rfl⟩ | ⟨rfl, rfl, rfl⟩ | ⟨rfl, rfl, rfl⟩ | ⟨rfl, rfl, rfl⟩
        · simp (disch := omega) only [y_lit, y_n1, nI_add, pk_mul, j_lt, j_b1_s, j_b2_s, j_b3_s, j_b0_s, y_bo, y_bo1, y_bo0, y_i0, y_i1, Classical.not_not, nI_clamp, y_ix, y_lt, y_le, y_eq, y_nP, y_nPs, y_ltP, y_ltQ, y_ltPP, y_eqP, y_eqQ, y_eqPP, if_pos, if_neg, ite_true, ite_false, not_true_eq_false, not_false_eq_true, and_true, true_and, and_false, false_and, or_true, true_or, or_false, false_or, yc_isSlot, y_rn, k1]
        · simp (disch := omega) only [y_lit, y_n1, nI_add, pk_mul, j_lt, j_b1_s, j_b2_s, j_b3_s, j_b0_s, y_bo, y_bo1, y_bo0, y_i0, y_i1, Classical.not_not, nI_clamp, y_ix, y_lt, y_le, y_eq, y_nP, y_nPs, y_ltP, y_ltQ, y_ltPP, y_eqP, y_eqQ, y_eqPP, if_pos, if_neg, ite_true, ite_false, not_true_eq_false, not_false_eq_true, and_true, true_and, and_false, false_and, or_true, true_or, or_false, false_or, yc_isSlot, y_rn, k1]
        · simp (disch := omega) only [y_lit, y_n1, nI_add, pk_mul, j_lt, j_b1_s, j_b2_s, j_b3_s, j_b0_s, y_bo, y_bo1, y_bo0, y_i0, y_i1, Classical.not_not, nI_clamp, y_ix, y_lt, y_le, y_eq, y_nP, y_nPs, y_ltP, y_ltQ, y_ltPP, y_eqP, y_eqQ, y_eqPP, if_pos, if_neg, ite_true, ite_false, not_true_eq_false, not_false_eq_true, and_true, true_and, and_false, false_and, or_true, true_or, or_false, false_or, yc_isSlot, y_rn, k1]
        · simp (disch := omega) only [y_lit, y_n1, nI_add, pk_mul, j_lt, j_b1_s, j_b2_s, j_b3_s, j_b0_s, y_bo, y_bo1, y_bo0, y_i0, y_i1, Classical.not_not, nI_clamp, y_ix, y_lt, y_le, y_eq, y_nP, y_nPs, y_ltP, y_ltQ, y_ltPP, y_eqP, y_eqQ, y_eqPP, if_pos, if_neg, ite_true, ite_false, not_true_eq_false, not_false_eq_true, and_true, true_and, and_false, false_and, or_true, true_or, or_false, false_or, yc_isSlot, y_rn, k1]
      · unfold f_X12_write; simp (disch := omega) only [y_lit, y_n1, nI_add, pk_mul, j_lt, j_b1_s, j_b2_s, j_b3_s, j_b0_s, y_bo, y_bo1, y_bo0, y_i0, y_i1, Classical.not_not, nI_clamp, y_ix, y_lt, y_le, y_eq, y_nP, y_nPs, y_ltP, y_ltQ, y_ltPP, y_eqP, y_eqQ, y_eqPP, if_pos, if_neg, ite_true, ite_false, not_true_eq_false, not_false_eq_true, and_true, true_and, and_false, false_and, or_true, true_or, or_false, false_or, ym_isSlot, y_rn, k2]
    · obtain ⟨_, hn, hw, r1, r2, r3, r4, r5⟩ := id hr
      have hcd : c ≠ d := by unfold y_sc at hc; omega
      by_cases h2 : y_rg a2 n
      · obtain ⟨i, hi, rfl⟩ := y_of _ _ h2.1 h2.2
        have put : ∃ x, f_X8_put c d (nI i) a3 σ = some (j_sl σ d i x) ∧ f_X12_cut a3 (nI w) = x := by
          have q : f_X8_put c d (nI i) a3 σ = if nI w = nI 0 then some (j_sl σ d i (((a3).toInt32).toInt8.toInt32).toInt64) else if nI w = nI 1 then some (j_sl σ d i (((a3).toInt32).toInt16.toInt32).toInt64) else if nI w = nI 2 then some (j_sl σ d i ((a3).toInt32).toInt64) else some (j_sl σ d i a3) := by
            unfold f_X8_put
            rw [r1, r3, y_ix (by omega) (by omega), y_ix (by omega) (by omega), y_ix (by omega) (by omega), y_ix (by omega) (by omega), nI_clamp (by omega), if_neg]
            · rfl
            · rw [show (0 : Int32) = nI 0 from rfl, y_lt (by omega) (by omega), y_lt (by omega) (by omega)]; omega
          obtain rfl | rfl | rfl | rfl : w = 0 ∨ w = 1 ∨ w = 2 ∨ w = 3 := by omega
          · exact ⟨_, by rw [q, if_pos rfl], y_cut0 a3⟩
          · exact ⟨_, by rw [q, if_neg (by decide), if_pos rfl], y_cut1 a3⟩
          · exact ⟨_, by rw [q, if_neg (by decide), if_neg (by decide), if_pos rfl], y_cut2 a3⟩
          · exact ⟨_, by rw [q, if_neg (by decide), if_neg (by decide), if_neg (by decide)], y_cut3 a3⟩
        obtain ⟨x, p1, p2⟩ := put
        have hsl : y_ro (j_sl σ d i x) (j_sl τ 96 (60 * s + i) x) s c d n w := by
          refine ⟨hc, hn, hw, r1, r2, r3, r4, fun j hj => ?_⟩
          by_cases e : j = i
          · subst e; rw [j_l_eq, j_l_eq]
          · rw [j_l_nj e, j_l_nj (by omega)]; exact r5 j hj
        refine ⟨0, j_sl σ d i x, j_sl τ 96 (60 * s + i) x, ?_, ?_, y_slots hR hc ⟨fun _ _ => rfl, fun y hy => funext fun j => j_l_ne hy, fun _ _ _ => rfl, fun y hy _ => funext fun j => j_l_ne hy, fun _ _ => ⟨rfl, rfl⟩, fun j hj => j_l_nj (by omega)⟩ hsl.sl⟩
        · unfold f_X11_write f_X8_isMade
          rcases hc with ⟨rfl, rfl, rfl⟩ | ⟨rfl, rfl, rfl⟩ | ⟨rfl, rfl, rfl⟩ | ⟨rfl, rfl, rfl⟩
          · simp (disch := omega) only [y_lit, y_n1, nI_add, pk_mul, j_lt, j_b1_s, j_b2_s, j_b3_s, j_b0_s, y_bo, y_bo1, y_bo0, y_i0, y_i1, Classical.not_not, nI_clamp, y_ix, y_lt, y_le, y_eq, y_nP, y_nPs, y_ltP, y_ltQ, y_ltPP, y_eqP, y_eqQ, y_eqPP, if_pos, if_neg, ite_true, ite_false, not_true_eq_false, not_false_eq_true, and_true, true_and, and_false, false_and, or_true, true_or, or_false, false_or, yc_isSlot, y_rn, r1, p1]
          · simp (disch := omega) only [y_lit, y_n1, nI_add, pk_mul, j_lt, j_b1_s, j_b2_s, j_b3_s, j_b0_s, y_bo, y_bo1, y_bo0, y_i0, y_i1, Classical.not_not, nI_clamp, y_ix, y_lt, y_le, y_eq, y_nP, y_nPs, y_ltP, y_ltQ, y_ltPP, y_eqP, y_eqQ, y_eqPP, if_pos, if_neg, ite_true, ite_false, not_true_eq_false, not_false_eq_true, and_true, true_and, and_false, false_and, or_true, true_or, or_false, false_or, yc_isSlot, y_rn, r1, p1]
          · simp (disch := omega) only [y_lit, y_n1, nI_add, pk_mul, j_lt, j_b1_s, j_b2_s, j_b3_s, j_b0_s, y_bo, y_bo1, y_bo0, y_i0, y_i1, Classical.not_not, nI_clamp, y_ix, y_lt, y_le, y_eq, y_nP, y_nPs, y_ltP, y_ltQ, y_ltPP, y_eqP, y_eqQ, y_eqPP, if_pos, if_neg, ite_true, ite_false, not_true_eq_false, not_false_eq_true, and_true, true_and, and_false, false_and, or_true, true_or, or_false, false_or, yc_isSlot, y_rn, r1, p1]
          · simp (disch := omega) only [y_lit, y_n1, nI_add, pk_mul, j_lt, j_b1_s, j_b2_s, j_b3_s, j_b0_s, y_bo, y_bo1, y_bo0, y_i0, y_i1, Classical.not_not, nI_clamp, y_ix, y_lt, y_le, y_eq, y_nP, y_nPs, y_ltP, y_ltQ, y_ltPP, y_eqP, y_eqQ, y_eqPP, if_pos, if_neg, ite_true, ite_false, not_true_eq_false, not_false_eq_true, and_true, true_and, and_false, false_and, or_true, true_or, or_false, false_or, yc_isSlot, y_rn, r1, p1]
        · unfold f_X12_write; simp (disch := omega) only [y_lit, y_n1, nI_add, pk_mul, j_lt, j_b1_s, j_b2_s, j_b3_s, j_b0_s, y_bo, y_bo1, y_bo0, y_i0, y_i1, Classical.not_not, nI_clamp, y_ix, y_lt, y_le, y_eq, y_nP, y_nPs, y_ltP, y_ltQ, y_ltPP, y_eqP, y_eqQ, y_eqPP, if_pos, if_neg, ite_true, ite_false, not_true_eq_false, not_false_eq_true, and_true, true_and, and_false, false_and, or_true, true_or, or_false, false_or, ym_isSlot, y_rn, r2, r4, y_lit64, y_in, p2]
      · refine ⟨-7, σ, τ, ?_, ?_, hR⟩
        · have q : a2 < nI 0 ∨ ¬ a2 < nI n := (y_c4 (by omega)).mpr h2
          unfold f_X11_write f_X8_isMade
          rcases hc with ⟨rfl, rfl, rfl⟩ | ⟨rfl, rfl, rfl⟩ | ⟨rfl, rfl, rfl⟩ | ⟨rfl, rfl, rfl⟩
          · simp (disch := omega) only [y_lit, y_n1, nI_add, pk_mul, j_lt, j_b1_s, j_b2_s, j_b3_s, j_b0_s, y_bo, y_bo1, y_bo0, y_i0, y_i1, Classical.not_not, nI_clamp, y_ix, y_lt, y_le, y_eq, y_nP, y_nPs, y_ltP, y_ltQ, y_ltPP, y_eqP, y_eqQ, y_eqPP, if_pos, if_neg, ite_true, ite_false, not_true_eq_false, not_false_eq_true, and_true, true_and, and_false, false_and, or_true, true_or, or_false, false_or, yc_isSlot, y_rn, r1]
            rcases q with q | q
            · rw [if_neg (fun z => z q)]
            · rw [if_pos q]; split <;> rfl
          · simp (disch := omega) only [y_lit, y_n1, nI_add, pk_mul, j_lt, j_b1_s, j_b2_s, j_b3_s, j_b0_s, y_bo, y_bo1, y_bo0, y_i0, y_i1, Classical.not_not, nI_clamp, y_ix, y_lt, y_le, y_eq, y_nP, y_nPs, y_ltP, y_ltQ, y_ltPP, y_eqP, y_eqQ, y_eqPP, if_pos, if_neg, ite_true, ite_false, not_true_eq_false, not_false_eq_true, and_true, true_and, and_false, false_and, or_true, true_or, or_false, false_or, yc_isSlot, y_rn, r1]
            rcases q with q | q
            · rw [if_neg (fun z => z q)]
            · rw [if_pos q]; split <;> rfl
          · simp (disch := omega) only [y_lit, y_n1, nI_add, pk_mul, j_lt, j_b1_s, j_b2_s, j_b3_s, j_b0_s, y_bo, y_bo1, y_bo0, y_i0, y_i1, Classical.not_not, nI_clamp, y_ix, y_lt, y_le, y_eq, y_nP, y_nPs, y_ltP, y_ltQ, y_ltPP, y_eqP, y_eqQ, y_eqPP, if_pos, if_neg, ite_true, ite_false, not_true_eq_false, not_false_eq_true, and_true, true_and, and_false, false_and, or_true, true_or, or_false, false_or, yc_isSlot, y_rn, r1]
            rcases q with q | q
            · rw [if_neg (fun z => z q)]
            · rw [if_pos q]; split <;> rfl
          · simp (disch := omega) only [y_lit, y_n1, nI_add, pk_mul, j_lt, j_b1_s, j_b2_s, j_b3_s, j_b0_s, y_bo, y_bo1, y_bo0, y_i0, y_i1, Classical.not_not, nI_clamp, y_ix, y_lt, y_le, y_eq, y_nP, y_nPs, y_ltP, y_ltQ, y_ltPP, y_eqP, y_eqQ, y_eqPP, if_pos, if_neg, ite_true, ite_false, not_true_eq_false, not_false_eq_true, and_true, true_and, and_false, false_and, or_true, true_or, or_false, false_or, yc_isSlot, y_rn, r1]
            rcases q with q | q
            · rw [if_neg (fun z => z q)]
            · rw [if_pos q]; split <;> rfl
        · unfold f_X12_write; simp (disch := omega) only [y_lit, y_n1, nI_add, pk_mul, j_lt, j_b1_s, j_b2_s, j_b3_s, j_b0_s, y_bo, y_bo1, y_bo0, y_i0, y_i1, Classical.not_not, nI_clamp, y_ix, y_lt, y_le, y_eq, y_nP, y_nPs, y_ltP, y_ltQ, y_ltPP, y_eqP, y_eqQ, y_eqPP, if_pos, if_neg, ite_true, ite_false, not_true_eq_false, not_false_eq_true, and_true, true_and, and_false, false_and, or_true, true_or, or_false, false_or, ym_isSlot, y_rn, r2, y_lit64, y_in, y_c2, h2]
  · refine ⟨-2, σ, τ, ?_, ?_, hR⟩
    · unfold f_X11_write; simp (disch := omega) only [y_lit, y_n1, nI_add, pk_mul, j_lt, j_b1_s, j_b2_s, j_b3_s, j_b0_s, y_bo, y_bo1, y_bo0, y_i0, y_i1, Classical.not_not, nI_clamp, y_ix, y_lt, y_le, y_eq, y_nP, y_nPs, y_ltP, y_ltQ, y_ltPP, y_eqP, y_eqQ, y_eqPP, if_pos, if_neg, ite_true, ite_false, not_true_eq_false, not_false_eq_true, and_true, true_and, and_false, false_and, or_true, true_or, or_false, false_or, yc_isSlot, h]
    · unfold f_X12_write; simp (disch := omega) only [y_lit, y_n1, nI_add, pk_mul, j_lt, j_b1_s, j_b2_s, j_b3_s, j_b0_s, y_bo, y_bo1, y_bo0, y_i0, y_i1, Classical.not_not, nI_clamp, y_ix, y_lt, y_le, y_eq, y_nP, y_nPs, y_ltP, y_ltQ, y_ltPP, y_eqP, y_eqQ, y_eqPP, if_pos, if_neg, ite_true, ite_false, not_true_eq_false, not_false_eq_true, and_true, true_and, and_false, false_and, or_true, true_or, or_false, false_or, ym_isSlot, h]
end Z
/-! ===== image, back ===== -/
section C
variable {σ : j_G} {b : Nat → Nat}
theorem yc_copy {c c1 c2 c3 c4 c5 c6 c7 e e1 e2 e3 e4 e5 e6 e7 : Nat} (hW : y_W b) (h : y_cb σ c c1 c2 c3 c4 c5 c6 c7 b) (hc : c1 = c + 1 ∧ c2 = c + 2 ∧ c3 = c + 3 ∧ c4 = c + 4 ∧ c5 = c + 5 ∧ c6 = c + 6 ∧ c7 = c + 7) (he : e1 = e + 1 ∧ e2 = e + 2 ∧ e3 = e + 3 ∧ e4 = e + 4 ∧ e5 = e + 5 ∧ e6 = e + 6 ∧ e7 = e + 7) (hd : c + 7 < e ∨ e + 7 < c) : ∃ σ', f_X2_copy c e c1 e1 c2 e2 c3 e3 c4 e4 c5 e5 c6 e6 c7 e7 σ = some σ' ∧ y_cb σ' e e1 e2 e3 e4 e5 e6 e7 b ∧ (∀ x, x < e ∨ e + 7 < x → σ'.1 x = σ.1 x) ∧ σ'.2 = σ.2 ∧ σ'.1 e 0 = σ.1 e 0 := by
  have b4 := hW.b4; have b5 := hW.b5; have b6 := hW.b6
  have cg : ∀ {α : Type} (n : Nat) (o : Option α), n < 100 → j_cg (nI 0) (nI 0) (nI n) n n o = o := by
    intro α n o hn
    unfold j_cg
    rw [nI_clamp (by omega), nI_clamp (by omega), if_neg]
    simp only [y_lit]
    rw [y_lt (by omega) (by omega), y_lt (by omega) (by omega)]
    omega
  have cg6 : ∀ {α : Type} (o : Option α), j_cg (0 : Int32) (0 : Int32) (6 : Int32) 6 6 o = o := fun o => cg 6 o (by omega)
  have cg20 : ∀ {α : Type} (o : Option α), j_cg (0 : Int32) (0 : Int32) (20 : Int32) 20 20 o = o := fun o => cg 20 o (by omega)
  have cg24 : ∀ {α : Type} (o : Option α), j_cg (0 : Int32) (0 : Int32) (24 : Int32) 24 24 o = o := fun o => cg 24 o (by omega)
  obtain ⟨rfl, rfl, rfl, rfl, rfl, rfl, rfl⟩ := hc
  obtain ⟨rfl, rfl, rfl, rfl, rfl, rfl, rfl⟩ := he
  obtain ⟨⟨f1, f2, f3, f4, f5, f6, f7, f10, d0, d1⟩, f8, s, t, k⟩ := h
  have ne : ∀ i j, i < 8 → j < 8 → c + i ≠ e + j := fun i j hi hj => by clear f8; omega
  have ne0 : ∀ j, j < 8 → c ≠ e + j := fun j => ne 0 j (by decide)
  have n0 : ∀ i, i < 8 → c + i ≠ e := fun i hi => ne i 0 hi (by decide)
  have n00 : c ≠ e := ne 0 0 (by decide) (by decide)
  clear hd
  unfold f_X2_copy f_X3_copy
  simp only [j_lt, cg6, cg20, cg24, j_b1_s]
  refine ⟨_, rfl, ⟨⟨?_, ?_, ?_, ?_, ?_, ?_, ?_, ?_, ?_, ?_⟩, fun h9 => ⟨?_, ?_⟩, fun j hj => ⟨?_, ?_⟩, fun p q hp hq => ?_, fun j hj => ⟨?_, ?_, ?_⟩⟩, fun x hx => ?_, rfl, ?_⟩
  · simp (disch := first | exact ne _ _ (by decide) (by decide) | exact ne0 _ (by decide) | exact n0 _ (by decide) | exact n00 | omega) only [j_c_ne, j_r_ne, j_r_eq, j_r_nj]; exact f1
  · simp (disch := first | exact ne _ _ (by decide) (by decide) | exact ne0 _ (by decide) | exact n0 _ (by decide) | exact n00 | omega) only [j_c_ne, j_r_ne, j_r_eq, j_r_nj]; exact f2
  · simp (disch := first | exact ne _ _ (by decide) (by decide) | exact ne0 _ (by decide) | exact n0 _ (by decide) | exact n00 | omega) only [j_c_ne, j_r_ne, j_r_eq, j_r_nj]; exact f3
  · simp (disch := first | exact ne _ _ (by decide) (by decide) | exact ne0 _ (by decide) | exact n0 _ (by decide) | exact n00 | omega) only [j_c_ne, j_r_ne, j_r_eq, j_r_nj]; exact f4
  · simp (disch := first | exact ne _ _ (by decide) (by decide) | exact ne0 _ (by decide) | exact n0 _ (by decide) | exact n00 | omega) only [j_c_ne, j_r_ne, j_r_eq, j_r_nj]; exact f5
  · simp (disch := first | exact ne _ _ (by decide) (by decide) | exact ne0 _ (by decide) | exact n0 _ (by decide) | exact n00 | omega) only [j_c_ne, j_r_ne, j_r_eq, j_r_nj]; exact f6
  · simp (disch := first | exact ne _ _ (by decide) (by decide) | exact ne0 _ (by decide) | exact n0 _ (by decide) | exact n00 | omega) only [j_c_ne, j_r_ne, j_r_eq, j_r_nj]; exact f7
  · simp (disch := first | exact ne _ _ (by decide) (by decide) | exact ne0 _ (by decide) | exact n0 _ (by decide) | exact n00 | omega) only [j_c_ne, j_r_ne, j_r_eq, j_r_nj]; exact f10
  · simp (disch := first | exact ne _ _ (by decide) (by decide) | exact ne0 _ (by decide) | exact n0 _ (by decide) | exact n00 | omega) only [j_c_ne, j_r_ne, j_r_eq, j_r_nj]; exact d0
  · simp (disch := first | exact ne _ _ (by decide) (by decide) | exact ne0 _ (by decide) | exact n0 _ (by decide) | exact n00 | omega) only [j_c_ne, j_r_ne, j_r_eq, j_r_nj]; exact d1
  · simp (disch := first | exact ne _ _ (by decide) (by decide) | exact ne0 _ (by decide) | exact n0 _ (by decide) | exact n00 | omega) only [j_c_ne, j_r_ne, j_r_eq, j_r_nj]; exact (f8 h9).1
  · simp (disch := first | exact ne _ _ (by decide) (by decide) | exact ne0 _ (by decide) | exact n0 _ (by decide) | exact n00 | omega) only [j_c_ne, j_r_ne, j_r_eq, j_r_nj]; exact (f8 h9).2
  · simp (disch := first | exact ne _ _ (by decide) (by decide) | exact ne0 _ (by decide) | exact n0 _ (by decide) | exact n00 | omega) only [j_c_ne, j_r_ne, j_c_eq, y_lit, nI_clamp, pk_cpy_in, Nat.zero_add, Nat.sub_zero]; exact (s j hj).1
  · simp (disch := first | exact ne _ _ (by decide) (by decide) | exact ne0 _ (by decide) | exact n0 _ (by decide) | exact n00 | omega) only [j_c_ne, j_r_ne, j_c_eq, y_lit, nI_clamp, pk_cpy_in, Nat.zero_add, Nat.sub_zero]; exact (s j hj).2
  · simp (disch := first | exact ne _ _ (by decide) (by decide) | exact ne0 _ (by decide) | exact n0 _ (by decide) | exact n00 | omega) only [j_c_ne, j_r_ne, j_c_eq, y_lit, nI_clamp, pk_cpy_in, Nat.zero_add, Nat.sub_zero]; exact t p q hp hq
  · simp (disch := first | exact ne _ _ (by decide) (by decide) | exact ne0 _ (by decide) | exact n0 _ (by decide) | exact n00 | omega) only [j_c_ne, j_r_ne, j_c_eq, y_lit, nI_clamp, pk_cpy_in, Nat.zero_add, Nat.sub_zero]; exact (k j hj).1
  · simp (disch := first | exact ne _ _ (by decide) (by decide) | exact ne0 _ (by decide) | exact n0 _ (by decide) | exact n00 | omega) only [j_c_ne, j_r_ne, j_c_eq, y_lit, nI_clamp, pk_cpy_in, Nat.zero_add, Nat.sub_zero]; exact (k j hj).2.1
  · simp (disch := first | exact ne _ _ (by decide) (by decide) | exact ne0 _ (by decide) | exact n0 _ (by decide) | exact n00 | omega) only [j_c_ne, j_r_ne, j_c_eq, y_lit, nI_clamp, pk_cpy_in, Nat.zero_add, Nat.sub_zero]; exact (k j hj).2.2
  · funext j; simp (disch := first | exact ne _ _ (by decide) (by decide) | exact ne0 _ (by decide) | exact n0 _ (by decide) | exact n00 | omega) only [j_c_ne, j_r_ne]
  · simp (disch := first | exact ne _ _ (by decide) (by decide) | exact ne0 _ (by decide) | exact n0 _ (by decide) | exact n00 | omega) only [j_c_ne, j_r_ne, j_r_nj]
end C
theorem ym_save {k : Nat} (hk : k < 3) : ∀ (m i n : Nat) (τ : j_G), i + m = 116 → m < n → ∃ τ', p_X12_image_17 (nI k) n (nI i) τ = some τ' ∧ τ'.2 = τ.2 ∧ (∀ x, x ≠ 77 → τ'.1 x = τ.1 x) ∧ (∀ j, j < 116 * k + i ∨ 116 * k + 116 ≤ j → τ'.1 77 j = τ.1 77 j) ∧ ∀ j, i ≤ j → j < 116 → τ'.1 77 (116 * k + j) = τ.1 76 j := by
  intro m
  induction m with
  | zero =>
    intro i n τ h hn
    obtain ⟨n, rfl⟩ := y_pos hn
    refine ⟨τ, ?_, rfl, fun _ _ => rfl, fun _ _ => rfl, fun j a c => by omega⟩
    unfold p_X12_image_17; simp (disch := omega) only [y_lit, y_n1, nI_add, pk_mul, j_lt, j_b1_s, j_b2_s, j_b3_s, j_b0_s, y_bo, y_bo1, y_bo0, y_i0, y_i1, Classical.not_not, nI_clamp, y_ix, y_lt, y_le, y_eq, y_nP, y_nPs, y_ltP, y_ltQ, y_ltPP, y_eqP, y_eqQ, y_eqPP, if_pos, if_neg, ite_true, ite_false, not_true_eq_false, not_false_eq_true, and_true, true_and, and_false, false_and, or_true, true_or, or_false, false_or]
  | succ m ih =>
    intro i n τ h hn
    obtain ⟨n, rfl⟩ := y_pos hn
    obtain ⟨τ', e1, e2, e3, e4, e5⟩ := ih (i + 1) n (j_si τ 77 (116 * k + i) (τ.1 76 i)) (by omega) (by omega)
    refine ⟨τ', ?_, e2, fun x hx => ?_, fun j hj => ?_, fun j a c => ?_⟩
    · unfold p_X12_image_17; simp (disch := omega) only [y_lit, y_n1, nI_add, pk_mul, j_lt, j_b1_s, j_b2_s, j_b3_s, j_b0_s, y_bo, y_bo1, y_bo0, y_i0, y_i1, Classical.not_not, nI_clamp, y_ix, y_lt, y_le, y_eq, y_nP, y_nPs, y_ltP, y_ltQ, y_ltPP, y_eqP, y_eqQ, y_eqPP, if_pos, if_neg, ite_true, ite_false, not_true_eq_false, not_false_eq_true, and_true, true_and, and_false, false_and, or_true, true_or, or_false, false_or]; exact e1
    · rw [e3 x hx]; funext j; exact j_r_ne hx
    · rw [e4 j (by omega), j_r_nj (by omega)]
    · by_cases e : j = i
      · subst e; rw [e4 _ (by omega), j_r_eq]
      · rw [e5 j (by omega) c, j_r_ne (by omega)]
theorem ym_load {k : Nat} (hk : k < 3) : ∀ (m i n : Nat) (τ : j_G), i + m = 116 → m < n → ∃ τ', p_X12_back_29 (nI k) n (nI i) τ = some τ' ∧ τ'.2 = τ.2 ∧ (∀ x, x ≠ 76 → τ'.1 x = τ.1 x) ∧ (∀ j, j < i → τ'.1 76 j = τ.1 76 j) ∧ ∀ j, i ≤ j → j < 116 → τ'.1 76 j = τ.1 77 (116 * k + j) := by
  intro m
  induction m with
  | zero =>
    intro i n τ h hn
    obtain ⟨n, rfl⟩ := y_pos hn
    refine ⟨τ, ?_, rfl, fun _ _ => rfl, fun _ _ => rfl, fun j a c => by omega⟩
    unfold p_X12_back_29; simp (disch := omega) only [y_lit, y_n1, nI_add, pk_mul, j_lt, j_b1_s, j_b2_s, j_b3_s, j_b0_s, y_bo, y_bo1, y_bo0, y_i0, y_i1, Classical.not_not, nI_clamp, y_ix, y_lt, y_le, y_eq, y_nP, y_nPs, y_ltP, y_ltQ, y_ltPP, y_eqP, y_eqQ, y_eqPP, if_pos, if_neg, ite_true, ite_false, not_true_eq_false, not_false_eq_true, and_true, true_and, and_false, false_and, or_true, true_or, or_false, false_or]
  | succ m ih =>
    intro i n τ h hn
    obtain ⟨n, rfl⟩ := y_pos hn
    obtain ⟨τ', e1, e2, e3, e4, e5⟩ := ih (i + 1) n (j_si τ 76 i (τ.1 77 (116 * k + i))) (by omega) (by omega)
    refine ⟨τ', ?_, e2, fun x hx => ?_, fun j hj => ?_, fun j a c => ?_⟩
    · unfold p_X12_back_29; simp (disch := omega) only [y_lit, y_n1, nI_add, pk_mul, j_lt, j_b1_s, j_b2_s, j_b3_s, j_b0_s, y_bo, y_bo1, y_bo0, y_i0, y_i1, Classical.not_not, nI_clamp, y_ix, y_lt, y_le, y_eq, y_nP, y_nPs, y_ltP, y_ltQ, y_ltPP, y_eqP, y_eqQ, y_eqPP, if_pos, if_neg, ite_true, ite_false, not_true_eq_false, not_false_eq_true, and_true, true_and, and_false, false_and, or_true, true_or, or_false, false_or]; exact e1
    · rw [e3 x hx]; funext j; exact j_r_ne hx
    · rw [e4 j (by omega), j_r_nj (by omega)]
    · by_cases e : j = i
      · subst e; rw [e4 _ (by omega), j_r_eq]
      · rw [e5 j (by omega) c, j_r_ne (by omega)]
theorem y_im.fr2 {σ τ σ' τ' : j_G} {k c c1 c2 c3 c4 c5 c6 c7 : Nat} (h : y_im σ τ k c c1 c2 c3 c4 c5 c6 c7) (e : ∀ x, x = c ∨ x = c1 ∨ x = c2 ∨ x = c3 ∨ x = c4 ∨ x = c5 ∨ x = c6 ∨ x = c7 → σ'.1 x = σ.1 x) (e1 : ∀ j, j < 116 → τ'.1 77 (116 * k + j) = τ.1 77 (116 * k + j)) (e2 : τ'.1 78 k = τ.1 78 k) : y_im σ' τ' k c c1 c2 c3 c4 c5 c6 c7 := by
  rcases h with ⟨h1, h2⟩ | ⟨h1, h2, b, hW, hc, hm⟩
  · exact Or.inl ⟨by rw [e c (by omega)]; exact h1, by rw [e2]; exact h2⟩
  · refine Or.inr ⟨by rw [e c (by omega)]; exact h1, by rw [e2]; exact h2, b, hW, ?_, fun j hj => ?_⟩
    · unfold y_cb at *
      rw [e c (by omega), e c1 (by omega), e c2 (by omega), e c3 (by omega), e c4 (by omega), e c5 (by omega), e c6 (by omega), e c7 (by omega)]
      exact hc
    · show τ'.1 77 (116 * k + j) = _
      rw [e1 j hj]; exact hm j hj
section Z
variable {σ τ : j_G}
theorem z_image (hR : j_Rel σ τ) (a1 : Int32) : ∃ v σ1 τ1, f_X11_image a1 σ = some (v, σ1) ∧ f_X12_image a1 τ = some (v, τ1) ∧ j_Rel σ1 τ1 := by
  obtain ⟨b, hW, hN, hM, hK⟩ := id hR
  by_cases h : y_rg a1 3
  · obtain ⟨k, hk, rfl⟩ := y_of _ _ h.1 h.2
    obtain ⟨τ1, g1, g2, g3, g4, g5⟩ := ym_save hk 116 0 j_F τ (by omega) (y_F (by omega))
    have hm : f_X12_image (nI k) τ = some (0, j_si τ1 78 k (nI 1)) := by
      have e1 : vp_nar .boolean (1 : Int32) = nI 1 := rfl
      have n3 : ¬ f_X12_in (nI k).toInt64 (0 : Int64) (2 : Int64) = 0 := by
        have : f_X12_in (nI k).toInt64 (0 : Int64) (2 : Int64) = nI 1 := by simp (disch := omega) only [y_lit, y_n1, nI_add, pk_mul, j_lt, j_b1_s, j_b2_s, j_b3_s, j_b0_s, y_bo, y_bo1, y_bo0, y_i0, y_i1, Classical.not_not, nI_clamp, y_ix, y_lt, y_le, y_eq, y_nP, y_nPs, y_ltP, y_ltQ, y_ltPP, y_eqP, y_eqQ, y_eqPP, if_pos, if_neg, ite_true, ite_false, not_true_eq_false, not_false_eq_true, and_true, true_and, and_false, false_and, or_true, true_or, or_false, false_or, y_lit64, y_in]
        rw [this]; decide
      unfold f_X12_image
      rw [if_neg n3, show (0 : Int32) = nI 0 from rfl, g1, j_b1_s, y_ix (by omega) (by omega), nI_clamp (by omega), e1]
      rfl
    obtain ⟨⟨i0, i1, i2⟩, ⟨s0, s1, s2, s3⟩, ht, hf⟩ := id hK
    have fin : ∀ e e1 e2 e3 e4 e5 e6 e7 (σ1 : j_G), e = 43 + 8 * k → e1 = e + 1 ∧ e2 = e + 2 ∧ e3 = e + 3 ∧ e4 = e + 4 ∧ e5 = e + 5 ∧ e6 = e + 6 ∧ e7 = e + 7 → y_cb σ1 e e1 e2 e3 e4 e5 e6 e7 b → (∀ x, x < e ∨ e + 7 < x → σ1.1 x = σ.1 x) → σ1.2 = σ.2 → y_im (j_si σ1 e 0 (nI 1)) (j_si τ1 78 k (nI 1)) k e e1 e2 e3 e4 e5 e6 e7 ∧ j_Rel (j_si σ1 e 0 (nI 1)) (j_si τ1 78 k (nI 1)) := by
      intro e e1 e2 e3 e4 e5 e6 e7 σ1 he hee hcb hx h2
      obtain ⟨q1, q2, q3, q4, q5, q6, q7⟩ := hee
      have im : y_im (j_si σ1 e 0 (nI 1)) (j_si τ1 78 k (nI 1)) k e e1 e2 e3 e4 e5 e6 e7 := by
        refine Or.inr ⟨j_r_eq, j_r_eq, b, hW, ?_, fun j hj => ?_⟩
        · obtain ⟨⟨f1, f2, f3, f4, f5, f6, f7, f10, d0, d1⟩, f8, s, t, kk⟩ := hcb
          unfold y_cb
          refine ⟨?_, ?_, ?_, ?_, ?_⟩
          · simp (disch := omega) only [j_r_ne, j_r_nj]; exact ⟨f1, f2, f3, f4, f5, f6, f7, f10, d0, d1⟩
          · simp (disch := omega) only [j_r_ne, j_r_nj]; exact f8
          · simp (disch := omega) only [j_r_ne, j_r_nj]; exact s
          · simp (disch := omega) only [j_r_ne, j_r_nj]; exact t
          · simp (disch := omega) only [j_r_ne, j_r_nj]; exact kk
        · show (j_si τ1 78 k (nI 1)).1 77 (116 * k + j) = _
          rw [j_r_ne (by omega), g5 j (by omega) hj]; exact hM j hj
      have ox : ∀ x, x < e ∨ e + 7 < x → (j_si σ1 e 0 (nI 1)).1 x = σ.1 x := fun x hxx => by
        rw [← hx x hxx]; funext j; exact j_r_ne (by omega)
      have o2 : (j_si σ1 e 0 (nI 1)).2 = σ.2 := h2
      have t1 : ∀ x, x ≠ 77 → x ≠ 78 → (j_si τ1 78 k (nI 1)).1 x = τ.1 x := fun x a c => by
        rw [← g3 x a]; funext j; exact j_r_ne c
      have t2 : (j_si τ1 78 k (nI 1)).2 = τ.2 := g2
      have t7 : ∀ k', k' ≠ k → ∀ j, j < 116 → (j_si τ1 78 k (nI 1)).1 77 (116 * k' + j) = τ.1 77 (116 * k' + j) := fun k' hkk j hj => by
        rw [j_r_ne (by omega)]
        refine g4 _ ?_
        rcases Nat.lt_or_gt_of_ne hkk with q | q
        · left; have : 116 * k' + 116 ≤ 116 * k := by omega
          omega
        · right; omega
      have t8 : ∀ k', k' ≠ k → (j_si τ1 78 k (nI 1)).1 78 k' = τ.1 78 k' := fun k' hkk => by
        rw [j_r_nj hkk, g3 78 (by omega)]
      refine ⟨im, b, hW, ?_, ?_, ⟨⟨?_, ?_, ?_⟩, ⟨?_, ?_, ?_, ?_⟩, ?_, ?_⟩⟩
      · unfold y_N y_cb at *
        rw [ox 1 (by omega), ox 2 (by omega), ox 3 (by omega), ox 4 (by omega), ox 5 (by omega), ox 6 (by omega), ox 7 (by omega), ox 8 (by omega)]
        exact hN
      · unfold y_M; rw [t1 76 (by omega) (by omega)]; exact hM
      · by_cases c : k = 0
        · subst c
          obtain rfl : e = 43 := by omega
          subst q1 q2 q3 q4 q5 q6 q7; exact im
        · exact i0.fr2 (fun x hxx => ox x (by omega)) (t7 0 (by omega)) (t8 0 (by omega))
      · by_cases c : k = 1
        · subst c
          obtain rfl : e = 51 := by omega
          subst q1 q2 q3 q4 q5 q6 q7; exact im
        · exact i1.fr2 (fun x hxx => ox x (by omega)) (t7 1 (by omega)) (t8 1 (by omega))
      · by_cases c : k = 2
        · subst c
          obtain rfl : e = 59 := by omega
          subst q1 q2 q3 q4 q5 q6 q7; exact im
        · exact i2.fr2 (fun x hxx => ox x (by omega)) (t7 2 (by omega)) (t8 2 (by omega))
      · exact s0.fr (ox 67 (by omega)) (by rw [o2]) (t1 94 (by omega) (by omega)) (t1 95 (by omega) (by omega)) (by rw [t2])
      · exact s1.fr (ox 69 (by omega)) (by rw [o2]) (t1 94 (by omega) (by omega)) (t1 95 (by omega) (by omega)) (by rw [t2])
      · exact s2.fr (ox 71 (by omega)) (by rw [o2]) (t1 94 (by omega) (by omega)) (t1 95 (by omega) (by omega)) (by rw [t2])
      · exact s3.fr (ox 73 (by omega)) (by rw [o2]) (t1 94 (by omega) (by omega)) (t1 95 (by omega) (by omega)) (by rw [t2])
      · unfold y_tp at *
        rw [ox 19 (by omega), ox 20 (by omega), t1 75 (by omega) (by omega), t1 79 (by omega) (by omega)]
        exact ht
      · unfold y_ft at *
        rw [ox 10 (by omega), t1 75 (by omega) (by omega)]
        exact hf
    obtain rfl | rfl | rfl : k = 0 ∨ k = 1 ∨ k = 2 := by omega
    · obtain ⟨σ1, e1, e2, e3, e4, _⟩ := yc_copy (e := 43) hW hN ⟨rfl, rfl, rfl, rfl, rfl, rfl, rfl⟩ ⟨rfl, rfl, rfl, rfl, rfl, rfl, rfl⟩ (by omega)
      refine ⟨0, j_si σ1 43 0 (nI 1), j_si τ1 78 0 (nI 1), ?_, hm, (fin 43 44 45 46 47 48 49 50 σ1 rfl ⟨rfl, rfl, rfl, rfl, rfl, rfl, rfl⟩ e2 e3 e4).2⟩
      unfold f_X11_image
      rw [if_neg (by decide), if_pos (by decide), e1]; rfl
    · obtain ⟨σ1, e1, e2, e3, e4, _⟩ := yc_copy (e := 51) hW hN ⟨rfl, rfl, rfl, rfl, rfl, rfl, rfl⟩ ⟨rfl, rfl, rfl, rfl, rfl, rfl, rfl⟩ (by omega)
      refine ⟨0, j_si σ1 51 0 (nI 1), j_si τ1 78 1 (nI 1), ?_, hm, (fin 51 52 53 54 55 56 57 58 σ1 rfl ⟨rfl, rfl, rfl, rfl, rfl, rfl, rfl⟩ e2 e3 e4).2⟩
      unfold f_X11_image
      rw [if_neg (by decide), if_neg (by decide), if_pos (by decide), e1]; rfl
    · obtain ⟨σ1, e1, e2, e3, e4, _⟩ := yc_copy (e := 59) hW hN ⟨rfl, rfl, rfl, rfl, rfl, rfl, rfl⟩ ⟨rfl, rfl, rfl, rfl, rfl, rfl, rfl⟩ (by omega)
      refine ⟨0, j_si σ1 59 0 (nI 1), j_si τ1 78 2 (nI 1), ?_, hm, (fin 59 60 61 62 63 64 65 66 σ1 rfl ⟨rfl, rfl, rfl, rfl, rfl, rfl, rfl⟩ e2 e3 e4).2⟩
      unfold f_X11_image
      rw [if_neg (by decide), if_neg (by decide), if_neg (by decide), if_pos (by decide), e1]; rfl
  · refine ⟨-2, σ, τ, ?_, ?_, hR⟩
    · unfold f_X11_image; simp (disch := omega) only [y_lit, y_n1, nI_add, pk_mul, j_lt, j_b1_s, j_b2_s, j_b3_s, j_b0_s, y_bo, y_bo1, y_bo0, y_i0, y_i1, Classical.not_not, nI_clamp, y_ix, y_lt, y_le, y_eq, y_nP, y_nPs, y_ltP, y_ltQ, y_ltPP, y_eqP, y_eqQ, y_eqPP, if_pos, if_neg, ite_true, ite_false, not_true_eq_false, not_false_eq_true, and_true, true_and, and_false, false_and, or_true, true_or, or_false, false_or, y_c4, h]
    · unfold f_X12_image; simp (disch := omega) only [y_lit, y_n1, nI_add, pk_mul, j_lt, j_b1_s, j_b2_s, j_b3_s, j_b0_s, y_bo, y_bo1, y_bo0, y_i0, y_i1, Classical.not_not, nI_clamp, y_ix, y_lt, y_le, y_eq, y_nP, y_nPs, y_ltP, y_ltQ, y_ltPP, y_eqP, y_eqQ, y_eqPP, if_pos, if_neg, ite_true, ite_false, not_true_eq_false, not_false_eq_true, and_true, true_and, and_false, false_and, or_true, true_or, or_false, false_or, y_lit64, y_in, y_c3, h]
theorem z_back (hR : j_Rel σ τ) (a1 : Int32) : ∃ v σ1 τ1, f_X11_back a1 σ = some (v, σ1) ∧ f_X12_back a1 τ = some (v, τ1) ∧ j_Rel σ1 τ1 := by
  obtain ⟨b, hW, hN, hM, hK⟩ := id hR
  by_cases h : y_rg a1 3
  · obtain ⟨k, hk, rfl⟩ := y_of _ _ h.1 h.2
    have n3 : ¬ f_X12_in (nI k).toInt64 (0 : Int64) (2 : Int64) = 0 := by
      have : f_X12_in (nI k).toInt64 (0 : Int64) (2 : Int64) = nI 1 := by simp (disch := omega) only [y_lit, y_n1, nI_add, pk_mul, j_lt, j_b1_s, j_b2_s, j_b3_s, j_b0_s, y_bo, y_bo1, y_bo0, y_i0, y_i1, Classical.not_not, nI_clamp, y_ix, y_lt, y_le, y_eq, y_nP, y_nPs, y_ltP, y_ltQ, y_ltPP, y_eqP, y_eqQ, y_eqPP, if_pos, if_neg, ite_true, ite_false, not_true_eq_false, not_false_eq_true, and_true, true_and, and_false, false_and, or_true, true_or, or_false, false_or, y_lit64, y_in]
      rw [this]; decide
    obtain ⟨⟨i0, i1, i2⟩, ⟨s0, s1, s2, s3⟩, ht, hf⟩ := id hK
    have no : τ.1 78 k = nI 0 → f_X12_back (nI k) τ = some (-6, τ) := by
      intro e
      unfold f_X12_back
      rw [if_neg n3, y_ix (by omega) (by omega), nI_clamp (by omega), e, if_pos (show nI 0 = (0 : Int32) from rfl)]
    obtain ⟨τ1, g1, g2, g3, g4, g5⟩ := ym_load hk 116 0 j_F τ (by omega) (y_F (by omega))
    have yes : τ.1 78 k = nI 1 → f_X12_back (nI k) τ = some (0, τ1) := by
      intro e
      unfold f_X12_back
      rw [if_neg n3, y_ix (by omega) (by omega), nI_clamp (by omega), e, if_neg (by decide), show (0 : Int32) = nI 0 from rfl, g1]; rfl
    have fin : ∀ b' σ1, y_W b' → y_N σ1 b' → (∀ x, x < 1 ∨ 1 + 7 < x → σ1.1 x = σ.1 x) → σ1.2 = σ.2 → y_mb (fun j => τ.1 77 (116 * k + j)) b' → j_Rel σ1 τ1 := by
      intro b' σ1 hW' hN' ox o2 hmb
      refine ⟨b', hW', hN', fun j hj => ?_, hK.fr2 (fun c hc => ⟨ox c (by omega), by rw [o2]⟩) ⟨fun j hj => by rw [g3 75 (by omega)], fun c hc => ⟨g3 c (by omega), by rw [g2]⟩⟩⟩
      rw [g5 j (by omega) hj]; exact hmb j hj
    obtain rfl | rfl | rfl : k = 0 ∨ k = 1 ∨ k = 2 := by omega
    · rcases i0 with ⟨j1, j2⟩ | ⟨j1, j2, b', hW', hc', hm'⟩
      · refine ⟨-6, σ, τ, ?_, no j2, hR⟩
        unfold f_X11_back
        rw [if_neg (by decide), if_pos (by decide), j1, if_pos (by decide)]
      · obtain ⟨σ1, e1, e2, e3, e4, _⟩ := yc_copy (e := 1) hW' hc' ⟨rfl, rfl, rfl, rfl, rfl, rfl, rfl⟩ ⟨rfl, rfl, rfl, rfl, rfl, rfl, rfl⟩ (by omega)
        refine ⟨0, σ1, τ1, ?_, yes j2, fin b' σ1 hW' e2 e3 e4 hm'⟩
        unfold f_X11_back
        rw [if_neg (by decide), if_pos (by decide), j1, if_neg (by decide), e1]; rfl
    · rcases i1 with ⟨j1, j2⟩ | ⟨j1, j2, b', hW', hc', hm'⟩
      · refine ⟨-6, σ, τ, ?_, no j2, hR⟩
        unfold f_X11_back
        rw [if_neg (by decide), if_neg (by decide), if_pos (by decide), j1, if_pos (by decide)]
      · obtain ⟨σ1, e1, e2, e3, e4, _⟩ := yc_copy (e := 1) hW' hc' ⟨rfl, rfl, rfl, rfl, rfl, rfl, rfl⟩ ⟨rfl, rfl, rfl, rfl, rfl, rfl, rfl⟩ (by omega)
        refine ⟨0, σ1, τ1, ?_, yes j2, fin b' σ1 hW' e2 e3 e4 hm'⟩
        unfold f_X11_back
        rw [if_neg (by decide), if_neg (by decide), if_pos (by decide), j1, if_neg (by decide), e1]; rfl
    · rcases i2 with ⟨j1, j2⟩ | ⟨j1, j2, b', hW', hc', hm'⟩
      · refine ⟨-6, σ, τ, ?_, no j2, hR⟩
        unfold f_X11_back
        rw [if_neg (by decide), if_neg (by decide), if_neg (by decide), if_pos (by decide), j1, if_pos (by decide)]
      · obtain ⟨σ1, e1, e2, e3, e4, _⟩ := yc_copy (e := 1) hW' hc' ⟨rfl, rfl, rfl, rfl, rfl, rfl, rfl⟩ ⟨rfl, rfl, rfl, rfl, rfl, rfl, rfl⟩ (by omega)
        refine ⟨0, σ1, τ1, ?_, yes j2, fin b' σ1 hW' e2 e3 e4 hm'⟩
        unfold f_X11_back
        rw [if_neg (by decide), if_neg (by decide), if_neg (by decide), if_pos (by decide), j1, if_neg (by decide), e1]; rfl
  · refine ⟨-2, σ, τ, ?_, ?_, hR⟩
    · unfold f_X11_back; simp (disch := omega) only [y_lit, y_n1, nI_add, pk_mul, j_lt, j_b1_s, j_b2_s, j_b3_s, j_b0_s, y_bo, y_bo1, y_bo0, y_i0, y_i1, Classical.not_not, nI_clamp, y_ix, y_lt, y_le, y_eq, y_nP, y_nPs, y_ltP, y_ltQ, y_ltPP, y_eqP, y_eqQ, y_eqPP, if_pos, if_neg, ite_true, ite_false, not_true_eq_false, not_false_eq_true, and_true, true_and, and_false, false_and, or_true, true_or, or_false, false_or, y_c4, h]
    · unfold f_X12_back; simp (disch := omega) only [y_lit, y_n1, nI_add, pk_mul, j_lt, j_b1_s, j_b2_s, j_b3_s, j_b0_s, y_bo, y_bo1, y_bo0, y_i0, y_i1, Classical.not_not, nI_clamp, y_ix, y_lt, y_le, y_eq, y_nP, y_nPs, y_ltP, y_ltQ, y_ltPP, y_eqP, y_eqQ, y_eqPP, if_pos, if_neg, ite_true, ite_false, not_true_eq_false, not_false_eq_true, and_true, true_and, and_false, false_and, or_true, true_or, or_false, false_or, y_lit64, y_in, y_c3, h]
end Z
/-! ===== end, feed, paste ===== -/
/-- the tapes alike -/
theorem y_tape {σ τ σ' τ' : j_G} (hR : j_Rel σ τ) (h1 : ∀ x, x ≠ 19 → x ≠ 20 → σ'.1 x = σ.1 x) (h2 : σ'.2 = σ.2) (h3 : ∀ j, j ≠ 5 → τ'.1 75 j = τ.1 75 j) (h4 : ∀ x, x ≠ 75 → x ≠ 79 → x ≠ 80 → τ'.1 x = τ.1 x) (h5 : τ'.2 = τ.2) (ht : y_tp σ' τ') : j_Rel σ' τ' := by
  obtain ⟨b, hW, hN, hM, ⟨⟨i0, i1, i2⟩, ⟨s0, s1, s2, s3⟩, _, hf⟩⟩ := hR
  have e77 := h4 77 (by omega) (by omega) (by omega)
  have e78 := h4 78 (by omega) (by omega) (by omega)
  have e94 := h4 94 (by omega) (by omega) (by omega)
  have e95 := h4 95 (by omega) (by omega) (by omega)
  refine ⟨b, hW, ?_, ?_, ⟨⟨i0.fr (fun x hx => h1 x (by omega) (by omega)) e77 e78, i1.fr (fun x hx => h1 x (by omega) (by omega)) e77 e78, i2.fr (fun x hx => h1 x (by omega) (by omega)) e77 e78⟩, ⟨s0.fr (h1 67 (by omega) (by omega)) (by rw [h2]) e94 e95 (by rw [h5]), s1.fr (h1 69 (by omega) (by omega)) (by rw [h2]) e94 e95 (by rw [h5]), s2.fr (h1 71 (by omega) (by omega)) (by rw [h2]) e94 e95 (by rw [h5]), s3.fr (h1 73 (by omega) (by omega)) (by rw [h2]) e94 e95 (by rw [h5])⟩, ht, ?_⟩⟩
  · unfold y_N y_cb at *
    rw [h1 1 (by omega) (by omega), h1 2 (by omega) (by omega), h1 3 (by omega) (by omega), h1 4 (by omega) (by omega), h1 5 (by omega) (by omega), h1 6 (by omega) (by omega), h1 7 (by omega) (by omega), h1 8 (by omega) (by omega)]
    exact hN
  · unfold y_M; rw [h4 76 (by omega) (by omega) (by omega)]; exact hM
  · unfold y_ft at *
    rw [h1 10 (by omega) (by omega), h3 12 (by omega), h3 13 (by omega)]
    exact hf
/-- a byte of a number -/
noncomputable def y_by (x : Int32) (m : Nat) : Int32 := vp_nar .byte (x >>> (nI (24 - 8 * m) &&& nI 31)).toInt8.toInt32
theorem y_by_bd (x : Int32) (m : Nat) : -128 ≤ (y_by x m).toInt ∧ (y_by x m).toInt ≤ 127 := by
  unfold y_by
  rw [vp_nar_byte, Int8.toInt_toInt32]
  exact ⟨Int8.le_toInt _, Int8.toInt_le _⟩
section F
theorem yc_put1 (x : Int32) : ∀ (m i n t : Nat) (σ : j_G), i + m = 4 → m < n → σ.1 19 0 = nI t → t + m ≤ 1200 → ∃ σ', p_X10_put_3 x n (nI 24 - nI (8 * i)) σ = some σ' ∧ σ'.1 19 0 = nI (t + m) ∧ (∀ c, c ≠ 19 → c ≠ 20 → σ'.1 c = σ.1 c) ∧ σ'.2 = σ.2 ∧ (∀ j, j < t ∨ t + m ≤ j → σ'.1 20 j = σ.1 20 j) ∧ ∀ j, j < m → σ'.1 20 (t + j) = y_by x (i + j) := by
  intro m
  induction m with
  | zero =>
    intro i n t σ h hn h0 ht
    obtain ⟨n, rfl⟩ := y_pos hn
    obtain rfl : i = 4 := by omega
    refine ⟨σ, ?_, h0, fun _ _ _ => rfl, rfl, fun _ _ => rfl, fun j hj => by omega⟩
    unfold p_X10_put_3
    exact if_neg (fun z => z.1 (by decide))
  | succ m ih =>
    intro i n t σ h hn h0 ht
    obtain ⟨n, rfl⟩ := y_pos hn
    obtain ⟨σ', e1, e2, e3, e4, e5, e6⟩ := ih (i + 1) n (t + 1) (j_si (j_si σ 20 t (y_by x i)) 19 0 (nI (t + 1))) (by omega) (by omega) j_r_eq (by omega)
    have sh : nI 24 - nI (8 * i) = nI (24 - 8 * i) := pk_sub (by omega)
    have nx : nI (24 - 8 * i) + (-8 : Int32) = nI 24 - nI (8 * (i + 1)) := by
      rw [← sh, show 8 * (i + 1) = 8 * i + 8 from by omega, ← y_subsub, Int32.sub_eq_add_neg (nI 24 - nI (8 * i))]
      rfl
    refine ⟨σ', ?_, by rw [e2]; congr 1; omega, fun c h1 h2 => ?_, e4, fun j hj => ?_, fun j hj => ?_⟩
    · rw [sh, p_X10_put_3, h0, show (1200 : Int32) = nI 1200 from rfl, if_pos ⟨nI_pos (by omega), (y_lt (by omega) (by omega)).mpr (by omega)⟩, y_ix (by omega) (by omega), nI_clamp (by omega)]
      simp only [j_lt]
      rw [j_r_ne (by omega), h0, show (1 : Int32) = nI 1 from rfl, nI_add, nx]
      exact e1
    · rw [e3 c h1 h2]; funext j; rw [j_r_ne h1, j_r_ne h2]
    · rw [e5 j (by omega), j_r_ne (by omega), j_r_nj (by omega)]
    · obtain _ | j := j
      · rw [Nat.add_zero, Nat.add_zero, e5 t (by omega), j_r_ne (by omega), j_r_eq]
      · have := e6 j (by omega)
        rw [show t + (j + 1) = t + 1 + j from by omega, this, show i + 1 + j = i + (j + 1) from by omega]
theorem yc_put (x : Int32) (t : Nat) (σ : j_G) (h0 : σ.1 19 0 = nI t) (ht : t + 4 ≤ 1200) : ∃ σ', f_X10_put x σ = some σ' ∧ σ'.1 19 0 = nI (t + 4) ∧ (∀ c, c ≠ 19 → c ≠ 20 → σ'.1 c = σ.1 c) ∧ σ'.2 = σ.2 ∧ (∀ j, j < t ∨ t + 4 ≤ j → σ'.1 20 j = σ.1 20 j) ∧ ∀ j, j < 4 → σ'.1 20 (t + j) = y_by x j := by
  obtain ⟨σ', e1, e2, e3, e4, e5, e6⟩ := yc_put1 x 4 0 j_F t σ (by omega) (y_F (by omega)) h0 ht
  refine ⟨σ', ?_, e2, e3, e4, e5, fun j hj => by rw [e6 j hj, Nat.zero_add]⟩
  unfold f_X10_put
  rw [show nI 24 - nI (8 * 0) = (24 : Int32) from by decide] at e1
  rw [e1]; rfl
theorem ym_put (f : Nat → Int32) (t : Nat) (ht : t + 20 ≤ 1200) : ∀ (m i n : Nat) (τ : j_G), i + m = 20 → m < n → τ.1 75 5 = nI t → (∀ q, q < 5 → τ.1 80 q = f q) → ∃ τ', p_X12_feed_55 n (nI i) τ = some τ' ∧ (∀ c, c ≠ 79 → τ'.1 c = τ.1 c) ∧ τ'.2 = τ.2 ∧ (∀ j, j < t + i ∨ t + 20 ≤ j → τ'.1 79 j = τ.1 79 j) ∧ ∀ j, i ≤ j → j < 20 → τ'.1 79 (t + j) = y_by (f (j / 4)) (j % 4) := by
  intro m
  induction m with
  | zero =>
    intro i n τ h hn h0 hf
    obtain ⟨n, rfl⟩ := y_pos hn
    refine ⟨τ, ?_, fun _ _ => rfl, rfl, fun _ _ => rfl, fun j a c => by omega⟩
    unfold p_X12_feed_55; simp (disch := omega) only [y_lit, y_n1, nI_add, pk_mul, j_lt, j_b1_s, j_b2_s, j_b3_s, j_b0_s, y_bo, y_bo1, y_bo0, y_i0, y_i1, Classical.not_not, nI_clamp, y_ix, y_lt, y_le, y_eq, y_nP, y_nPs, y_ltP, y_ltQ, y_ltPP, y_eqP, y_eqQ, y_eqPP, if_pos, if_neg, ite_true, ite_false, not_true_eq_false, not_false_eq_true, and_true, true_and, and_false, false_and, or_true, true_or, or_false, false_or]
  | succ m ih =>
    intro i n τ h hn h0 hf
    obtain ⟨n, rfl⟩ := y_pos hn
    have hby : vp_nar .byte ((τ.1 80 (i / 4)) >>> ((nI 24 - nI (8 * (i % 4))) &&& nI 31)).toInt8.toInt32 = y_by (f (i / 4)) (i % 4) := by
      rw [hf _ (by omega), pk_sub (by omega)]; rfl
    have em : nI i - nI (i / 4 * 4) = nI (i % 4) := by
      rw [← pk_mul, ← pk_div (by omega) (by omega) (by omega), pk_rem (by omega) (by omega) (by omega)]
    obtain ⟨τ', e1, e2, e3, e4, e5⟩ := ih (i + 1) n (j_si τ 79 (t + i) (y_by (f (i / 4)) (i % 4))) (by omega) (by omega) (by simp (disch := omega) only [j_r_ne, j_r_eq, j_r_nj]; exact h0) (fun q hq => by simp (disch := omega) only [j_r_ne, j_r_eq, j_r_nj]; exact hf q hq)
    refine ⟨τ', ?_, fun c hc => ?_, e3, fun j hj => ?_, fun j a c => ?_⟩
    · unfold p_X12_feed_55
      simp (disch := omega) only [y_lit, y_n1, nI_add, pk_mul, j_lt, j_b1_s, j_b2_s, j_b3_s, j_b0_s, y_bo, y_bo1, y_bo0, y_i0, y_i1, Classical.not_not, nI_clamp, y_ix, y_lt, y_le, y_eq, y_nP, y_nPs, y_ltP, y_ltQ, y_ltPP, y_eqP, y_eqQ, y_eqPP, if_pos, if_neg, ite_true, ite_false, not_true_eq_false, not_false_eq_true, and_true, true_and, and_false, false_and, or_true, true_or, or_false, false_or, h0, pk_div]
      rw [em]
      simp (disch := omega) only [pk_mul]
      rw [hby]
      exact e1
    · rw [e2 c hc]; funext j; exact j_r_ne hc
    · rw [e4 j (by omega), j_r_nj (by omega)]
    · by_cases e : j = i
      · subst e; rw [e4 _ (by omega), j_r_eq]
      · exact e5 j (by omega) c
end F
section Z
variable {σ τ : j_G}
theorem z_end (hR : j_Rel σ τ) (a1 : Int32) : ∃ v σ1 τ1, f_X11_end a1 σ = some (v, σ1) ∧ f_X12_end a1 τ = some (v, τ1) ∧ j_Rel σ1 τ1 := by
  obtain ⟨b, hW, hN, hM, hK⟩ := id hR
  obtain ⟨n, hn, t1, t2, t3⟩ := hK.2.2.1
  by_cases h : y_rg a1 (n + 1)
  · obtain ⟨k, hk, rfl⟩ := y_of _ _ h.1 h.2
    refine ⟨nI k, j_si σ 19 0 (nI k), j_si τ 75 5 (nI k), ?_, ?_, y_tape hR (fun x a c => funext fun j => j_r_ne a) rfl (fun j hj => j_r_nj hj) (fun x a c d => funext fun j => j_r_ne a) rfl ⟨k, by omega, j_r_eq, j_r_eq, fun i hi => ?_⟩⟩
    · unfold f_X11_end; rw [t1]; simp (disch := omega) only [y_lit, y_n1, nI_add, pk_mul, j_lt, j_b1_s, j_b2_s, j_b3_s, j_b0_s, y_bo, y_bo1, y_bo0, y_i0, y_i1, Classical.not_not, nI_clamp, y_ix, y_lt, y_le, y_eq, y_nP, y_nPs, y_ltP, y_ltQ, y_ltPP, y_eqP, y_eqQ, y_eqPP, if_pos, if_neg, ite_true, ite_false, not_true_eq_false, not_false_eq_true, and_true, true_and, and_false, false_and, or_true, true_or, or_false, false_or, y_c5, h]
    · unfold f_X12_end; rw [t2]; simp (disch := omega) only [y_lit, y_n1, nI_add, pk_mul, j_lt, j_b1_s, j_b2_s, j_b3_s, j_b0_s, y_bo, y_bo1, y_bo0, y_i0, y_i1, Classical.not_not, nI_clamp, y_ix, y_lt, y_le, y_eq, y_nP, y_nPs, y_ltP, y_ltQ, y_ltPP, y_eqP, y_eqQ, y_eqPP, if_pos, if_neg, ite_true, ite_false, not_true_eq_false, not_false_eq_true, and_true, true_and, and_false, false_and, or_true, true_or, or_false, false_or, y_lit64, y_in, y_c3, h]
    · rw [j_r_ne (by omega), j_r_ne (by omega)]; exact t3 i (by omega)
  · refine ⟨-1, σ, τ, ?_, ?_, hR⟩
    · unfold f_X11_end; rw [t1]; simp (disch := omega) only [y_lit, y_n1, nI_add, pk_mul, j_lt, j_b1_s, j_b2_s, j_b3_s, j_b0_s, y_bo, y_bo1, y_bo0, y_i0, y_i1, Classical.not_not, nI_clamp, y_ix, y_lt, y_le, y_eq, y_nP, y_nPs, y_ltP, y_ltQ, y_ltPP, y_eqP, y_eqQ, y_eqPP, if_pos, if_neg, ite_true, ite_false, not_true_eq_false, not_false_eq_true, and_true, true_and, and_false, false_and, or_true, true_or, or_false, false_or, y_c5, h]
    · unfold f_X12_end; rw [t2]; simp (disch := omega) only [y_lit, y_n1, nI_add, pk_mul, j_lt, j_b1_s, j_b2_s, j_b3_s, j_b0_s, y_bo, y_bo1, y_bo0, y_i0, y_i1, Classical.not_not, nI_clamp, y_ix, y_lt, y_le, y_eq, y_nP, y_nPs, y_ltP, y_ltQ, y_ltPP, y_eqP, y_eqQ, y_eqPP, if_pos, if_neg, ite_true, ite_false, not_true_eq_false, not_false_eq_true, and_true, true_and, and_false, false_and, or_true, true_or, or_false, false_or, y_lit64, y_in, y_c3, h]
theorem z_feed (hR : j_Rel σ τ) (a1 a2 a3 a4 a5 : Int32) : ∃ v σ1 τ1, f_X11_feed a1 a2 a3 a4 a5 σ = some (v, σ1) ∧ f_X12_feed a1 a2 a3 a4 a5 τ = some (v, τ1) ∧ j_Rel σ1 τ1 := by
  obtain ⟨b, hW, hN, hM, hK⟩ := id hR
  obtain ⟨t, hn, t1, t2, t3⟩ := hK.2.2.1
  by_cases h : t + 20 ≤ 1200
  · obtain ⟨σ1, a1', b1, c1, d1, p1, q1⟩ := yc_put a1 t σ t1 (by omega)
    obtain ⟨σ2, a2', b2, c2, d2, p2, q2⟩ := yc_put a2 _ σ1 b1 (by omega)
    obtain ⟨σ3, a3', b3, c3, d3, p3, q3⟩ := yc_put a3 _ σ2 b2 (by omega)
    obtain ⟨σ4, a4', b4, c4, d4, p4, q4⟩ := yc_put a4 _ σ3 b3 (by omega)
    obtain ⟨σ5, a5', b5, c5, d5, p5, q5⟩ := yc_put a5 _ σ4 b4 (by omega)
    have bytes : ∀ j, j < 20 → σ5.1 20 (t + j) = y_by ((fun q => if q = 0 then a1 else if q = 1 then a2 else if q = 2 then a3 else if q = 3 then a4 else a5) (j / 4)) (j % 4) := by
      intro j hj
      show σ5.1 20 (t + j) = y_by (if j / 4 = 0 then a1 else if j / 4 = 1 then a2 else if j / 4 = 2 then a3 else if j / 4 = 3 then a4 else a5) (j % 4)
      have w : j / 4 = 0 ∨ j / 4 = 1 ∨ j / 4 = 2 ∨ j / 4 = 3 ∨ j / 4 = 4 := by omega
      rcases w with w | w | w | w | w
      · rw [w, if_pos rfl, p5 _ (by omega), p4 _ (by omega), p3 _ (by omega), p2 _ (by omega), show t + j = t + j % 4 from by omega, q1 _ (by omega)]
      · rw [w, if_neg (by omega), if_pos rfl, p5 _ (by omega), p4 _ (by omega), p3 _ (by omega), show t + j = t + 4 + j % 4 from by omega, q2 _ (by omega)]
      · rw [w, if_neg (by omega), if_neg (by omega), if_pos rfl, p5 _ (by omega), p4 _ (by omega), show t + j = t + 4 + 4 + j % 4 from by omega, q3 _ (by omega)]
      · rw [w, if_neg (by omega), if_neg (by omega), if_neg (by omega), if_pos rfl, p5 _ (by omega), show t + j = t + 4 + 4 + 4 + j % 4 from by omega, q4 _ (by omega)]
      · rw [w, if_neg (by omega), if_neg (by omega), if_neg (by omega), if_neg (by omega), show t + j = t + 4 + 4 + 4 + 4 + j % 4 from by omega, q5 _ (by omega)]
    obtain ⟨τ1, g1, g2, g3, g4, g5⟩ := ym_put (fun q => if q = 0 then a1 else if q = 1 then a2 else if q = 2 then a3 else if q = 3 then a4 else a5) t h 20 0 j_F (j_si (j_si (j_si (j_si (j_si τ 80 0 a1) 80 1 a2) 80 2 a3) 80 3 a4) 80 4 a5) (by omega) (y_F (by omega)) (by simp (disch := omega) only [j_r_ne, j_r_eq, j_r_nj]; exact t2) (fun q hq => by
      obtain rfl | rfl | rfl | rfl | rfl : q = 0 ∨ q = 1 ∨ q = 2 ∨ q = 3 ∨ q = 4 := by omega
      · simp (disch := omega) only [j_r_ne, j_r_eq, j_r_nj]; rfl
      · simp (disch := omega) only [j_r_ne, j_r_eq, j_r_nj]; rfl
      · simp (disch := omega) only [j_r_ne, j_r_eq, j_r_nj]; rfl
      · simp (disch := omega) only [j_r_ne, j_r_eq, j_r_nj]; rfl
      · simp (disch := omega) only [j_r_ne, j_r_eq, j_r_nj]; rfl)
    have e5 : τ1.1 75 5 = nI t := by rw [g2 75 (by omega)]; simp (disch := omega) only [j_r_ne, j_r_eq, j_r_nj]; exact t2
    refine ⟨nI (t + 20), σ5, j_si τ1 75 5 (nI (t + 20)), ?_, ?_, y_tape hR (fun x a c => ?_) ?_ (fun j hj => ?_) (fun x a c d => ?_) ?_ ⟨t + 20, h, ?_, j_r_eq, fun i hi => ?_⟩⟩
    · have nl : ¬ nI 1200 < nI (t + 20) := by rw [y_lt (by omega) (by omega)]; omega
      unfold f_X11_feed
      rw [t1, show (20 : Int32) = nI 20 from rfl, show (1200 : Int32) = nI 1200 from rfl, nI_add, if_neg nl]
      rw [a1', j_b1_s, a2', j_b1_s, a3', j_b1_s, a4', j_b1_s, a5', j_b1_s, b5]
    · have nl : ¬ nI 1200 < nI (t + 20) := by rw [y_lt (by omega) (by omega)]; omega
      unfold f_X12_feed
      rw [t2, show (20 : Int32) = nI 20 from rfl, show (1200 : Int32) = nI 1200 from rfl, nI_add, if_neg nl]
      simp only [j_lt]
      rw [j_ixp (by decide), j_ixp (by decide), j_ixp (by decide), j_ixp (by decide), j_ixp (by decide), show (0 : Int32).toNatClampNeg = 0 from by decide, show (1 : Int32).toNatClampNeg = 1 from by decide, show (2 : Int32).toNatClampNeg = 2 from by decide, show (3 : Int32).toNatClampNeg = 3 from by decide, show (4 : Int32).toNatClampNeg = 4 from by decide, show (0 : Int32) = nI 0 from rfl, g1, j_b1_s, e5, nI_add, j_r_eq]
    · rw [c5 x a c, c4 x a c, c3 x a c, c2 x a c, c1 x a c]
    · rw [d5, d4, d3, d2, d1]
    · rw [j_r_nj hj, g2 75 (by omega)]; simp (disch := omega) only [j_r_ne, j_r_eq, j_r_nj]
    · have : (j_si τ1 75 5 (nI (t + 20))).1 x = τ1.1 x := funext fun j => j_r_ne a
      rw [this, g2 x c]; funext j; simp (disch := omega) only [j_r_ne, j_r_eq, j_r_nj]
    · show τ1.2 = τ.2; rw [g3]; rfl
    · rw [b5]
    · rw [j_r_ne (by omega)]
      by_cases c : i < t
      · rw [p5 i (by omega), p4 i (by omega), p3 i (by omega), p2 i (by omega), p1 i (by omega), g4 i (by omega)]
        simp (disch := omega) only [j_r_ne, j_r_eq, j_r_nj]
        exact t3 i c
      · obtain ⟨j, rfl⟩ : ∃ j, i = t + j := ⟨i - t, by omega⟩
        rw [bytes j (by omega), g5 j (by omega) (by omega)]
        exact ⟨rfl, y_by_bd _ _⟩
  · refine ⟨-1, σ, τ, ?_, ?_, hR⟩
    · have nl : nI 1200 < nI (t + 20) := by rw [y_lt (by omega) (by omega)]; omega
      unfold f_X11_feed
      rw [t1, show (20 : Int32) = nI 20 from rfl, show (1200 : Int32) = nI 1200 from rfl, nI_add, if_pos nl]
    · have nl : nI 1200 < nI (t + 20) := by rw [y_lt (by omega) (by omega)]; omega
      unfold f_X12_feed
      rw [t2, show (20 : Int32) = nI 20 from rfl, show (1200 : Int32) = nI 1200 from rfl, nI_add, if_pos nl]
end Z
/-! ===== paste ===== -/
theorem ym_mv1 {s : Nat} (hs : s < 4) {i k t n : Nat} (hi : i + n ≤ 60) (x y : Int32) : ∀ (m q f : Nat) (τ : j_G), q + m = n → m < f → ∃ τ', p_X12_paste_113 (nI s) (nI i) x y (nI n) f (nI q) τ = some τ' ∧ τ'.1 = τ.1 ∧ (∀ c, c ≠ 97 → τ'.2 c = τ.2 c) ∧ (∀ j, j < q → τ'.2 97 j = τ.2 97 j) ∧ ∀ j, q ≤ j → j < n → τ'.2 97 j = τ.2 96 (60 * s + i + j) := by
  intro m
  induction m with
  | zero =>
    intro q f τ h hf
    obtain ⟨f, rfl⟩ := y_pos hf
    refine ⟨τ, ?_, rfl, fun _ _ => rfl, fun _ _ => rfl, fun j a c => by omega⟩
    unfold p_X12_paste_113; simp (disch := omega) only [y_lit, y_n1, nI_add, pk_mul, j_lt, j_b1_s, j_b2_s, j_b3_s, j_b0_s, y_bo, y_bo1, y_bo0, y_i0, y_i1, Classical.not_not, nI_clamp, y_ix, y_lt, y_le, y_eq, y_nP, y_nPs, y_ltP, y_ltQ, y_ltPP, y_eqP, y_eqQ, y_eqPP, if_pos, if_neg, ite_true, ite_false, not_true_eq_false, not_false_eq_true, and_true, true_and, and_false, false_and, or_true, true_or, or_false, false_or]
  | succ m ih =>
    intro q f τ h hf
    obtain ⟨f, rfl⟩ := y_pos hf
    obtain ⟨τ', e1, e2, e3, e4, e5⟩ := ih (q + 1) f (j_sl τ 97 q (τ.2 96 (60 * s + i + q))) (by omega) (by omega)
    refine ⟨τ', ?_, e2, fun c hc => ?_, fun j hj => ?_, fun j a c => ?_⟩
    · unfold p_X12_paste_113; simp (disch := omega) only [y_lit, y_n1, nI_add, pk_mul, j_lt, j_b1_s, j_b2_s, j_b3_s, j_b0_s, y_bo, y_bo1, y_bo0, y_i0, y_i1, Classical.not_not, nI_clamp, y_ix, y_lt, y_le, y_eq, y_nP, y_nPs, y_ltP, y_ltQ, y_ltPP, y_eqP, y_eqQ, y_eqPP, if_pos, if_neg, ite_true, ite_false, not_true_eq_false, not_false_eq_true, and_true, true_and, and_false, false_and, or_true, true_or, or_false, false_or]; exact e1
    · rw [e3 c hc]; funext j; exact j_l_ne hc
    · rw [e4 j (by omega), j_l_nj (by omega)]
    · by_cases e : j = q
      · subst e; rw [e4 _ (by omega), j_l_eq]
      · rw [e5 j (by omega) c, j_l_ne (by omega)]
theorem ym_mv2 {t : Nat} (ht : t < 4) {k n : Nat} (hk : k + n ≤ 60) : ∀ (m q f : Nat) (τ : j_G), q + m = n → m < f → ∃ τ', p_X12_paste_150 (nI t) (nI k) (nI n) f (nI q) τ = some τ' ∧ τ'.1 = τ.1 ∧ (∀ c, c ≠ 96 → τ'.2 c = τ.2 c) ∧ (∀ j, j < 60 * t + k + q ∨ 60 * t + k + n ≤ j → τ'.2 96 j = τ.2 96 j) ∧ ∀ j, q ≤ j → j < n → τ'.2 96 (60 * t + k + j) = τ.2 97 j := by
  intro m
  induction m with
  | zero =>
    intro q f τ h hf
    obtain ⟨f, rfl⟩ := y_pos hf
    refine ⟨τ, ?_, rfl, fun _ _ => rfl, fun _ _ => rfl, fun j a c => by omega⟩
    unfold p_X12_paste_150; simp (disch := omega) only [y_lit, y_n1, nI_add, pk_mul, j_lt, j_b1_s, j_b2_s, j_b3_s, j_b0_s, y_bo, y_bo1, y_bo0, y_i0, y_i1, Classical.not_not, nI_clamp, y_ix, y_lt, y_le, y_eq, y_nP, y_nPs, y_ltP, y_ltQ, y_ltPP, y_eqP, y_eqQ, y_eqPP, if_pos, if_neg, ite_true, ite_false, not_true_eq_false, not_false_eq_true, and_true, true_and, and_false, false_and, or_true, true_or, or_false, false_or]
  | succ m ih =>
    intro q f τ h hf
    obtain ⟨f, rfl⟩ := y_pos hf
    obtain ⟨τ', e1, e2, e3, e4, e5⟩ := ih (q + 1) f (j_sl τ 96 (60 * t + k + q) (τ.2 97 q)) (by omega) (by omega)
    refine ⟨τ', ?_, e2, fun c hc => ?_, fun j hj => ?_, fun j a c => ?_⟩
    · unfold p_X12_paste_150; simp (disch := omega) only [y_lit, y_n1, nI_add, pk_mul, j_lt, j_b1_s, j_b2_s, j_b3_s, j_b0_s, y_bo, y_bo1, y_bo0, y_i0, y_i1, Classical.not_not, nI_clamp, y_ix, y_lt, y_le, y_eq, y_nP, y_nPs, y_ltP, y_ltQ, y_ltPP, y_eqP, y_eqQ, y_eqPP, if_pos, if_neg, ite_true, ite_false, not_true_eq_false, not_false_eq_true, and_true, true_and, and_false, false_and, or_true, true_or, or_false, false_or]; exact e1
    · rw [e3 c hc]; funext j; exact j_l_ne hc
    · rw [e4 j (by omega), j_l_nj (by omega)]
    · by_cases e : j = q
      · subst e; rw [e4 _ (by omega), j_l_eq]
      · rw [e5 j (by omega) c, j_l_ne (by omega)]
/-- the class's paste between two slots -/
noncomputable def y_pst (c d c2 d2 : Nat) (l2 l4 l5 : Int32) (σ : j_G) : Option (Int32 × j_G) :=
  if ((f_X8_isMade c σ) = nI 0) ∨ ((f_X8_isMade c2 σ) = nI 0) then (some (-2 - 4, σ)) else (if ¬ (σ.1 c 1) = (σ.1 c2 1) then (some (-2 - 6, σ)) else (if ((f_X8_hasPart c l2 l5 σ) = nI 0) ∨ ((f_X8_hasPart c2 l4 l5 σ) = nI 0) then (some (-2 - 5, σ)) else (j_cg l2 l4 l5 60 60 (some (nI 0, j_cl σ d (l2).toNatClampNeg d2 (l4).toNatClampNeg (l5).toNatClampNeg)))))
theorem yc_pst {s t c d c2 d2 : Nat} (hs : y_sc s c d) (ht : y_sc t c2 d2) (l2 l4 l5 : Int32) (σ : j_G) : f_X11_paste (nI s) l2 (nI t) l4 l5 σ = y_pst c d c2 d2 l2 l4 l5 σ := by
  have s4 : s < 4 := by unfold y_sc at hs; omega
  have t4 : t < 4 := by unfold y_sc at ht; omega
  have i4 : ∀ k, k < 4 → f_X11_isSlot (nI k) = nI 1 := fun k hk => by rw [yc_isSlot, if_pos ((y_rn (by omega)).mpr hk)]
  have n1 : ¬ (nI 1 = 0 ∨ nI 1 = 0) := by decide
  have e6 : (-6 : Int32) = -2 - 4 := by decide
  have e8 : (-8 : Int32) = -2 - 6 := by decide
  have e7 : (-7 : Int32) = -2 - 5 := by decide
  unfold f_X11_paste
  rw [i4 s s4, i4 t t4, if_neg n1]
  unfold y_pst
  rcases hs with ⟨rfl, rfl, rfl⟩ | ⟨rfl, rfl, rfl⟩ | ⟨rfl, rfl, rfl⟩ | ⟨rfl, rfl, rfl⟩
  · rw [if_pos (show nI 0 = (0 : Int32) from rfl), e6, e8, e7]
    rcases ht with ⟨rfl, rfl, rfl⟩ | ⟨rfl, rfl, rfl⟩ | ⟨rfl, rfl, rfl⟩ | ⟨rfl, rfl, rfl⟩
    · rw [if_pos (show nI 0 = (0 : Int32) from rfl)]; rfl
    · rw [if_neg (by decide), if_pos (show nI 1 = (1 : Int32) from rfl)]; rfl
    · rw [if_neg (by decide), if_neg (by decide), if_pos (show nI 2 = (2 : Int32) from rfl)]; rfl
    · rw [if_neg (by decide), if_neg (by decide), if_neg (by decide), if_pos (show nI 3 = (3 : Int32) from rfl)]; rfl
  · rw [if_neg (show ¬ nI 1 = (0 : Int32) by decide), if_pos (show nI 1 = (1 : Int32) from rfl), e6, e8, e7]
    rcases ht with ⟨rfl, rfl, rfl⟩ | ⟨rfl, rfl, rfl⟩ | ⟨rfl, rfl, rfl⟩ | ⟨rfl, rfl, rfl⟩
    · rw [if_pos (show nI 0 = (0 : Int32) from rfl)]; rfl
    · rw [if_neg (by decide), if_pos (show nI 1 = (1 : Int32) from rfl)]; rfl
    · rw [if_neg (by decide), if_neg (by decide), if_pos (show nI 2 = (2 : Int32) from rfl)]; rfl
    · rw [if_neg (by decide), if_neg (by decide), if_neg (by decide), if_pos (show nI 3 = (3 : Int32) from rfl)]; rfl
  · rw [if_neg (show ¬ nI 2 = (0 : Int32) by decide), if_neg (show ¬ nI 2 = (1 : Int32) by decide), if_pos (show nI 2 = (2 : Int32) from rfl), e6, e8, e7]
    rcases ht with ⟨rfl, rfl, rfl⟩ | ⟨rfl, rfl, rfl⟩ | ⟨rfl, rfl, rfl⟩ | ⟨rfl, rfl, rfl⟩
    · rw [if_pos (show nI 0 = (0 : Int32) from rfl)]; rfl
    · rw [if_neg (by decide), if_pos (show nI 1 = (1 : Int32) from rfl)]; rfl
    · rw [if_neg (by decide), if_neg (by decide), if_pos (show nI 2 = (2 : Int32) from rfl)]; rfl
    · rw [if_neg (by decide), if_neg (by decide), if_neg (by decide), if_pos (show nI 3 = (3 : Int32) from rfl)]; rfl
  · rw [if_neg (show ¬ nI 3 = (0 : Int32) by decide), if_neg (show ¬ nI 3 = (1 : Int32) by decide), if_neg (show ¬ nI 3 = (2 : Int32) by decide), if_pos (show nI 3 = (3 : Int32) from rfl), e6, e8, e7]
    rcases ht with ⟨rfl, rfl, rfl⟩ | ⟨rfl, rfl, rfl⟩ | ⟨rfl, rfl, rfl⟩ | ⟨rfl, rfl, rfl⟩
    · rw [if_pos (show nI 0 = (0 : Int32) from rfl)]; rfl
    · rw [if_neg (by decide), if_pos (show nI 1 = (1 : Int32) from rfl)]; rfl
    · rw [if_neg (by decide), if_neg (by decide), if_pos (show nI 2 = (2 : Int32) from rfl)]; rfl
    · rw [if_neg (by decide), if_neg (by decide), if_neg (by decide), if_pos (show nI 3 = (3 : Int32) from rfl)]; rfl
/-- a part of a row -/
def y_pt (n : Nat) (i m : Int32) : Prop := 0 ≤ i.toInt ∧ 0 ≤ m.toInt ∧ i.toInt + m.toInt ≤ n
theorem yc_part {σ : j_G} {c n : Nat} (h : σ.1 c 0 = nI n) (hn : n ≤ 60) (i m : Int32) : (f_X8_hasPart c i m σ = nI 0) ↔ ¬ y_pt n i m := by
  have e : ((¬ i < 0) ∧ ((¬ m < 0) ∧ ((¬ (σ.1 c 0) < i) ∧ (¬ ((σ.1 c 0) - i) < m)))) ↔ y_pt n i m := by
    rw [h, j_ltI, j_ltI, j_ltI, j_ltI, show (0 : Int32).toInt = 0 from by decide, nI_toInt (by omega)]
    unfold y_pt
    by_cases z : 0 ≤ i.toInt ∧ i.toInt ≤ n
    · rw [j_sbI (by rw [nI_toInt (by omega)]; omega) (by rw [nI_toInt (by omega)]; omega), nI_toInt (by omega)]; omega
    · constructor
      · intro q; omega
      · intro q; omega
  unfold f_X8_hasPart
  by_cases z : y_pt n i m
  · rw [if_pos (e.mpr z)]
    exact ⟨fun q => absurd q (by decide), fun q => absurd z q⟩
  · rw [if_neg (fun q => z (e.mp q))]
    exact ⟨fun _ => z, fun _ => rfl⟩
section Z
variable {σ τ : j_G}
theorem z_paste (hR : j_Rel σ τ) (a1 a2 a3 a4 a5 : Int32) : ∃ v σ1 τ1, f_X11_paste a1 a2 a3 a4 a5 σ = some (v, σ1) ∧ f_X12_paste a1 a2 a3 a4 a5 τ = some (v, τ1) ∧ j_Rel σ1 τ1 := by
  obtain ⟨b, hW, hN, hM, hK⟩ := id hR
  by_cases h : y_rg a1 4 ∧ y_rg a3 4
  · obtain ⟨s, hs, rfl⟩ := y_of _ _ h.1.1 h.1.2
    obtain ⟨t, ht, rfl⟩ := y_of _ _ h.2.1 h.2.2
    obtain ⟨c, d, hc, hk⟩ := hK.slot s hs
    obtain ⟨c2, d2, hc2, hk2⟩ := hK.slot t ht
    have i4 : ∀ k, k < 4 → f_X12_isSlot (nI k) = nI 1 := fun k hk => by rw [ym_isSlot, if_pos ((y_rn (by omega)).mpr hk)]
    have n1 : ¬ (nI 1 = 0 ∨ nI 1 = 0) := by decide
    have cl := yc_pst hc hc2 a2 a4 a5 σ
    have made : ∀ c n, σ.1 c 0 = nI n → n ≤ 60 → ¬ f_X8_isMade c σ = nI 0 := by
      intro c n e hn; unfold f_X8_isMade; simp (disch := omega) only [y_lit, y_n1, nI_add, pk_mul, j_lt, j_b1_s, j_b2_s, j_b3_s, j_b0_s, y_bo, y_bo1, y_bo0, y_i0, y_i1, Classical.not_not, nI_clamp, y_ix, y_lt, y_le, y_eq, y_nP, y_nPs, y_ltP, y_ltQ, y_ltPP, y_eqP, y_eqQ, y_eqPP, if_pos, if_neg, ite_true, ite_false, not_true_eq_false, not_false_eq_true, and_true, true_and, and_false, false_and, or_true, true_or, or_false, false_or, e]; omega
    have unmade : ∀ c, σ.1 c 0 = nP 0 → f_X8_isMade c σ = nI 0 := by
      intro c e; unfold f_X8_isMade; simp (disch := omega) only [y_lit, y_n1, nI_add, pk_mul, j_lt, j_b1_s, j_b2_s, j_b3_s, j_b0_s, y_bo, y_bo1, y_bo0, y_i0, y_i1, Classical.not_not, nI_clamp, y_ix, y_lt, y_le, y_eq, y_nP, y_nPs, y_ltP, y_ltQ, y_ltPP, y_eqP, y_eqQ, y_eqPP, if_pos, if_neg, ite_true, ite_false, not_true_eq_false, not_false_eq_true, and_true, true_and, and_false, false_and, or_true, true_or, or_false, false_or, e]
    rcases hk with ⟨k1, k2⟩ | ⟨n, w, hr⟩
    · refine ⟨-2 - 4, σ, τ, ?_, ?_, hR⟩
      · rw [cl]; unfold y_pst; rw [if_pos (Or.inl (unmade c k1))]
      · unfold f_X12_paste
        rw [i4 s hs, i4 t ht, if_neg n1, y_ix hs (by omega), nI_clamp (by omega), k2, y_m1, if_neg (fun z => z rfl)]; rfl
    · obtain ⟨_, hn, hw, r1, r2, r3, r4, r5⟩ := id hr
      have np : ¬ nI n = (-1 : Int32) := by rw [y_m1, y_eqQ (by omega) (by omega)]; omega
      rcases hk2 with ⟨k1, k2⟩ | ⟨n2, w2, hr2⟩
      · refine ⟨-2 - 4, σ, τ, ?_, ?_, hR⟩
        · rw [cl]; unfold y_pst; rw [if_pos (Or.inr (unmade c2 k1))]
        · unfold f_X12_paste
          rw [i4 s hs, i4 t ht, if_neg n1, y_ix hs (by omega), nI_clamp (by omega), r2, if_pos np, y_ix ht (by omega), nI_clamp (by omega), k2, y_m1, if_pos rfl]; rfl
      · obtain ⟨_, hn2, hw2, p1, p2, p3, p4, p5⟩ := id hr2
        have np2 : ¬ nI n2 = (-1 : Int32) := by rw [y_m1, y_eqQ (by omega) (by omega)]; omega
        have nm : ¬ (f_X8_isMade c σ = nI 0 ∨ f_X8_isMade c2 σ = nI 0) := fun z => z.elim (made c n r1 hn) (made c2 n2 p1 hn2)
        by_cases ew : w = w2
        · subst ew
          by_cases pp : y_pt n a2 a5 ∧ y_pt n2 a4 a5
          · obtain ⟨⟨x1, x2, x3⟩, ⟨x4, x5, x6⟩⟩ := pp
            obtain ⟨i, hi, rfl⟩ := y_of a2 61 (by omega) (by omega)
            obtain ⟨m, hm, rfl⟩ := y_of a5 61 (by omega) (by omega)
            obtain ⟨k, hk, rfl⟩ := y_of a4 61 (by omega) (by omega)
            have pp1 : y_pt n (nI i) (nI m) := ⟨x1, x2, x3⟩
            have pp2 : y_pt n2 (nI k) (nI m) := ⟨x4, x5, x6⟩
            rw [nI_toInt (by omega), nI_toInt (by omega)] at x3 x6
            obtain ⟨τ1, e1, e2, e3, e4, e5⟩ := ym_mv1 (i := i) (k := k) (t := t) (n := m) hs (by omega) (nI t) (nI k) m 0 j_F τ (by omega) (y_F (by omega))
            obtain ⟨τ2, f1, f2, f3, f4, f5⟩ := ym_mv2 (t := t) (k := k) (n := m) ht (by omega) m 0 j_F τ1 (by omega) (y_F (by omega))
            have hd : ∀ j, j < n2 → (j_cl σ d i d2 k m).2 d2 j = τ2.2 96 (60 * t + j) := by
              intro j hj
              rw [j_cl_eq]
              by_cases q : k ≤ j ∧ j < k + m
              · rw [pk_cpy_in q.1 q.2]
                obtain ⟨x, rfl⟩ : ∃ x, j = k + x := ⟨j - k, by omega⟩
                rw [show i + (k + x - k) = i + x from by omega, r5 (i + x) (by omega), ← Nat.add_assoc (60 * t) k x, f5 x (by omega) (by omega), e5 x (by omega) (by omega), Nat.add_assoc]
              · rw [pk_cpy_out (by omega), p5 j hj, f4 _ (by omega), e3 96 (by omega)]
            refine ⟨nI 0, j_cl σ d i d2 k m, τ2, ?_, ?_, y_slots hR hc2 ⟨fun _ _ => rfl, fun x hx => funext fun j => j_cl_ne hx, fun x _ _ => by rw [f2, e2], fun x hx hx2 => by rw [f3 x hx, e3 x hx2], fun j _ => by rw [f2, e2]; exact ⟨rfl, rfl⟩, fun j hj => by rw [f4 j (by omega), e3 96 (by omega)]⟩ (Or.inr ⟨n2, w, hn2, hw, p1, by rw [f2, e2]; exact p2, p3, by rw [f2, e2]; exact p4, hd⟩)⟩
            · rw [cl]; unfold y_pst
              rw [if_neg nm, r3, p3, if_neg (fun z => z rfl), if_neg (fun z => z.elim (fun q => (yc_part r1 hn _ _).mp q pp1) (fun q => (yc_part p1 hn2 _ _).mp q pp2))]
              unfold j_cg
              rw [nI_clamp (by omega), nI_clamp (by omega), nI_clamp (by omega), if_neg]
              simp only [y_lit]
              rw [y_lt (by omega) (by omega), y_lt (by omega) (by omega), y_lt (by omega) (by omega)]
              omega
            · have l1 : ¬ (nI n).toInt64 < (nI i).toInt64 + (nI m).toInt64 := by
                rw [nI_l (by omega), nI_l (by omega), nI_l (by omega), lN_add, lN_lt (by omega) (by omega)]; omega
              have l2 : ¬ (nI n2).toInt64 < (nI k).toInt64 + (nI m).toInt64 := by
                rw [nI_l (by omega), nI_l (by omega), nI_l (by omega), lN_add, lN_lt (by omega) (by omega)]; omega
              unfold f_X12_paste
              rw [i4 s hs, i4 t ht, if_neg n1, y_ix hs (by omega), nI_clamp (by omega), r2, if_pos np, y_ix ht (by omega), nI_clamp (by omega), p2, if_neg np2, y_ix hs (by omega), y_ix ht (by omega), r4, p4, if_neg (fun z => z rfl), if_pos ⟨nI_pos (by omega), nI_pos (by omega), nI_pos (by omega)⟩, y_ix hs (by omega), if_pos l1, y_ix ht (by omega), if_neg l2, show (0 : Int32) = nI 0 from rfl, e1, j_b1_s, f1]
              rfl
          · refine ⟨-2 - 5, σ, τ, ?_, ?_, hR⟩
            · rw [cl]; unfold y_pst
              rw [if_neg nm, r3, p3, if_neg (fun z => z rfl), if_pos]
              rw [yc_part r1 hn, yc_part p1 hn2]
              by_cases q : y_pt n a2 a5
              · exact Or.inr (fun z => pp ⟨q, z⟩)
              · exact Or.inl q
            · unfold f_X12_paste
              rw [i4 s hs, i4 t ht, if_neg n1, y_ix hs (by omega), nI_clamp (by omega), r2, if_pos np, y_ix ht (by omega), nI_clamp (by omega), p2, if_neg np2, y_ix hs (by omega), y_ix ht (by omega), r4, p4, if_neg (fun z => z rfl), y_ix hs (by omega), y_ix ht (by omega)]
              by_cases q : (¬ a2 < 0) ∧ ((¬ a4 < 0) ∧ (¬ a5 < 0))
              · rw [if_pos q]
                rw [j_ltI, j_ltI, j_ltI, show (0 : Int32).toInt = 0 from by decide] at q
                have b2 := Int32.toInt_lt a2; have b4 := Int32.toInt_lt a4; have b5 := Int32.toInt_lt a5
                have ad : ∀ x y : Int32, 0 ≤ x.toInt → 0 ≤ y.toInt → x.toInt < 2147483648 → y.toInt < 2147483648 → (x.toInt64 + y.toInt64).toInt = x.toInt + y.toInt := by
                  intro x y h1 h2 h3 h4
                  rw [Int64.toInt_add, j_l64, j_l64, Int.bmod_eq_of_le (by omega) (by omega)]
                by_cases q1 : ¬ (nI n).toInt64 < a2.toInt64 + a5.toInt64
                · rw [if_pos q1]
                  rw [Int64.lt_iff_toInt_lt, ad a2 a5 (by omega) (by omega) (by omega) (by omega), j_l64, nI_toInt (by omega)] at q1
                  have q2 : (nI n2).toInt64 < a4.toInt64 + a5.toInt64 := by
                    rw [Int64.lt_iff_toInt_lt, ad a4 a5 (by omega) (by omega) (by omega) (by omega), j_l64, nI_toInt (by omega)]
                    have : ¬ y_pt n2 a4 a5 := fun z => pp ⟨⟨by omega, by omega, by omega⟩, z⟩
                    unfold y_pt at this; omega
                  rw [if_pos q2]; rfl
                · rw [if_neg q1]; rfl
              · rw [if_neg q]; rfl
        · have nw : ¬ nI w = nI w2 := by rw [y_eq (by omega) (by omega)]; exact ew
          refine ⟨-2 - 6, σ, τ, ?_, ?_, hR⟩
          · rw [cl]; unfold y_pst
            rw [if_neg nm, r3, p3, if_pos nw]
          · unfold f_X12_paste
            rw [i4 s hs, i4 t ht, if_neg n1, y_ix hs (by omega), nI_clamp (by omega), r2, if_pos np, y_ix ht (by omega), nI_clamp (by omega), p2, if_neg np2, y_ix hs (by omega), y_ix ht (by omega), r4, p4, if_pos nw]; rfl
  · refine ⟨-2, σ, τ, ?_, ?_, hR⟩
    · unfold f_X11_paste
      rw [if_pos]
      rw [yc_isSlot, yc_isSlot]
      by_cases q : y_rg a1 4
      · refine Or.inr ?_
        rw [if_neg (fun z => h ⟨q, z⟩)]; rfl
      · refine Or.inl ?_
        rw [if_neg q]; rfl
    · unfold f_X12_paste
      rw [if_pos]
      rw [ym_isSlot, ym_isSlot]
      by_cases q : y_rg a1 4
      · refine Or.inr ?_
        rw [if_neg (fun z => h ⟨q, z⟩)]; rfl
      · refine Or.inl ?_
        rw [if_neg q]; rfl
end Z
/-! ===== the tokens of a tape: B its bytes, n how many; a token behind p: its start, its kind (0 the end, 1 a word, 2 a number, 3 ;, 4 none), its end, its value ===== -/
noncomputable def y_t (B : Nat → Int32) (i : Nat) : Nat := (B i).toBitVec.toNat % 256
noncomputable def y_cl (B : Nat → Int32) (i : Nat) : Nat := if y_t B i = 32 ∨ y_t B i = 10 then 0 else if 97 ≤ y_t B i ∧ y_t B i ≤ 122 then 1 else if 48 ≤ y_t B i ∧ y_t B i ≤ 57 then 2 else if y_t B i = 59 then 3 else 4
noncomputable def y_wl (B : Nat → Int32) (k : Nat) : Nat → Nat → Nat
  | 0, p => p
  | m + 1, p => if y_cl B p = k then y_wl B k m (p + 1) else p
noncomputable def y_s (B : Nat → Int32) (n p : Nat) : Nat := y_wl B 0 (n - p) p
noncomputable def y_kd (B : Nat → Int32) (n p : Nat) : Nat := if n ≤ y_s B n p then 0 else y_cl B (y_s B n p)
noncomputable def y_e (B : Nat → Int32) (n p : Nat) : Nat := if n ≤ y_s B n p then y_s B n p else if y_cl B (y_s B n p) = 1 then y_wl B 1 (n - y_s B n p) (y_s B n p) else if y_cl B (y_s B n p) = 2 then y_wl B 2 (n - y_s B n p) (y_s B n p) else y_s B n p + 1
noncomputable def y_v (B : Nat → Int32) : Nat → Nat → Nat → Nat
  | 0, _, v => v
  | m + 1, p, v => if y_cl B p = 2 then y_v B m (p + 1) (min 1000000 (10 * v + y_t B p - 48)) else v
noncomputable def y_val (B : Nat → Int32) (n p : Nat) : Nat := if y_kd B n p = 2 then y_v B (n - y_s B n p) (y_s B n p) 0 else 0
theorem y_t_lt (B : Nat → Int32) (i : Nat) : y_t B i < 256 := Nat.mod_lt _ (by omega)
theorem y_wl_bd {B : Nat → Int32} {k : Nat} : ∀ m p, p ≤ y_wl B k m p ∧ y_wl B k m p ≤ p + m := by
  intro m
  induction m with
  | zero => intro p; exact ⟨Nat.le_refl _, Nat.le_refl _⟩
  | succ m ih => intro p; unfold y_wl; have := ih (p + 1); split <;> omega
theorem y_wl_no {B : Nat → Int32} {k : Nat} : ∀ m p, y_wl B k m p < p + m → y_cl B (y_wl B k m p) ≠ k := by
  intro m
  induction m with
  | zero => intro p h; unfold y_wl at h; omega
  | succ m ih =>
    intro p h
    unfold y_wl at h ⊢
    by_cases c : y_cl B p = k
    · rw [if_pos c] at h ⊢; exact ih (p + 1) (by omega)
    · rw [if_neg c]; exact c
theorem y_wl_in {B : Nat → Int32} {k : Nat} : ∀ m p j, p ≤ j → j < y_wl B k m p → y_cl B j = k := by
  intro m
  induction m with
  | zero => intro p j h1 h2; unfold y_wl at h2; omega
  | succ m ih =>
    intro p j h1 h2
    unfold y_wl at h2
    by_cases c : y_cl B p = k
    · rw [if_pos c] at h2
      by_cases e : j = p
      · subst e; exact c
      · exact ih (p + 1) j (by omega) h2
    · rw [if_neg c] at h2; omega
theorem y_s_bd {B : Nat → Int32} {n p : Nat} (h : p ≤ n) : p ≤ y_s B n p ∧ y_s B n p ≤ n := by
  have := y_wl_bd (B := B) (k := 0) (n - p) p
  unfold y_s; omega
theorem y_cl_c (B : Nat → Int32) (i : Nat) : y_cl B i ≤ 4 := by
  unfold y_cl
  repeat' split
  all_goals omega
theorem y_s_ne {B : Nat → Int32} {n p : Nat} (h : p ≤ n) (hs : y_s B n p < n) : y_cl B (y_s B n p) ≠ 0 := y_wl_no (n - p) p (by unfold y_s at hs; omega)
theorem y_e_bd {B : Nat → Int32} {n p : Nat} (h : p ≤ n) : y_s B n p ≤ y_e B n p ∧ y_e B n p ≤ n ∧ (y_s B n p < n → y_s B n p < y_e B n p) := by
  have s := y_s_bd (B := B) h
  unfold y_e
  by_cases c : n ≤ y_s B n p
  · rw [if_pos c]; omega
  · rw [if_neg c]
    generalize y_s B n p = q at *
    obtain ⟨m, hm⟩ : ∃ m, n - q = m + 1 := ⟨n - q - 1, by omega⟩
    by_cases c1 : y_cl B q = 1
    · rw [if_pos c1, hm]
      unfold y_wl; rw [if_pos c1]
      have := y_wl_bd (B := B) (k := 1) m (q + 1); omega
    · rw [if_neg c1]
      by_cases c2 : y_cl B q = 2
      · rw [if_pos c2, hm]
        unfold y_wl; rw [if_pos c2]
        have := y_wl_bd (B := B) (k := 2) m (q + 1); omega
      · rw [if_neg c2]; omega
theorem y_v_le {B : Nat → Int32} : ∀ m p v, v ≤ 1000000 → y_v B m p v ≤ 1000000 := by
  intro m
  induction m with
  | zero => intro p v h; exact h
  | succ m ih => intro p v h; unfold y_v; split; exact ih _ _ (by omega); exact h
theorem y_val_le (B : Nat → Int32) (n p : Nat) : y_val B n p ≤ 1000000 := by
  unfold y_val; split
  · exact y_v_le _ _ _ (by omega)
  · omega
theorem y_byt (x : Int32) : x &&& nI 255 = nI (x.toBitVec.toNat % 256) := by
  rw [show nI 255 = (255 : Int32) from rfl, pk_and x 8 (by decide)]
/-- what a sign is -/
theorem y_clB {B : Nat → Int32} {i : Nat} : (nI (y_t B i) = nI 32 ∨ nI (y_t B i) = nI 10) ↔ y_cl B i = 0 := by
  have := y_t_lt B i
  rw [y_eq (by omega) (by omega), y_eq (by omega) (by omega)]
  unfold y_cl
  generalize y_t B i = x
  by_cases c : x = 32 ∨ x = 10
  · rw [if_pos c]; exact ⟨fun _ => rfl, fun _ => c⟩
  · rw [if_neg c]
    refine ⟨fun z => absurd z c, fun z => ?_⟩
    revert z
    repeat' split
    all_goals omega
theorem y_clL {B : Nat → Int32} {i : Nat} : (97 ≤ y_t B i ∧ y_t B i ≤ 122) ↔ y_cl B i = 1 := by
  unfold y_cl
  generalize y_t B i = x
  constructor
  · intro h
    rw [if_neg (by omega), if_pos h]
  · intro z
    revert z
    repeat' split
    all_goals omega
theorem y_clD {B : Nat → Int32} {i : Nat} : (48 ≤ y_t B i ∧ y_t B i ≤ 57) ↔ y_cl B i = 2 := by
  unfold y_cl
  generalize y_t B i = x
  constructor
  · intro h
    rw [if_neg (by omega), if_neg (by omega), if_pos h]
  · intro z
    revert z
    repeat' split
    all_goals omega
theorem y_clS {B : Nat → Int32} {i : Nat} : y_t B i = 59 ↔ y_cl B i = 3 := by
  unfold y_cl
  generalize y_t B i = x
  constructor
  · intro h
    rw [if_neg (by omega), if_neg (by omega), if_neg (by omega), if_pos h]
  · intro z
    revert z
    repeat' split
    all_goals omega
section C
variable {B : Nat → Int32} {n : Nat}
/-- the class's tape -/
def y_ct (σ : j_G) (B : Nat → Int32) (n : Nat) : Prop := n ≤ 1200 ∧ σ.1 19 0 = nI n ∧ ∀ i, i < n → σ.1 20 i = B i
def y_cf10 (σ σ' : j_G) : Prop := (∀ c, c ≠ 10 → σ'.1 c = σ.1 c) ∧ σ'.2 = σ.2 ∧ σ'.1 10 1 = σ.1 10 1 ∧ σ'.1 10 2 = σ.1 10 2
theorem y_cf10.refl {σ : j_G} : y_cf10 σ σ := ⟨fun _ _ => rfl, rfl, rfl, rfl⟩
theorem y_cf10.trans {σ σ' σ'' : j_G} (h : y_cf10 σ σ') (h' : y_cf10 σ' σ'') : y_cf10 σ σ'' := ⟨fun c hc => (h'.1 c hc).trans (h.1 c hc), h'.2.1.trans h.2.1, h'.2.2.1.trans h.2.2.1, h'.2.2.2.trans h.2.2.2⟩
theorem y_cf10.si {σ σ' : j_G} {j : Nat} {v : Int32} (h : y_cf10 σ σ') (h1 : j ≠ 1) (h2 : j ≠ 2) : y_cf10 σ (j_si σ' 10 j v) :=
  ⟨fun c hc => (funext fun j' => j_r_ne hc).trans (h.1 c hc), h.2.1, (j_r_nj (fun z => h1 z.symm)).trans h.2.2.1, (j_r_nj (fun z => h2 z.symm)).trans h.2.2.2⟩
theorem y_ct.fr {σ σ' : j_G} (h : y_ct σ B n) (hf : y_cf10 σ σ') : y_ct σ' B n := by
  unfold y_ct at *; rw [hf.1 19 (by omega), hf.1 20 (by omega)]; exact h
theorem yc_at {σ : j_G} (h : y_ct σ B n) {i : Nat} (hi : i < n) : f_X10_at (nI i) σ = some (nI (y_t B i)) := by
  have hn := h.1
  unfold f_X10_at; simp (disch := omega) only [y_lit, y_n1, nI_add, pk_mul, j_lt, j_b1_s, j_b2_s, j_b3_s, j_b0_s, y_bo, y_bo1, y_bo0, y_i0, y_i1, Classical.not_not, nI_clamp, y_ix, y_lt, y_le, y_eq, y_nP, y_nPs, y_ltP, y_ltQ, y_ltPP, y_eqP, y_eqQ, y_eqPP, if_pos, if_neg, ite_true, ite_false, not_true_eq_false, not_false_eq_true, and_true, true_and, and_false, false_and, or_true, true_or, or_false, false_or, h.2.1, h.2.2, y_byt]
  rfl
theorem yc_atN {σ : j_G} (h : y_ct σ B n) {i : Nat} (hi : n ≤ i) (h2 : i < 5000) : f_X10_at (nI i) σ = some (nP 0) := by
  have hn := h.1
  unfold f_X10_at; simp (disch := omega) only [y_lit, y_n1, nI_add, pk_mul, j_lt, j_b1_s, j_b2_s, j_b3_s, j_b0_s, y_bo, y_bo1, y_bo0, y_i0, y_i1, Classical.not_not, nI_clamp, y_ix, y_lt, y_le, y_eq, y_nP, y_nPs, y_ltP, y_ltQ, y_ltPP, y_eqP, y_eqQ, y_eqPP, if_pos, if_neg, ite_true, ite_false, not_true_eq_false, not_false_eq_true, and_true, true_and, and_false, false_and, or_true, true_or, or_false, false_or, h.2.1]
theorem yc_bl {i : Nat} : f_X7_isBlank (nI (y_t B i)) = if y_cl B i = 0 then nI 1 else nI 0 := by
  unfold f_X7_isBlank; simp only [y_lit]
  by_cases c : y_cl B i = 0
  · rw [if_pos c, if_pos (y_clB.mpr c)]
  · rw [if_neg c, if_neg (fun z => c (y_clB.mp z))]
theorem yc_le {i : Nat} : f_X7_isLetter (nI (y_t B i)) = if y_cl B i = 1 then nI 1 else nI 0 := by
  have := y_t_lt B i
  unfold f_X7_isLetter; simp (disch := omega) only [y_lit, y_lt, Nat.not_lt, y_clL]
theorem yc_di {i : Nat} : f_X7_isDigit (nI (y_t B i)) = if y_cl B i = 2 then nI 1 else nI 0 := by
  have := y_t_lt B i
  unfold f_X7_isDigit; simp (disch := omega) only [y_lit, y_lt, Nat.not_lt, y_clD]
theorem yc_w8 : ∀ m p f (σ : j_G), p + m = n → m < f → y_ct σ B n → σ.1 10 6 = nI p → ∃ σ', p_X7_step_8 f σ = some σ' ∧ σ'.1 10 6 = nI (y_wl B 0 m p) ∧ y_cf10 σ σ' ∧ σ'.1 10 7 = σ.1 10 7 := by
  intro m
  induction m with
  | zero =>
    intro p f σ h hf ht h6
    obtain ⟨f, rfl⟩ := y_pos hf
    have hn := ht.1
    refine ⟨σ, ?_, h6, y_cf10.refl, rfl⟩
    unfold p_X7_step_8; simp (disch := omega) only [y_lit, y_n1, nI_add, pk_mul, j_lt, j_b1_s, j_b2_s, j_b3_s, j_b0_s, y_bo, y_bo1, y_bo0, y_i0, y_i1, Classical.not_not, nI_clamp, y_ix, y_lt, y_le, y_eq, y_nP, y_nPs, y_ltP, y_ltQ, y_ltPP, y_eqP, y_eqQ, y_eqPP, if_pos, if_neg, ite_true, ite_false, not_true_eq_false, not_false_eq_true, and_true, true_and, and_false, false_and, or_true, true_or, or_false, false_or, h6, ht.2.1]
  | succ m ih =>
    intro p f σ h hf ht h6
    obtain ⟨f, rfl⟩ := y_pos hf
    have hn := ht.1
    unfold p_X7_step_8 y_wl
    simp (disch := omega) only [y_lit, y_n1, nI_add, pk_mul, j_lt, j_b1_s, j_b2_s, j_b3_s, j_b0_s, y_bo, y_bo1, y_bo0, y_i0, y_i1, Classical.not_not, nI_clamp, y_ix, y_lt, y_le, y_eq, y_nP, y_nPs, y_ltP, y_ltQ, y_ltPP, y_eqP, y_eqQ, y_eqPP, if_pos, if_neg, ite_true, ite_false, not_true_eq_false, not_false_eq_true, and_true, true_and, and_false, false_and, or_true, true_or, or_false, false_or, h6, ht.2.1, yc_at ht, yc_bl]
    by_cases c : y_cl B p = 0
    · rw [if_pos c, if_pos c]
      have fr : y_cf10 σ (j_si σ 10 6 (nI (p + 1))) := y_cf10.refl.si (by omega) (by omega)
      obtain ⟨σ', e1, e2, e3, e4⟩ := ih (p + 1) f (j_si σ 10 6 (nI (p + 1))) (by omega) (by omega) (ht.fr fr) j_r_eq
      exact ⟨σ', e1, e2, fr.trans e3, by rw [e4, j_r_nj (by omega)]⟩
    · rw [if_neg c, if_neg c]
      exact ⟨σ, rfl, h6, y_cf10.refl, rfl⟩
theorem yc_w102 : ∀ m p f (σ : j_G), p + m = n → m < f → y_ct σ B n → σ.1 10 7 = nI p → ∃ σ', p_X7_step_102 f σ = some σ' ∧ σ'.1 10 7 = nI (y_wl B 1 m p) ∧ y_cf10 σ σ' ∧ σ'.1 10 6 = σ.1 10 6 ∧ σ'.1 10 5 = σ.1 10 5 ∧ σ'.1 10 8 = σ.1 10 8 := by
  intro m
  induction m with
  | zero =>
    intro p f σ h hf ht h6
    obtain ⟨f, rfl⟩ := y_pos hf
    have hn := ht.1
    refine ⟨σ, ?_, h6, y_cf10.refl, rfl, rfl, rfl⟩
    unfold p_X7_step_102; simp (disch := omega) only [y_lit, y_n1, nI_add, pk_mul, j_lt, j_b1_s, j_b2_s, j_b3_s, j_b0_s, y_bo, y_bo1, y_bo0, y_i0, y_i1, Classical.not_not, nI_clamp, y_ix, y_lt, y_le, y_eq, y_nP, y_nPs, y_ltP, y_ltQ, y_ltPP, y_eqP, y_eqQ, y_eqPP, if_pos, if_neg, ite_true, ite_false, not_true_eq_false, not_false_eq_true, and_true, true_and, and_false, false_and, or_true, true_or, or_false, false_or, h6, ht.2.1]
  | succ m ih =>
    intro p f σ h hf ht h6
    obtain ⟨f, rfl⟩ := y_pos hf
    have hn := ht.1
    unfold p_X7_step_102 y_wl
    simp (disch := omega) only [y_lit, y_n1, nI_add, pk_mul, j_lt, j_b1_s, j_b2_s, j_b3_s, j_b0_s, y_bo, y_bo1, y_bo0, y_i0, y_i1, Classical.not_not, nI_clamp, y_ix, y_lt, y_le, y_eq, y_nP, y_nPs, y_ltP, y_ltQ, y_ltPP, y_eqP, y_eqQ, y_eqPP, if_pos, if_neg, ite_true, ite_false, not_true_eq_false, not_false_eq_true, and_true, true_and, and_false, false_and, or_true, true_or, or_false, false_or, h6, ht.2.1, yc_at ht, yc_le]
    by_cases c : y_cl B p = 1
    · rw [if_pos c, if_pos c]
      have fr : y_cf10 σ (j_si σ 10 7 (nI (p + 1))) := y_cf10.refl.si (by omega) (by omega)
      obtain ⟨σ', e1, e2, e3, e4, e5, e6⟩ := ih (p + 1) f (j_si σ 10 7 (nI (p + 1))) (by omega) (by omega) (ht.fr fr) j_r_eq
      exact ⟨σ', e1, e2, fr.trans e3, by rw [e4, j_r_nj (by omega)], by rw [e5, j_r_nj (by omega)], by rw [e6, j_r_nj (by omega)]⟩
    · rw [if_neg c, if_neg c]
      exact ⟨σ, rfl, h6, y_cf10.refl, rfl, rfl, rfl⟩
theorem yc_w158 : ∀ m p v f (σ : j_G), p + m = n → m < f → v ≤ 1000000 → y_ct σ B n → σ.1 10 7 = nI p → σ.1 10 8 = nI v → ∃ σ', p_X7_step_158 f σ = some σ' ∧ σ'.1 10 7 = nI (y_wl B 2 m p) ∧ σ'.1 10 8 = nI (y_v B m p v) ∧ y_cf10 σ σ' ∧ σ'.1 10 6 = σ.1 10 6 ∧ σ'.1 10 5 = σ.1 10 5 := by
  intro m
  induction m with
  | zero =>
    intro p v f σ h hf hv ht h6 h8
    obtain ⟨f, rfl⟩ := y_pos hf
    have hn := ht.1
    refine ⟨σ, ?_, h6, h8, y_cf10.refl, rfl, rfl⟩
    unfold p_X7_step_158; simp (disch := omega) only [y_lit, y_n1, nI_add, pk_mul, j_lt, j_b1_s, j_b2_s, j_b3_s, j_b0_s, y_bo, y_bo1, y_bo0, y_i0, y_i1, Classical.not_not, nI_clamp, y_ix, y_lt, y_le, y_eq, y_nP, y_nPs, y_ltP, y_ltQ, y_ltPP, y_eqP, y_eqQ, y_eqPP, if_pos, if_neg, ite_true, ite_false, not_true_eq_false, not_false_eq_true, and_true, true_and, and_false, false_and, or_true, true_or, or_false, false_or, h6, ht.2.1]
  | succ m ih =>
    intro p v f σ h hf hv ht h6 h8
    obtain ⟨f, rfl⟩ := y_pos hf
    have hn := ht.1
    unfold p_X7_step_158 y_wl y_v
    simp (disch := omega) only [y_lit, y_n1, nI_add, pk_mul, j_lt, j_b1_s, j_b2_s, j_b3_s, j_b0_s, y_bo, y_bo1, y_bo0, y_i0, y_i1, Classical.not_not, nI_clamp, y_ix, y_lt, y_le, y_eq, y_nP, y_nPs, y_ltP, y_ltQ, y_ltPP, y_eqP, y_eqQ, y_eqPP, if_pos, if_neg, ite_true, ite_false, not_true_eq_false, not_false_eq_true, and_true, true_and, and_false, false_and, or_true, true_or, or_false, false_or, h6, ht.2.1, yc_at ht, yc_di]
    by_cases c : y_cl B p = 2
    · rw [if_pos c, if_pos c, if_pos c]
      have tt := y_t_lt B p
      have td := y_clD.mpr c
      have mn : (if 10 * v + y_t B p - 48 < 1000000 then nI (10 * v + y_t B p - 48) else nI 1000000) = nI (min 1000000 (10 * v + y_t B p - 48)) := by
        split
        · congr 1; omega
        · congr 1; omega
      simp (disch := omega) only [y_lit, y_n1, nI_add, pk_mul, j_lt, j_b1_s, j_b2_s, j_b3_s, j_b0_s, y_bo, y_bo1, y_bo0, y_i0, y_i1, Classical.not_not, nI_clamp, y_ix, y_lt, y_le, y_eq, y_nP, y_nPs, y_ltP, y_ltQ, y_ltPP, y_eqP, y_eqQ, y_eqPP, if_pos, if_neg, ite_true, ite_false, not_true_eq_false, not_false_eq_true, and_true, true_and, and_false, false_and, or_true, true_or, or_false, false_or, j_r_ne, j_r_eq, j_r_nj, h6, h8, pk_sub]
      rw [mn]
      have fr : y_cf10 σ (j_si (j_si σ 10 8 (nI (min 1000000 (10 * v + y_t B p - 48)))) 10 7 (nI (p + 1))) := (y_cf10.refl.si (by omega) (by omega)).si (by omega) (by omega)
      obtain ⟨σ', e1, e2, e3, e4, e5, e6⟩ := ih (p + 1) (min 1000000 (10 * v + y_t B p - 48)) f _ (by omega) (by omega) (by omega) (ht.fr fr) j_r_eq (by rw [j_r_nj (by omega), j_r_eq])
      refine ⟨σ', e1, e2, e3, fr.trans e4, by rw [e5, j_r_nj (by omega), j_r_nj (by omega)], by rw [e6, j_r_nj (by omega), j_r_nj (by omega)]⟩
    · rw [if_neg c, if_neg c, if_neg c]
      exact ⟨σ, rfl, h6, h8, y_cf10.refl, rfl, rfl⟩
noncomputable def y_srt (k : Nat) : Nat := if k = 4 then 0 else k + 1
/-- the class holds the token behind p -/
def y_ck (σ : j_G) (B : Nat → Int32) (n p : Nat) : Prop := σ.1 10 5 = nI (y_srt (y_kd B n p)) ∧ σ.1 10 6 = nI (y_s B n p) ∧ σ.1 10 7 = nI (y_e B n p) ∧ σ.1 10 8 = nI (y_val B n p)
theorem yc_step {σ : j_G} (ht : y_ct σ B n) {p : Nat} (hp : p ≤ n) (h7 : σ.1 10 7 = nI p) : ∃ σ', f_X7_step σ = some σ' ∧ y_ck σ' B n p ∧ y_cf10 σ σ' := by
  have hn := ht.1
  have sb := y_s_bd (B := B) hp
  unfold f_X7_step
  simp only [j_lt]
  have f0 : y_cf10 σ (j_si σ 10 6 (σ.1 10 7)) := y_cf10.refl.si (by omega) (by omega)
  obtain ⟨σ1, a1, a2, a3, a4⟩ := yc_w8 (n - p) p j_F (j_si σ 10 6 (σ.1 10 7)) (by omega) (y_F (by omega)) (ht.fr f0) (by rw [j_r_eq, h7])
  rw [a1, j_b1_s, a2]
  have f1 := f0.trans a3
  have es : y_wl B 0 (n - p) p = y_s B n p := rfl
  rw [es]
  have f2 : y_cf10 σ (j_si (j_si σ1 10 7 (nI (y_s B n p))) 10 8 (0 : Int32)) := (f1.si (by omega) (by omega)).si (by omega) (by omega)
  have h26 : (j_si (j_si σ1 10 7 (nI (y_s B n p))) 10 8 (0 : Int32)).1 10 6 = nI (y_s B n p) := by simp (disch := omega) only [j_r_ne, j_r_eq, j_r_nj]; rw [a2]; rfl
  have h27 : (j_si (j_si σ1 10 7 (nI (y_s B n p))) 10 8 (0 : Int32)).1 10 7 = nI (y_s B n p) := by simp (disch := omega) only [j_r_ne, j_r_eq, j_r_nj]
  have h28 : (j_si (j_si σ1 10 7 (nI (y_s B n p))) 10 8 (0 : Int32)).1 10 8 = nI 0 := by simp (disch := omega) only [j_r_ne, j_r_eq, j_r_nj]; rfl
  generalize j_si (j_si σ1 10 7 (nI (y_s B n p))) 10 8 (0 : Int32) = σ2 at *
  have t2 := ht.fr f2
  rw [h26]
  unfold y_ck y_kd y_e y_val y_kd
  by_cases c : n ≤ y_s B n p
  · rw [if_pos c, if_pos c, yc_atN t2 c (by omega), j_b1_s, y_m1, if_pos rfl]
    refine ⟨_, rfl, ⟨?_, ?_, ?_, ?_⟩, f2.si (by omega) (by omega)⟩
    · rw [j_r_eq]; rfl
    · simp (disch := omega) only [j_r_ne, j_r_eq, j_r_nj]; exact h26
    · simp (disch := omega) only [j_r_ne, j_r_eq, j_r_nj]; exact h27
    · simp (disch := omega) only [j_r_ne, j_r_eq, j_r_nj]; exact h28
  · rw [if_neg c, if_neg c, yc_at t2 (by omega), j_b1_s, yc_le, yc_di]
    have nn := y_s_ne (B := B) hp (by omega)
    have tt := y_t_lt B (y_s B n p)
    rw [if_neg (show ¬ nI (y_t B (y_s B n p)) = (-1 : Int32) by rw [y_m1, y_eqQ (by omega) (by omega)]; omega)]
    by_cases c1 : y_cl B (y_s B n p) = 1
    · have fr : y_cf10 σ (j_si σ2 10 5 (2 : Int32)) := f2.si (by omega) (by omega)
      obtain ⟨σ3, b1, b2, b3, b4, b5, b6⟩ := yc_w102 (n - y_s B n p) (y_s B n p) j_F (j_si σ2 10 5 (2 : Int32)) (by omega) (y_F (by omega)) (ht.fr fr) (by simp (disch := omega) only [j_r_ne, j_r_eq, j_r_nj]; exact h27)
      rw [if_pos c1, if_pos (show ¬ nI 1 = (0 : Int32) from by decide), b1]
      refine ⟨σ3, rfl, ⟨?_, ?_, ?_, ?_⟩, fr.trans b3⟩
      · rw [b5, j_r_eq, c1]; rfl
      · rw [b4, j_r_nj (by omega), h26]
      · rw [b2, if_pos c1]
      · rw [b6, j_r_nj (by omega), h28, if_neg (by omega)]
    · rw [if_neg c1, if_neg (show ¬ ¬ nI 0 = (0 : Int32) from fun z => z rfl)]
      by_cases c2 : y_cl B (y_s B n p) = 2
      · have fr : y_cf10 σ (j_si σ2 10 5 (3 : Int32)) := f2.si (by omega) (by omega)
        obtain ⟨σ3, b1, b2, b2', b3, b4, b5⟩ := yc_w158 (n - y_s B n p) (y_s B n p) 0 j_F (j_si σ2 10 5 (3 : Int32)) (by omega) (y_F (by omega)) (by omega) (ht.fr fr) (by simp (disch := omega) only [j_r_ne, j_r_eq, j_r_nj]; exact h27) (by simp (disch := omega) only [j_r_ne, j_r_eq, j_r_nj]; exact h28)
        rw [if_pos c2, if_pos (show ¬ nI 1 = (0 : Int32) from by decide), b1]
        refine ⟨σ3, rfl, ⟨?_, ?_, ?_, ?_⟩, fr.trans b3⟩
        · rw [b5, j_r_eq, c2]; rfl
        · rw [b4, j_r_nj (by omega), h26]
        · rw [b2, if_neg c1, if_pos c2]
        · rw [b2', if_pos c2]
      · rw [if_neg c2, if_neg (show ¬ ¬ nI 0 = (0 : Int32) from fun z => z rfl)]
        have c4 := y_cl_c B (y_s B n p)
        have c59 := y_clS (B := B) (i := y_s B n p)
        refine ⟨_, rfl, ⟨?_, ?_, ?_, ?_⟩, (f2.si (by omega) (by omega)).si (by omega) (by omega)⟩
        · rw [j_r_nj (by omega), j_r_eq]
          by_cases c3 : y_cl B (y_s B n p) = 3
          · rw [c59.mpr c3, c3]; rfl
          · have e4 : y_cl B (y_s B n p) = 4 := by omega
            rw [if_neg (show ¬ nI (y_t B (y_s B n p)) = (59 : Int32) by rw [show (59 : Int32) = nI 59 from rfl, y_eq (by omega) (by omega)]; omega), e4]; rfl
        · simp (disch := omega) only [j_r_ne, j_r_eq, j_r_nj]; exact h26
        · rw [j_r_eq, j_r_nj (by omega), h27, if_neg c1, if_neg c2]; exact nI_1 _
        · rw [j_r_nj (by omega), j_r_nj (by omega), h28, if_neg c2]
end C
/-! ===== the reference's tokens ===== -/
section M
variable {B : Nat → Int32} {n : Nat}
def y_mt (τ : j_G) (B : Nat → Int32) (n : Nat) : Prop := n ≤ 1200 ∧ τ.1 75 7 = nI n ∧ ∀ i, i < n → τ.1 79 i = B i ∧ -128 ≤ (B i).toInt ∧ (B i).toInt ≤ 127
/-- the reference holds the token behind p -/
def y_mq (τ : j_G) (B : Nat → Int32) (n p : Nat) : Prop := τ.1 75 9 = nI (y_s B n p) ∧ τ.1 75 8 = nI (y_e B n p) ∧ τ.1 75 10 = nI (y_kd B n p) ∧ (y_kd B n p = 2 → τ.1 75 11 = nI (min 99999 (y_val B n p)))
theorem y_mt.fr {τ τ' : j_G} {g : Nat} (h : y_mt τ B n) (hf : y_fm 8 g 1 0 τ τ') : y_mt τ' B n := by
  unfold y_mt at *; rw [hf.1 7 (by omega), (hf.2 79 (by omega) (by omega)).1]; exact h
theorem ym_see {τ : j_G} (h : y_mt τ B n) {i : Nat} (hi : i < n) : f_X12_see (nI i) τ = some (nI (y_t B i)) := by
  have hn := h.1
  unfold f_X12_see; simp (disch := omega) only [y_lit, y_n1, nI_add, pk_mul, j_lt, j_b1_s, j_b2_s, j_b3_s, j_b0_s, y_bo, y_bo1, y_bo0, y_i0, y_i1, Classical.not_not, nI_clamp, y_ix, y_lt, y_le, y_eq, y_nP, y_nPs, y_ltP, y_ltQ, y_ltPP, y_eqP, y_eqQ, y_eqPP, if_pos, if_neg, ite_true, ite_false, not_true_eq_false, not_false_eq_true, and_true, true_and, and_false, false_and, or_true, true_or, or_false, false_or, h.2.1, (h.2.2 i hi).1, y_byt]
  rfl
theorem ym_seeN {τ : j_G} (h : y_mt τ B n) {i : Nat} (hi : n ≤ i) (h2 : i < 5000) : f_X12_see (nI i) τ = some (nP 0) := by
  have hn := h.1
  unfold f_X12_see; simp (disch := omega) only [y_lit, y_n1, nI_add, pk_mul, j_lt, j_b1_s, j_b2_s, j_b3_s, j_b0_s, y_bo, y_bo1, y_bo0, y_i0, y_i1, Classical.not_not, nI_clamp, y_ix, y_lt, y_le, y_eq, y_nP, y_nPs, y_ltP, y_ltQ, y_ltPP, y_eqP, y_eqQ, y_eqPP, if_pos, if_neg, ite_true, ite_false, not_true_eq_false, not_false_eq_true, and_true, true_and, and_false, false_and, or_true, true_or, or_false, false_or, h.2.1]
theorem ym_inL {i : Nat} : f_X12_in (nI (y_t B i)).toInt64 (97 : Int64) (122 : Int64) = if y_cl B i = 1 then nI 1 else nI 0 := by
  have := y_t_lt B i
  simp (disch := omega) only [y_lit64, y_in, y_lt, Nat.not_lt, y_clL]
theorem ym_inD {i : Nat} : f_X12_in (nI (y_t B i)).toInt64 (48 : Int64) (57 : Int64) = if y_cl B i = 2 then nI 1 else nI 0 := by
  have := y_t_lt B i
  simp (disch := omega) only [y_lit64, y_in, y_lt, Nat.not_lt, y_clD]
theorem ym_inN {lo hi : Nat} (h1 : 0 < lo) (h : lo < 1000) (h' : hi < 1000) : f_X12_in (nP 0).toInt64 (nI lo).toInt64 (nI hi).toInt64 = nI 0 := by
  simp (disch := omega) only [y_in, y_lit, y_n1, nI_add, pk_mul, j_lt, j_b1_s, j_b2_s, j_b3_s, j_b0_s, y_bo, y_bo1, y_bo0, y_i0, y_i1, Classical.not_not, nI_clamp, y_ix, y_lt, y_le, y_eq, y_nP, y_nPs, y_ltP, y_ltQ, y_ltPP, y_eqP, y_eqQ, y_eqPP, if_pos, if_neg, ite_true, ite_false, not_true_eq_false, not_false_eq_true, and_true, true_and, and_false, false_and, or_true, true_or, or_false, false_or]
theorem ym_inL0 : f_X12_in (nP 0).toInt64 (97 : Int64) (122 : Int64) = nI 0 := by
  have := ym_inN (lo := 97) (hi := 122) (by omega) (by omega) (by omega)
  simp (disch := omega) only [y_lit64]; exact this
theorem ym_inD0 : f_X12_in (nP 0).toInt64 (48 : Int64) (57 : Int64) = nI 0 := by
  have := ym_inN (lo := 48) (hi := 57) (by omega) (by omega) (by omega)
  simp (disch := omega) only [y_lit64]; exact this
theorem ym_w0 : ∀ m p f (τ : j_G), p + m = n → m < f → y_mt τ B n → τ.1 75 8 = nI p → ∃ τ', p_X12_advance_0 f τ = some τ' ∧ τ'.1 75 8 = nI (y_wl B 0 m p) ∧ y_fm 8 8 1 0 τ τ' := by
  intro m
  induction m with
  | zero =>
    intro p f τ h hf ht h8
    obtain ⟨f, rfl⟩ := y_pos hf
    have hn := ht.1
    refine ⟨τ, ?_, h8, y_fm.refl⟩
    unfold p_X12_advance_0; simp (disch := omega) only [y_lit, y_n1, nI_add, pk_mul, j_lt, j_b1_s, j_b2_s, j_b3_s, j_b0_s, y_bo, y_bo1, y_bo0, y_i0, y_i1, Classical.not_not, nI_clamp, y_ix, y_lt, y_le, y_eq, y_nP, y_nPs, y_ltP, y_ltQ, y_ltPP, y_eqP, y_eqQ, y_eqPP, if_pos, if_neg, ite_true, ite_false, not_true_eq_false, not_false_eq_true, and_true, true_and, and_false, false_and, or_true, true_or, or_false, false_or, h8, ym_seeN ht]
  | succ m ih =>
    intro p f τ h hf ht h8
    obtain ⟨f, rfl⟩ := y_pos hf
    have hn := ht.1
    have fr : y_fm 8 8 1 0 τ (j_si τ 75 8 (nI (p + 1))) := y_fm.refl.so (by omega) (by omega)
    obtain ⟨τ', e1, e2, e3⟩ := ih (p + 1) f (j_si τ 75 8 (nI (p + 1))) (by omega) (by omega) (ht.fr fr) j_r_eq
    have tt := y_t_lt B p
    unfold p_X12_advance_0 y_wl
    by_cases c : y_cl B p = 0
    · rw [if_pos c]
      refine ⟨τ', ?_, e2, fr.trans e3⟩
      rw [h8, ym_see ht (by omega), j_b1_s]
      simp only [j_lt, j_b1_s]
      have e : nI p + 1 = nI (p + 1) := by simp (disch := omega) only [y_lit, nI_add]
      rw [e, e1]
      by_cases c1 : ¬ nI (y_t B p) = (32 : Int32)
      · rw [if_pos c1]
        rcases y_clB.mpr c with q | q
        · exact absurd q c1
        · exact if_pos q
      · rw [if_neg c1]
    · rw [if_neg c]
      refine ⟨τ, ?_, h8, y_fm.refl⟩
      rw [h8, ym_see ht (by omega), j_b1_s]
      simp only [j_lt, j_b1_s]
      rw [if_pos (show ¬ nI (y_t B p) = (32 : Int32) from fun z => c (y_clB.mp (Or.inl z))), if_neg (show ¬ nI (y_t B p) = (10 : Int32) from fun z => c (y_clB.mp (Or.inr z)))]
theorem ym_w83 : ∀ m p f (τ : j_G), p + m = n → m < f → y_mt τ B n → τ.1 75 8 = nI p → ∃ τ', p_X12_advance_83 f τ = some τ' ∧ τ'.1 75 8 = nI (y_wl B 1 m p) ∧ y_fm 8 8 1 0 τ τ' := by
  intro m
  induction m with
  | zero =>
    intro p f τ h hf ht h8
    obtain ⟨f, rfl⟩ := y_pos hf
    have hn := ht.1
    refine ⟨τ, ?_, h8, y_fm.refl⟩
    unfold p_X12_advance_83
    rw [h8, ym_seeN ht (by omega) (by omega), j_b1_s, ym_inL0, if_neg (show ¬ ¬ nI 0 = (0 : Int32) from fun z => z rfl)]
  | succ m ih =>
    intro p f τ h hf ht h8
    obtain ⟨f, rfl⟩ := y_pos hf
    have hn := ht.1
    have fr : y_fm 8 8 1 0 τ (j_si τ 75 8 (nI (p + 1))) := y_fm.refl.so (by omega) (by omega)
    obtain ⟨τ', e1, e2, e3⟩ := ih (p + 1) f (j_si τ 75 8 (nI (p + 1))) (by omega) (by omega) (ht.fr fr) j_r_eq
    unfold p_X12_advance_83 y_wl
    rw [h8, ym_see ht (by omega), j_b1_s, ym_inL]
    have e : nI p + 1 = nI (p + 1) := by simp (disch := omega) only [y_lit, nI_add]
    by_cases c : y_cl B p = 1
    · rw [if_pos c, if_pos c, if_pos (show ¬ nI 1 = (0 : Int32) from by decide), e]
      exact ⟨τ', e1, e2, fr.trans e3⟩
    · rw [if_neg c, if_neg c, if_neg (show ¬ ¬ nI 0 = (0 : Int32) from fun z => z rfl)]
      exact ⟨τ, rfl, h8, y_fm.refl⟩
theorem ym_w144 : ∀ m p v f (τ : j_G), p + m = n → m < f → v ≤ 1000000 → y_mt τ B n → τ.1 75 8 = nI p → τ.1 75 11 = nI (min 99999 v) → ∃ τ', p_X12_advance_144 f τ = some τ' ∧ τ'.1 75 8 = nI (y_wl B 2 m p) ∧ τ'.1 75 11 = nI (min 99999 (y_v B m p v)) ∧ y_fm 8 11 1 0 τ τ' ∧ τ'.1 75 9 = τ.1 75 9 := by
  intro m
  induction m with
  | zero =>
    intro p v f τ h hf hv ht h8 h11
    obtain ⟨f, rfl⟩ := y_pos hf
    have hn := ht.1
    refine ⟨τ, ?_, h8, h11, y_fm.refl, rfl⟩
    unfold p_X12_advance_144
    rw [h8, ym_seeN ht (by omega) (by omega), j_b1_s, ym_inD0, if_neg (show ¬ ¬ nI 0 = (0 : Int32) from fun z => z rfl)]
  | succ m ih =>
    intro p v f τ h hf hv ht h8 h11
    obtain ⟨f, rfl⟩ := y_pos hf
    have hn := ht.1
    unfold p_X12_advance_144 y_wl y_v
    rw [h8, ym_see ht (by omega), j_b1_s, ym_inD]
    by_cases c : y_cl B p = 2
    · rw [if_pos c, if_pos c, if_pos c, if_pos (show ¬ nI 1 = (0 : Int32) from by decide), j_b1_s]
      have tt := y_t_lt B p
      have td := y_clD.mpr c
      have mn : (if 10 * min 99999 v + y_t B p - 48 < 99999 then nI (10 * min 99999 v + y_t B p - 48) else nI 99999) = nI (min 99999 (min 1000000 (10 * v + y_t B p - 48))) := by
        split
        · congr 1; omega
        · congr 1; omega
      simp (disch := omega) only [y_lit, y_n1, nI_add, pk_mul, j_lt, j_b1_s, j_b2_s, j_b3_s, j_b0_s, y_bo, y_bo1, y_bo0, y_i0, y_i1, Classical.not_not, nI_clamp, y_ix, y_lt, y_le, y_eq, y_nP, y_nPs, y_ltP, y_ltQ, y_ltPP, y_eqP, y_eqQ, y_eqPP, if_pos, if_neg, ite_true, ite_false, not_true_eq_false, not_false_eq_true, and_true, true_and, and_false, false_and, or_true, true_or, or_false, false_or, j_r_ne, j_r_eq, j_r_nj, h8, h11, pk_sub]
      rw [mn]
      have fr : y_fm 8 11 1 0 τ (j_si (j_si τ 75 11 (nI (min 99999 (min 1000000 (10 * v + y_t B p - 48))))) 75 8 (nI (p + 1))) := (y_fm.refl.so (by omega) (by omega)).so (by omega) (by omega)
      obtain ⟨τ', e1, e2, e3, e4, e5⟩ := ih (p + 1) (min 1000000 (10 * v + y_t B p - 48)) f _ (by omega) (by omega) (by omega) (ht.fr fr) j_r_eq (by rw [j_r_nj (by omega), j_r_eq])
      exact ⟨τ', e1, e2, e3, fr.trans e4, by rw [e5, j_r_nj (by omega), j_r_nj (by omega)]⟩
    · rw [if_neg c, if_neg c, if_neg c, if_neg (show ¬ ¬ nI 0 = (0 : Int32) from fun z => z rfl)]
      exact ⟨τ, rfl, h8, h11, y_fm.refl, rfl⟩
theorem ym_adv {τ : j_G} (ht : y_mt τ B n) {p : Nat} (hp : p ≤ n) (h8 : τ.1 75 8 = nI p) : ∃ τ', f_X12_advance τ = some τ' ∧ y_mq τ' B n p ∧ y_fm 8 11 1 0 τ τ' := by
  have hn := ht.1
  have sb := y_s_bd (B := B) hp
  unfold f_X12_advance
  simp only [j_lt]
  obtain ⟨τ1, a1, a2, a3⟩ := ym_w0 (n - p) p j_F τ (by omega) (y_F (by omega)) ht h8
  have es : y_wl B 0 (n - p) p = y_s B n p := rfl
  rw [es] at a2
  rw [a1, j_b1_s, a2]
  have f2 : y_fm 8 11 1 0 τ (j_si τ1 75 9 (nI (y_s B n p))) := (a3.wide (by omega) (by omega) (by omega) (by omega)).so (by omega) (by omega)
  have h28 : (j_si τ1 75 9 (nI (y_s B n p))).1 75 8 = nI (y_s B n p) := by rw [j_r_nj (by omega), a2]
  have h29 : (j_si τ1 75 9 (nI (y_s B n p))).1 75 9 = nI (y_s B n p) := j_r_eq
  generalize j_si τ1 75 9 (nI (y_s B n p)) = τ2 at *
  have t2 := ht.fr f2
  rw [h28]
  unfold y_mq y_kd y_e y_val y_kd
  by_cases c : n ≤ y_s B n p
  · rw [if_pos c, if_pos c, ym_seeN t2 c (by omega), j_b1_s, if_pos (show nP 0 = (-1 : Int32) from y_m1.symm)]
    refine ⟨_, rfl, ⟨?_, ?_, ?_, fun z => absurd z (by omega)⟩, f2.so (by omega) (by omega)⟩
    · rw [j_r_nj (by omega), h29]
    · rw [j_r_nj (by omega), h28]
    · rw [j_r_eq]; rfl
  · rw [if_neg c, if_neg c, ym_see t2 (by omega), j_b1_s, ym_inL, ym_inD]
    have tt := y_t_lt B (y_s B n p)
    rw [if_neg (show ¬ nI (y_t B (y_s B n p)) = (-1 : Int32) by rw [y_m1, y_eqQ (by omega) (by omega)]; omega)]
    by_cases c1 : y_cl B (y_s B n p) = 1
    · obtain ⟨τ3, b1, b2, b3⟩ := ym_w83 (n - y_s B n p) (y_s B n p) j_F τ2 (by omega) (y_F (by omega)) t2 h28
      rw [if_pos c1, if_pos (show ¬ nI 1 = (0 : Int32) from by decide), b1]
      refine ⟨_, rfl, ⟨?_, ?_, ?_, fun z => absurd z (by omega)⟩, (f2.trans (b3.wide (by omega) (by omega) (by omega) (by omega))).so (by omega) (by omega)⟩
      · rw [j_r_nj (by omega), b3.1 9 (by omega), h29]
      · rw [j_r_nj (by omega), b2, if_pos c1]
      · rw [j_r_eq, c1]; rfl
    · rw [if_neg c1, if_neg (show ¬ ¬ nI 0 = (0 : Int32) from fun z => z rfl)]
      by_cases c2 : y_cl B (y_s B n p) = 2
      · have fr : y_fm 8 11 1 0 τ (j_si τ2 75 11 (0 : Int32)) := f2.so (by omega) (by omega)
        obtain ⟨τ3, b1, b2, b2', b3, b4⟩ := ym_w144 (n - y_s B n p) (y_s B n p) 0 j_F (j_si τ2 75 11 (0 : Int32)) (by omega) (y_F (by omega)) (by omega) (ht.fr fr) (by rw [j_r_nj (by omega), h28]) (by rw [j_r_eq]; rfl)
        rw [if_pos c2, if_pos (show ¬ nI 1 = (0 : Int32) from by decide), b1]
        refine ⟨_, rfl, ⟨?_, ?_, ?_, fun _ => ?_⟩, (fr.trans b3).so (by omega) (by omega)⟩
        · rw [j_r_nj (by omega), b4, j_r_nj (by omega), h29]
        · rw [j_r_nj (by omega), b2, if_neg c1, if_pos c2]
        · rw [j_r_eq, c2]; rfl
        · rw [j_r_nj (by omega), b2', if_pos c2]
      · rw [if_neg c2, if_neg (show ¬ ¬ nI 0 = (0 : Int32) from fun z => z rfl)]
        have c4 := y_cl_c B (y_s B n p)
        have c0 := y_s_ne (B := B) hp (by omega)
        have c59 := y_clS (B := B) (i := y_s B n p)
        refine ⟨_, rfl, ⟨?_, ?_, ?_, fun z => absurd z c2⟩, (f2.so (by omega) (by omega)).so (by omega) (by omega)⟩
        · rw [j_r_nj (by omega), j_r_nj (by omega), h29]
        · rw [j_r_eq, j_r_nj (by omega), h28, if_neg c1, if_neg c2]; exact nI_1 _
        · rw [j_r_nj (by omega), j_r_eq]
          by_cases c3 : y_cl B (y_s B n p) = 3
          · rw [c59.mpr c3, c3]; rfl
          · have e4 : y_cl B (y_s B n p) = 4 := by omega
            rw [if_neg (show ¬ nI (y_t B (y_s B n p)) = (59 : Int32) by rw [show (59 : Int32) = nI 59 from rfl, y_eq (by omega) (by omega)]; omega), e4]; rfl
end M
/-! ===== the items of a line: some L a word, none a number, some [] a ; . r.1: 0 good, or the fault's kind; r.2: where the next token is sought, or the fault's place ===== -/
noncomputable def y_sp (L : List Int32) (B : Nat → Int32) (n p : Nat) : Bool := decide (y_kd B n p = 1 ∧ y_e B n p = y_s B n p + L.length ∧ ∀ i, i < L.length → nI (y_t B (y_s B n p + i)) = L.getD i 0)
noncomputable def y_stp (B : Nat → Int32) (n : Nat) (J : List Nat → Nat → Nat) (it : Option (List Int32)) (x : (Nat × Nat) × List Nat) : (Nat × Nat) × List Nat :=
  if x.1.1 ≠ 0 then x else
  match it with
  | some [] => if y_kd B n x.1.2 = 3 then ((0, y_e B n x.1.2), x.2) else ((1, y_s B n x.1.2), x.2)
  | some L => if y_sp L B n x.1.2 = true then ((0, y_e B n x.1.2), x.2) else ((1, y_s B n x.1.2), x.2)
  | none => if y_kd B n x.1.2 ≠ 2 then ((1, y_s B n x.1.2), x.2) else if J x.2 (y_val B n x.1.2) ≠ 0 then ((J x.2 (y_val B n x.1.2), y_s B n x.1.2), x.2) else ((0, y_e B n x.1.2), x.2 ++ [y_val B n x.1.2])
noncomputable def y_gq (B : Nat → Int32) (n : Nat) (J : List Nat → Nat → Nat) : List (Option (List Int32)) → (Nat × Nat) × List Nat → (Nat × Nat) × List Nat
  | [], x => x
  | it :: l, x => y_gq B n J l (y_stp B n J it x)
section I
variable {B : Nat → Int32} {n : Nat} {J : List Nat → Nat → Nat}
theorem y_stp_bad {it : Option (List Int32)} {x : (Nat × Nat) × List Nat} (h : x.1.1 ≠ 0) : y_stp B n J it x = x := if_pos h
theorem y_gq_bad : ∀ {l : List (Option (List Int32))} {x : (Nat × Nat) × List Nat}, x.1.1 ≠ 0 → y_gq B n J l x = x
  | [], _, _ => rfl
  | it :: l, x, h => by unfold y_gq; rw [y_stp_bad h]; exact y_gq_bad h
theorem y_gq_good {l : List (Option (List Int32))} {x : (Nat × Nat) × List Nat} (h : (y_gq B n J l x).1.1 = 0) : x.1.1 = 0 := by
  rcases Nat.eq_zero_or_pos x.1.1 with z | z
  · exact z
  · rw [y_gq_bad (by omega)] at h; exact h
theorem y_spP {L : List Int32} {p : Nat} : y_sp L B n p = true ↔ (y_kd B n p = 1 ∧ y_e B n p = y_s B n p + L.length ∧ ∀ i, i < L.length → nI (y_t B (y_s B n p + i)) = L.getD i 0) := by unfold y_sp; exact decide_eq_true_iff
theorem y_stp_w {L : List Int32} {p : Nat} {vs : List Nat} (hL : L ≠ []) : y_stp B n J (some L) ((0, p), vs) = if y_sp L B n p = true then ((0, y_e B n p), vs) else ((1, y_s B n p), vs) := by
  obtain ⟨a, l, rfl⟩ : ∃ a l, L = a :: l := by
    cases L with
    | nil => exact absurd rfl hL
    | cons a l => exact ⟨a, l, rfl⟩
  exact if_neg (fun z => z rfl)
theorem y_stp_n {p : Nat} {vs : List Nat} : y_stp B n J none ((0, p), vs) = if y_kd B n p ≠ 2 then ((1, y_s B n p), vs) else if J vs (y_val B n p) ≠ 0 then ((J vs (y_val B n p), y_s B n p), vs) else ((0, y_e B n p), vs ++ [y_val B n p]) := if_neg (fun z => z rfl)
theorem y_stp_s {p : Nat} {vs : List Nat} : y_stp B n J (some []) ((0, p), vs) = if y_kd B n p = 3 then ((0, y_e B n p), vs) else ((1, y_s B n p), vs) := if_neg (fun z => z rfl)
/-- a range, as a judge -/
noncomputable def y_jr (lo h v : Nat) : Nat := if lo ≤ v ∧ v < h then 0 else 2
theorem y_jr_le {lo h v : Nat} : y_jr lo h v ≤ 3 := by unfold y_jr; split <;> omega
/-- the reference's state of reading -/
def y_mw (τ : j_G) (B : Nat → Int32) (n : Nat) (r : Nat × Nat) : Prop := y_mt τ B n ∧ r.1 ≤ 3 ∧ r.2 ≤ n ∧ (r.1 = 0 → τ.1 75 12 = nI 0 ∧ τ.1 75 13 = nP 0 ∧ y_mq τ B n r.2) ∧ (r.1 ≠ 0 → τ.1 75 12 = nI r.1 ∧ τ.1 75 13 = nI r.2)
theorem y_mw.fr {τ τ' : j_G} {r : Nat × Nat} (h : y_mw τ B n r) (e : τ'.1 75 = τ.1 75) (e' : τ'.1 79 = τ.1 79) : y_mw τ' B n r := by
  unfold y_mw y_mt y_mq at *; rw [e, e']; exact h
theorem ym_good {τ : j_G} {r : Nat × Nat} (h : y_mw τ B n r) : f_X12_good τ = if r.1 = 0 then nI 1 else nI 0 := by
  have h3 := h.2.1
  unfold f_X12_good
  by_cases c : r.1 = 0
  · rw [if_pos c, (h.2.2.2.1 c).1]; rfl
  · rw [if_neg c, (h.2.2.2.2 c).1, if_neg (show ¬ nI r.1 = (0 : Int32) by rw [show (0 : Int32) = nI 0 from rfl, y_eq (by omega) (by omega)]; exact c)]; rfl
theorem y_raw {x : Int32} {c : Nat} (h1 : -128 ≤ x.toInt) (h2 : x.toInt ≤ 127) (hc : c < 128) : x = nI c ↔ nI (x.toBitVec.toNat % 256) = nI c := by
  rw [y_eq (by have := Nat.mod_lt x.toBitVec.toNat (show 0 < 256 by omega); omega) (by omega), j_eqI, nI_toInt (by omega)]
  have e : x.toInt = x.toBitVec.toInt := rfl
  rw [BitVec.toInt_eq_toNat_cond] at e
  have := x.toBitVec.isLt
  split at e <;> omega
def y_str (q : Nat) (L : List Int32) : Prop := x_str ≤ q ∧ x_sbyt[q - x_str]? = some L ∧ L.length < 100 ∧ ∀ i, i < L.length → ∃ c, c < 128 ∧ L.getD i 0 = nI c
theorem y_str.len {q : Nat} {L : List Int32} (h : y_str q L) : j_len q = some (nI L.length) := by
  unfold j_len; rw [if_pos h.1, h.2.1]; rfl
theorem y_str.chr {q : Nat} {L : List Int32} (h : y_str q L) {i : Nat} (hi : i < L.length) : j_chr q (nI i) = some (L.getD i 0) := by
  have hl := h.2.2.1
  unfold j_chr; rw [if_pos h.1, h.2.1]
  show (if nI i < 0 ∨ L.length ≤ (nI i).toNatClampNeg then none else some (L.getD (nI i).toNatClampNeg 0)) = _
  rw [nI_clamp (by omega), if_neg]
  rw [show (0 : Int32) = nI 0 from rfl, y_lt (by omega) (by omega)]; omega
theorem ym_is39 {τ : j_G} {q : Nat} {L : List Int32} (hL : y_str q L) (ht : y_mt τ B n) {p : Nat} (h9 : τ.1 75 9 = nI (y_s B n p)) (he : y_s B n p + L.length ≤ n) : ∀ m i f, i + m = L.length → m < f → (∀ j, j < i → nI (y_t B (y_s B n p + j)) = L.getD j 0) → p_X12_is_39 q τ f (nI 1) (nI i) = some (if ∀ j, j < L.length → nI (y_t B (y_s B n p + j)) = L.getD j 0 then nI 1 else nI 0) := by
  have hn := ht.1
  have hl := hL.2.2.1
  intro m
  induction m with
  | zero =>
    intro i f h hf hj
    obtain ⟨f, rfl⟩ := y_pos hf
    unfold p_X12_is_39
    rw [hL.len, j_b1_s, if_neg (show ¬ (nI i < nI L.length ∧ ¬ nI 1 = (0 : Int32)) by rw [y_lt (by omega) (by omega)]; omega), if_pos (fun j hj' => hj j (by omega))]
  | succ m ih =>
    intro i f h hf hj
    obtain ⟨f, rfl⟩ := y_pos hf
    obtain ⟨c, hc, hLc⟩ := hL.2.2.2 i (by omega)
    obtain ⟨t1, t2, t3⟩ := ht.2.2 (y_s B n p + i) (by omega)
    have ft : ∀ g x, p_X12_is_39 q τ (g + 1) (nI 0) x = some (nI 0) := by
      intro g x
      unfold p_X12_is_39
      rw [hL.len, j_b1_s, if_neg (fun z => z.2 rfl)]
    unfold p_X12_is_39
    rw [hL.len, j_b1_s, if_pos (show (nI i < nI L.length ∧ ¬ nI 1 = (0 : Int32)) from ⟨by rw [y_lt (by omega) (by omega)]; omega, by decide⟩), h9, nI_add, y_ix (by omega) (by omega), hL.chr (by omega), j_b1_s, nI_clamp (by omega), t1, hLc]
    simp only [j_lt]
    obtain ⟨f, rfl⟩ := y_pos (show 0 < f by omega)
    have e : nI i + 1 = nI (i + 1) := by simp (disch := omega) only [y_lit, nI_add]
    have rw' := y_raw t2 t3 hc
    rw [e]
    by_cases k : B (y_s B n p + i) = nI c
    · rw [if_pos k]
      refine ih (i + 1) (f + 1) (by omega) (by omega) (fun j hj' => ?_)
      by_cases e : j = i
      · subst e; rw [hLc]; exact rw'.mp k
      · exact hj j (by omega)
    · rw [if_neg k, if_neg (fun z => k (rw'.mpr (by rw [← hLc]; exact z i (by omega))))]
      exact ft _ _
theorem ym_is {τ : j_G} {q : Nat} {L : List Int32} {r : Nat × Nat} (hL : y_str q L) (h : y_mw τ B n r) : f_X12_is q τ = some (if r.1 = 0 ∧ y_sp L B n r.2 = true then nI 1 else nI 0) := by
  have hl := hL.2.2.1
  have hn := h.1.1
  have eb := y_e_bd (B := B) h.2.2.1
  have ft : p_X12_is_39 q τ j_F (nI 0) (nI 0) = some (nI 0) := by
    obtain ⟨f, hf⟩ : ∃ f, j_F = f + 1 := ⟨_, rfl⟩
    rw [hf]
    unfold p_X12_is_39
    rw [hL.len, j_b1_s, if_neg (fun z => z.2 rfl)]
  have bo0 : ∀ o : Option Int32, j_bo (nI 0) o = o := fun o => y_bo0
  unfold f_X12_is
  rw [ym_good h]
  by_cases c : r.1 = 0
  · obtain ⟨g1, g2, g3⟩ := h.2.2.2.1 c
    obtain ⟨q9, q8, q10, q11⟩ := g3
    have kc : y_kd B n r.2 ≤ 4 := by
      unfold y_kd; split
      · omega
      · exact y_cl_c B _
    by_cases k : y_kd B n r.2 = 1
    · rw [if_pos (show ¬ (if r.1 = 0 then nI 1 else nI 0) = (0 : Int32) ∧ τ.1 75 10 = (1 : Int32) from ⟨by rw [if_pos c]; decide, by rw [q10, k]; rfl⟩), hL.len, j_b1_s, q8, q9, pk_sub eb.1]
      by_cases e : y_e B n r.2 = y_s B n r.2 + L.length
      · rw [if_pos (show nI (y_e B n r.2 - y_s B n r.2) = nI L.length by rw [e]; congr 1; omega), j_b1_s]
        rw [show ((1 : Int32)) = nI 1 from rfl, show ((0 : Int32)) = nI 0 from rfl, ym_is39 hL h.1 q9 (by omega) L.length 0 j_F (by omega) (y_F (by omega)) (fun j hj => absurd hj (by omega)), j_b1_s]
        rw [y_bo]
        by_cases w : ∀ j, j < L.length → nI (y_t B (y_s B n r.2 + j)) = L.getD j 0
        · rw [if_pos w, if_pos ⟨c, y_spP.mpr ⟨k, e, w⟩⟩]
        · rw [if_neg w, if_neg (fun z => w (y_spP.mp z.2).2.2)]
      · rw [if_neg (show ¬ nI (y_e B n r.2 - y_s B n r.2) = nI L.length by rw [y_eq (by omega) (by omega)]; omega), j_b1_s]
        rw [show ((0 : Int32)) = nI 0 from rfl, ft, j_b1_s, bo0, if_neg (fun z => e (y_spP.mp z.2).2.1)]
    · rw [if_neg (show ¬ (¬ (if r.1 = 0 then nI 1 else nI 0) = (0 : Int32) ∧ τ.1 75 10 = (1 : Int32)) from fun z => k (by have := z.2; rw [q10, show (1 : Int32) = nI 1 from rfl, y_eq (by omega) (by omega)] at this; exact this)), j_b1_s]
      rw [show ((0 : Int32)) = nI 0 from rfl, ft, j_b1_s, bo0, if_neg (fun z => k (y_spP.mp z.2).1)]
  · rw [if_neg (show ¬ (¬ (if r.1 = 0 then nI 1 else nI 0) = (0 : Int32) ∧ τ.1 75 10 = (1 : Int32)) from fun z => z.1 (by rw [if_neg c]; rfl)), j_b1_s]
    rw [show ((0 : Int32)) = nI 0 from rfl, ft, j_b1_s, bo0, if_neg (fun z => c z.1)]
/-- on, past a good token -/
theorem ym_advR {τ : j_G} {p : Nat} (h : y_mw τ B n (0, p)) : ∃ τ', f_X12_advance τ = some τ' ∧ y_mw τ' B n (0, y_e B n p) ∧ y_fm 8 11 1 0 τ τ' := by
  obtain ⟨g1, g2, g3⟩ := h.2.2.2.1 rfl
  have eb := y_e_bd (B := B) h.2.2.1
  obtain ⟨τ', e1, e2, e3⟩ := ym_adv h.1 (p := y_e B n p) eb.2.1 g3.2.1
  refine ⟨τ', e1, ⟨h.1.fr e3, by simp, eb.2.1, fun _ => ⟨?_, ?_, e2⟩, fun z => absurd rfl z⟩, e3⟩
  · rw [e3.1 12 (by omega)]; exact g1
  · rw [e3.1 13 (by omega)]; exact g2
theorem ym_errs {τ : j_G} {k : Nat} {r : Nat × Nat} (hk : 0 < k) (hk3 : k ≤ 3) (h : y_mw τ B n r) : ∃ τ', f_X12_errs (nI k) τ = some τ' ∧ y_mw τ' B n (if r.1 = 0 then (k, y_s B n r.2) else r) ∧ y_fm 12 13 1 0 τ τ' := by
  unfold f_X12_errs
  rw [ym_good h]
  by_cases c : r.1 = 0
  · obtain ⟨g1, g2, g3⟩ := h.2.2.2.1 c
    have sb := y_s_bd (B := B) h.2.2.1
    rw [if_pos c, if_pos c, if_neg (show ¬ nI 1 = (0 : Int32) by decide)]
    have fr : y_fm 12 13 1 0 τ (j_si (j_si τ 75 12 (nI k)) 75 13 (τ.1 75 9)) := (y_fm.refl.so (by omega) (by omega)).so (by omega) (by omega)
    simp only [j_lt]
    rw [j_r_nj (show 9 ≠ 12 by omega)]
    refine ⟨_, rfl, ⟨h.1.fr (fr.wide (by omega) (Nat.le_refl _) (by omega) (by omega)), hk3, sb.2, fun z => ?_, fun _ => ⟨?_, ?_⟩⟩, fr⟩
    · have : k = 0 := z
      omega
    · rw [j_r_nj (by omega), j_r_eq]
    · rw [j_r_eq, g3.1]
  · rw [if_neg c, if_neg c, if_pos (show nI 0 = (0 : Int32) from rfl)]
    exact ⟨τ, rfl, h, y_fm.refl⟩
end I
/-! ===== the reference's steps of reading ===== -/
section O
variable {B : Nat → Int32} {n : Nat} {J : List Nat → Nat → Nat}
theorem ym_takes {τ : j_G} {q : Nat} {L : List Int32} {r : Nat × Nat} (hL : y_str q L) (hne : L ≠ []) (h : y_mw τ B n r) (vs : List Nat) :
    (r.1 = 0 ∧ y_sp L B n r.2 = true ∧ ∃ τ', f_X12_takes q τ = some (nI 1, τ') ∧ y_mw τ' B n (0, y_e B n r.2) ∧ y_fm 8 13 1 0 τ τ') ∨ (¬ (r.1 = 0 ∧ y_sp L B n r.2 = true) ∧ f_X12_takes q τ = some (nI 0, τ)) := by
  unfold f_X12_takes
  rw [ym_is hL h, j_b1_s]
  by_cases c : r.1 = 0 ∧ y_sp L B n r.2 = true
  · left
    obtain ⟨r1, r2⟩ := r
    obtain ⟨c1, c2⟩ := c
    simp only at c1 c2
    subst c1
    obtain ⟨τ', e1, e2, e3⟩ := ym_advR h
    refine ⟨rfl, c2, τ', ?_, e2, e3.wide (by omega) (by omega) (by omega) (by omega)⟩
    rw [if_pos (⟨rfl, c2⟩ : (0, r2).1 = 0 ∧ y_sp L B n (0, r2).2 = true), if_pos (show ¬ nI 1 = (0 : Int32) by decide), e1, j_b1_s, y_bo1]
  · right
    refine ⟨c, ?_⟩
    rw [if_neg c, if_neg (show ¬ ¬ nI 0 = (0 : Int32) from fun z => z rfl), y_bo0]
theorem ym_needs {τ : j_G} {q : Nat} {L : List Int32} {x : (Nat × Nat) × List Nat} (hL : y_str q L) (hne : L ≠ []) (h : y_mw τ B n x.1) :
    ∃ τ', f_X12_needs q τ = some τ' ∧ y_mw τ' B n (y_stp B n J (some L) x).1 ∧ y_fm 8 13 1 0 τ τ' := by
  obtain ⟨⟨r1, r2⟩, vs⟩ := x
  unfold f_X12_needs
  rcases ym_takes hL hne h vs with ⟨c1, c2, τ', e1, e2, e3⟩ | ⟨c, e⟩
  · simp only at c1 c2
    subst c1
    rw [e1, j_b2_s, if_neg (show ¬ nI 1 = (0 : Int32) by decide), y_stp_w hne, if_pos c2]
    exact ⟨τ', rfl, e2, e3⟩
  · obtain ⟨τ', e1, e2, e3⟩ := ym_errs (k := 1) (by omega) (by omega) h
    rw [e, j_b2_s, if_pos (show nI 0 = (0 : Int32) from rfl), show (1 : Int32) = nI 1 from rfl, e1]
    refine ⟨τ', rfl, ?_, e3.wide (by omega) (by omega) (by omega) (by omega)⟩
    by_cases c1 : r1 = 0
    · subst c1
      rw [y_stp_w hne, if_neg (fun z => c ⟨rfl, z⟩)]
      exact e2
    · rw [y_stp_bad (show ((r1, r2), vs).1.1 ≠ 0 from c1)]
      simp only [if_neg c1] at e2
      exact e2
/-- the end of a line -/
theorem ym_semi {τ : j_G} {x : (Nat × Nat) × List Nat} (h : y_mw τ B n x.1) :
    ∃ τ1 τ2, (j_b1 (if (¬ (f_X12_good τ) = 0) ∧ (¬ (τ.1 75 10) = (3 : Int32)) then (j_b1 (f_X12_errs (1 : Int32) τ) fun σ5 => some σ5) else (some τ)) fun σ4 => some σ4) = some τ1 ∧
      (j_b1 (if ¬ (f_X12_good τ1) = 0 then (j_b1 (f_X12_advance τ1) fun σ7 => some σ7) else (some τ1)) fun σ6 => some σ6) = some τ2 ∧ y_mw τ2 B n (y_stp B n J (some []) x).1 ∧ y_fm 8 13 1 0 τ τ2 := by
  obtain ⟨⟨r1, r2⟩, vs⟩ := x
  rw [ym_good h]
  by_cases c : r1 = 0
  · subst c
    obtain ⟨g1, g2, q9, q8, q10, q11⟩ := h.2.2.2.1 rfl
    have kc : y_kd B n r2 ≤ 4 := by
      unfold y_kd; split
      · omega
      · exact y_cl_c B _
    by_cases k : y_kd B n r2 = 3
    · rw [if_neg (show ¬ (¬ (if ((0, r2), vs).1.1 = 0 then nI 1 else nI 0) = (0 : Int32) ∧ ¬ τ.1 75 10 = (3 : Int32)) from fun z => z.2 (by rw [q10]; show nI (y_kd B n r2) = _; rw [k]; rfl))]
      obtain ⟨τ', e1, e2, e3⟩ := ym_advR h
      refine ⟨τ, τ', rfl, ?_, ?_, e3.wide (by omega) (by omega) (by omega) (by omega)⟩
      · rw [ym_good h, if_pos (show ((0, r2), vs).1.1 = 0 from rfl), if_pos (show ¬ nI 1 = (0 : Int32) by decide), e1]; rfl
      · rw [y_stp_s, if_pos k]; exact e2
    · rw [if_pos (show (¬ (if ((0, r2), vs).1.1 = 0 then nI 1 else nI 0) = (0 : Int32) ∧ ¬ τ.1 75 10 = (3 : Int32)) from ⟨by rw [if_pos rfl]; decide, by rw [q10, show (3 : Int32) = nI 3 from rfl, y_eq (by show y_kd B n r2 < _; omega) (by omega)]; exact k⟩)]
      obtain ⟨τ', e1, e2, e3⟩ := ym_errs (k := 1) (by omega) (by omega) h
      refine ⟨τ', τ', ?_, ?_, ?_, e3.wide (by omega) (by omega) (by omega) (by omega)⟩
      · rw [show (1 : Int32) = nI 1 from rfl, e1]; rfl
      · rw [ym_good e2, if_neg (show ¬ (if ((0, r2), vs).1.1 = 0 then (1, y_s B n ((0, r2), vs).1.2) else ((0, r2), vs).1).1 = 0 from fun z => by simp at z), if_neg (show ¬ ¬ nI 0 = (0 : Int32) from fun z => z rfl)]; rfl
      · rw [y_stp_s, if_neg k]; exact e2
  · rw [if_neg (show ¬ (¬ (if ((r1, r2), vs).1.1 = 0 then nI 1 else nI 0) = (0 : Int32) ∧ ¬ τ.1 75 10 = (3 : Int32)) from fun z => z.1 (by rw [if_neg (show ¬ ((r1, r2), vs).1.1 = 0 from c)]; rfl))]
    refine ⟨τ, τ, rfl, ?_, ?_, y_fm.refl⟩
    · rw [ym_good h, if_neg (show ¬ ((r1, r2), vs).1.1 = 0 from c), if_neg (show ¬ ¬ nI 0 = (0 : Int32) from fun z => z rfl)]; rfl
    · rw [y_stp_bad (show ((r1, r2), vs).1.1 ≠ 0 from c)]; exact h
/-- a number lo .. h - 1 -/
theorem ym_numR {τ : j_G} {x : (Nat × Nat) × List Nat} {lo hi : Nat} (hh : hi ≤ 99999) (hlo : lo ≤ 99999) (hJ : x.1.1 = 0 → ∀ v, J x.2 v = y_jr lo hi v) (h : y_mw τ B n x.1) :
    ∃ v τ', f_X12_number (nI lo) (nP hi) τ = some (v, τ') ∧ y_mw τ' B n (y_stp B n J none x).1 ∧ y_fm 8 13 1 0 τ τ' ∧ ((y_stp B n J none x).1.1 = 0 → v = nI (y_val B n x.1.2) ∧ (y_stp B n J none x).2 = x.2 ++ [y_val B n x.1.2] ∧ lo ≤ y_val B n x.1.2 ∧ y_val B n x.1.2 < hi) := by
  obtain ⟨⟨r1, r2⟩, vs⟩ := x
  have i0 : ¬ ¬ nI 0 = (0 : Int32) := fun z => z rfl
  have i1 : ¬ nI 1 = (0 : Int32) := by decide
  have vl := y_val_le B n r2
  have badN : ∀ (τ : j_G) (r : Nat × Nat), r.1 ≠ 0 → y_mw τ B n r → (j_b1 (if (¬ (f_X12_good τ) = 0) ∧ ((f_X12_in ((τ.1 75 11)).toInt64 (nI lo).toInt64 (nP hi).toInt64) = 0) then (j_b1 (f_X12_errs (2 : Int32) τ) fun σ4 => some σ4) else (some τ)) fun σ3 =>
      if (f_X12_good σ3) = 0 then (some ((0 : Int32), σ3)) else (j_lt (σ3.1 75 11) fun v5 => j_b1 (f_X12_advance σ3) fun σ6 => some (v5, σ6))) = some (0, τ) := by
    intro τ r hr hm
    have g := ym_good hm
    rw [if_neg hr] at g
    rw [if_neg (fun z => z.1 (by rw [g]; rfl)), j_b1_s, if_pos (by rw [g]; rfl)]
  unfold f_X12_number
  by_cases c : r1 = 0
  · subst c
    obtain ⟨g1, g2, q9, q8, q10, q11⟩ := h.2.2.2.1 rfl
    have kc : y_kd B n r2 ≤ 4 := by
      unfold y_kd; split
      · omega
      · exact y_cl_c B _
    have g := ym_good h
    rw [if_pos rfl] at g
    rw [y_stp_n]
    by_cases k : y_kd B n r2 = 2
    · rw [if_neg (show ¬ y_kd B n r2 ≠ 2 from fun z => z k)]
      rw [if_neg (show ¬ (¬ f_X12_good τ = (0 : Int32) ∧ ¬ τ.1 75 10 = (2 : Int32)) from fun z => z.2 (by rw [q10]; show nI (y_kd B n r2) = _; rw [k]; rfl)), j_b1_s]
      have e11 : τ.1 75 11 = nI (min 99999 (y_val B n r2)) := q11 k
      rw [e11, y_in, hJ rfl]
      by_cases w : lo ≤ y_val B n r2 ∧ y_val B n r2 < hi
      · have em : min 99999 (y_val B n r2) = y_val B n r2 := by omega
        rw [em, if_pos (show ¬ nI (y_val B n r2) < nI lo ∧ ¬ nP hi < nI (y_val B n r2) by rw [y_lt (by omega) (by omega), y_ltP (by omega) (by omega)]; omega), if_neg (fun z => i1 z.2), j_b1_s, if_neg (by rw [g]; exact i1)]
        obtain ⟨τ', e1, e2, e3⟩ := ym_advR h
        simp only [j_lt]
        rw [e11, em, e1, j_b1_s]
        have j0 : y_jr lo hi (y_val B n r2) = 0 := if_pos w
        rw [j0, if_neg (fun z => z rfl)]
        exact ⟨_, τ', rfl, e2, e3.wide (by omega) (by omega) (by omega) (by omega), fun _ => ⟨rfl, rfl, w.1, w.2⟩⟩
      · have j2 : y_jr lo hi (y_val B n r2) = 2 := if_neg w
        rw [if_neg (show ¬ (¬ nI (min 99999 (y_val B n r2)) < nI lo ∧ ¬ nP hi < nI (min 99999 (y_val B n r2))) by rw [y_lt (by omega) (by omega), y_ltP (by omega) (by omega)]; omega), if_pos ⟨by rw [g]; exact i1, rfl⟩]
        obtain ⟨τ', e1, e2, e3⟩ := ym_errs (k := 2) (by omega) (by omega) h
        rw [show (2 : Int32) = nI 2 from rfl, e1, j_b1_s, j_b1_s, j2, if_pos (show (2 : Nat) ≠ 0 by omega)]
        have gg := ym_good e2
        rw [if_neg (show ¬ (if ((0, r2), vs).1.1 = 0 then (2, y_s B n ((0, r2), vs).1.2) else ((0, r2), vs).1).1 = 0 from fun z => by simp at z)] at gg
        rw [if_pos (show f_X12_good τ' = (0 : Int32) by rw [gg]; rfl)]
        exact ⟨_, τ', rfl, e2, e3.wide (by omega) (by omega) (by omega) (by omega), fun z => absurd z (by show ¬ (2 : Nat) = 0; omega)⟩
    · rw [if_pos (show y_kd B n r2 ≠ 2 from k)]
      rw [if_pos (show (¬ f_X12_good τ = (0 : Int32) ∧ ¬ τ.1 75 10 = (2 : Int32)) from ⟨by rw [g]; exact i1, by rw [q10, show (2 : Int32) = nI 2 from rfl, y_eq (by show y_kd B n r2 < _; omega) (by omega)]; exact k⟩)]
      obtain ⟨τ', e1, e2, e3⟩ := ym_errs (k := 1) (by omega) (by omega) h
      rw [show (1 : Int32) = nI 1 from rfl, e1, j_b1_s, j_b1_s, badN τ' _ (by simp) e2]
      exact ⟨_, τ', rfl, e2, e3.wide (by omega) (by omega) (by omega) (by omega), fun z => absurd z (by show ¬ (1 : Nat) = 0; omega)⟩
  · have g := ym_good h
    rw [if_neg (show ¬ ((r1, r2), vs).1.1 = 0 from c)] at g
    rw [if_neg (fun z => z.1 (by rw [g]; rfl)), j_b1_s, badN τ _ c h, y_stp_bad (show ((r1, r2), vs).1.1 ≠ 0 from c)]
    exact ⟨_, τ, rfl, h, y_fm.refl, fun z => absurd z c⟩
theorem y_stp_w2 {L : List Int32} {x : (Nat × Nat) × List Nat} (hne : L ≠ []) : (y_stp B n J (some L) x).2 = x.2 := by
  obtain ⟨⟨r1, r2⟩, vs⟩ := x
  by_cases c : r1 = 0
  · subst c; rw [y_stp_w hne]; split <;> rfl
  · rw [y_stp_bad (show ((r1, r2), vs).1.1 ≠ 0 from c)]
theorem y_stp_J {J' : List Nat → Nat → Nat} {x : (Nat × Nat) × List Nat} (h : x.1.1 = 0 → y_kd B n x.1.2 = 2 → J x.2 (y_val B n x.1.2) = J' x.2 (y_val B n x.1.2)) : y_stp B n J none x = y_stp B n J' none x := by
  obtain ⟨⟨r1, r2⟩, vs⟩ := x
  by_cases c : r1 = 0
  · subst c
    rw [y_stp_n, y_stp_n]
    by_cases k : y_kd B n r2 = 2
    · have e : J vs (y_val B n r2) = J' vs (y_val B n r2) := h rfl k
      rw [e]
    · rw [if_pos (show y_kd B n r2 ≠ 2 from k), if_pos (show y_kd B n r2 ≠ 2 from k)]
  · rw [y_stp_bad (show ((r1, r2), vs).1.1 ≠ 0 from c), y_stp_bad (show ((r1, r2), vs).1.1 ≠ 0 from c)]
theorem y_stp_good {it : Option (List Int32)} {x : (Nat × Nat) × List Nat} (h : (y_stp B n J it x).1.1 = 0) : x.1.1 = 0 := y_gq_good (l := [it]) h
/-- told: a word, and a number behind it -/
theorem ym_toldR {τ : j_G} {q : Nat} {L : List Int32} {x : (Nat × Nat) × List Nat} {lo hi : Nat} (hL : y_str q L) (hne : L ≠ []) (hh : hi ≤ 99999) (hlo : lo ≤ 99999) (hJ : x.1.1 = 0 → ∀ v, J x.2 v = y_jr lo hi v) (h : y_mw τ B n x.1) :
    ∃ v τ', f_X12_told q (nI lo) (nP hi) τ = some (v, τ') ∧ y_mw τ' B n (y_gq B n J [some L, none] x).1 ∧ y_fm 8 13 1 0 τ τ' ∧ ((y_gq B n J [some L, none] x).1.1 = 0 → ∃ w, v = nI w ∧ (y_gq B n J [some L, none] x).2 = x.2 ++ [w] ∧ lo ≤ w ∧ w < hi) := by
  have e2 := y_stp_w2 (B := B) (n := n) (J := J) (x := x) hne
  obtain ⟨τ1, a1, a2, a3⟩ := ym_needs (J := J) hL hne h
  obtain ⟨v, τ2, b1, b2, b3, b4⟩ := ym_numR (J := J) (x := y_stp B n J (some L) x) hh hlo (fun z => by rw [e2]; exact hJ (y_stp_good z)) a2
  unfold f_X12_told
  rw [a1, j_b1_s, b1, j_b2_s]
  refine ⟨v, τ2, rfl, b2, a3.trans b3, fun z => ?_⟩
  obtain ⟨c1, c2, c3, c4⟩ := b4 z
  rw [e2] at c2
  exact ⟨_, c1, c2, c3, c4⟩
end O
/-! ===== the class's line ===== -/
noncomputable def y_fit (S : List Int32) : Nat → Nat → List (Option (List Int32)) → Bool
  | i, _, [] => decide (S.length ≤ i ∧ i ≤ 200)
  | i, k, none :: l => decide (i < S.length) && decide (S.getD i 0 = 35) && decide (i + 1 < S.length → S.getD (i + 1) 0 = 32) && decide (k < 5) && y_fit S (i + 2) (k + 1) l
  | i, k, some [] :: l => decide (i < S.length) && decide (S.getD i 0 = 59) && decide (i + 1 < S.length → S.getD (i + 1) 0 = 32) && y_fit S (i + 2) k l
  | i, k, some (a :: L) :: l => decide (i + (a :: L).length < S.length) && decide (S.getD (i + (a :: L).length) 0 = 32) && decide (∀ j, j < (a :: L).length → S.getD (i + j) 0 = (a :: L).getD j 0 ∧ S.getD (i + j) 0 ≠ 32) && decide (S.getD i 0 ≠ 35 ∧ S.getD i 0 ≠ 59) && y_fit S (i + (a :: L).length + 1) k l
def y_cw (σ : j_G) (B : Nat → Int32) (n : Nat) (r : Nat × Nat) : Prop := y_ct σ B n ∧ r.1 ≤ 3 ∧ r.2 ≤ n ∧ (r.1 = 0 → σ.1 10 1 = nI 0 ∧ σ.1 10 2 = nP 0 ∧ σ.1 10 7 = nI r.2) ∧ (r.1 ≠ 0 → σ.1 10 1 = nI r.1 ∧ σ.1 10 2 = nI r.2)
def y_fc (σ σ' : j_G) : Prop := (∀ c, c ≠ 10 → c ≠ 21 → σ'.1 c = σ.1 c) ∧ σ'.2 = σ.2
theorem y_fc.refl {σ : j_G} : y_fc σ σ := ⟨fun _ _ _ => rfl, rfl⟩
theorem y_fc.trans {σ σ' σ'' : j_G} (h : y_fc σ σ') (h' : y_fc σ' σ'') : y_fc σ σ'' := ⟨fun c a b => (h'.1 c a b).trans (h.1 c a b), h'.2.trans h.2⟩
theorem y_fc.si {σ σ' : j_G} {c j : Nat} {v : Int32} (h : y_fc σ σ') (hc : c = 10 ∨ c = 21) : y_fc σ (j_si σ' c j v) := ⟨fun c' a b => (funext fun j' => j_r_ne (by omega)).trans (h.1 c' a b), h.2⟩
theorem y_cf10.fc {σ σ' : j_G} (h : y_cf10 σ σ') : y_fc σ σ' := ⟨fun c a _ => h.1 c a, h.2.1⟩
section L
variable {B : Nat → Int32} {n : Nat} {J : List Nat → Nat → Nat}
theorem y_ct.fc {σ σ' : j_G} (h : y_ct σ B n) (hf : y_fc σ σ') : y_ct σ' B n := by
  unfold y_ct at *; rw [hf.1 19 (by omega) (by omega), hf.1 20 (by omega) (by omega)]; exact h
theorem y_kd_le {p : Nat} : y_kd B n p ≤ 4 := by
  unfold y_kd; split
  · omega
  · exact y_cl_c B _
theorem y_srt_eq {k j : Nat} (hk : k ≤ 4) (hj : 1 ≤ j) (hj4 : j ≤ 4) : nI (y_srt k) = nI j ↔ k + 1 = j := by
  have : y_srt k ≤ 4 := by unfold y_srt; split <;> omega
  rw [y_eq (by omega) (by omega)]
  unfold y_srt
  split <;> omega
/-- a word's letters -/
theorem y_e_in {p : Nat} (h : p ≤ n) (hk : y_kd B n p = 1) {j : Nat} (h1 : y_s B n p ≤ j) (h2 : j < y_e B n p) : y_cl B j = 1 := by
  unfold y_kd at hk
  unfold y_e at h2
  split at hk
  · omega
  · next c =>
    rw [if_neg c, if_pos hk] at h2
    exact y_wl_in _ _ _ h1 h2
theorem yc_sp37 {σ : j_G} {q : Nat} {S : List Int32} (hS : y_str q S) (ht : y_ct σ B n) {i s v : Nat} (h6 : σ.1 10 6 = nI s) (hi : i + v ≤ S.length) (hs : s + v ≤ n) : ∀ m j f, j + m = v → m < f → (∀ t, t < j → S.getD (i + t) 0 = nI (y_t B (s + t))) → p_X7_isSpelled_37 q (nI i) (nI v) σ f (nI j) = some (if ∀ t, t < v → S.getD (i + t) 0 = nI (y_t B (s + t)) then nI 1 else nI 0) := by
  have hn := ht.1
  have hl := hS.2.2.1
  intro m
  induction m with
  | zero =>
    intro j f h hf hj
    obtain ⟨f, rfl⟩ := y_pos hf
    unfold p_X7_isSpelled_37
    rw [if_neg (show ¬ nI j < nI v by rw [y_lt (by omega) (by omega)]; omega), if_pos (fun t z => hj t (by omega))]; rfl
  | succ m ih =>
    intro j f h hf hj
    obtain ⟨f, rfl⟩ := y_pos hf
    unfold p_X7_isSpelled_37
    rw [if_pos (show nI j < nI v by rw [y_lt (by omega) (by omega)]; omega), nI_add, hS.chr (by omega), j_b1_s, h6, nI_add, yc_at ht (by omega), j_b1_s]
    have e : nI j + 1 = nI (j + 1) := by simp (disch := omega) only [y_lit, nI_add]
    by_cases k : S.getD (i + j) 0 = nI (y_t B (s + j))
    · rw [if_neg (fun z => z k), e]
      refine ih (j + 1) f (by omega) (by omega) (fun t z => ?_)
      by_cases w : t = j
      · subst w; exact k
      · exact hj t (by omega)
    · rw [if_pos k, if_neg (fun z => k (z j (by omega)))]; rfl
theorem yc_spelled {σ : j_G} {q : Nat} {S L : List Int32} (hS : y_str q S) (ht : y_ct σ B n) {p i : Nat} (hp : p ≤ n) (hc : y_ck σ B n p) (hk : y_kd B n p = 1) (h1 : i + L.length < S.length) (h2 : S.getD (i + L.length) 0 = 32) (h3 : ∀ j, j < L.length → S.getD (i + j) 0 = L.getD j 0 ∧ S.getD (i + j) 0 ≠ 32) : f_X7_isSpelled q (nI i) σ = some (if y_sp L B n p = true then nI 1 else nI 0) := by
  have hn := ht.1
  have hl := hS.2.2.1
  obtain ⟨c5, c6, c7, c8⟩ := hc
  have eb := y_e_bd (B := B) hp
  unfold f_X7_isSpelled
  simp only [j_lt]
  rw [c6, c7, pk_sub eb.1, hS.len, j_b1_s, nI_add]
  have F0 : (0 : Int32) = nI 0 := rfl
  by_cases a : i + (y_e B n p - y_s B n p) < S.length
  · rw [if_pos (show nI (i + (y_e B n p - y_s B n p)) < nI S.length by rw [y_lt (by omega) (by omega)]; exact a), hS.chr a, j_b1_s]
    by_cases b : S.getD (i + (y_e B n p - y_s B n p)) 0 = 32
    · rw [if_neg (fun z => z b), F0, yc_sp37 hS ht c6 (by omega) (by omega) (y_e B n p - y_s B n p) 0 j_F (by omega) (y_F (by omega)) (fun t z => absurd z (by omega))]
      congr 1
      by_cases g : y_sp L B n p = true
      · rw [if_pos g, if_pos]
        obtain ⟨g1, g2, g3⟩ := y_spP.mp g
        intro t z
        rw [(h3 t (by omega)).1]; exact (g3 t (by omega)).symm
      · rw [if_neg g, if_neg]
        intro z
        apply g
        have ge : L.length ≤ y_e B n p - y_s B n p := by
          rcases Nat.lt_or_ge (y_e B n p - y_s B n p) L.length with w | w
          · exact absurd b (h3 _ w).2
          · exact w
        have le : y_e B n p - y_s B n p ≤ L.length := by
          rcases Nat.lt_or_ge L.length (y_e B n p - y_s B n p) with w | w
          · have q1 := z _ w
            rw [h2] at q1
            have q2 := y_clL.mpr (y_e_in hp hk (show y_s B n p ≤ y_s B n p + L.length by omega) (by omega))
            rw [show (32 : Int32) = nI 32 from rfl, y_eq (by omega) (by omega)] at q1
            omega
          · exact w
        refine y_spP.mpr ⟨hk, by omega, fun t ht' => ?_⟩
        rw [← (h3 t ht').1]; exact (z t (by omega)).symm
    · rw [if_pos b]
      congr 1
      rw [if_neg]; rfl
      intro g
      obtain ⟨g1, g2, g3⟩ := y_spP.mp g
      apply b
      rw [show y_e B n p - y_s B n p = L.length by omega]; exact h2
  · rw [if_neg (show ¬ nI (i + (y_e B n p - y_s B n p)) < nI S.length by rw [y_lt (by omega) (by omega)]; exact a)]
    congr 1
    rw [if_neg]; rfl
    intro g
    obtain ⟨g1, g2, g3⟩ := y_spP.mp g
    omega
/-- a word of the shape -/
theorem yc_stW {σ : j_G} {q : Nat} {S L : List Int32} (hS : y_str q S) (ht : y_ct σ B n) {p i : Nat} (hp : p ≤ n) (hc : y_ck σ B n p) (h1 : i + L.length < S.length) (h2 : S.getD (i + L.length) 0 = 32) (h3 : ∀ j, j < L.length → S.getD (i + j) 0 = L.getD j 0 ∧ S.getD (i + j) 0 ≠ 32) (h4 : S.getD i 0 ≠ 35 ∧ S.getD i 0 ≠ 59) : f_X7_standsAt q (nI i) σ = some (if y_sp L B n p = true then nI 1 else nI 0) := by
  have hl := hS.2.2.1
  have kl := y_kd_le (B := B) (n := n) (p := p)
  unfold f_X7_standsAt
  rw [if_pos (show ¬ nI i < (0 : Int32) by rw [show (0 : Int32) = nI 0 from rfl, y_lt (by omega) (by omega)]; omega), hS.len, j_b1_s, if_neg (show ¬ ¬ nI i < nI S.length by rw [y_lt (by omega) (by omega)]; omega), hS.chr (by omega), j_b1_s]
  rw [if_neg h4.1, if_neg h4.2, hc.1]
  by_cases k : y_kd B n p = 1
  · rw [if_pos (show nI (y_srt (y_kd B n p)) = (2 : Int32) from (y_srt_eq (j := 2) kl (by omega) (by omega)).mpr (by omega)), yc_spelled hS ht hp hc k h1 h2 h3, j_b1_s]
    by_cases g : y_sp L B n p = true
    · rw [if_pos g, if_pos (show ¬ nI 1 = (0 : Int32) by decide)]; rfl
    · rw [if_neg g, if_neg (show ¬ ¬ nI 0 = (0 : Int32) from fun z => z rfl)]; rfl
  · rw [if_neg (show ¬ nI (y_srt (y_kd B n p)) = (2 : Int32) from fun z => k (by have := (y_srt_eq (j := 2) kl (by omega) (by omega)).mp z; omega)), if_neg (fun g => k (y_spP.mp g).1)]; rfl
theorem yc_stN {σ : j_G} {q : Nat} {S : List Int32} (hS : y_str q S) {p i : Nat} (hc : y_ck σ B n p) (h1 : i < S.length) (h2 : S.getD i 0 = 35) : f_X7_standsAt q (nI i) σ = some (if y_kd B n p = 2 then nI 1 else nI 0) := by
  have hl := hS.2.2.1
  have kl := y_kd_le (B := B) (n := n) (p := p)
  unfold f_X7_standsAt
  rw [if_pos (show ¬ nI i < (0 : Int32) by rw [show (0 : Int32) = nI 0 from rfl, y_lt (by omega) (by omega)]; omega), hS.len, j_b1_s, if_neg (show ¬ ¬ nI i < nI S.length by rw [y_lt (by omega) (by omega)]; omega), hS.chr (by omega), j_b1_s, if_pos h2, hc.1]
  by_cases k : y_kd B n p = 2
  · rw [if_pos (show nI (y_srt (y_kd B n p)) = (3 : Int32) from (y_srt_eq (j := 3) kl (by omega) (by omega)).mpr (by omega)), if_pos k]; rfl
  · rw [if_neg (show ¬ nI (y_srt (y_kd B n p)) = (3 : Int32) from fun z => k (by have := (y_srt_eq (j := 3) kl (by omega) (by omega)).mp z; omega)), if_neg k]; rfl
theorem yc_stS {σ : j_G} {q : Nat} {S : List Int32} (hS : y_str q S) {p i : Nat} (hc : y_ck σ B n p) (h1 : i < S.length) (h2 : S.getD i 0 = 59) : f_X7_standsAt q (nI i) σ = some (if y_kd B n p = 3 then nI 1 else nI 0) := by
  have hl := hS.2.2.1
  have kl := y_kd_le (B := B) (n := n) (p := p)
  unfold f_X7_standsAt
  rw [if_pos (show ¬ nI i < (0 : Int32) by rw [show (0 : Int32) = nI 0 from rfl, y_lt (by omega) (by omega)]; omega), hS.len, j_b1_s, if_neg (show ¬ ¬ nI i < nI S.length by rw [y_lt (by omega) (by omega)]; omega), hS.chr (by omega), j_b1_s, if_neg (show ¬ S.getD i 0 = 35 by rw [h2]; decide), if_pos h2, hc.1]
  by_cases k : y_kd B n p = 3
  · rw [if_pos (show nI (y_srt (y_kd B n p)) = (4 : Int32) from (y_srt_eq (j := 4) kl (by omega) (by omega)).mpr (by omega)), if_pos k]; rfl
  · rw [if_neg (show ¬ nI (y_srt (y_kd B n p)) = (4 : Int32) from fun z => k (by have := (y_srt_eq (j := 4) kl (by omega) (by omega)).mp z; omega)), if_neg k]; rfl
theorem yc_bb {q : Nat} {S : List Int32} (hS : y_str q S) {j : Nat} (hj : j ≤ S.length) (hb : j < S.length → S.getD j 0 = 32) : ∀ m i f, i + m = j → m < f → (∀ t, i ≤ t → t < j → S.getD t 0 ≠ 32) → p_X7_behindBlank_2 q f (nI i) = some (nI j) := by
  have hl := hS.2.2.1
  intro m
  induction m with
  | zero =>
    intro i f h hf hh
    obtain ⟨f, rfl⟩ := y_pos hf
    obtain rfl : i = j := by omega
    unfold p_X7_behindBlank_2
    rw [hS.len, j_b1_s]
    by_cases c : i < S.length
    · rw [if_pos (show nI i < nI S.length by rw [y_lt (by omega) (by omega)]; exact c), hS.chr c, j_b1_s, if_neg (fun z => z (hb c))]
    · rw [if_neg (show ¬ nI i < nI S.length by rw [y_lt (by omega) (by omega)]; exact c)]
  | succ m ih =>
    intro i f h hf hh
    obtain ⟨f, rfl⟩ := y_pos hf
    unfold p_X7_behindBlank_2
    have e : nI i + 1 = nI (i + 1) := by simp (disch := omega) only [y_lit, nI_add]
    rw [hS.len, j_b1_s, if_pos (show nI i < nI S.length by rw [y_lt (by omega) (by omega)]; omega), hS.chr (by omega), j_b1_s, if_pos (hh i (by omega) (by omega)), e]
    exact ih (i + 1) f (by omega) (by omega) (fun t a b => hh t (by omega) b)
theorem yc_bbn {q : Nat} {S : List Int32} (hS : y_str q S) {i j : Nat} (hij : i ≤ j) (hj : j ≤ S.length) (hb : j < S.length → S.getD j 0 = 32) (hh : ∀ t, i ≤ t → t < j → S.getD t 0 ≠ 32) : f_X7_behindBlank q (nI i) = some (nI (j + 1)) := by
  have hl := hS.2.2.1
  unfold f_X7_behindBlank
  rw [yc_bb hS hj hb (j - i) i j_F (by omega) (y_F (by omega)) hh, j_b1_s]
  congr 1
  simp (disch := omega) only [y_lit, nI_add]
end L
/-! ===== the class's line: items ===== -/
section L
variable {B : Nat → Int32} {n : Nat} {J : List Nat → Nat → Nat}
theorem yc_blame {σ : j_G} {k p : Nat} (hk : 0 < k) (hk3 : k ≤ 3) (hp : p ≤ n) (ht : y_ct σ B n) (h6 : σ.1 10 6 = nI (y_s B n p)) : ∃ σ', f_X7_blame (nI k) σ = some σ' ∧ y_cw σ' B n (k, y_s B n p) ∧ y_fc σ σ' := by
  have sb := y_s_bd (B := B) hp
  have fr : y_fc σ (j_si (j_si σ 10 1 (nI k)) 10 2 (σ.1 10 6)) := (y_fc.refl.si (by omega)).si (by omega)
  unfold f_X7_blame
  simp only [j_lt]
  rw [j_r_nj (show 6 ≠ 1 by omega)]
  refine ⟨_, rfl, ⟨ht.fc fr, hk3, sb.2, fun z => ?_, fun _ => ⟨?_, ?_⟩⟩, fr⟩
  · have : k = 0 := z
    omega
  · rw [j_r_nj (by omega), j_r_eq]
  · rw [j_r_eq, h6]
/-- the step, in the middle of a line -/
theorem yc_stepW {σ : j_G} {p : Nat} (h : y_cw σ B n (0, p)) : ∃ σ', f_X7_step σ = some σ' ∧ y_ck σ' B n p ∧ y_cf10 σ σ' ∧ y_ct σ' B n ∧ y_cw σ' B n (0, y_e B n p) := by
  obtain ⟨h1, h2, h3, h4, h5⟩ := h
  obtain ⟨g1, g2, g3⟩ := h4 rfl
  obtain ⟨σ', e1, e2, e3⟩ := yc_step h1 h3 g3
  have eb := y_e_bd (B := B) h3
  refine ⟨σ', e1, e2, e3, h1.fr e3, h1.fr e3, by simp, eb.2.1, fun _ => ⟨?_, ?_, e2.2.2.1⟩, fun z => absurd rfl z⟩
  · rw [e3.2.2.1]; exact g1
  · rw [e3.2.2.2]; exact g2
/-- a judge, of what is told -/
def y_jd (J : List Nat → Nat → Nat) (K : Int32) (σ : j_G) : Prop := ∀ (σ' : j_G) (vs : List Nat) (v : Nat), y_fc σ σ' → σ'.1 10 8 = nI v → v ≤ 1000000 → (∀ j, j < vs.length → σ'.1 21 j = nI (vs.getD j 0) ∧ vs.getD j 0 ≤ 1000000) → vs.length < 5 → f_X7_judge K (nI vs.length) σ' = some (nI (J vs v)) ∧ J vs v ≤ 3
theorem y_jd.fc {K : Int32} {σ σ' : j_G} (h : y_jd J K σ) (hf : y_fc σ σ') : y_jd J K σ' := fun σ'' vs v a b c d e => h σ'' vs v (hf.trans a) b c d e
theorem yc_loop {q : Nat} {S : List Int32} (hS : y_str q S) (K : Int32) : ∀ (items : List (Option (List Int32))) (i f c p : Nat) (vs : List Nat) (σ : j_G), y_fit S i vs.length items = true → items.length < f → c + items.length < S.length → y_jd J K σ → y_cw σ B n (0, p) → (∀ j, j < vs.length → σ.1 21 j = nI (vs.getD j 0) ∧ vs.getD j 0 ≤ 1000000) →
    ∃ σ', y_cw σ' B n (y_gq B n J items ((0, p), vs)).1 ∧ y_fc σ σ' ∧ ((y_gq B n J items ((0, p), vs)).1.1 ≠ 0 → p_X7_readLine_47 K q f (nI vs.length) (nI i) (nI c) σ = some σ') ∧
      ((y_gq B n J items ((0, p), vs)).1.1 = 0 → p_X7_readLine_47 K q f (nI vs.length) (nI i) (nI c) σ = (j_b1 (f_X7_apply K σ') fun σ14 => j_lt (j_si σ14 11 1 ((σ14.1 11 1) + (1 : Int32))) fun σ15 => some σ15) ∧
        ∀ j, j < (y_gq B n J items ((0, p), vs)).2.length → σ'.1 21 j = nI ((y_gq B n J items ((0, p), vs)).2.getD j 0) ∧ (y_gq B n J items ((0, p), vs)).2.getD j 0 ≤ 1000000) := by
  have hl := hS.2.2.1
  intro items
  induction items with
  | nil =>
    intro i f c p vs σ hfit hf hc hJ hw hv
    obtain ⟨f, rfl⟩ := y_pos hf
    obtain ⟨hi, hi2⟩ : S.length ≤ i ∧ i ≤ 200 := by unfold y_fit at hfit; exact of_decide_eq_true hfit
    refine ⟨σ, hw, y_fc.refl, fun z => absurd rfl z, fun _ => ⟨?_, hv⟩⟩
    unfold p_X7_readLine_47
    rw [hS.len, j_b1_s]
    simp only [j_lt]
    rw [if_pos (show nI c < nI S.length by rw [y_lt (by omega) (by omega)]; simp at hc; omega), j_b1_s, if_neg (show ¬ nI i < nI S.length by rw [y_lt (by omega) (by omega)]; omega)]
  | cons it l ih =>
    intro i f c p vs σ hfit hf hc hJ hw hv
    obtain ⟨f, rfl⟩ := y_pos hf
    have hn := hw.1.1
    have hp : p ≤ n := hw.2.2.1
    have hlen : (it :: l).length = l.length + 1 := rfl
    rw [hlen] at hf hc
    obtain ⟨σ1, e1, e2, e3, e4, e5⟩ := yc_stepW hw
    have kl := y_kd_le (B := B) (n := n) (p := p)
    have vl := y_val_le B n p
    have hx : y_gq B n J (it :: l) ((0, p), vs) = y_gq B n J l (y_stp B n J it ((0, p), vs)) := rfl
    have ec : nI c + 1 = nI (c + 1) := by simp (disch := omega) only [y_lit, nI_add]
    rw [hx]
    have start : i < S.length → p_X7_readLine_47 K q (f + 1) (nI vs.length) (nI i) (nI c) σ = (j_b1 (f_X7_standsAt q (nI i) σ1) fun v5 =>
      if v5 = 0 then (j_b1 (f_X7_blame (1) σ1) fun σ6 => some σ6) else (
      if ((σ1.1 10 5) = (3 : Int32)) ∧ (nI vs.length < (5 : Int32)) then (j_b1 (f_X7_judge K (nI vs.length) σ1) fun v8 =>
      if ¬ v8 = 0 then (j_b1 (f_X7_blame v8 σ1) fun σ9 => some σ9) else (j_ix (nI vs.length) 5 (
      (j_b1 (f_X7_behindBlank q (nI i)) fun v13 => p_X7_readLine_47 K q f (nI vs.length + 1) v13 (nI c + 1) (j_si σ1 21 (nI vs.length).toNatClampNeg (σ1.1 10 8)))))) else (
      (j_b1 (f_X7_behindBlank q (nI i)) fun v13 => p_X7_readLine_47 K q f (nI vs.length) v13 (nI c + 1) σ1)))) := by
      intro hi
      rw [p_X7_readLine_47.eq_def]
      simp only [j_lt]
      rw [hS.len, j_b1_s, if_pos (show nI c < nI S.length by rw [y_lt (by omega) (by omega)]; omega), j_b1_s, if_pos (show nI i < nI S.length by rw [y_lt (by omega) (by omega)]; omega), e1, j_b1_s]
    have one : S.getD i 0 ≠ 32 → ∀ t, i ≤ t → t < i + 1 → S.getD t 0 ≠ 32 := fun h t a b => by rw [show t = i by omega]; exact h
    have bad : ∀ k, 0 < k → k ≤ 3 → (∃ σ', f_X7_blame (nI k) σ1 = some σ' ∧ y_cw σ' B n (k, y_s B n p) ∧ y_fc σ σ') := by
      intro k a b
      obtain ⟨σ2, g1, g2, g3⟩ := yc_blame a b hp e4 e2.2.1
      exact ⟨σ2, g1, g2, e3.fc.trans g3⟩
    have v1 : ∀ j, j < vs.length → σ1.1 21 j = nI (vs.getD j 0) ∧ vs.getD j 0 ≤ 1000000 := fun j hj => by rw [e3.1 21 (by omega)]; exact hv j hj
    match it, hfit with
    | none, hfit =>
      unfold y_fit at hfit
      simp only [Bool.and_eq_true, decide_eq_true_eq] at hfit
      obtain ⟨⟨⟨⟨h1, h2⟩, h3⟩, h4⟩, h5⟩ := hfit
      rw [y_stp_n, start h1, yc_stN hS e2 h1 h2, j_b1_s]
      by_cases k : y_kd B n p = 2
      · rw [if_pos k, if_neg (show ¬ nI 1 = (0 : Int32) by decide), if_neg (show ¬ y_kd B n p ≠ 2 from fun z => z k), if_pos (show σ1.1 10 5 = (3 : Int32) ∧ nI vs.length < (5 : Int32) from ⟨by rw [e2.1, k]; rfl, by rw [show (5 : Int32) = nI 5 from rfl, y_lt (by omega) (by omega)]; exact h4⟩)]
        obtain ⟨j1, j2⟩ := hJ σ1 vs (y_val B n p) e3.fc e2.2.2.2 vl v1 h4
        rw [j1, j_b1_s]
        by_cases g : J vs (y_val B n p) = 0
        · rw [if_neg (fun z => z g), if_neg (show ¬ ¬ nI (J vs (y_val B n p)) = (0 : Int32) by rw [g]; exact fun z => z rfl), y_ix h4 (by omega), yc_bbn hS (j := i + 1) (by omega) (by omega) h3 (one (by rw [h2]; decide)), j_b1_s, nI_clamp (by omega), ec, e2.2.2.2]
          have el : (vs ++ [y_val B n p]).length = vs.length + 1 := by simp
          have ev : nI vs.length + 1 = nI (vs ++ [y_val B n p]).length := by rw [el]; simp (disch := omega) only [y_lit, nI_add]
          have fr : y_fc σ1 (j_si σ1 21 vs.length (nI (y_val B n p))) := y_fc.refl.si (by omega)
          rw [ev]
          have w5 : y_cw (j_si σ1 21 vs.length (nI (y_val B n p))) B n (0, y_e B n p) := by
            obtain ⟨a1, a2, a3, a4, a5⟩ := e5
            refine ⟨a1.fc fr, a2, a3, fun z => ?_, fun z => absurd rfl z⟩
            rw [j_r_ne (by omega), j_r_ne (by omega), j_r_ne (by omega)]; exact a4 z
          have v2 : ∀ j, j < (vs ++ [y_val B n p]).length → (j_si σ1 21 vs.length (nI (y_val B n p))).1 21 j = nI ((vs ++ [y_val B n p]).getD j 0) ∧ (vs ++ [y_val B n p]).getD j 0 ≤ 1000000 := by
            intro j hj
            rw [el] at hj
            by_cases w : j = vs.length
            · subst w
              rw [j_r_eq]
              have : (vs ++ [y_val B n p]).getD vs.length 0 = y_val B n p := by simp [List.getD]
              rw [this]
              exact ⟨rfl, vl⟩
            · rw [j_r_nj (by omega)]
              have : (vs ++ [y_val B n p]).getD j 0 = vs.getD j 0 := by
                have : j < vs.length := by omega
                simp [List.getD, List.getElem?_append_left this]
              rw [this]; exact v1 j (by omega)
          obtain ⟨σ', b1, b2, b3, b4⟩ := ih (i + 2) f (c + 1) (y_e B n p) (vs ++ [y_val B n p]) _ (by rw [el]; exact h5) (by omega) (by omega) (hJ.fc (e3.fc.trans fr)) w5 v2
          exact ⟨σ', b1, (e3.fc.trans fr).trans b2, b3, b4⟩
        · rw [if_pos (show J vs (y_val B n p) ≠ 0 from g), if_pos (show ¬ nI (J vs (y_val B n p)) = (0 : Int32) by rw [show (0 : Int32) = nI 0 from rfl, y_eq (by omega) (by omega)]; exact g), y_gq_bad (show ((J vs (y_val B n p), y_s B n p), vs).1.1 ≠ 0 from g)]
          obtain ⟨σ2, g1, g2, g3⟩ := bad (J vs (y_val B n p)) (by omega) j2
          rw [g1]
          exact ⟨σ2, g2, g3, fun _ => rfl, fun z => absurd z g⟩
      · rw [if_neg k, if_pos (show nI 0 = (0 : Int32) from rfl), if_pos (show y_kd B n p ≠ 2 from k), y_gq_bad (show ((1, y_s B n p), vs).1.1 ≠ 0 by show (1 : Nat) ≠ 0; omega)]
        obtain ⟨σ2, g1, g2, g3⟩ := bad 1 (by omega) (by omega)
        rw [show (1 : Int32) = nI 1 from rfl, g1]
        exact ⟨σ2, g2, g3, fun _ => rfl, fun z => absurd z (by show ¬ (1 : Nat) = 0; omega)⟩
    | some [], hfit =>
      unfold y_fit at hfit
      simp only [Bool.and_eq_true, decide_eq_true_eq] at hfit
      obtain ⟨⟨⟨h1, h2⟩, h3⟩, h5⟩ := hfit
      rw [start h1, yc_stS hS e2 h1 h2, j_b1_s]
      by_cases k : y_kd B n p = 3
      · rw [if_pos k, if_neg (show ¬ nI 1 = (0 : Int32) by decide), show y_stp B n J (some []) ((0, p), vs) = ((0, y_e B n p), vs) by rw [y_stp_s, if_pos k], if_neg (show ¬ (σ1.1 10 5 = (3 : Int32) ∧ nI vs.length < (5 : Int32)) from fun z => by have := z.1; rw [e2.1, k] at this; exact absurd this (by decide)), yc_bbn hS (j := i + 1) (by omega) (by omega) h3 (one (by rw [h2]; decide)), j_b1_s, ec]
        obtain ⟨σ', b1, b2, b3, b4⟩ := ih (i + 2) f (c + 1) (y_e B n p) vs σ1 h5 (by omega) (by omega) (hJ.fc e3.fc) e5 v1
        exact ⟨σ', b1, e3.fc.trans b2, b3, b4⟩
      · rw [if_neg k, if_pos (show nI 0 = (0 : Int32) from rfl), show y_stp B n J (some []) ((0, p), vs) = ((1, y_s B n p), vs) by rw [y_stp_s, if_neg k], y_gq_bad (show ((1, y_s B n p), vs).1.1 ≠ 0 by show (1 : Nat) ≠ 0; omega)]
        obtain ⟨σ2, g1, g2, g3⟩ := bad 1 (by omega) (by omega)
        rw [show (1 : Int32) = nI 1 from rfl, g1]
        exact ⟨σ2, g2, g3, fun _ => rfl, fun z => absurd z (by show ¬ (1 : Nat) = 0; omega)⟩
    | some (a :: L), hfit =>
      unfold y_fit at hfit
      simp only [Bool.and_eq_true, decide_eq_true_eq] at hfit
      obtain ⟨⟨⟨⟨h1, h2⟩, h3⟩, h4⟩, h5⟩ := hfit
      have hLl : (a :: L).length = L.length + 1 := rfl
      rw [start (by omega), yc_stW hS e4 hp e2 h1 h2 h3 h4, j_b1_s]
      by_cases k : y_sp (a :: L) B n p = true
      · have k1 := (y_spP.mp k).1
        rw [if_pos k, if_neg (show ¬ nI 1 = (0 : Int32) by decide), show y_stp B n J (some (a :: L)) ((0, p), vs) = ((0, y_e B n p), vs) by rw [y_stp_w (List.cons_ne_nil a L), if_pos k], if_neg (show ¬ (σ1.1 10 5 = (3 : Int32) ∧ nI vs.length < (5 : Int32)) from fun z => by have := z.1; rw [e2.1, k1] at this; exact absurd this (by decide)), yc_bbn hS (j := i + (a :: L).length) (by omega) (by omega) (fun _ => h2) (fun t x y => by
          have := (h3 (t - i) (by omega)).2
          rw [show i + (t - i) = t by omega] at this
          exact this), j_b1_s, ec]
        obtain ⟨σ', b1, b2, b3, b4⟩ := ih (i + (a :: L).length + 1) f (c + 1) (y_e B n p) vs σ1 h5 (by omega) (by omega) (hJ.fc e3.fc) e5 v1
        exact ⟨σ', b1, e3.fc.trans b2, b3, b4⟩
      · rw [if_neg k, if_pos (show nI 0 = (0 : Int32) from rfl), show y_stp B n J (some (a :: L)) ((0, p), vs) = ((1, y_s B n p), vs) by rw [y_stp_w (List.cons_ne_nil a L), if_neg k], y_gq_bad (show ((1, y_s B n p), vs).1.1 ≠ 0 by show (1 : Nat) ≠ 0; omega)]
        obtain ⟨σ2, g1, g2, g3⟩ := bad 1 (by omega) (by omega)
        rw [show (1 : Int32) = nI 1 from rfl, g1]
        exact ⟨σ2, g2, g3, fun _ => rfl, fun z => absurd z (by show ¬ (1 : Nat) = 0; omega)⟩
end L
/-! ===== the words and shapes ===== -/
noncomputable def y_L (k : Nat) : List Int32 := x_sbyt.getD k []
noncomputable def y_fw : Nat → Nat
  | 0 => 8 | 1 => 16 | 2 => 17 | 3 => 13 | 4 => 14 | 5 => 15 | 6 => 18 | _ => 19
theorem y_strs : ∀ k, k < 27 → x_sbyt[k]? = some (y_L k) ∧ (y_L k).length < 100 ∧ ∀ i, i < (y_L k).length → 0 ≤ ((y_L k).getD i 0).toInt ∧ ((y_L k).getD i 0).toInt < 128 := by decide +kernel
theorem y_strK {k : Nat} (hk : k < 27) : y_str (2000000 + k) (y_L k) := by
  obtain ⟨h1, h2, h3⟩ := y_strs k hk
  refine ⟨by unfold x_str; omega, ?_, h2, fun i hi => ?_⟩
  · rw [show 2000000 + k - x_str = k by unfold x_str; omega]; exact h1
  · obtain ⟨g1, g2⟩ := h3 i hi
    obtain ⟨c, hc, e⟩ := y_of _ 128 g1 g2
    exact ⟨c, hc, e⟩
theorem y_ne : ∀ k, k < 27 → y_L k ≠ [] := by decide +kernel
theorem y_first : ∀ k, k < 8 → f_X7_shapeOf (nI k) = 2000000 + k ∧ y_fw k < 27 ∧ 0 + (y_L (y_fw k)).length < (y_L k).length ∧ (y_L k).getD (0 + (y_L (y_fw k)).length) 0 = 32 ∧ (∀ j, j < (y_L (y_fw k)).length → (y_L k).getD (0 + j) 0 = (y_L (y_fw k)).getD j 0 ∧ (y_L k).getD (0 + j) 0 ≠ 32) ∧ (y_L k).getD 0 0 ≠ 35 ∧ (y_L k).getD 0 0 ≠ 59 := by decide +kernel
theorem y_dist : ∀ j, j < 27 → ∀ k, k < 27 → (j ≠ k ∧ 8 ≤ j ∧ 8 ≤ k) → ¬ ((y_L j).length = (y_L k).length ∧ ∀ i, i < (y_L j).length → (y_L j).getD i 0 = (y_L k).getD i 0) := by decide +kernel
noncomputable def y_it : Nat → List (Option (List Int32))
  | 0 => [some (y_L 9), none, some (y_L 10), none, some (y_L 11), none, some (y_L 12), none, some []]
  | 1 => [none, some (y_L 20), none, some []]
  | 2 => [none, some []]
  | 3 => [none, some []]
  | 4 => [none, some []]
  | 5 => [none, none, some []]
  | 6 => [some (y_L 21), none, some (y_L 22), none, some (y_L 23), none, some (y_L 24), none, some (y_L 25), none, some []]
  | _ => [none, some (y_L 26), none, some []]
theorem y_fits : ∀ k, k < 8 → y_fit (y_L k) ((y_L (y_fw k)).length + 1) 0 (y_it k) = true ∧ (y_it k).length < 100 ∧ 1 + (y_it k).length < (y_L k).length := by decide +kernel
/-! ===== the kind of a line ===== -/
section K
variable {B : Nat → Int32} {n : Nat}
theorem y_sp_dist {p j k : Nat} (hj : j < 27) (hk : k < 27) (hj8 : 8 ≤ j) (hk8 : 8 ≤ k) (h : y_sp (y_L k) B n p = true) (hne : j ≠ k) : ¬ y_sp (y_L j) B n p = true := by
  intro z
  obtain ⟨_, a2, a3⟩ := y_spP.mp h
  obtain ⟨_, b2, b3⟩ := y_spP.mp z
  exact y_dist j hj k hk ⟨hne, hj8, hk8⟩ ⟨by omega, fun i hi => by rw [← b3 i hi, ← a3 i (by omega)]⟩
theorem y_fw_inj : ∀ j, j < 8 → ∀ k, k < 8 → y_fw j = y_fw k → j = k := by decide
theorem y_fw_lt : ∀ j, j < 8 → 8 ≤ y_fw j ∧ y_fw j < 27 := by decide
/-- the kind: 8 if none -/
noncomputable def y_kl (B : Nat → Int32) (n p : Nat) : Nat → Nat → Nat
  | 0, k => k
  | m + 1, k => if y_sp (y_L (y_fw k)) B n p = true then k else y_kl B n p m (k + 1)
noncomputable def y_kn (B : Nat → Int32) (n p : Nat) : Nat := y_kl B n p 8 0
theorem y_kl_sp {p : Nat} : ∀ m k, k + m = 8 → (y_kl B n p m k = 8 ∧ ∀ j, k ≤ j → j < 8 → ¬ y_sp (y_L (y_fw j)) B n p = true) ∨ (y_kl B n p m k < 8 ∧ y_sp (y_L (y_fw (y_kl B n p m k))) B n p = true) := by
  intro m
  induction m with
  | zero => intro k h; left; exact ⟨by unfold y_kl; omega, fun j a c => by omega⟩
  | succ m ih =>
    intro k h
    unfold y_kl
    by_cases c : y_sp (y_L (y_fw k)) B n p = true
    · rw [if_pos c]; right; exact ⟨by omega, c⟩
    · rw [if_neg c]
      rcases ih (k + 1) (by omega) with ⟨a1, a2⟩ | a
      · left
        refine ⟨a1, fun j b1 b2 => ?_⟩
        by_cases e : j = k
        · subst e; exact c
        · exact a2 j (by omega) b2
      · right; exact a
theorem y_kn_sp {p : Nat} : (y_kn B n p = 8 ∧ ∀ j, j < 8 → ¬ y_sp (y_L (y_fw j)) B n p = true) ∨ (y_kn B n p < 8 ∧ y_sp (y_L (y_fw (y_kn B n p))) B n p = true) := by
  rcases y_kl_sp (B := B) (n := n) (p := p) 8 0 (by omega) with ⟨a, c⟩ | a
  · exact Or.inl ⟨a, fun j hj => c j (by omega) hj⟩
  · exact Or.inr a
theorem y_kn_iff {p k : Nat} (hk : k < 8) : y_sp (y_L (y_fw k)) B n p = true ↔ y_kn B n p = k := by
  rcases y_kn_sp (B := B) (n := n) (p := p) with ⟨a, c⟩ | ⟨a, c⟩
  · exact ⟨fun z => absurd z (c k hk), fun z => by omega⟩
  · constructor
    · intro z
      by_cases e : y_kn B n p = k
      · exact e
      · exact absurd c (y_sp_dist (y_fw_lt _ a).2 (y_fw_lt k hk).2 (y_fw_lt _ a).1 (y_fw_lt k hk).1 z (fun w => e (y_fw_inj _ a _ hk w)))
    · intro z; rw [← z]; exact c
theorem yc_kol {σ : j_G} (ht : y_ct σ B n) {p : Nat} (hp : p ≤ n) (hc : y_ck σ B n p) : ∀ m k f, k + m = 8 → m < f → p_X7_kindOfLine_2 σ f (nI k) = some (if y_kl B n p m k = 8 then nP 0 else if (y_kl B n p m k = 0 ↔ σ.1 11 1 = nI 0) then nI (y_kl B n p m k) else nP 0) := by
  intro m
  induction m with
  | zero =>
    intro k f h hf
    obtain ⟨f, rfl⟩ := y_pos hf
    unfold p_X7_kindOfLine_2 y_kl
    rw [if_neg (show ¬ nI k < (8 : Int32) by rw [show (8 : Int32) = nI 8 from rfl, y_lt (by omega) (by omega)]; omega), if_pos (by omega : k = 8)]; rfl
  | succ m ih =>
    intro k f h hf
    obtain ⟨f, rfl⟩ := y_pos hf
    obtain ⟨q1, q2, q3, q4, q5, q6⟩ := y_first k (by omega)
    have st := yc_stW (L := y_L (y_fw k)) (y_strK (k := k) (by omega)) ht hp hc (i := 0) q3 q4 q5 q6
    unfold p_X7_kindOfLine_2 y_kl
    rw [if_pos (show nI k < (8 : Int32) by rw [show (8 : Int32) = nI 8 from rfl, y_lt (by omega) (by omega)]; omega), q1, show (0 : Int32) = nI 0 from rfl, st, j_b1_s]
    simp only [j_lt]
    by_cases c : y_sp (y_L (y_fw k)) B n p = true
    · rw [if_pos c, if_pos c, if_pos (show ¬ nI 1 = nI 0 by decide), if_neg (show ¬ k = 8 by omega)]
      by_cases c0 : k = 0
      · subst c0
        rw [if_pos rfl]
        by_cases z : σ.1 11 1 = nI 0
        · rw [if_pos z, if_pos rfl, if_pos ⟨fun _ => z, fun _ => rfl⟩]
        · rw [if_neg z, if_neg (show ¬ (1 : Int32) = nI 0 by decide), if_neg (fun w => z (w.mp rfl))]; rfl
      · rw [if_neg (show ¬ nI k = nI 0 by rw [y_eq (by omega) (by omega)]; exact c0)]
        by_cases z : σ.1 11 1 = nI 0
        · rw [if_pos z, if_neg (show ¬ nI 0 = (1 : Int32) by decide), if_neg (fun w => c0 (w.mpr z))]; rfl
        · rw [if_neg z, if_pos rfl, if_pos ⟨fun w => absurd w c0, fun w => absurd w z⟩]
    · rw [if_neg c, if_neg c, if_neg (show ¬ ¬ nI 0 = nI 0 from fun z => z rfl)]
      have e : nI k + 1 = nI (k + 1) := by simp (disch := omega) only [y_lit, nI_add]
      rw [e]
      exact ih (k + 1) f (by omega) (by omega)
/-! ===== the judges ===== -/
noncomputable def y_mv (σ : j_G) : j_G := (fun c => if c < 10 then σ.1 (c + 10) else σ.1 c, σ.2)
abbrev y_T (σ : j_G) (b : Nat → Nat) : Prop := y_cb σ 11 12 13 14 15 16 17 18 b
theorem y_T.mv {σ : j_G} {b : Nat → Nat} (h : y_T σ b) : y_N (y_mv σ) b := h
theorem y_T.fc {σ σ' : j_G} {b : Nat → Nat} (h : y_T σ b) (hf : y_fc σ σ') : y_T σ' b := by
  unfold y_T y_cb at *
  rw [hf.1 11 (by omega) (by omega), hf.1 12 (by omega) (by omega), hf.1 13 (by omega) (by omega), hf.1 14 (by omega) (by omega), hf.1 15 (by omega) (by omega), hf.1 16 (by omega) (by omega), hf.1 17 (by omega) (by omega), hf.1 18 (by omega) (by omega)]
  exact h
noncomputable def y_qo (b : Nat → Nat) (v : Nat) : Nat := if v < y_ho b ∧ y_sh b v = 0 then 0 else 2
noncomputable def y_hs (b : Nat → Nat) (v : Nat) : Nat → Nat → Bool
  | 0, _ => false
  | m + 1, k => if b (12 + 2 * k) = v then true else y_hs b v m (k + 1)
noncomputable def y_q0 (vs : List Nat) (v : Nat) : Nat := if vs.length = 0 then y_jr 1 5 v else if vs.length = 1 then y_jr 1 4 v else if vs.length = 2 then y_jr 1 201 v else y_jr 0 10 v
noncomputable def y_q1 (b : Nat → Nat) (vs : List Nat) (v : Nat) : Nat := if vs.length = 0 then y_jr 1 41 v else if ¬ v < b 2 then 2 else if 6 ≤ b 4 ∧ y_hs b v (b 4) 0 = false then 3 else 0
noncomputable def y_q2 (b : Nat → Nat) (_ : List Nat) (v : Nat) : Nat := if y_qo b v = 0 ∧ y_oft b v = 0 then 0 else 2
noncomputable def y_q5 (b : Nat → Nat) (vs : List Nat) (v : Nat) : Nat := if y_qo b v = 0 ∧ (vs.length = 0 ∨ v ≠ vs.getD 0 0) then 0 else 2
noncomputable def y_q6 (b : Nat → Nat) (vs : List Nat) (v : Nat) : Nat := if vs.length = 0 then y_jr 1 10 v else if vs.length = 1 then y_jr 0 21 v else if vs.length = 2 then y_jr 0 100 v else if vs.length = 3 then y_jr 0 10 v else y_jr 0 (y_ho b) v
noncomputable def y_q7 (vs : List Nat) (v : Nat) : Nat := if vs.length = 0 then y_jr 1 100 v else y_jr 1 501 v
noncomputable def y_qk (b : Nat → Nat) : Nat → List Nat → Nat → Nat
  | 0 => y_q0
  | 1 => y_q1 b
  | 2 => y_q2 b
  | 3 => fun _ v => y_qo b v
  | 4 => fun _ v => y_qo b v
  | 5 => y_q5 b
  | 6 => y_q6 b
  | _ => y_q7
theorem yj_w {σ : j_G} {v lo hi : Nat} (h : σ.1 10 8 = nI v) (hv : v ≤ 1000000) (hlo : lo < 1000) (hh : hi < 1000) : f_X7_within (nI lo) (nI hi) σ = nI (y_jr lo (hi + 1) v) := by
  unfold f_X7_within y_jr
  rw [h]
  by_cases c : lo ≤ v ∧ v < hi + 1
  · rw [if_pos c, if_pos (show ¬ nI v < nI lo ∧ ¬ nI hi < nI v by rw [y_lt (by omega) (by omega), y_lt (by omega) (by omega)]; omega)]; rfl
  · rw [if_neg c, if_neg (show ¬ (¬ nI v < nI lo ∧ ¬ nI hi < nI v) by rw [y_lt (by omega) (by omega), y_lt (by omega) (by omega)]; omega)]; rfl
theorem yj_o {σ : j_G} {b : Nat → Nat} {v : Nat} (hW : y_W b) (hT : y_T σ b) (h : σ.1 10 8 = nI v) (hv : v ≤ 1000000) : f_X7_isOpen σ = if y_qo b v = 0 then nI 1 else nI 0 := by
  have ho := hW.ho
  have s2 : y_sh b v < 2 := Nat.mod_lt _ (by omega)
  unfold f_X7_isOpen y_qo
  rw [h, show f_X2_isHole 11 (nI v) σ = f_X2_isHole 1 (nI v) (y_mv σ) from rfl, show f_X2_isShut 11 (nI v) σ = f_X2_isShut 1 (nI v) (y_mv σ) from rfl, yc_isHole hT.mv hW]
  by_cases c : v < y_ho b
  · rw [if_pos ((y_rn (by omega)).mpr c), yc_isShut hT.mv hW (by omega)]
    by_cases d : y_sh b v = 1
    · rw [if_pos d, if_neg (show ¬ (¬ nI 1 = (0 : Int32) ∧ nI 1 = (0 : Int32)) from fun z => z.1 z.2), if_neg (show ¬ (v < y_ho b ∧ y_sh b v = 0) by omega), if_neg (by omega)]; rfl
    · rw [if_neg d, if_pos (show (¬ nI 1 = (0 : Int32) ∧ nI 0 = (0 : Int32)) from ⟨by decide, rfl⟩), if_pos (show (v < y_ho b ∧ y_sh b v = 0) by omega), if_pos rfl]; rfl
  · rw [if_neg (fun z => c ((y_rn (by omega)).mp z)), if_neg (fun z => z.1 rfl), show (if v < y_ho b ∧ y_sh b v = 0 then 0 else 2) = 2 from if_neg (fun z => c z.1), if_neg (by omega)]; rfl
theorem yj_oft {a0 a1 a2 c0 c1 c2 : Nat} {l1 : Int32} {σ σ' : j_G} (h0 : σ.1 a0 = σ'.1 c0) (h1 : σ.1 a1 = σ'.1 c1) (h2 : σ.1 a2 = σ'.1 c2) : ∀ f x y, p_X3_oftenAt_4 a0 a1 a2 l1 σ f x y = p_X3_oftenAt_4 c0 c1 c2 l1 σ' f x y := by
  intro f
  induction f with
  | zero => intro x y; rfl
  | succ f ih =>
    intro x y
    unfold p_X3_oftenAt_4
    rw [h0, h1, h2]
    simp only [ih]
theorem yj_hsf {σ : j_G} {b : Nat → Nat} {v : Nat} (hW : y_W b) (hT : y_T σ b) (hv : v ≤ 1000000) : ∀ m k f, k + m = b 4 → m < f → p_X2_hasStayFrom_2 (nI v) σ f (nI k) = some (if y_hs b v m k = true then nI 1 else nI 0) := by
  have b4 := hW.b4
  have b2 := hW.b2
  intro m
  induction m with
  | zero =>
    intro k f h hf
    obtain ⟨f, rfl⟩ := y_pos hf
    unfold p_X2_hasStayFrom_2 y_hs
    rw [hT.f10, if_neg (show ¬ nI k < nI (b 4) by rw [y_lt (by omega) (by omega)]; omega), if_neg (by decide)]; rfl
  | succ m ih =>
    intro k f h hf
    obtain ⟨f, rfl⟩ := y_pos hf
    have st := hW.st (k := k) (by omega)
    unfold p_X2_hasStayFrom_2 y_hs
    rw [hT.f10, if_pos (show nI k < nI (b 4) by rw [y_lt (by omega) (by omega)]; omega), y_ix (by omega) (by omega), nI_clamp (by omega), hT.s1 (by omega)]
    by_cases c : b (12 + 2 * k) = v
    · rw [if_pos (show nI (b (12 + 2 * k)) = nI v by rw [c]), if_pos c, if_pos rfl]; rfl
    · rw [if_neg (show ¬ nI (b (12 + 2 * k)) = nI v by rw [y_eq (by omega) (by omega)]; exact c), if_neg c, show nI k + 1 = nI (k + 1) by simp (disch := omega) only [y_lit, nI_add]]
      exact ih (k + 1) f (by omega) (by omega)
end K
/-! ===== the judges of the eight kinds ===== -/
section K
variable {σ : j_G} {b : Nat → Nat}
theorem y_jr2 {lo h v : Nat} (z : y_jr lo h v ≠ 0) : y_jr lo h v = 2 := by
  unfold y_jr at *
  by_cases c : lo ≤ v ∧ v < h
  · rw [if_pos c] at z; omega
  · exact if_neg c
theorem y_qo2 {v : Nat} (z : y_qo b v ≠ 0) : y_qo b v = 2 := by
  unfold y_qo at *
  by_cases c : v < y_ho b ∧ y_sh b v = 0
  · rw [if_pos c] at z; omega
  · exact if_neg c
theorem y_qo_le {v : Nat} : y_qo b v ≤ 3 := by unfold y_qo; split <;> omega
theorem y_jd0 : y_jd y_q0 (nI 0) σ := by
  intro σ' vs v fr hv vl vals h5
  refine ⟨?_, by unfold y_q0; (repeat' split) <;> exact y_jr_le⟩
  unfold f_X7_judge f_X7_fitsBoard
  rw [if_pos (show nI 0 = (0 : Int32) from rfl)]
  have key : ∀ lo hi, lo < 1000 → hi < 1000 → (if (if f_X7_within (nI lo) (nI hi) σ' = 0 then (1 : Int32) else 0) = 0 then some (2 : Int32) else some 0) = some (nI (y_jr lo (hi + 1) v)) := by
    intro lo hi a c
    rw [yj_w hv vl a c]
    have := y_jr_le (lo := lo) (h := hi + 1) (v := v)
    by_cases z : y_jr lo (hi + 1) v = 0
    · rw [z, if_pos (show nI 0 = (0 : Int32) from rfl), if_neg (by decide)]; rfl
    · rw [if_neg (show ¬ nI (y_jr lo (hi + 1) v) = (0 : Int32) by rw [show (0 : Int32) = nI 0 from rfl, y_eq (by omega) (by omega)]; exact z), if_pos rfl]
      have : y_jr lo (hi + 1) v = 2 := y_jr2 z
      rw [this]; rfl
  have fl : ∀ x : Int32, (if ¬ x = 0 then some (0 : Int32) else some 2) = if x = 0 then some 2 else some 0 := by
    intro x
    by_cases z : x = 0
    · rw [if_neg (fun w => w z), if_pos z]
    · rw [if_pos z, if_neg z]
  rw [fl]
  unfold y_q0
  by_cases c0 : vs.length = 0
  · rw [c0, if_pos (show nI 0 = (0 : Int32) from rfl), if_pos rfl]; exact key 1 4 (by omega) (by omega)
  · rw [if_neg (show ¬ nI vs.length = (0 : Int32) by rw [show (0 : Int32) = nI 0 from rfl, y_eq (by omega) (by omega)]; exact c0), if_neg c0]
    by_cases c1 : vs.length = 1
    · rw [c1, if_pos (show nI 1 = (1 : Int32) from rfl), if_pos rfl]; exact key 1 3 (by omega) (by omega)
    · rw [if_neg (show ¬ nI vs.length = (1 : Int32) by rw [show (1 : Int32) = nI 1 from rfl, y_eq (by omega) (by omega)]; exact c1), if_neg c1]
      by_cases c2 : vs.length = 2
      · rw [c2, if_pos (show nI 2 = (2 : Int32) from rfl), if_pos rfl]; exact key 1 200 (by omega) (by omega)
      · rw [if_neg (show ¬ nI vs.length = (2 : Int32) by rw [show (2 : Int32) = nI 2 from rfl, y_eq (by omega) (by omega)]; exact c2), if_neg c2]; exact key 0 9 (by omega) (by omega)
theorem y_jd1 (hW : y_W b) (hT : y_T σ b) : y_jd (y_q1 b) (nI 1) σ := by
  intro σ' vs v fr hv vl vals h5
  have hT' := hT.fc fr
  have b4 := hW.b4
  have b2 := hW.b2
  refine ⟨?_, by unfold y_q1; split; exact y_jr_le; (repeat' split) <;> omega⟩
  unfold f_X7_judge
  rw [if_neg (show ¬ nI 1 = (0 : Int32) by decide), if_pos (show nI 1 = (1 : Int32) from rfl)]
  unfold y_q1
  by_cases c0 : vs.length = 0
  · rw [c0, if_pos (show nI 0 = (0 : Int32) from rfl), if_pos rfl]
    rw [show (1 : Int32) = nI 1 from rfl, show (40 : Int32) = nI 40 from rfl, yj_w hv vl (by omega) (by omega)]
  · rw [if_neg (show ¬ nI vs.length = (0 : Int32) by rw [show (0 : Int32) = nI 0 from rfl, y_eq (by omega) (by omega)]; exact c0), if_neg c0]
    unfold f_X7_judgeFrom
    rw [hv, show f_X2_isTick 11 (nI v) σ' = f_X2_isTick 1 (nI v) (y_mv σ') from rfl, yc_isTick hT'.mv hW, hT'.f10]
    by_cases c1 : v < b 2
    · rw [if_pos ((y_rn (by omega)).mpr c1), if_neg (show ¬ nI 1 = (0 : Int32) by decide), if_neg (show ¬ ¬ v < b 2 from fun z => z c1)]
      have hh := yj_hsf hW hT' vl (b 4) 0 j_F (by omega) (y_F (by omega))
      have h2 : f_X2_hasStayFrom (nI v) σ' = some (if y_hs b v (b 4) 0 = true then nI 1 else nI 0) := by
        unfold f_X2_hasStayFrom; rw [show (0 : Int32) = nI 0 from rfl, hh]
      by_cases c2 : 6 ≤ b 4
      · rw [if_pos (show ¬ nI (b 4) < (6 : Int32) by rw [show (6 : Int32) = nI 6 from rfl, y_lt (by omega) (by omega)]; omega), h2, j_b1_s]
        cases c3 : y_hs b v (b 4) 0 with
        | false => rw [if_neg (show ¬ (false = true) by decide), if_pos (show nI 0 = (0 : Int32) from rfl), if_pos ⟨c2, rfl⟩]; rfl
        | true => rw [if_pos rfl, if_neg (show ¬ nI 1 = (0 : Int32) by decide), if_neg (fun z => by cases z.2)]; rfl
      · rw [if_neg (show ¬ ¬ nI (b 4) < (6 : Int32) by rw [show (6 : Int32) = nI 6 from rfl, y_lt (by omega) (by omega)]; omega), if_neg (fun z => c2 z.1)]; rfl
    · rw [if_neg (fun z => c1 ((y_rn (by omega)).mp z)), if_pos (show nI 0 = (0 : Int32) from rfl), if_pos c1]; rfl
theorem yj_open (hW : y_W b) (hT : y_T σ b) {v : Nat} (h : σ.1 10 8 = nI v) (hv : v ≤ 1000000) {o : Option Int32} : (if ¬ f_X7_isOpen σ = 0 then o else some 2) = if y_qo b v = 0 then o else some (nI 2) := by
  rw [yj_o hW hT h hv]
  by_cases c : y_qo b v = 0
  · rw [if_pos c, if_pos (show ¬ nI 1 = (0 : Int32) by decide), if_pos c]
  · rw [if_neg c, if_neg (show ¬ ¬ nI 0 = (0 : Int32) from fun z => z rfl), if_neg c]; rfl
theorem y_jd2 (hW : y_W b) (hT : y_T σ b) : y_jd (y_q2 b) (nI 2) σ := by
  intro σ' vs v fr hv vl vals h5
  have hT' := hT.fc fr
  have b5 := hW.b5
  have ho := hW.ho
  refine ⟨?_, by unfold y_q2; (repeat' split) <;> omega⟩
  unfold f_X7_judge
  rw [if_neg (show ¬ nI 2 = (0 : Int32) by decide), if_neg (show ¬ nI 2 = (1 : Int32) by decide), if_pos (show nI 2 = (2 : Int32) from rfl), yj_open hW hT' hv vl]
  unfold y_q2
  by_cases c : y_qo b v = 0
  · have vh : v < y_ho b := by
      unfold y_qo at c
      by_cases d : v < y_ho b ∧ y_sh b v = 0
      · exact d.1
      · rw [if_neg d] at c; omega
    have e : f_X3_oftenAt 15 16 17 (nI v) σ' = some (nI (y_oft b v)) := by
      rw [← yc_oft hT'.mv hW (x := v) (by omega)]
      unfold f_X3_oftenAt
      rw [yj_oft (a0 := 15) (a1 := 16) (a2 := 17) (c0 := 5) (c1 := 6) (c2 := 7) (σ' := y_mv σ') rfl rfl rfl]
    have ol := y_oft_le b v
    rw [if_pos c, hv, e, j_b1_s]
    by_cases d : y_oft b v = 0
    · rw [d, if_pos (show nI 0 = (0 : Int32) from rfl), if_pos ⟨c, rfl⟩]; rfl
    · rw [if_neg (show ¬ nI (y_oft b v) = (0 : Int32) by rw [show (0 : Int32) = nI 0 from rfl, y_eq (by omega) (by omega)]; exact d), if_neg (fun z => d z.2)]; rfl
  · rw [if_neg c, if_neg (fun z => c z.1)]
theorem y_jd3 (hW : y_W b) (hT : y_T σ b) : y_jd (fun _ v => y_qo b v) (nI 3) σ := by
  intro σ' vs v fr hv vl vals h5
  have hT' := hT.fc fr
  refine ⟨?_, y_qo_le⟩
  unfold f_X7_judge
  rw [if_neg (show ¬ nI 3 = (0 : Int32) by decide), if_neg (show ¬ nI 3 = (1 : Int32) by decide), if_neg (show ¬ nI 3 = (2 : Int32) by decide), if_pos (show nI 3 = (3 : Int32) from rfl), yj_open hW hT' hv vl]
  show _ = some (nI (y_qo b v))
  by_cases c : y_qo b v = 0
  · rw [if_pos c, c]; rfl
  · have : y_qo b v = 2 := y_qo2 c
    rw [if_neg c, this]
theorem y_jd4 (hW : y_W b) (hT : y_T σ b) : y_jd (fun _ v => y_qo b v) (nI 4) σ := by
  intro σ' vs v fr hv vl vals h5
  have hT' := hT.fc fr
  refine ⟨?_, y_qo_le⟩
  unfold f_X7_judge
  rw [if_neg (show ¬ nI 4 = (0 : Int32) by decide), if_neg (show ¬ nI 4 = (1 : Int32) by decide), if_neg (show ¬ nI 4 = (2 : Int32) by decide), if_neg (show ¬ nI 4 = (3 : Int32) by decide), if_pos (show nI 4 = (4 : Int32) from rfl), yj_open hW hT' hv vl]
  show _ = some (nI (y_qo b v))
  by_cases c : y_qo b v = 0
  · rw [if_pos c, c]; rfl
  · have : y_qo b v = 2 := y_qo2 c
    rw [if_neg c, this]
theorem y_jd5 (hW : y_W b) (hT : y_T σ b) : y_jd (y_q5 b) (nI 5) σ := by
  intro σ' vs v fr hv vl vals h5
  have hT' := hT.fc fr
  refine ⟨?_, by unfold y_q5; (repeat' split) <;> omega⟩
  unfold f_X7_judge
  rw [if_neg (show ¬ nI 5 = (0 : Int32) by decide), if_neg (show ¬ nI 5 = (1 : Int32) by decide), if_neg (show ¬ nI 5 = (2 : Int32) by decide), if_neg (show ¬ nI 5 = (3 : Int32) by decide), if_neg (show ¬ nI 5 = (4 : Int32) by decide), if_pos (show nI 5 = (5 : Int32) from rfl), yj_open hW hT' hv vl]
  unfold y_q5
  by_cases c : y_qo b v = 0
  · rw [if_pos c]
    by_cases d : vs.length = 0
    · rw [d, if_neg (show ¬ ¬ nI 0 = (0 : Int32) from fun z => z rfl), if_pos ⟨c, Or.inl rfl⟩]; rfl
    · obtain ⟨v0, v1⟩ := vals 0 (by omega)
      rw [if_pos (show ¬ nI vs.length = (0 : Int32) by rw [show (0 : Int32) = nI 0 from rfl, y_eq (by omega) (by omega)]; exact d), show (0 : Int32) = nI 0 from rfl, y_ix (by omega) (by omega), nI_clamp (by omega), hv, v0]
      by_cases e : v = vs.getD 0 0
      · rw [if_neg (fun z => z (by rw [e])), if_neg (fun z => z.2.elim d (fun w => w e))]; rfl
      · rw [if_pos (show ¬ nI v = nI (vs.getD 0 0) by rw [y_eq (by omega) (by omega)]; exact e), if_pos ⟨c, Or.inr e⟩]
  · rw [if_neg c, if_neg (fun z => c z.1)]
theorem y_jd6 (hW : y_W b) (hT : y_T σ b) : y_jd (y_q6 b) (nI 6) σ := by
  intro σ' vs v fr hv vl vals h5
  have hT' := hT.fc fr
  have ho := hW.ho
  refine ⟨?_, by unfold y_q6; (repeat' split) <;> exact y_jr_le⟩
  unfold f_X7_judge
  rw [if_neg (show ¬ nI 6 = (0 : Int32) by decide), if_neg (show ¬ nI 6 = (1 : Int32) by decide), if_neg (show ¬ nI 6 = (2 : Int32) by decide), if_neg (show ¬ nI 6 = (3 : Int32) by decide), if_neg (show ¬ nI 6 = (4 : Int32) by decide), if_neg (show ¬ nI 6 = (5 : Int32) by decide), if_pos (show nI 6 = (6 : Int32) from rfl), hv]
  have key : ∀ lo hi (P : Prop) [Decidable P], (P ↔ lo ≤ v ∧ v < hi) → (if ¬ (if P then (1 : Int32) else 0) = 0 then some (0 : Int32) else some 2) = some (nI (y_jr lo hi v)) := by
    intro lo hi P _ h
    unfold y_jr
    by_cases c : P
    · rw [if_pos c, if_pos (h.mp c), if_pos (by decide)]; rfl
    · rw [if_neg c, if_neg (fun z => c (h.mpr z)), if_neg (fun z => z rfl)]; rfl
  unfold f_X2_isTrait y_q6
  by_cases c0 : vs.length = 0
  · rw [c0, if_pos (show nI 0 = (0 : Int32) from rfl), if_pos rfl]
    refine key 1 10 _ ?_
    rw [show (1 : Int32) = nI 1 from rfl, show (9 : Int32) = nI 9 from rfl, y_lt (by omega) (by omega), y_lt (by omega) (by omega)]; omega
  · rw [if_neg (show ¬ nI vs.length = (0 : Int32) by rw [show (0 : Int32) = nI 0 from rfl, y_eq (by omega) (by omega)]; exact c0), if_neg c0]
    by_cases c1 : vs.length = 1
    · rw [c1, if_pos (show nI 1 = (1 : Int32) from rfl), if_pos rfl]
      refine key 0 21 _ ?_
      rw [show (0 : Int32) = nI 0 from rfl, show (20 : Int32) = nI 20 from rfl, y_lt (by omega) (by omega), y_lt (by omega) (by omega)]; omega
    · rw [if_neg (show ¬ nI vs.length = (1 : Int32) by rw [show (1 : Int32) = nI 1 from rfl, y_eq (by omega) (by omega)]; exact c1), if_neg c1]
      by_cases c2 : vs.length = 2
      · rw [c2, if_pos (show nI 2 = (2 : Int32) from rfl), if_pos rfl]
        refine key 0 100 _ ?_
        rw [show (0 : Int32) = nI 0 from rfl, show (99 : Int32) = nI 99 from rfl, y_lt (by omega) (by omega), y_lt (by omega) (by omega)]; omega
      · rw [if_neg (show ¬ nI vs.length = (2 : Int32) by rw [show (2 : Int32) = nI 2 from rfl, y_eq (by omega) (by omega)]; exact c2), if_neg c2]
        by_cases c3 : vs.length = 3
        · rw [c3, if_pos (show nI 3 = (3 : Int32) from rfl), if_pos rfl]
          refine key 0 10 _ ?_
          rw [show (0 : Int32) = nI 0 from rfl, show (9 : Int32) = nI 9 from rfl, y_lt (by omega) (by omega), y_lt (by omega) (by omega)]; omega
        · have c4 : vs.length = 4 := by omega
          rw [if_neg (show ¬ nI vs.length = (3 : Int32) by rw [show (3 : Int32) = nI 3 from rfl, y_eq (by omega) (by omega)]; exact c3), if_neg c3, c4, if_pos (show nI 4 = (4 : Int32) from rfl), show f_X2_isHole 11 (nI v) σ' = f_X2_isHole 1 (nI v) (y_mv σ') from rfl, yc_isHole hT'.mv hW]
          refine key 0 (y_ho b) _ ?_
          rw [y_rn (by omega)]; omega
theorem y_jd7 : y_jd y_q7 (nI 7) σ := by
  intro σ' vs v fr hv vl vals h5
  refine ⟨?_, by unfold y_q7; (repeat' split) <;> exact y_jr_le⟩
  unfold f_X7_judge
  rw [if_neg (show ¬ nI 7 = (0 : Int32) by decide), if_neg (show ¬ nI 7 = (1 : Int32) by decide), if_neg (show ¬ nI 7 = (2 : Int32) by decide), if_neg (show ¬ nI 7 = (3 : Int32) by decide), if_neg (show ¬ nI 7 = (4 : Int32) by decide), if_neg (show ¬ nI 7 = (5 : Int32) by decide), if_neg (show ¬ nI 7 = (6 : Int32) by decide)]
  unfold y_q7
  by_cases c0 : vs.length = 0
  · rw [c0, if_pos (show nI 0 = (0 : Int32) from rfl), if_pos rfl, show (1 : Int32) = nI 1 from rfl, show (99 : Int32) = nI 99 from rfl, yj_w hv vl (by omega) (by omega)]
  · rw [if_neg (show ¬ nI vs.length = (0 : Int32) by rw [show (0 : Int32) = nI 0 from rfl, y_eq (by omega) (by omega)]; exact c0), if_neg c0, show (1 : Int32) = nI 1 from rfl, show (500 : Int32) = nI 500 from rfl, yj_w hv vl (by omega) (by omega)]
theorem y_jdk (hW : y_W b) (hT : y_T σ b) : ∀ k, k < 8 → y_jd (y_qk b k) (nI k) σ
  | 0, _ => y_jd0
  | 1, _ => y_jd1 hW hT
  | 2, _ => y_jd2 hW hT
  | 3, _ => y_jd3 hW hT
  | 4, _ => y_jd4 hW hT
  | 5, _ => y_jd5 hW hT
  | 6, _ => y_jd6 hW hT
  | 7, _ => y_jd7
  | _ + 8, h => absurd h (by omega)
end K
/-! ===== what a line does to the board told ===== -/
noncomputable def y_hi (b : Nat → Nat) (v : Nat) : Nat → Nat → Nat
  | 0, k => k
  | m + 1, k => if b (12 + 2 * k) = v then k else y_hi b v m (k + 1)
noncomputable def y_l9 (b : Nat → Nat) : Nat → Nat := y_u b 9 (b 9 + 1)
noncomputable def y_bb (b : Nat → Nat) (v0 v1 v2 v3 : Nat) : Nat → Nat := y_u (y_u (y_u (y_u (y_u (y_u b 0 v0) 1 v1) 2 v2) 3 v3) 10 1) 11 100
noncomputable def y_sb (b : Nat → Nat) (len t : Nat) : Nat → Nat := y_u (y_u (y_u b (12 + 2 * y_hi b t (b 4) 0) t) (13 + 2 * y_hi b t (b 4) 0) len) 4 (if y_hi b t (b 4) 0 < b 4 then b 4 else b 4 + 1)
noncomputable def y_ac (b : Nat → Nat) (v w r : Nat) : Nat → Nat := y_u (y_u (y_u (y_u b (24 + 3 * b 5) v) (25 + 3 * b 5) w) (26 + 3 * b 5) r) 5 (b 5 + 1)
noncomputable def y_pb (b : Nat → Nat) (v0 v1 v2 v3 v4 : Nat) : Nat → Nat := y_u (y_u (y_u (y_u (y_u (y_u b (96 + 5 * b 6) v0) (97 + 5 * b 6) v1) (98 + 5 * b 6) v2) (99 + 5 * b 6) v3) (100 + 5 * b 6) v4) 6 (b 6 + 1)
theorem y_hi_sp {b : Nat → Nat} {v : Nat} : ∀ m k, k ≤ y_hi b v m k ∧ y_hi b v m k ≤ k + m ∧ (∀ j, k ≤ j → j < y_hi b v m k → b (12 + 2 * j) ≠ v) ∧ (y_hi b v m k < k + m → b (12 + 2 * y_hi b v m k) = v) ∧ (y_hs b v m k = true ↔ y_hi b v m k < k + m) := by
  intro m
  induction m with
  | zero => intro k; unfold y_hi y_hs; exact ⟨Nat.le_refl _, Nat.le_refl _, fun j a c => by omega, fun z => by omega, ⟨fun z => (by cases z), fun z => by omega⟩⟩
  | succ m ih =>
    intro k
    obtain ⟨i1, i2, i3, i4, i5⟩ := ih (k + 1)
    unfold y_hi y_hs
    by_cases c : b (12 + 2 * k) = v
    · rw [if_pos c, if_pos c]
      exact ⟨Nat.le_refl _, by omega, fun j a c => by omega, fun _ => c, ⟨fun _ => by omega, fun _ => rfl⟩⟩
    · rw [if_neg c, if_neg c]
      refine ⟨by omega, by omega, fun j a d => ?_, fun z => i4 (by omega), ⟨fun z => by have := i5.mp z; omega, fun z => i5.mpr (by omega)⟩⟩
      by_cases e : j = k
      · subst e; exact c
      · exact i3 j (by omega) d
section W
variable {b : Nat → Nat}
theorem y_W.l9 (h : y_W b) (h0 : 0 < b 9) (h9 : b 9 < 1300) : y_W (y_l9 b) := by
  have b4 := h.b4; have b5 := h.b5; have b6 := h.b6
  obtain ⟨⟨a0, a1, a2, a3, a4, a5, a6, a7, a9⟩, h2, h3, h4, h5, h6, h7, h8, h9'⟩ := h
  unfold y_W y_ho y_l9 at *
  refine ⟨?_, ?_, ?_, ?_, ?_, fun j hj => ?_, fun j l hj hl => ?_, fun j hj => ?_, fun j hj => ?_⟩
  · simp (disch := omega) only [y_ue, y_un]; exact ⟨a0, a1, a2, a3, a4, a5, a6, a7, by omega⟩
  · simp (disch := omega) only [y_ue, y_un]; intro z; omega
  · simp (disch := omega) only [y_ue, y_un]; intro _; exact h3 h0
  · simp (disch := omega) only [y_un]; exact h4
  · simp (disch := omega) only [y_un]; exact h5
  · simp (disch := omega) only [y_un] at hj; simp (disch := omega) only [y_un]; exact h6 j hj
  · simp (disch := omega) only [y_un] at hl; simp (disch := omega) only [y_un]; exact h7 j l hj hl
  · simp (disch := omega) only [y_un] at hj; simp (disch := omega) only [y_un]; exact h8 j hj
  · simp (disch := omega) only [y_un] at hj; simp (disch := omega) only [y_un]; exact h9' j hj
theorem y_W.tk (h : y_W b) {v w : Nat} (hv : 1 ≤ v ∧ v ≤ 99) (hw : 1 ≤ w ∧ w ≤ 500) : y_W (y_u (y_u b 10 v) 11 w) := by
  have b4 := h.b4; have b5 := h.b5; have b6 := h.b6
  obtain ⟨h1, h2, h3, h4, h5, h6, h7, h8, h9⟩ := h
  unfold y_W y_ho at *
  refine ⟨?_, ?_, ?_, ?_, ?_, fun j hj => ?_, fun j l hj hl => ?_, fun j hj => ?_, fun j hj => ?_⟩
  · simp (disch := omega) only [y_un]; exact h1
  · simp (disch := omega) only [y_un]; exact h2
  · simp (disch := omega) only [y_ue, y_un]; intro z; have := h3 z; omega
  · simp (disch := omega) only [y_un]; exact h4
  · simp (disch := omega) only [y_un]; exact h5
  · simp (disch := omega) only [y_un] at hj; simp (disch := omega) only [y_un]; exact h6 j hj
  · simp (disch := omega) only [y_un] at hl; simp (disch := omega) only [y_un]; exact h7 j l hj hl
  · simp (disch := omega) only [y_un] at hj; simp (disch := omega) only [y_un]; exact h8 j hj
  · simp (disch := omega) only [y_un] at hj; simp (disch := omega) only [y_un]; exact h9 j hj
theorem y_W.bb (h : y_W b) (h9 : b 9 = 0) {v0 v1 v2 v3 : Nat} (g0 : 1 ≤ v0 ∧ v0 < 5) (g1 : 1 ≤ v1 ∧ v1 < 4) (g2 : 1 ≤ v2 ∧ v2 < 201) (g3 : v3 < 10) : y_W (y_l9 (y_bb b v0 v1 v2 v3)) := by
  obtain ⟨o0, o1, o2, o3, o4, o5, o6⟩ := h.off h9
  have o7 : b 7 = 0 := by
    have := h.1.2.2.2.2.2.2.2.1
    rw [show y_ho b = 0 by unfold y_ho; rw [o0, Nat.zero_mul]] at this
    omega
  have o8 := h.2.2.2.2.1 o5
  unfold y_W y_ho y_l9 y_bb
  refine ⟨?_, ?_, ?_, ?_, ?_, fun j hj => ?_, fun j l hj hl => ?_, fun j hj => ?_, fun j hj => ?_⟩
  · simp (disch := omega) only [y_ue, y_un, o4, o5, o6, o7, h9]
    refine ⟨by omega, by omega, by omega, by omega, by omega, by omega, by omega, Nat.pow_pos (by omega), by omega⟩
  · simp (disch := omega) only [y_ue, y_un, h9]; intro z; omega
  · simp (disch := omega) only [y_ue, y_un]; intro _; omega
  · simp (disch := omega) only [y_un, o5]; intro z; omega
  · simp (disch := omega) only [y_un]; exact fun _ => o8
  · simp (disch := omega) only [y_un, o4] at hj; omega
  · simp (disch := omega) only [y_un, o4] at hl; omega
  · simp (disch := omega) only [y_un, o5] at hj; omega
  · simp (disch := omega) only [y_un, o6] at hj; omega
theorem y_ac_lo {v w r j : Nat} (h : j < 24) (h' : j ≠ 5) : y_ac b v w r j = b j := by unfold y_ac; simp (disch := omega) only [y_un]
theorem y_ac_hi {v w r j : Nat} (h5 : b 5 < 24) (h : 96 ≤ j) : y_ac b v w r j = b j := by unfold y_ac; simp (disch := omega) only [y_un]
theorem y_ac_5 {v w r : Nat} : y_ac b v w r 5 = b 5 + 1 := y_ue
theorem y_ac_old {v w r k : Nat} (h : k < b 5) : y_ac b v w r (24 + 3 * k) = b (24 + 3 * k) ∧ y_ac b v w r (25 + 3 * k) = b (25 + 3 * k) ∧ y_ac b v w r (26 + 3 * k) = b (26 + 3 * k) := by
  unfold y_ac; simp (disch := omega) only [y_un]; exact ⟨trivial, trivial, trivial⟩
theorem y_ac_new {v w r : Nat} : y_ac b v w r (24 + 3 * b 5) = v ∧ y_ac b v w r (25 + 3 * b 5) = w ∧ y_ac b v w r (26 + 3 * b 5) = r := by
  unfold y_ac; simp (disch := omega) only [y_ue, y_un]; exact ⟨trivial, trivial, trivial⟩
theorem y_W.ac (h : y_W b) (h5' : b 5 < 24) {v w r : Nat} (hv : v < y_ho b ∧ y_sh b v = 0) (hw : w = 0 ∨ (w ≤ y_ho b ∧ w ≠ v + 1 ∧ y_sh b (w - 1) = 0 ∧ r = 0)) (hr : r ≤ 1) : y_W (y_ac b v w r) := by
  have on : 0 < b 9 := by
    rcases Nat.eq_zero_or_pos (b 9) with z | z
    · have q := h.2.1 z
      have e : y_ho b = 0 := by unfold y_ho; rw [q.1, Nat.zero_mul]
      exact absurd hv.1 (by rw [e]; exact Nat.not_lt_zero _)
    · exact z
  have b4 := h.b4; have b5 := h.b5; have b6 := h.b6
  obtain ⟨⟨a0, a1, a2, a3, a4, a5, a6, a7, a9⟩, h2, h3, h4, h5, h6, h7, h8, h9⟩ := h
  have ho : y_ho (y_ac b v w r) = y_ho b := by unfold y_ho; rw [y_ac_lo (by decide) (by decide), y_ac_lo (by decide) (by decide)]
  unfold y_W
  rw [ho]
  simp (disch := decide) only [y_ac_lo, y_ac_5]
  refine ⟨⟨a0, a1, a2, a3, a4, by clear h2 h3 h4 h5 h6 h7 h8 h9 a7; omega, a6, a7, a9⟩, fun z => absurd z (Nat.pos_iff_ne_zero.mp on), h3, fun _ => ?_, fun z => absurd z (Nat.succ_ne_zero _), fun j hj => ?_, fun j l hj hl => ?_, fun j hj => ?_, fun j hj => ?_⟩
  · rcases Nat.eq_zero_or_pos (b 5) with z | z
    · rw [h5 z]; exact Nat.succ_pos _
    · exact Nat.lt_succ_of_lt (h4 z)
  · rw [y_ac_lo (by clear h2 h3 h4 h5 h6 h7 h8 h9 a7; omega) (by clear h2 h3 h4 h5 h6 h7 h8 h9 a7; omega), y_ac_lo (by clear h2 h3 h4 h5 h6 h7 h8 h9 a7; omega) (by clear h2 h3 h4 h5 h6 h7 h8 h9 a7; omega)]; exact h6 j hj
  · rw [y_ac_lo (by clear h2 h3 h4 h5 h6 h7 h8 h9 a7; omega) (by clear h2 h3 h4 h5 h6 h7 h8 h9 a7; omega), y_ac_lo (by clear h2 h3 h4 h5 h6 h7 h8 h9 a7; omega) (by clear h2 h3 h4 h5 h6 h7 h8 h9 a7; omega)]; exact h7 j l hj hl
  · rcases Nat.lt_succ_iff_lt_or_eq.mp hj with e | rfl
    · obtain ⟨e0, e1, e2⟩ := y_ac_old (v := v) (w := w) (r := r) e
      rw [e0, e1, e2]; exact h8 j e
    · obtain ⟨e0, e1, e2⟩ := y_ac_new (b := b) (v := v) (w := w) (r := r)
      rw [e0, e1, e2]
      clear h2 h3 h4 h5 h6 h7 h8 h9 a7 e0 e1 e2 ho
      refine ⟨hv.1, by omega, by omega, hr, fun z => by omega, hv.2, fun z => ?_⟩
      rcases hw with q | q
      · omega
      · exact q.2.2.1
  · rw [y_ac_hi h5' (by clear h2 h3 h4 h5 h6 h7 h8 h9 a7; omega), y_ac_hi h5' (by clear h2 h3 h4 h5 h6 h7 h8 h9 a7; omega), y_ac_hi h5' (by clear h2 h3 h4 h5 h6 h7 h8 h9 a7; omega), y_ac_hi h5' (by clear h2 h3 h4 h5 h6 h7 h8 h9 a7; omega), y_ac_hi h5' (by clear h2 h3 h4 h5 h6 h7 h8 h9 a7; omega)]; exact h9 j hj
theorem y_pb_lo {v0 v1 v2 v3 v4 j : Nat} (h : j < 96) (h' : j ≠ 6) : y_pb b v0 v1 v2 v3 v4 j = b j := by unfold y_pb; simp (disch := omega) only [y_un]
theorem y_pb_6 {v0 v1 v2 v3 v4 : Nat} : y_pb b v0 v1 v2 v3 v4 6 = b 6 + 1 := y_ue
theorem y_pb_old {v0 v1 v2 v3 v4 k : Nat} (h : k < b 6) : y_pb b v0 v1 v2 v3 v4 (96 + 5 * k) = b (96 + 5 * k) ∧ y_pb b v0 v1 v2 v3 v4 (97 + 5 * k) = b (97 + 5 * k) ∧ y_pb b v0 v1 v2 v3 v4 (98 + 5 * k) = b (98 + 5 * k) ∧ y_pb b v0 v1 v2 v3 v4 (99 + 5 * k) = b (99 + 5 * k) ∧ y_pb b v0 v1 v2 v3 v4 (100 + 5 * k) = b (100 + 5 * k) := by
  unfold y_pb; simp (disch := omega) only [y_un]; exact ⟨trivial, trivial, trivial, trivial, trivial⟩
theorem y_pb_new {v0 v1 v2 v3 v4 : Nat} : y_pb b v0 v1 v2 v3 v4 (96 + 5 * b 6) = v0 ∧ y_pb b v0 v1 v2 v3 v4 (97 + 5 * b 6) = v1 ∧ y_pb b v0 v1 v2 v3 v4 (98 + 5 * b 6) = v2 ∧ y_pb b v0 v1 v2 v3 v4 (99 + 5 * b 6) = v3 ∧ y_pb b v0 v1 v2 v3 v4 (100 + 5 * b 6) = v4 := by
  unfold y_pb; simp (disch := omega) only [y_ue, y_un]; exact ⟨trivial, trivial, trivial, trivial, trivial⟩
theorem y_W.pb (h : y_W b) (h6' : b 6 < 4) (on : 0 < b 9) {v0 v1 v2 v3 v4 : Nat} (g0 : 1 ≤ v0 ∧ v0 < 10) (g1 : v1 < 21) (g2 : v2 < 100) (g3 : v3 < 10) (g4 : v4 < y_ho b) : y_W (y_pb b v0 v1 v2 v3 v4) := by
  have b4 := h.b4; have b5 := h.b5; have b6 := h.b6
  obtain ⟨⟨a0, a1, a2, a3, a4, a5, a6, a7, a9⟩, h2, h3, h4, h5, h6, h7, h8, h9⟩ := h
  have ho : y_ho (y_pb b v0 v1 v2 v3 v4) = y_ho b := by unfold y_ho; rw [y_pb_lo (by decide) (by decide), y_pb_lo (by decide) (by decide)]
  unfold y_W
  rw [ho]
  simp (disch := decide) only [y_pb_lo, y_pb_6]
  refine ⟨⟨a0, a1, a2, a3, a4, a5, h6', a7, a9⟩, fun z => absurd z (Nat.pos_iff_ne_zero.mp on), h3, h4, h5, fun j hj => ?_, fun j l hj hl => ?_, fun j hj => ?_, fun j hj => ?_⟩
  · rw [y_pb_lo (by clear h2 h3 h4 h5 h6 h7 h8 h9 a7; omega) (by clear h2 h3 h4 h5 h6 h7 h8 h9 a7; omega), y_pb_lo (by clear h2 h3 h4 h5 h6 h7 h8 h9 a7; omega) (by clear h2 h3 h4 h5 h6 h7 h8 h9 a7; omega)]; exact h6 j hj
  · rw [y_pb_lo (by clear h2 h3 h4 h5 h6 h7 h8 h9 a7; omega) (by clear h2 h3 h4 h5 h6 h7 h8 h9 a7; omega), y_pb_lo (by clear h2 h3 h4 h5 h6 h7 h8 h9 a7; omega) (by clear h2 h3 h4 h5 h6 h7 h8 h9 a7; omega)]; exact h7 j l hj hl
  · rw [y_pb_lo (by clear h2 h3 h4 h5 h6 h7 h8 h9 a7; omega) (by clear h2 h3 h4 h5 h6 h7 h8 h9 a7; omega), y_pb_lo (by clear h2 h3 h4 h5 h6 h7 h8 h9 a7; omega) (by clear h2 h3 h4 h5 h6 h7 h8 h9 a7; omega), y_pb_lo (by clear h2 h3 h4 h5 h6 h7 h8 h9 a7; omega) (by clear h2 h3 h4 h5 h6 h7 h8 h9 a7; omega)]; exact h8 j hj
  · rcases Nat.lt_succ_iff_lt_or_eq.mp hj with e | rfl
    · obtain ⟨e0, e1, e2, e3, e4⟩ := y_pb_old (v0 := v0) (v1 := v1) (v2 := v2) (v3 := v3) (v4 := v4) e
      rw [e0, e1, e2, e3, e4]; exact h9 j e
    · obtain ⟨e0, e1, e2, e3, e4⟩ := y_pb_new (b := b) (v0 := v0) (v1 := v1) (v2 := v2) (v3 := v3) (v4 := v4)
      rw [e0, e1, e2, e3, e4]
      exact ⟨g0.1, Nat.le_of_lt_succ g0.2, Nat.le_of_lt_succ g1, Nat.le_of_lt_succ g2, Nat.le_of_lt_succ g3, g4⟩
theorem y_sb_lo {l t j : Nat} (h : j < 12) (h' : j ≠ 4) : y_sb b l t j = b j := by unfold y_sb; simp (disch := omega) only [y_un]
theorem y_sb_hi {l t j : Nat} (h : y_hi b t (b 4) 0 < 6) (h' : 24 ≤ j) : y_sb b l t j = b j := by unfold y_sb; simp (disch := omega) only [y_un]
theorem y_sb_4 {l t : Nat} : y_sb b l t 4 = (if y_hi b t (b 4) 0 < b 4 then b 4 else b 4 + 1) := y_ue
theorem y_sb_old {l t k : Nat} (h : k ≠ y_hi b t (b 4) 0) : y_sb b l t (12 + 2 * k) = b (12 + 2 * k) ∧ y_sb b l t (13 + 2 * k) = b (13 + 2 * k) := by
  unfold y_sb; simp (disch := omega) only [y_un]; exact ⟨trivial, trivial⟩
theorem y_sb_new {l t k : Nat} (h : k = y_hi b t (b 4) 0) : y_sb b l t (12 + 2 * k) = t ∧ y_sb b l t (13 + 2 * k) = l := by
  subst h; unfold y_sb; simp (disch := omega) only [y_ue, y_un]; exact ⟨trivial, trivial⟩
theorem y_W.sb (h : y_W b) {l t : Nat} (hl : 1 ≤ l ∧ l < 41) (ht : t < b 2) (h4' : y_hi b t (b 4) 0 < b 4 ∨ b 4 < 6) : y_W (y_sb b l t) := by
  have b4 := h.b4
  obtain ⟨s1, s2, s3, s4, _⟩ := y_hi_sp (b := b) (v := t) (b 4) 0
  have on := h.on0 (Or.inr (Or.inl (show 0 < b 2 by omega)))
  obtain ⟨⟨a0, a1, a2, a3, a4, a5, a6, a7, a9⟩, h2, h3, h4, h5, h6, h7, h8, h9⟩ := h
  have ho : y_ho (y_sb b l t) = y_ho b := by unfold y_ho; rw [y_sb_lo (by decide) (by decide), y_sb_lo (by decide) (by decide)]
  have i6 : y_hi b t (b 4) 0 < 6 := by clear s3 s4 h2 h3 h4 h5 h6 h7 h8 h9 a7 ho; omega
  unfold y_W
  rw [ho]
  simp (disch := decide) only [y_sb_lo, y_sb_4]
  have up : ∀ j, j < (if y_hi b t (b 4) 0 < b 4 then b 4 else b 4 + 1) → j ≠ y_hi b t (b 4) 0 → j < b 4 := fun j q e => by
    clear s3 s4 h2 h3 h4 h5 h6 h7 h8 h9 a7 ho; split at q <;> omega
  refine ⟨⟨a0, a1, a2, a3, by clear s3 s4 h2 h3 h4 h5 h6 h7 h8 h9 a7 ho; split <;> omega, a5, a6, a7, a9⟩, fun z => absurd z (Nat.pos_iff_ne_zero.mp on), h3, h4, h5, fun j hj => ?_, fun j l' hj hl' => ?_, fun j hj => ?_, fun j hj => ?_⟩
  · by_cases e : j = y_hi b t (b 4) 0
    · obtain ⟨e0, e1⟩ := y_sb_new (b := b) (l := l) e
      rw [e0, e1]; exact ⟨ht, hl.1, Nat.le_of_lt_succ hl.2⟩
    · obtain ⟨e0, e1⟩ := y_sb_old (b := b) (l := l) e
      rw [e0, e1]; exact h6 j (up j hj e)
  · by_cases e : l' = y_hi b t (b 4) 0
    · rw [(y_sb_new (b := b) (l := l) e).1, (y_sb_old (b := b) (l := l) (k := j) (by clear s3 s4 h2 h3 h4 h5 h6 h7 h8 h9 a7 ho up; omega)).1]
      exact s3 j (Nat.zero_le _) (by rw [← e]; exact hj)
    · have l4 : l' < b 4 := up l' hl' e
      rw [(y_sb_old (b := b) (l := l) (t := t) e).1]
      by_cases e2 : j = y_hi b t (b 4) 0
      · rw [(y_sb_new (b := b) (l := l) e2).1]
        intro z
        exact h7 j l' hj l4 (by rw [e2, s4 (by clear s3 s4 h2 h3 h4 h5 h6 h7 h8 h9 a7 ho up; omega)]; exact z)
      · rw [(y_sb_old (b := b) (l := l) (t := t) e2).1]; exact h7 j l' hj l4
  · rw [y_sb_hi i6 (Nat.le_add_right 24 _), y_sb_hi i6 (show 24 ≤ 25 + 3 * j by clear s3 s4 h2 h3 h4 h5 h6 h7 h8 h9 a7 ho up; omega), y_sb_hi i6 (show 24 ≤ 26 + 3 * j by clear s3 s4 h2 h3 h4 h5 h6 h7 h8 h9 a7 ho up; omega)]; exact h8 j hj
  · rw [y_sb_hi i6 (show 24 ≤ 96 + 5 * j by clear s3 s4 h2 h3 h4 h5 h6 h7 h8 h9 a7 ho up; omega), y_sb_hi i6 (show 24 ≤ 97 + 5 * j by clear s3 s4 h2 h3 h4 h5 h6 h7 h8 h9 a7 ho up; omega), y_sb_hi i6 (show 24 ≤ 98 + 5 * j by clear s3 s4 h2 h3 h4 h5 h6 h7 h8 h9 a7 ho up; omega), y_sb_hi i6 (show 24 ≤ 99 + 5 * j by clear s3 s4 h2 h3 h4 h5 h6 h7 h8 h9 a7 ho up; omega), y_sb_hi i6 (show 24 ≤ 100 + 5 * j by clear s3 s4 h2 h3 h4 h5 h6 h7 h8 h9 a7 ho up; omega)]; exact h9 j hj
end W
/-! ===== the class applies a line ===== -/
def y_ft2 (σ σ' : j_G) : Prop := (∀ c, c < 10 ∨ 18 < c → c ≠ 21 → σ'.1 c = σ.1 c) ∧ (σ'.1 10 = σ.1 10) ∧ σ'.2 = σ.2
section A
variable {σ : j_G} {b : Nat → Nat}
theorem y_ft2.refl : y_ft2 σ σ := ⟨fun _ _ _ => rfl, rfl, rfl⟩
theorem y_ft2.si {σ' : j_G} {c j : Nat} {v : Int32} (h : y_ft2 σ σ') (hc : 11 ≤ c ∧ c ≤ 18) : y_ft2 σ (j_si σ' c j v) :=
  ⟨fun c' a a' => (funext fun j' => j_r_ne (by omega)).trans (h.1 c' a a'), (funext fun j' => j_r_ne (by omega)).trans h.2.1, h.2.2⟩
theorem y_ft2.trans {σ' σ'' : j_G} (h : y_ft2 σ σ') (h' : y_ft2 σ' σ'') : y_ft2 σ σ'' := ⟨fun c a d => (h'.1 c a d).trans (h.1 c a d), h'.2.1.trans h.2.1, h'.2.2.trans h.2.2⟩
theorem y_T.l9 (h : y_T σ b) (h0 : 0 < b 9) : y_T (j_si σ 11 1 (nI (b 9 + 1))) (y_l9 b) := by
  obtain ⟨⟨f1, f2, f3, f4, f5, f6, f7, f10, d0, d1⟩, f8, s, t, c⟩ := h
  unfold y_T y_cb y_l9
  refine ⟨?_, ?_, ?_, ?_, ?_⟩
  · simp (disch := omega) only [j_r_ne, j_r_eq, j_r_nj, y_ue, y_un]
    exact ⟨trivial, f2, f3, f4, f5, f6, f7, f10, d0, d1⟩
  · simp (disch := omega) only [j_r_ne, j_r_eq, j_r_nj, y_ue, y_un]; exact fun _ => f8 h0
  · simp (disch := omega) only [j_r_ne, j_r_eq, j_r_nj, y_ue, y_un]; exact s
  · intro p q hp hq
    simp (disch := omega) only [y_ue, y_un] at hp
    have := t p q hp hq
    simp (disch := omega) only [j_r_ne, j_r_eq, j_r_nj, y_ue, y_un]; exact this
  · simp (disch := omega) only [j_r_ne, j_r_eq, j_r_nj, y_ue, y_un]; exact c
theorem y_T.tk (h : y_T σ b) {v w : Nat} : y_T (j_si (j_si σ 11 8 (nI v)) 11 9 (nI w)) (y_u (y_u b 10 v) 11 w) := by
  obtain ⟨⟨f1, f2, f3, f4, f5, f6, f7, f10, d0, d1⟩, f8, s, t, c⟩ := h
  unfold y_T y_cb
  refine ⟨?_, ?_, ?_, ?_, ?_⟩
  · simp (disch := omega) only [j_r_ne, j_r_eq, j_r_nj, y_ue, y_un]
    exact ⟨f1, f2, f3, f4, f5, f6, f7, f10, d0, d1⟩
  · simp (disch := omega) only [j_r_ne, j_r_eq, j_r_nj, y_ue, y_un]; exact fun _ => ⟨trivial, trivial⟩
  · simp (disch := omega) only [j_r_ne, j_r_eq, j_r_nj, y_ue, y_un]; exact s
  · intro p q hp hq
    simp (disch := omega) only [y_ue, y_un] at hp
    have := t p q hp hq
    simp (disch := omega) only [j_r_ne, j_r_eq, j_r_nj, y_ue, y_un]; exact this
  · simp (disch := omega) only [j_r_ne, j_r_eq, j_r_nj, y_ue, y_un]; exact c
theorem y_T.s7 (h : y_T σ b) {v : Nat} : y_T (j_si σ 11 6 (nI v)) (y_u b 7 v) := by
  obtain ⟨⟨f1, f2, f3, f4, f5, f6, f7, f10, d0, d1⟩, f8, s, t, c⟩ := h
  unfold y_T y_cb
  refine ⟨?_, ?_, ?_, ?_, ?_⟩
  · simp (disch := omega) only [j_r_ne, j_r_eq, j_r_nj, y_ue, y_un]
    exact ⟨f1, f2, f3, f4, f5, trivial, f7, f10, d0, d1⟩
  · simp (disch := omega) only [j_r_ne, j_r_eq, j_r_nj, y_ue, y_un]; exact f8
  · simp (disch := omega) only [j_r_ne, j_r_eq, j_r_nj, y_ue, y_un]; exact s
  · intro p q hp hq
    simp (disch := omega) only [y_ue, y_un] at hp
    have := t p q hp hq
    simp (disch := omega) only [j_r_ne, j_r_eq, j_r_nj, y_ue, y_un]; exact this
  · simp (disch := omega) only [j_r_ne, j_r_eq, j_r_nj, y_ue, y_un]; exact c
/-- a board -/
theorem y_T.bb (h : y_T σ b) (hW : y_W b) (h9 : b 9 = 0) (t8 : σ.1 11 8 = nI 1) (t9 : σ.1 11 9 = nI 100) {v0 v1 v2 v3 : Nat} : y_T (j_si (j_si (j_si (j_si (j_si σ 11 2 (nI v0)) 11 3 (nI v1)) 11 4 (nI v2)) 11 5 (nI v3)) 11 1 (nI (b 9 + 1))) (y_l9 (y_bb b v0 v1 v2 v3)) := by
  obtain ⟨o0, o1, o2, o3, o4, o5, o6⟩ := hW.off h9
  obtain ⟨⟨f1, f2, f3, f4, f5, f6, f7, f10, d0, d1⟩, f8, s, t, c⟩ := h
  unfold y_T y_cb y_l9 y_bb
  refine ⟨?_, ?_, ?_, ?_, ?_⟩
  · simp (disch := omega) only [j_r_ne, j_r_eq, j_r_nj, y_ue, y_un]
    exact ⟨trivial, trivial, trivial, trivial, trivial, f6, f7, f10, d0, d1⟩
  · simp (disch := omega) only [j_r_ne, j_r_eq, j_r_nj, y_ue, y_un]; exact fun _ => ⟨t8, t9⟩
  · intro k hk; simp (disch := omega) only [y_un, o4] at hk; omega
  · intro p q hp hq; simp (disch := omega) only [y_un, o6] at hp; omega
  · intro k hk; simp (disch := omega) only [y_un, o5] at hk; omega
/-- a coming -/
theorem y_T.ac (h : y_T σ b) (hW : y_W b) (h5' : b 5 < 24) {v w r : Nat} : y_T (j_si (j_si (j_si (j_si σ 16 (b 5) (nI v)) 17 (b 5) (nP w)) 18 (b 5) (nI r)) 15 0 (nI (b 5 + 1))) (y_ac b v w r) := by
  have b4 := hW.b4; have b6 := hW.b6
  obtain ⟨⟨f1, f2, f3, f4, f5, f6, f7, f10, d0, d1⟩, f8, s, t, c⟩ := h
  unfold y_T y_cb
  refine ⟨?_, ?_, fun k hk => ?_, fun p q hp hq => ?_, fun k hk => ?_⟩
  · simp (disch := decide) only [j_r_ne, j_r_eq, j_r_nj, y_ac_lo, y_ac_5]
    exact ⟨f1, f2, f3, f4, f5, f6, f7, f10, trivial, d1⟩
  · simp (disch := decide) only [j_r_ne, j_r_eq, j_r_nj, y_ac_lo]; exact f8
  · rw [y_ac_lo (by decide) (by decide)] at hk
    rw [y_ac_lo (by omega) (by omega), y_ac_lo (by omega) (by omega)]
    simp (disch := decide) only [j_r_ne]; exact s k hk
  · rw [y_ac_lo (by decide) (by decide)] at hp
    rw [y_ac_hi h5' (by omega)]
    simp (disch := decide) only [j_r_ne]; exact t p q hp hq
  · rw [y_ac_5] at hk
    by_cases e : k = b 5
    · subst e
      obtain ⟨e0, e1, e2⟩ := y_ac_new (b := b) (v := v) (w := w) (r := r)
      rw [e0, e1, e2]
      simp (disch := decide) only [j_r_ne, j_r_eq]; exact ⟨trivial, trivial, trivial⟩
    · obtain ⟨e0, e1, e2⟩ := y_ac_old (b := b) (v := v) (w := w) (r := r) (k := k) (by omega)
      rw [e0, e1, e2]
      simp (disch := first | decide | exact e) only [j_r_ne, j_r_nj]; exact c k (by omega)
theorem yc_addC {σ : j_G} (h : y_T σ b) (h5' : b 5 < 24) {v w r : Int32} : f_X3_add v w r σ = some (j_si (j_si (j_si (j_si σ 16 (b 5) v) 17 (b 5) w) 18 (b 5) r) 15 0 (nI (b 5 + 1))) := by
  have d0 := h.d0
  unfold f_X3_add
  simp (disch := omega) only [y_lit, y_n1, nI_add, pk_mul, j_lt, j_b1_s, j_b2_s, j_b3_s, j_b0_s, y_bo, y_bo1, y_bo0, y_i0, y_i1, Classical.not_not, nI_clamp, y_ix, y_lt, y_le, y_eq, y_nP, y_nPs, y_ltP, y_ltQ, y_ltPP, y_eqP, y_eqQ, y_eqPP, if_pos, if_neg, ite_true, ite_false, not_true_eq_false, not_false_eq_true, and_true, true_and, and_false, false_and, or_true, true_or, or_false, false_or, j_r_ne, j_r_eq, j_r_nj, d0]
/-- a player -/
theorem y_T.pb (h : y_T σ b) (hW : y_W b) (h6' : b 6 < 4) {v0 v1 v2 v3 v4 : Nat} : y_T (j_si (j_si (j_si (j_si (j_si (j_si σ 14 (5 * b 6) (nI v0)) 14 (5 * b 6 + 1) (nI v1)) 14 (5 * b 6 + 2) (nI v2)) 14 (5 * b 6 + 3) (nI v3)) 14 (5 * b 6 + 4) (nI v4)) 11 7 (nI (b 6 + 1))) (y_pb b v0 v1 v2 v3 v4) := by
  have b4 := hW.b4; have b5 := hW.b5
  obtain ⟨⟨f1, f2, f3, f4, f5, f6, f7, f10, d0, d1⟩, f8, s, t, c⟩ := h
  unfold y_T y_cb
  refine ⟨?_, ?_, fun k hk => ?_, fun p q hp hq => ?_, fun k hk => ?_⟩
  · simp (disch := decide) only [j_r_ne, j_r_eq, j_r_nj, y_pb_lo, y_pb_6]
    exact ⟨f1, f2, f3, f4, f5, f6, trivial, f10, d0, d1⟩
  · simp (disch := decide) only [j_r_ne, j_r_eq, j_r_nj, y_pb_lo]; exact f8
  · rw [y_pb_lo (by decide) (by decide)] at hk
    rw [y_pb_lo (by omega) (by omega), y_pb_lo (by omega) (by omega)]
    simp (disch := decide) only [j_r_ne]; exact s k hk
  · rw [y_pb_6] at hp
    by_cases e : p = b 6
    · subst e
      obtain ⟨e0, e1, e2, e3, e4⟩ := y_pb_new (b := b) (v0 := v0) (v1 := v1) (v2 := v2) (v3 := v3) (v4 := v4)
      clear f8
      obtain rfl | rfl | rfl | rfl | rfl : q = 0 ∨ q = 1 ∨ q = 2 ∨ q = 3 ∨ q = 4 := by omega
      · simp only [Nat.add_zero]; rw [e0]; simp (disch := omega) only [j_r_ne, j_r_eq, j_r_nj]
      · rw [show 96 + 5 * b 6 + 1 = 97 + 5 * b 6 by omega, e1]; simp (disch := omega) only [j_r_ne, j_r_eq, j_r_nj]
      · rw [show 96 + 5 * b 6 + 2 = 98 + 5 * b 6 by omega, e2]; simp (disch := omega) only [j_r_ne, j_r_eq, j_r_nj]
      · rw [show 96 + 5 * b 6 + 3 = 99 + 5 * b 6 by omega, e3]; simp (disch := omega) only [j_r_ne, j_r_eq, j_r_nj]
      · rw [show 96 + 5 * b 6 + 4 = 100 + 5 * b 6 by omega, e4]; simp (disch := omega) only [j_r_ne, j_r_eq, j_r_nj]
    · have := t p q (by omega) hq
      clear f8
      unfold y_pb
      simp (disch := omega) only [j_r_ne, j_r_nj, y_un]; exact this
  · rw [y_pb_lo (by decide) (by decide)] at hk
    rw [y_pb_lo (by omega) (by omega), y_pb_lo (by omega) (by omega), y_pb_lo (by omega) (by omega)]
    simp (disch := decide) only [j_r_ne]; exact c k (by omega)
theorem yc_addP (h : y_T σ b) (h6' : b 6 < 4) {v0 v1 v2 v3 v4 : Int32} (g0 : σ.1 21 0 = v0) (g1 : σ.1 21 1 = v1) (g2 : σ.1 21 2 = v2) (g3 : σ.1 21 3 = v3) (g4 : σ.1 21 4 = v4) : f_X7_addPlayer σ = some (j_si (j_si (j_si (j_si (j_si (j_si σ 14 (5 * b 6) v0) 14 (5 * b 6 + 1) v1) 14 (5 * b 6 + 2) v2) 14 (5 * b 6 + 3) v3) 14 (5 * b 6 + 4) v4) 11 7 (nI (b 6 + 1))) := by
  have f7 := h.f7
  have step : ∀ q f (σ' : j_G), q < 5 → σ'.1 11 7 = nI (b 6) → p_X7_addPlayer_2 (f + 1) (nI q) σ' = p_X7_addPlayer_2 f (nI (q + 1)) (j_si σ' 14 (5 * b 6 + q) (σ'.1 21 q)) := by
    intro q f σ' hq e
    rw [p_X7_addPlayer_2.eq_def]
    unfold f_X2_setTrait
    simp (disch := omega) only [y_lit, y_n1, nI_add, pk_mul, j_lt, j_b1_s, j_b2_s, j_b3_s, j_b0_s, y_bo, y_bo1, y_bo0, y_i0, y_i1, Classical.not_not, nI_clamp, y_ix, y_lt, y_le, y_eq, y_nP, y_nPs, y_ltP, y_ltQ, y_ltPP, y_eqP, y_eqQ, y_eqPP, if_pos, if_neg, ite_true, ite_false, not_true_eq_false, not_false_eq_true, and_true, true_and, and_false, false_and, or_true, true_or, or_false, false_or, e, Nat.mul_comm (b 6) 5]
  have last : ∀ f (σ' : j_G), p_X7_addPlayer_2 (f + 1) (nI 5) σ' = some σ' := by
    intro f σ'
    unfold p_X7_addPlayer_2
    simp (disch := omega) only [y_lit, y_n1, nI_add, pk_mul, j_lt, j_b1_s, j_b2_s, j_b3_s, j_b0_s, y_bo, y_bo1, y_bo0, y_i0, y_i1, Classical.not_not, nI_clamp, y_ix, y_lt, y_le, y_eq, y_nP, y_nPs, y_ltP, y_ltQ, y_ltPP, y_eqP, y_eqQ, y_eqPP, if_pos, if_neg, ite_true, ite_false, not_true_eq_false, not_false_eq_true, and_true, true_and, and_false, false_and, or_true, true_or, or_false, false_or]
  unfold f_X7_addPlayer
  obtain ⟨f, hf⟩ : ∃ f, j_F = f + 1 + 1 + 1 + 1 + 1 + 1 := ⟨_, rfl⟩
  rw [hf, show (0 : Int32) = nI 0 from rfl, step 0 _ _ (by omega) f7, step 1 _ _ (by omega) (by simp (disch := omega) only [j_r_ne, j_r_eq, j_r_nj]; exact f7), step 2 _ _ (by omega) (by simp (disch := omega) only [j_r_ne, j_r_eq, j_r_nj]; exact f7), step 3 _ _ (by omega) (by simp (disch := omega) only [j_r_ne, j_r_eq, j_r_nj]; exact f7), step 4 _ _ (by omega) (by simp (disch := omega) only [j_r_ne, j_r_eq, j_r_nj]; exact f7), last, j_b1_s]
  simp (disch := omega) only [y_lit, y_n1, nI_add, pk_mul, j_lt, j_b1_s, j_b2_s, j_b3_s, j_b0_s, y_bo, y_bo1, y_bo0, y_i0, y_i1, Classical.not_not, nI_clamp, y_ix, y_lt, y_le, y_eq, y_nP, y_nPs, y_ltP, y_ltQ, y_ltPP, y_eqP, y_eqQ, y_eqPP, if_pos, if_neg, ite_true, ite_false, not_true_eq_false, not_false_eq_true, and_true, true_and, and_false, false_and, or_true, true_or, or_false, false_or, j_r_ne, j_r_eq, j_r_nj, f7, g0, g1, g2, g3, g4, Nat.add_zero]
/-- a stay -/
theorem yc_sset (h : y_T σ b) (hW : y_W b) {l t : Nat} (ht : t ≤ 1000000) : ∀ m k f, k + m = b 4 → m < f → (y_hi b t m k < b 4 ∨ b 4 < 6) → p_X2_setStay_2 (nI l) (nI t) σ f (nI k) = some (if y_hi b t m k < b 4 then j_si σ 13 (y_hi b t m k) (nI l) else j_si (j_si (j_si σ 12 (b 4) (nI t)) 13 (b 4) (nI l)) 11 10 (nI (b 4 + 1))) := by
  have b4 := hW.b4
  have b2 := hW.b2
  have f10 := h.f10
  intro m
  induction m with
  | zero =>
    intro k f hk hf h4'
    obtain ⟨f, rfl⟩ := y_pos hf
    unfold p_X2_setStay_2 y_hi
    unfold y_hi at h4'
    have b46 : b 4 < 6 := by omega
    simp (disch := omega) only [y_lit, y_n1, nI_add, pk_mul, j_lt, j_b1_s, j_b2_s, j_b3_s, j_b0_s, y_bo, y_bo1, y_bo0, y_i0, y_i1, Classical.not_not, nI_clamp, y_ix, y_lt, y_le, y_eq, y_nP, y_nPs, y_ltP, y_ltQ, y_ltPP, y_eqP, y_eqQ, y_eqPP, if_pos, if_neg, ite_true, ite_false, not_true_eq_false, not_false_eq_true, and_true, true_and, and_false, false_and, or_true, true_or, or_false, false_or, j_r_ne, j_r_eq, j_r_nj, f10]
  | succ m ih =>
    intro k f hk hf h4'
    obtain ⟨f, rfl⟩ := y_pos hf
    have st := hW.st (k := k) (by omega)
    unfold p_X2_setStay_2 y_hi
    unfold y_hi at h4'
    simp (disch := omega) only [y_lit, y_n1, nI_add, pk_mul, j_lt, j_b1_s, j_b2_s, j_b3_s, j_b0_s, y_bo, y_bo1, y_bo0, y_i0, y_i1, Classical.not_not, nI_clamp, y_ix, y_lt, y_le, y_eq, y_nP, y_nPs, y_ltP, y_ltQ, y_ltPP, y_eqP, y_eqQ, y_eqPP, if_pos, if_neg, ite_true, ite_false, not_true_eq_false, not_false_eq_true, and_true, true_and, and_false, false_and, or_true, true_or, or_false, false_or, f10, h.s1]
    by_cases c : b (12 + 2 * k) = t
    · rw [if_pos c, if_pos c, if_pos (by omega)]
    · rw [if_neg c] at h4'
      rw [if_neg c, if_neg c]
      exact ih (k + 1) f (by omega) (by omega) h4'
theorem y_T.sb (h : y_T σ b) (hW : y_W b) {l t : Nat} (ht : t ≤ 1000000) (h4' : y_hi b t (b 4) 0 < b 4 ∨ b 4 < 6) :
    ∃ σ', f_X2_setStay (nI l) (nI t) σ = some σ' ∧ y_T σ' (y_sb b l t) ∧ y_ft2 σ σ' := by
  have b4 := hW.b4
  obtain ⟨s1, s2, s3, s4, _⟩ := y_hi_sp (b := b) (v := t) (b 4) 0
  have key := yc_sset h hW (l := l) ht (b 4) 0 j_F (by omega) (y_F (by omega)) h4'
  obtain ⟨⟨f1, f2, f3, f4, f5, f6, f7, f10, d0, d1⟩, f8, s, tt, c⟩ := h
  unfold f_X2_setStay
  rw [show (0 : Int32) = nI 0 from rfl, key]
  have lo : ∀ j, j < 12 → j ≠ 4 → y_sb b l t j = b j := fun j => y_sb_lo
  have hi : ∀ j, 24 ≤ j → y_sb b l t j = b j := fun j => y_sb_hi (by clear f8; omega)
  have e4 : y_sb b l t 4 = (if y_hi b t (b 4) 0 < b 4 then b 4 else b 4 + 1) := y_sb_4
  have old : ∀ k, k ≠ y_hi b t (b 4) 0 → y_sb b l t (12 + 2 * k) = b (12 + 2 * k) ∧ y_sb b l t (13 + 2 * k) = b (13 + 2 * k) := fun k => y_sb_old
  have new : ∀ k, k = y_hi b t (b 4) 0 → y_sb b l t (12 + 2 * k) = t ∧ y_sb b l t (13 + 2 * k) = l := fun k => y_sb_new
  generalize y_sb b l t = B at *
  generalize y_hi b t (b 4) 0 = i at *
  refine ⟨_, rfl, ?_, ?_⟩
  · unfold y_T y_cb
    simp (disch := decide) only [lo]
    by_cases e : i < b 4
    · rw [if_pos e] at e4
      rw [if_pos e, e4]
      refine ⟨?_, ?_, fun k hk => ?_, fun p q hp hq => ?_, fun k hk => ?_⟩
      · simp (disch := decide) only [j_r_ne]
        exact ⟨f1, f2, f3, f4, f5, f6, f7, f10, d0, d1⟩
      · simp (disch := decide) only [j_r_ne]; exact f8
      · have q := s k hk
        by_cases e2 : k = i
        · rw [(new k e2).1, (new k e2).2]
          subst e2
          simp (disch := decide) only [j_r_ne, j_r_eq]
          exact ⟨by rw [q.1, s4 (by omega)], trivial⟩
        · rw [(old k e2).1, (old k e2).2]
          simp (disch := first | decide | exact e2) only [j_r_ne, j_r_nj]; exact q
      · rw [hi _ (by omega)]
        simp (disch := decide) only [j_r_ne]; exact tt p q hp hq
      · rw [hi _ (by omega), hi _ (by omega), hi _ (by omega)]
        simp (disch := decide) only [j_r_ne]; exact c k hk
    · rw [if_neg e] at e4
      rw [if_neg e, e4]
      have ei : i = b 4 := by clear f8; omega
      subst ei
      refine ⟨?_, ?_, fun k hk => ?_, fun p q hp hq => ?_, fun k hk => ?_⟩
      · simp (disch := decide) only [j_r_ne, j_r_eq, j_r_nj]
        exact ⟨f1, f2, f3, f4, f5, f6, f7, trivial, d0, d1⟩
      · simp (disch := decide) only [j_r_ne, j_r_nj]; exact f8
      · by_cases e2 : k = b 4
        · rw [(new k e2).1, (new k e2).2]
          subst e2
          simp (disch := decide) only [j_r_ne, j_r_eq]
          exact ⟨trivial, trivial⟩
        · have q := s k (by clear f8; omega)
          rw [(old k e2).1, (old k e2).2]
          simp (disch := first | decide | exact e2) only [j_r_ne, j_r_nj]; exact q
      · rw [hi _ (by omega)]
        simp (disch := decide) only [j_r_ne]; exact tt p q hp hq
      · rw [hi _ (by omega), hi _ (by omega), hi _ (by omega)]
        simp (disch := decide) only [j_r_ne]; exact c k hk
  · by_cases e : i < b 4
    · rw [if_pos e]; exact y_ft2.refl.si (by omega)
    · rw [if_neg e]; exact ((y_ft2.refl.si (by omega)).si (by omega)).si (by omega)
end A
/-! ===== the reference reads what stands behind the first word ===== -/
section R
variable {B : Nat → Int32} {n : Nat}
theorem y_mbs {τ : j_G} {b : Nat → Nat} {j v : Nat} (h : y_mb (τ.1 81) b) (hj : ¬ (24 ≤ j ∧ j < 96 ∧ j % 3 = 1)) : y_mb ((j_si τ 81 j (nI v)).1 81) (y_u b j v) := by
  intro i hi
  by_cases e : i = j
  · subst e; rw [j_r_eq, if_neg hj, y_ue]
  · rw [j_r_nj e, y_un e]; exact h i hi
theorem y_mbp {τ : j_G} {b : Nat → Nat} {j v : Nat} (h : y_mb (τ.1 81) b) (hj : 24 ≤ j ∧ j < 96 ∧ j % 3 = 1) : y_mb ((j_si τ 81 j (nP v)).1 81) (y_u b j v) := by
  intro i hi
  by_cases e : i = j
  · subst e; rw [j_r_eq, if_pos hj, y_ue]
  · rw [j_r_nj e, y_un e]; exact h i hi
theorem y_mb.fm {τ τ' : j_G} {b : Nat → Nat} {f g : Nat} (h : y_mb (τ.1 81) b) (hf : y_fm f g 1 0 τ τ') : y_mb (τ'.1 81) b := by rw [(hf.2 81 (by omega) (by omega)).1]; exact h
theorem y_mw.s81 {τ : j_G} {r : Nat × Nat} {j : Nat} {v : Int32} (h : y_mw τ B n r) : y_mw (j_si τ 81 j v) B n r := h.fr (funext fun _ => j_r_ne (by omega)) (funext fun _ => j_r_ne (by omega))
abbrev y_fl (τ τ' : j_G) : Prop := y_fm 8 13 81 81 τ τ'
theorem y_fl.of {τ τ' : j_G} (h : y_fm 8 13 1 0 τ τ') : y_fl τ τ' := ⟨h.1, fun c a d => h.2 c a (by omega)⟩
theorem y_fl.s {τ τ' : j_G} {j : Nat} {v : Int32} (h : y_fl τ τ') : y_fl τ (j_si τ' 81 j v) := h.si (by omega) (by omega) (by omega)
theorem y_fl.t {τ τ' τ'' : j_G} (h : y_fl τ τ') (h' : y_fm 8 13 1 0 τ' τ'') : y_fl τ τ'' := y_fm.trans h (y_fl.of h')
theorem ym_first {τ : j_G} {b : Nat → Nat} {p : Nat} (h : y_mw τ B n (0, p)) (hm : y_mb (τ.1 81) b) :
    ∃ τ', f_X12_readFirst τ = some τ' ∧ y_mw τ' B n (y_gq B n y_q0 [some (y_L 8), some (y_L 9), none, some (y_L 10), none, some (y_L 11), none, some (y_L 12), none] ((0, p), [])).1 ∧ y_fl τ τ' ∧
      ((y_gq B n y_q0 [some (y_L 8), some (y_L 9), none, some (y_L 10), none, some (y_L 11), none, some (y_L 12), none] ((0, p), [])).1.1 = 0 → ∃ w0 w1 w2 w3, (y_gq B n y_q0 [some (y_L 8), some (y_L 9), none, some (y_L 10), none, some (y_L 11), none, some (y_L 12), none] ((0, p), [])).2 = [w0, w1, w2, w3] ∧ (1 ≤ w0 ∧ w0 < 5) ∧ (1 ≤ w1 ∧ w1 < 4) ∧ (1 ≤ w2 ∧ w2 < 201) ∧ w3 < 10 ∧ y_mb (τ'.1 81) (y_bb b w0 w1 w2 w3)) := by
  obtain ⟨τ1, a1, a2, a3⟩ := ym_needs (J := y_q0) (x := ((0, p), [])) (y_strK (k := 8) (by omega)) (y_ne 8 (by omega)) h
  have x1 := y_stp_w2 (B := B) (n := n) (J := y_q0) (x := ((0, p), [])) (y_ne 8 (by omega))
  generalize hx1 : y_stp B n y_q0 (some (y_L 8)) ((0, p), []) = X1 at *
  have go : y_gq B n y_q0 [some (y_L 8), some (y_L 9), none, some (y_L 10), none, some (y_L 11), none, some (y_L 12), none] ((0, p), []) = y_gq B n y_q0 [some (y_L 12), none] (y_gq B n y_q0 [some (y_L 11), none] (y_gq B n y_q0 [some (y_L 10), none] (y_gq B n y_q0 [some (y_L 9), none] X1))) := by rw [← hx1]; rfl
  rw [go]
  clear go hx1
  obtain ⟨v0, τ2, b1, b2, b3, b4⟩ := ym_toldR (J := y_q0) (lo := 1) (hi := 5) (y_strK (k := 9) (by omega)) (y_ne 9 (by omega)) (by omega) (by omega) (fun _ v => by rw [x1]; rfl) a2
  generalize y_gq B n y_q0 [some (y_L 9), none] X1 = X2 at *
  obtain ⟨v1, τ3, c1, c2, c3, c4⟩ := ym_toldR (J := y_q0) (lo := 1) (hi := 4) (y_strK (k := 10) (by omega)) (y_ne 10 (by omega)) (by omega) (by omega) (fun z v => by obtain ⟨w, _, e, _⟩ := b4 z; rw [e, x1]; rfl) (b2.s81 (j := 0) (v := v0))
  have g3 : (y_gq B n y_q0 [some (y_L 10), none] X2).1.1 = 0 → X2.1.1 = 0 := y_gq_good
  generalize y_gq B n y_q0 [some (y_L 10), none] X2 = X3 at *
  obtain ⟨v2, τ4, d1, d2, d3, d4⟩ := ym_toldR (J := y_q0) (lo := 1) (hi := 201) (y_strK (k := 11) (by omega)) (y_ne 11 (by omega)) (by omega) (by omega) (fun z v => by obtain ⟨w, _, e, _⟩ := b4 (g3 z); obtain ⟨w', _, e', _⟩ := c4 z; rw [e', e, x1]; rfl) (c2.s81 (j := 1) (v := v1))
  have g4 : (y_gq B n y_q0 [some (y_L 11), none] X3).1.1 = 0 → X3.1.1 = 0 := y_gq_good
  generalize y_gq B n y_q0 [some (y_L 11), none] X3 = X4 at *
  obtain ⟨v3, τ5, e1, e2, e3, e4⟩ := ym_toldR (J := y_q0) (lo := 0) (hi := 10) (y_strK (k := 12) (by omega)) (y_ne 12 (by omega)) (by omega) (by omega) (fun z v => by obtain ⟨w, _, e, _⟩ := b4 (g3 (g4 z)); obtain ⟨w', _, e', _⟩ := c4 (g4 z); obtain ⟨w'', _, e'', _⟩ := d4 z; rw [e'', e', e, x1]; rfl) (d2.s81 (j := 2) (v := v2))
  have g5 : (y_gq B n y_q0 [some (y_L 12), none] X4).1.1 = 0 → X4.1.1 = 0 := y_gq_good
  generalize y_gq B n y_q0 [some (y_L 12), none] X4 = X5 at *
  refine ⟨j_si (j_si (j_si τ5 81 3 v3) 81 10 (nI 1)) 81 11 (nI 100), ?_, ((e2.s81).s81).s81, ?_, fun z => ?_⟩
  · unfold f_X12_readFirst
    rw [a1, j_b1_s, show (1 : Int32) = nI 1 from rfl, show (4 : Int32) = nP 5 from by decide, b1, j_b2_s]
    have i0 : ∀ o : Option j_G, j_ix (0 : Int32) 116 o = o := fun o => y_ix (k := 0) (by omega) (by omega)
    have i1 : ∀ o : Option j_G, j_ix (nI 1) 116 o = o := fun o => y_ix (k := 1) (by omega) (by omega)
    have i2 : ∀ o : Option j_G, j_ix (2 : Int32) 116 o = o := fun o => y_ix (k := 2) (by omega) (by omega)
    have i3 : ∀ o : Option j_G, j_ix (3 : Int32) 116 o = o := fun o => y_ix (k := 3) (by omega) (by omega)
    have i10 : ∀ o : Option j_G, j_ix (10 : Int32) 116 o = o := fun o => y_ix (k := 10) (by omega) (by omega)
    have i11 : ∀ o : Option j_G, j_ix (11 : Int32) 116 o = o := fun o => y_ix (k := 11) (by omega) (by omega)
    simp only [j_lt]
    rw [i0, show (3 : Int32) = nP 4 from by decide, show (0 : Int32).toNatClampNeg = 0 from rfl, c1, j_b2_s, i1, show (nI 1).toNatClampNeg = 1 from rfl, show (200 : Int32) = nP 201 from by decide, d1, j_b2_s, i2, show (2 : Int32).toNatClampNeg = 2 from rfl, show (0 : Int32) = nI 0 from rfl, show (9 : Int32) = nP 10 from by decide, e1, j_b2_s, show nP 4 = (3 : Int32) from by decide, i3, i10, i11]
    rfl
  · refine y_fl.s (y_fl.s (y_fl.s ?_))
    exact y_fl.t (y_fl.s (y_fl.t (y_fl.s (y_fl.t (y_fl.s (y_fl.t (y_fl.of a3) b3)) c3)) d3)) e3
  · obtain ⟨w0, rfl, q0, h0⟩ := b4 (g3 (g4 (g5 z)))
    obtain ⟨w1, rfl, q1, h1⟩ := c4 (g4 (g5 z))
    obtain ⟨w2, rfl, q2, h2⟩ := d4 (g5 z)
    obtain ⟨w3, rfl, q3, h3⟩ := e4 z
    refine ⟨w0, w1, w2, w3, by rw [q3, q2, q1, q0, x1]; rfl, h0, h1, h2, h3.2, ?_⟩
    have m2 := (hm.fm a3).fm b3
    have m3 := (y_mbs (j := 0) (v := w0) m2 (by omega)).fm c3
    have m4 := (y_mbs (j := 1) (v := w1) m3 (by omega)).fm d3
    have m5 := (y_mbs (j := 2) (v := w2) m4 (by omega)).fm e3
    exact y_mbs (y_mbs (y_mbs m5 (by omega)) (by omega)) (by omega)
end R
/-! ===== stay, shut, a hole, a coming ===== -/
section R
variable {B : Nat → Int32} {n : Nat}
theorem y_i81 {α : Type} {o : Option α} {k : Nat} (h : k < 116) : j_ix (nI k) 116 o = o := y_ix h (by omega)
theorem ym_fs {τ : j_G} {b : Nat → Nat} {t : Nat} (hW : y_W b) (hm : y_mb (τ.1 81) b) (ht : t ≤ 1000000) : f_X12_freshStay (nI t) τ = some (if y_hi b t (b 4) 0 < b 4 then nI (y_hi b t (b 4) 0) else nP 0) := by
  have b4 := hW.b4
  have b2 := hW.b2
  have key : ∀ m k f, k + m = b 4 → m < f → p_X12_freshStay_2 (nI t) τ f (nI k) = some (if y_hi b t m k < b 4 then nI (y_hi b t m k) else nP 0) := by
    intro m
    induction m with
    | zero =>
      intro k f h hf
      obtain ⟨f, rfl⟩ := y_pos hf
      unfold p_X12_freshStay_2 y_hi
      simp (disch := omega) only [y_lit, y_n1, nI_add, pk_mul, j_lt, j_b1_s, j_b2_s, j_b3_s, j_b0_s, y_bo, y_bo1, y_bo0, y_i0, y_i1, Classical.not_not, nI_clamp, y_ix, y_lt, y_le, y_eq, y_nP, y_nPs, y_ltP, y_ltQ, y_ltPP, y_eqP, y_eqQ, y_eqPP, if_pos, if_neg, ite_true, ite_false, not_true_eq_false, not_false_eq_true, and_true, true_and, and_false, false_and, or_true, true_or, or_false, false_or, hm.f]
    | succ m ih =>
      intro k f h hf
      obtain ⟨f, rfl⟩ := y_pos hf
      have st := hW.st (k := k) (by omega)
      unfold p_X12_freshStay_2 y_hi
      simp (disch := omega) only [y_lit, y_n1, nI_add, pk_mul, j_lt, j_b1_s, j_b2_s, j_b3_s, j_b0_s, y_bo, y_bo1, y_bo0, y_i0, y_i1, Classical.not_not, nI_clamp, y_ix, y_lt, y_le, y_eq, y_nP, y_nPs, y_ltP, y_ltQ, y_ltPP, y_eqP, y_eqQ, y_eqPP, if_pos, if_neg, ite_true, ite_false, not_true_eq_false, not_false_eq_true, and_true, true_and, and_false, false_and, or_true, true_or, or_false, false_or, hm.f]
      by_cases c : b (12 + 2 * k) = t
      · rw [if_pos c, if_pos c, if_pos (by omega)]
      · rw [if_neg c, if_neg c]
        exact ih (k + 1) f (by omega) (by omega)
  unfold f_X12_freshStay
  rw [show (0 : Int32) = nI 0 from rfl, key (b 4) 0 j_F (by omega) (y_F (by omega))]
theorem ym_rstay {τ : j_G} {b : Nat → Nat} {p : Nat} (hW : y_W b) (on : 0 < b 9) (h : y_mw τ B n (0, p)) (hm : y_mb (τ.1 81) b) :
    ∃ τ', f_X12_readStay τ = some τ' ∧ y_mw τ' B n (y_gq B n (y_q1 b) [none, some (y_L 20), none] ((0, p), [])).1 ∧ y_fl τ τ' ∧
      ((y_gq B n (y_q1 b) [none, some (y_L 20), none] ((0, p), [])).1.1 = 0 → ∃ w0 w1, (y_gq B n (y_q1 b) [none, some (y_L 20), none] ((0, p), [])).2 = [w0, w1] ∧ (1 ≤ w0 ∧ w0 < 41) ∧ w1 < b 2 ∧ (y_hi b w1 (b 4) 0 < b 4 ∨ b 4 < 6) ∧ y_mb (τ'.1 81) (y_sb b w0 w1)) := by
  have b4 := hW.b4
  have b2 := hW.b2
  have on2 := (hW.on on).2.2.1
  obtain ⟨v0, τ1, a1, a2, a3, a4⟩ := ym_numR (J := y_q1 b) (x := ((0, p), [])) (lo := 1) (hi := 41) (by omega) (by omega) (fun _ v => rfl) h
  have go : y_gq B n (y_q1 b) [none, some (y_L 20), none] ((0, p), []) = y_stp B n (y_q1 b) none (y_stp B n (y_q1 b) (some (y_L 20)) (y_stp B n (y_q1 b) none ((0, p), []))) := rfl
  rw [go]
  clear go
  generalize y_stp B n (y_q1 b) none ((0, p), []) = X1 at *
  obtain ⟨τ2, c1, c2, c3⟩ := ym_needs (J := y_q1 b) (x := X1) (y_strK (k := 20) (by omega)) (y_ne 20 (by omega)) a2
  have x2 := y_stp_w2 (B := B) (n := n) (J := y_q1 b) (x := X1) (y_ne 20 (by omega))
  have g2 : (y_stp B n (y_q1 b) (some (y_L 20)) X1).1.1 = 0 → X1.1.1 = 0 := y_stp_good
  generalize y_stp B n (y_q1 b) (some (y_L 20)) X1 = X2 at *
  have m2 : y_mb (τ2.1 81) b := (hm.fm a3).fm c3
  obtain ⟨⟨r1, r2⟩, vs⟩ := X2
  have gd := ym_good c2
  have i0 : ¬ ¬ nI 0 = (0 : Int32) := fun z => z rfl
  have i1 : ¬ nI 1 = (0 : Int32) := by decide
  -- the check before the number
  obtain ⟨τ3, d0, d1, d2, d3⟩ : ∃ τ3, (∀ K : j_G → Option j_G, (j_b1 (if (¬ (f_X12_good τ2) = 0) ∧ ((τ2.1 75 10) = (2 : Int32)) then (j_ix (2 : Int32) 116 (if (τ2.1 75 11) < (τ2.1 81 ((2 : Int32)).toNatClampNeg) then (some (1 : Int32)) else (some (0 : Int32)))) else (some (0 : Int32))) fun v4 =>
      j_b1 (if ¬ v4 = 0 then (j_ix (4 : Int32) 116 (if (τ2.1 81 ((4 : Int32)).toNatClampNeg) = (6 : Int32) then (j_b1 (f_X12_freshStay (τ2.1 75 11) τ2) fun v6 => if v6 = (-1 : Int32) then (j_b1 (f_X12_errs (3 : Int32) τ2) fun σ7 => some σ7) else (some τ2)) else (some τ2))) else (some τ2)) K) = K τ3) ∧
      ((y_mw τ3 B n (r1, r2) ∧ (r1 = 0 → y_kd B n r2 = 2 → y_val B n r2 < b 2 → ¬ (6 ≤ b 4 ∧ y_hs b (y_val B n r2) (b 4) 0 = false))) ∨ (r1 = 0 ∧ y_kd B n r2 = 2 ∧ y_val B n r2 < b 2 ∧ 6 ≤ b 4 ∧ y_hs b (y_val B n r2) (b 4) 0 = false ∧ y_mw τ3 B n (3, y_s B n r2))) ∧ y_fm 8 13 1 0 τ2 τ3 ∧ True := by
    by_cases c : r1 = 0
    · subst c
      obtain ⟨g1, gg2, q9, q8, q10, q11⟩ := c2.2.2.2.1 rfl
      have kl := y_kd_le (B := B) (n := n) (p := r2)
      have vl := y_val_le B n r2
      rw [gd, if_pos rfl]
      by_cases k : y_kd B n r2 = 2
      · have e11 : τ2.1 75 11 = nI (min 99999 (y_val B n r2)) := q11 k
        rw [if_pos (show ¬ nI 1 = (0 : Int32) ∧ τ2.1 75 10 = (2 : Int32) from ⟨i1, by rw [q10]; show nI (y_kd B n r2) = _; rw [k]; rfl⟩), e11, show (2 : Int32) = nI 2 from rfl, show (4 : Int32) = nI 4 from rfl, show (nI 2).toNatClampNeg = 2 from rfl, show (nI 4).toNatClampNeg = 4 from rfl, y_i81 (by omega), y_i81 (by omega), m2.f (j := 2) (by omega), m2.f (j := 4) (by omega)]
        by_cases w : y_val B n r2 < b 2
        · have em : min 99999 (y_val B n r2) = y_val B n r2 := by omega
          rw [em, if_pos (show nI (y_val B n r2) < nI (b 2) by rw [y_lt (by omega) (by omega)]; exact w)]
          obtain ⟨s1, s2, s3, s4, s5⟩ := y_hi_sp (b := b) (v := y_val B n r2) (b 4) 0
          by_cases f : 6 ≤ b 4
          · have f6 : b 4 = 6 := by omega
            by_cases g : y_hs b (y_val B n r2) (b 4) 0 = true
            · refine ⟨τ2, fun K => ?_, Or.inl ⟨c2, fun _ _ _ z => by rw [g] at z; exact absurd z.2 (by decide)⟩, y_fm.refl, trivial⟩
              rw [j_b1_s, if_pos (by decide), if_pos (show nI (b 4) = (6 : Int32) by rw [f6]; rfl), ym_fs hW m2 vl, if_pos (by have := s5.mp g; omega), j_b1_s, if_neg (by rw [y_m1, y_eqQ (by omega) (by omega)]; omega), j_b1_s]
            · have g' : y_hs b (y_val B n r2) (b 4) 0 = false := by
                cases hh : y_hs b (y_val B n r2) (b 4) 0 with
                | true => exact absurd hh g
                | false => rfl
              obtain ⟨τ', e1, e2, e3⟩ := ym_errs (k := 3) (by omega) (by omega) c2
              refine ⟨τ', fun K => ?_, Or.inr ⟨rfl, k, w, f, g', e2⟩, e3.wide (by omega) (by omega) (by omega) (by omega), trivial⟩
              rw [j_b1_s, if_pos (by decide), if_pos (show nI (b 4) = (6 : Int32) by rw [f6]; rfl), ym_fs hW m2 vl, if_neg (fun z => g (s5.mpr (by omega))), j_b1_s, if_pos y_m1.symm, show (3 : Int32) = nI 3 from rfl, e1, j_b1_s, j_b1_s]
          · refine ⟨τ2, fun K => ?_, Or.inl ⟨c2, fun _ _ _ z => f z.1⟩, y_fm.refl, trivial⟩
            rw [j_b1_s, if_pos (by decide), if_neg (show ¬ nI (b 4) = (6 : Int32) by rw [show (6 : Int32) = nI 6 from rfl, y_eq (by omega) (by omega)]; omega), j_b1_s]
        · refine ⟨τ2, fun K => ?_, Or.inl ⟨c2, fun _ _ z => absurd z w⟩, y_fm.refl, trivial⟩
          rw [if_neg (show ¬ nI (min 99999 (y_val B n r2)) < nI (b 2) by rw [y_lt (by omega) (by omega)]; omega), j_b1_s, if_neg (fun z => z rfl), j_b1_s]
      · refine ⟨τ2, fun K => ?_, Or.inl ⟨c2, fun _ z => absurd z k⟩, y_fm.refl, trivial⟩
        rw [if_neg (show ¬ (¬ nI 1 = (0 : Int32) ∧ τ2.1 75 10 = (2 : Int32)) from fun z => k (by have := z.2; rw [q10, show (2 : Int32) = nI 2 from rfl, y_eq (by show y_kd B n r2 < _; omega) (by omega)] at this; exact this)), j_b1_s, if_neg (fun z => z rfl), j_b1_s]
    · refine ⟨τ2, fun K => ?_, Or.inl ⟨c2, fun z => absurd z c⟩, y_fm.refl, trivial⟩
      rw [gd, if_neg (show ¬ ((r1, r2), vs).1.1 = 0 from c), if_neg (fun z => z.1 rfl), j_b1_s, if_neg (fun z => z rfl), j_b1_s]
  have m3 : y_mb (τ3.1 81) b := m2.fm d2
  -- the number
  obtain ⟨v1, τ4, e1, e2, e3, e4⟩ : ∃ v τ4, f_X12_number (nI 0) (nP (b 2)) τ3 = some (v, τ4) ∧ y_mw τ4 B n (y_stp B n (y_q1 b) none ((r1, r2), vs)).1 ∧ y_fm 8 13 1 0 τ3 τ4 ∧ ((y_stp B n (y_q1 b) none ((r1, r2), vs)).1.1 = 0 → v = nI (y_val B n r2) ∧ (y_stp B n (y_q1 b) none ((r1, r2), vs)).2 = vs ++ [y_val B n r2] ∧ y_val B n r2 < b 2 ∧ ¬ (6 ≤ b 4 ∧ y_hs b (y_val B n r2) (b 4) 0 = false)) := by
    have hl1 : r1 = 0 → vs.length = 1 := fun z => by
      obtain ⟨_, q, _⟩ := a4 (g2 z)
      have : vs = X1.2 := x2
      rw [this, q]; rfl
    rcases d1 with ⟨f1, f2⟩ | ⟨f0, f1, f2, f3, f4, f5⟩
    · obtain ⟨v, τ4, e1, e2, e3, e4⟩ := ym_numR (J := fun _ v => y_jr 0 (b 2) v) (x := ((r1, r2), vs)) (lo := 0) (hi := b 2) (by omega) (by omega) (fun _ v => rfl) f1
      have eq : y_stp B n (fun _ v => y_jr 0 (b 2) v) none ((r1, r2), vs) = y_stp B n (y_q1 b) none ((r1, r2), vs) := by
        apply y_stp_J
        intro z k
        have z' : r1 = 0 := z
        show y_jr 0 (b 2) (y_val B n r2) = y_q1 b vs (y_val B n r2)
        unfold y_q1 y_jr
        rw [if_neg (show ¬ vs.length = 0 by have := hl1 z'; omega)]
        by_cases w : y_val B n r2 < b 2
        · rw [if_neg (show ¬ ¬ y_val B n r2 < b 2 from fun z => z w), if_neg (f2 z' k w), if_pos (show 0 ≤ y_val B n r2 ∧ y_val B n r2 < b 2 from ⟨by omega, w⟩)]
        · rw [if_pos w, if_neg (show ¬ (0 ≤ y_val B n r2 ∧ y_val B n r2 < b 2) from fun z => w z.2)]
      rw [eq] at e2 e4
      refine ⟨v, τ4, e1, e2, e3, fun z => ?_⟩
      obtain ⟨k1, k2, k3, k4⟩ := e4 z
      have r0 : r1 = 0 := y_stp_good (x := ((r1, r2), vs)) z
      have kk : y_kd B n r2 = 2 := by
        subst r0
        rw [y_stp_n] at z
        by_cases k : y_kd B n r2 = 2
        · exact k
        · rw [if_pos k] at z; exact absurd z (by show ¬ (1 : Nat) = 0; omega)
      exact ⟨k1, k2, k4, f2 r0 kk k4⟩
    · subst f0
      obtain ⟨v, τ4, e1, e2, e3, e4⟩ := ym_numR (J := fun _ v => y_jr 0 (b 2) v) (x := ((3, y_s B n r2), vs)) (lo := 0) (hi := b 2) (by omega) (by omega) (fun _ v => rfl) f5
      have j3 : y_q1 b vs (y_val B n r2) = 3 := by
        unfold y_q1
        rw [if_neg (by have := hl1 rfl; omega), if_neg (fun z => z f2), if_pos ⟨f3, f4⟩]
      have eq : y_stp B n (y_q1 b) none ((0, r2), vs) = ((3, y_s B n r2), vs) := by
        rw [y_stp_n, if_neg (fun z => z f1), j3, if_pos (by omega)]
      rw [y_stp_bad (show ((3, y_s B n r2), vs).1.1 ≠ 0 by show (3 : Nat) ≠ 0; omega)] at e2
      rw [eq]
      exact ⟨v, τ4, e1, e2, e3, fun z => absurd z (by show ¬ (3 : Nat) = 0; omega)⟩
  have m4 : y_mb (τ4.1 81) b := m3.fm e3
  have gd4 := ym_good e2
  have pre : f_X12_readStay τ = (if (f_X12_good τ4) = 0 then (some τ4) else (j_b1 (f_X12_freshStay v1 τ4) fun v10 =>
      j_b2 (if v10 = (-1 : Int32) then (j_ix (4 : Int32) 116 (j_lt (τ4.1 81 ((4 : Int32)).toNatClampNeg) fun v13 => j_ix (4 : Int32) 116 (j_ix (4 : Int32) 116 (j_lt (j_si τ4 81 ((4 : Int32)).toNatClampNeg ((τ4.1 81 ((4 : Int32)).toNatClampNeg) + (1 : Int32))) fun σ14 => some (v13, σ14))))) else (some (v10, τ4))) fun v11 σ12 =>
      j_ix ((12 : Int32) + ((2 : Int32) * v11)) 116 (j_lt (j_si σ12 81 (((12 : Int32) + ((2 : Int32) * v11))).toNatClampNeg v1) fun σ15 =>
      j_ix (((12 : Int32) + ((2 : Int32) * v11)) + (1 : Int32)) 116 (j_lt (j_si σ15 81 ((((12 : Int32) + ((2 : Int32) * v11)) + (1 : Int32))).toNatClampNeg v0) fun σ16 => some σ16)))) := by
    have a1' : f_X12_number (1 : Int32) (40 : Int32) τ = some (v0, τ1) := by rw [show (40 : Int32) = nP 41 from by decide]; exact a1
    have e1' : f_X12_number (0 : Int32) (nI (b 2) - (1 : Int32)) τ3 = some (v1, τ4) := e1
    unfold f_X12_readStay
    rw [a1', j_b2_s, c1, j_b1_s]
    have := d0 (fun σ5 => j_ix (2 : Int32) 116 (j_b2 (f_X12_number (0 : Int32) ((σ5.1 81 ((2 : Int32)).toNatClampNeg) - (1 : Int32)) σ5) fun v9 σ8 =>
      if (f_X12_good σ8) = 0 then (some σ8) else (j_b1 (f_X12_freshStay v9 σ8) fun v10 =>
      j_b2 (if v10 = (-1 : Int32) then (j_ix (4 : Int32) 116 (j_lt (σ8.1 81 ((4 : Int32)).toNatClampNeg) fun v13 => j_ix (4 : Int32) 116 (j_ix (4 : Int32) 116 (j_lt (j_si σ8 81 ((4 : Int32)).toNatClampNeg ((σ8.1 81 ((4 : Int32)).toNatClampNeg) + (1 : Int32))) fun σ14 => some (v13, σ14))))) else (some (v10, σ8))) fun v11 σ12 =>
      j_ix ((12 : Int32) + ((2 : Int32) * v11)) 116 (j_lt (j_si σ12 81 (((12 : Int32) + ((2 : Int32) * v11))).toNatClampNeg v9) fun σ15 =>
      j_ix (((12 : Int32) + ((2 : Int32) * v11)) + (1 : Int32)) 116 (j_lt (j_si σ15 81 ((((12 : Int32) + ((2 : Int32) * v11)) + (1 : Int32))).toNatClampNeg v0) fun σ16 => some σ16)))))
    refine Eq.trans this ?_
    rw [show j_ix (2 : Int32) 116 _ = _ from y_i81 (k := 2) (by omega), show ((2 : Int32)).toNatClampNeg = 2 from rfl, m3.f (j := 2) (by omega), e1', j_b2_s]
  rw [pre, gd4]
  by_cases z : (y_stp B n (y_q1 b) none ((r1, r2), vs)).1.1 = 0
  · obtain ⟨k1, k2, k3, k4⟩ := e4 z
    have r0 : r1 = 0 := y_stp_good (x := ((r1, r2), vs)) z
    obtain ⟨q1, q2, q3, q4⟩ := a4 (g2 r0)
    have vl := y_val_le B n r2
    obtain ⟨s1, s2, s3, s4, s5⟩ := y_hi_sp (b := b) (v := y_val B n r2) (b 4) 0
    rw [if_pos z, if_neg i1, k1, ym_fs hW m4 vl, j_b1_s]
    have hx2 : vs = [y_val B n p] := by
      have : vs = X1.2 := x2
      rw [this, q2]; rfl
    have fits : y_hi b (y_val B n r2) (b 4) 0 < b 4 ∨ b 4 < 6 := by
      by_cases f : 6 ≤ b 4
      · left
        by_cases g : y_hi b (y_val B n r2) (b 4) 0 < b 4
        · exact g
        · exfalso
          apply k4
          refine ⟨f, ?_⟩
          cases hh : y_hs b (y_val B n r2) (b 4) 0 with
          | true => exact absurd (s5.mp hh) (by omega)
          | false => rfl
      · right; omega
    subst hx2
    subst q1
    have vl0 : y_val B n p ≤ 1000000 := y_val_le B n p
    have fin : ∀ (τ5 : j_G) i, i ≤ b 4 → i < 6 → i = y_hi b (y_val B n r2) (b 4) 0 → y_mw τ5 B n (y_stp B n (y_q1 b) none ((r1, r2), [y_val B n p])).1 → y_fl τ τ5 → y_mb (τ5.1 81) (if i < b 4 then b else y_u b 4 (b 4 + 1)) → ∃ τ', (j_ix ((12 : Int32) + ((2 : Int32) * nI i)) 116 (j_lt (j_si τ5 81 (((12 : Int32) + ((2 : Int32) * nI i))).toNatClampNeg (nI (y_val B n r2))) fun σ15 =>
      j_ix (((12 : Int32) + ((2 : Int32) * nI i)) + (1 : Int32)) 116 (j_lt (j_si σ15 81 ((((12 : Int32) + ((2 : Int32) * nI i)) + (1 : Int32))).toNatClampNeg (nI (y_val B n p))) fun σ16 => some σ16))) = some τ' ∧ y_mw τ' B n (y_stp B n (y_q1 b) none ((r1, r2), [y_val B n p])).1 ∧ y_fl τ τ' ∧ y_mb (τ'.1 81) (y_sb b (y_val B n p) (y_val B n r2)) := by
      intro τ5 i hi hi6 ei w1 w2 w3
      refine ⟨j_si (j_si τ5 81 (12 + 2 * i) (nI (y_val B n r2))) 81 (13 + 2 * i) (nI (y_val B n p)), ?_, (w1.s81).s81, (w2.s).s, ?_⟩
      · simp (disch := omega) only [y_lit, y_n1, nI_add, pk_mul, j_lt, j_b1_s, j_b2_s, j_b3_s, j_b0_s, y_bo, y_bo1, y_bo0, y_i0, y_i1, Classical.not_not, nI_clamp, y_ix, y_lt, y_le, y_eq, y_nP, y_nPs, y_ltP, y_ltQ, y_ltPP, y_eqP, y_eqQ, y_eqPP, if_pos, if_neg, ite_true, ite_false, not_true_eq_false, not_false_eq_true, and_true, true_and, and_false, false_and, or_true, true_or, or_false, false_or]
        rw [show 12 + 2 * i + 1 = 13 + 2 * i by omega]
      · have := y_mbs (j := 13 + 2 * i) (v := y_val B n p) (y_mbs (j := 12 + 2 * i) (v := y_val B n r2) w3 (by omega)) (by omega)
        unfold y_sb
        rw [← ei]
        intro j hj
        rw [this j hj]
        have e : y_u (y_u (if i < b 4 then b else y_u b 4 (b 4 + 1)) (12 + 2 * i) (y_val B n r2)) (13 + 2 * i) (y_val B n p) j = y_u (y_u (y_u b (12 + 2 * i) (y_val B n r2)) (13 + 2 * i) (y_val B n p)) 4 (if i < b 4 then b 4 else b 4 + 1) j := by
          by_cases c : i < b 4
          · rw [if_pos c, if_pos c]
            unfold y_u
            by_cases j4 : j = 4
            · subst j4; rw [if_neg (by omega), if_neg (by omega), if_pos rfl]
            · rw [if_neg j4]
          · rw [if_neg c, if_neg c]
            unfold y_u
            by_cases j4 : j = 4
            · subst j4; rw [if_neg (by omega), if_neg (by omega), if_pos rfl, if_pos rfl]
            · simp only [if_neg j4]
        rw [e]
    have fl4 : y_fl τ τ4 := y_fl.t (y_fl.t (y_fl.t (y_fl.of a3) c3) d2) e3
    by_cases c : y_hi b (y_val B n r2) (b 4) 0 < b 4
    · rw [if_pos c, if_neg (by rw [y_m1, y_eqQ (by omega) (by omega)]; omega), j_b2_s]
      obtain ⟨τ', t1, t2, t3, t4⟩ := fin τ4 _ (by omega) (by omega) rfl e2 fl4 (by rw [if_pos c]; exact m4)
      exact ⟨τ', t1, t2, t3, fun _ => ⟨y_val B n p, y_val B n r2, k2, ⟨q3, q4⟩, k3, fits, t4⟩⟩
    · have ei : y_hi b (y_val B n r2) (b 4) 0 = b 4 := by omega
      rw [if_neg c, if_pos y_m1.symm, show j_ix (4 : Int32) 116 _ = _ from y_i81 (k := 4) (by omega)]
      simp only [j_lt]
      rw [show j_ix (4 : Int32) 116 _ = _ from y_i81 (k := 4) (by omega), show j_ix (4 : Int32) 116 _ = _ from y_i81 (k := 4) (by omega), show ((4 : Int32)).toNatClampNeg = 4 from rfl, m4.f (j := 4) (by omega), j_b2_s, show nI (b 4) + (1 : Int32) = nI (b 4 + 1) from by simp (disch := omega) only [y_lit, nI_add]]
      obtain ⟨τ', t1, t2, t3, t4⟩ := fin (j_si τ4 81 4 (nI (b 4 + 1))) (b 4) (by omega) (by omega) ei.symm e2.s81 fl4.s (by rw [if_neg (by omega)]; exact y_mbs m4 (by omega))
      exact ⟨τ', t1, t2, t3, fun _ => ⟨y_val B n p, y_val B n r2, k2, ⟨q3, q4⟩, k3, fits, t4⟩⟩
  · rw [if_neg z, if_pos (show nI 0 = (0 : Int32) from rfl)]
    exact ⟨τ4, rfl, e2, y_fl.t (y_fl.t (y_fl.t (y_fl.of a3) c3) d2) e3, fun w => absurd w z⟩
end R
/-! ===== shut, a hole, a coming, a player, tickets ===== -/
section R
variable {B : Nat → Int32} {n : Nat}
theorem ym_fh {τ : j_G} {b : Nat → Nat} (hm : y_mb (τ.1 81) b) : f_X12_freshHoles τ = some (nI (y_ho b)) := by
  unfold f_X12_freshHoles y_ho
  simp (disch := omega) only [y_lit, y_n1, nI_add, pk_mul, j_lt, j_b1_s, j_b2_s, j_b3_s, j_b0_s, y_bo, y_bo1, y_bo0, y_i0, y_i1, Classical.not_not, nI_clamp, y_ix, y_lt, y_le, y_eq, y_nP, y_nPs, y_ltP, y_ltQ, y_ltPP, y_eqP, y_eqQ, y_eqPP, if_pos, if_neg, ite_true, ite_false, not_true_eq_false, not_false_eq_true, and_true, true_and, and_false, false_and, or_true, true_or, or_false, false_or, hm.f]
theorem ym_nh {τ : j_G} {b : Nat → Nat} {r : Nat × Nat} (hW : y_W b) (hm : y_mb (τ.1 81) b) (h : y_mw τ B n r) : f_X12_isNextHole τ = some (if r.1 = 0 ∧ y_kd B n r.2 = 2 ∧ y_val B n r.2 < y_ho b then nI 1 else nI 0) := by
  have ho := hW.ho
  unfold f_X12_isNextHole
  rw [ym_good h, ym_fh hm]
  by_cases c : r.1 = 0
  · obtain ⟨g1, gg2, q9, q8, q10, q11⟩ := h.2.2.2.1 c
    have kl := y_kd_le (B := B) (n := n) (p := r.2)
    rw [if_pos c]
    by_cases k : y_kd B n r.2 = 2
    · rw [if_pos (show ¬ nI 1 = (0 : Int32) ∧ τ.1 75 10 = (2 : Int32) from ⟨by decide, by rw [q10, k]; rfl⟩), j_b1_s, q11 k]
      have vl := y_val_le B n r.2
      by_cases w : y_val B n r.2 < y_ho b
      · rw [if_pos (show nI (min 99999 (y_val B n r.2)) < nI (y_ho b) by rw [y_lt (by omega) (by omega)]; omega), if_pos ⟨c, k, w⟩]; rfl
      · rw [if_neg (show ¬ nI (min 99999 (y_val B n r.2)) < nI (y_ho b) by rw [y_lt (by omega) (by omega)]; omega), if_neg (fun z => w z.2.2)]; rfl
    · rw [if_neg (show ¬ (¬ nI 1 = (0 : Int32) ∧ τ.1 75 10 = (2 : Int32)) from fun z => k (by have := z.2; rw [q10, show (2 : Int32) = nI 2 from rfl, y_eq (by omega) (by omega)] at this; exact this)), if_neg (fun z => k z.2.1)]; rfl
  · rw [if_neg c, if_neg (fun z => z.1 rfl), if_neg (fun z => c z.1)]; rfl
/-- a number, behind a check -/
theorem ym_hn {τ2 : j_G} {h : Nat} {P : Nat → Prop} {J : List Nat → Nat → Nat} {x : (Nat × Nat) × List Nat} (hh : h ≤ 12)
    (hJ : x.1.1 = 0 → y_kd B n x.1.2 = 2 → (J x.2 (y_val B n x.1.2) = 0 ∧ y_val B n x.1.2 < h ∧ ¬ P (y_val B n x.1.2)) ∨ (J x.2 (y_val B n x.1.2) = 2 ∧ (¬ y_val B n x.1.2 < h ∨ P (y_val B n x.1.2))))
    (hd : (y_mw τ2 B n x.1 ∧ (x.1.1 = 0 → y_kd B n x.1.2 = 2 → y_val B n x.1.2 < h → ¬ P (y_val B n x.1.2))) ∨ (x.1.1 = 0 ∧ y_kd B n x.1.2 = 2 ∧ y_val B n x.1.2 < h ∧ P (y_val B n x.1.2) ∧ y_mw τ2 B n (2, y_s B n x.1.2))) :
    ∃ v τ', f_X12_number (nI 0) (nP h) τ2 = some (v, τ') ∧ y_mw τ' B n (y_stp B n J none x).1 ∧ y_fm 8 13 1 0 τ2 τ' ∧ ((y_stp B n J none x).1.1 = 0 → v = nI (y_val B n x.1.2) ∧ (y_stp B n J none x).2 = x.2 ++ [y_val B n x.1.2] ∧ y_val B n x.1.2 < h ∧ ¬ P (y_val B n x.1.2)) := by
  obtain ⟨⟨r1, r2⟩, vs⟩ := x
  rcases hd with ⟨f1, f2⟩ | ⟨f0, f1, f2, f3, f5⟩
  · obtain ⟨v, τ4, e1, e2, e3, e4⟩ := ym_numR (J := fun _ v => y_jr 0 h v) (x := ((r1, r2), vs)) (lo := 0) (hi := h) (by omega) (by omega) (fun _ v => rfl) f1
    have eq : y_stp B n (fun _ v => y_jr 0 h v) none ((r1, r2), vs) = y_stp B n J none ((r1, r2), vs) := by
      apply y_stp_J
      intro z k
      show y_jr 0 h (y_val B n r2) = J vs (y_val B n r2)
      rcases hJ z k with ⟨a1, a2, a3⟩ | ⟨a1, a2⟩
      · have a1' : J vs (y_val B n r2) = 0 := a1
        rw [a1']; exact if_pos ⟨Nat.zero_le _, a2⟩
      · have a1' : J vs (y_val B n r2) = 2 := a1
        rw [a1']; refine if_neg (fun w => ?_)
        rcases a2 with a2 | a2
        · exact a2 w.2
        · exact f2 z k w.2 a2
    rw [eq] at e2 e4
    refine ⟨v, τ4, e1, e2, e3, fun z => ?_⟩
    obtain ⟨k1, k2, k3, k4⟩ := e4 z
    have r0 : r1 = 0 := y_stp_good (x := ((r1, r2), vs)) z
    have kk : y_kd B n r2 = 2 := by
      subst r0
      rw [y_stp_n] at z
      by_cases k : y_kd B n r2 = 2
      · exact k
      · rw [if_pos k] at z; exact absurd z (by show ¬ (1 : Nat) = 0; omega)
    exact ⟨k1, k2, k4, f2 r0 kk k4⟩
  · have f0' : r1 = 0 := f0
    subst f0'
    obtain ⟨v, τ4, e1, e2, e3, e4⟩ := ym_numR (J := fun _ v => y_jr 0 h v) (x := ((2, y_s B n r2), vs)) (lo := 0) (hi := h) (by omega) (by omega) (fun _ v => rfl) f5
    have j3 : J vs (y_val B n r2) = 2 := by
      rcases hJ rfl f1 with ⟨a1, a2, a3⟩ | ⟨a1, a2⟩
      · exact absurd f3 a3
      · exact a1
    have eq : y_stp B n J none ((0, r2), vs) = ((2, y_s B n r2), vs) := by
      rw [y_stp_n, if_neg (show ¬ y_kd B n r2 ≠ 2 from fun z => z f1), j3, if_pos (by omega)]
    rw [y_stp_bad (show ((2, y_s B n r2), vs).1.1 ≠ 0 by show (2 : Nat) ≠ 0; omega)] at e2
    rw [eq]
    exact ⟨v, τ4, e1, e2, e3, fun z => absurd z (by show ¬ (2 : Nat) = 0; omega)⟩
theorem ym_ifc {τ : j_G} {b : Nat → Nat} {x : Nat} (hW : y_W b) (hm : y_mb (τ.1 81) b) (hx : x < 100) : f_X12_isFreshComing (nI x) τ = some (if y_oft b x = 0 then nI 0 else nI 1) := by
  have b5 := hW.b5
  have ho := hW.ho
  have key : ∀ m k f, k + m = b 5 → m < f → p_X12_isFreshComing_2 (nI x) τ f (nI k) = some (if y_su (y_of1 b x) m k 0 = 0 then nI 0 else nI 1) := by
    intro m
    induction m with
    | zero =>
      intro k f h hf
      obtain ⟨f, rfl⟩ := y_pos hf
      unfold p_X12_isFreshComing_2 y_su
      simp (disch := omega) only [y_lit, y_n1, nI_add, pk_mul, j_lt, j_b1_s, j_b2_s, j_b3_s, j_b0_s, y_bo, y_bo1, y_bo0, y_i0, y_i1, Classical.not_not, nI_clamp, y_ix, y_lt, y_le, y_eq, y_nP, y_nPs, y_ltP, y_ltQ, y_ltPP, y_eqP, y_eqQ, y_eqPP, if_pos, if_neg, ite_true, ite_false, not_true_eq_false, not_false_eq_true, and_true, true_and, and_false, false_and, or_true, true_or, or_false, false_or, hm.f]
    | succ m ih =>
      intro k f h hf
      obtain ⟨f, rfl⟩ := y_pos hf
      have co := hW.co (k := k) (by omega)
      rw [y_su_s]
      unfold p_X12_isFreshComing_2
      simp (disch := omega) only [y_lit, y_n1, nI_add, pk_mul, j_lt, j_b1_s, j_b2_s, j_b3_s, j_b0_s, y_bo, y_bo1, y_bo0, y_i0, y_i1, Classical.not_not, nI_clamp, y_ix, y_lt, y_le, y_eq, y_nP, y_nPs, y_ltP, y_ltQ, y_ltPP, y_eqP, y_eqQ, y_eqPP, if_pos, if_neg, ite_true, ite_false, not_true_eq_false, not_false_eq_true, and_true, true_and, and_false, false_and, or_true, true_or, or_false, false_or, hm.f, Nat.add_zero]
      have e1 : τ.1 81 (24 + 3 * k + 1) = nP (b (25 + 3 * k)) := by rw [show 24 + 3 * k + 1 = 25 + 3 * k by omega]; exact hm.k1 (by omega)
      rw [hm.k0 (k := k) (by omega), e1]
      have e0 : ¬ nI (b (24 + 3 * k)) = nI x ↔ ¬ b (24 + 3 * k) = x := by rw [y_eq (by omega) (by omega)]
      have e2 : nP (b (25 + 3 * k)) = nI x ↔ b (25 + 3 * k) = x + 1 := y_eqP (by omega) (by omega)
      by_cases c : b (24 + 3 * k) = x
      · have o : y_of1 b x k = 1 := if_pos (Or.inl c)
        rw [if_neg (fun z => e0.mp z c), if_neg (by omega)]
      · rw [if_pos (e0.mpr c)]
        by_cases d : b (25 + 3 * k) = x + 1
        · have o : y_of1 b x k = 1 := if_pos (Or.inr d)
          rw [if_pos (e2.mpr d), if_neg (by omega)]
        · have o : y_of1 b x k = 0 := if_neg (fun z => z.elim c d)
          rw [if_neg (fun z => d (e2.mp z)), o, Nat.add_zero]
          exact ih (k + 1) f (by omega) (by omega)
  unfold f_X12_isFreshComing
  rw [show (0 : Int32) = nI 0 from rfl, key (b 5) 0 j_F (by omega) (y_F (by omega))]; rfl
theorem y_qo0 {b : Nat → Nat} {v : Nat} : y_qo b v = 0 ↔ v < y_ho b ∧ y_sh b v = 0 := by
  unfold y_qo
  by_cases c : v < y_ho b ∧ y_sh b v = 0
  · rw [if_pos c]; exact ⟨fun _ => c, fun _ => rfl⟩
  · rw [if_neg c]; exact ⟨fun z => absurd z (by omega), fun z => absurd z c⟩
theorem ym_b7 {τ : j_G} {b : Nat → Nat} (hW : y_W b) (hm : y_mb (τ.1 81) b) {v : Nat} (hv : v < 31) : (((τ.1 81 7) >>> ((nI v) &&& (31 : Int32))) &&& (1 : Int32)) = nI (y_sh b v) := by
  have b7 := hW.b7
  rw [hm.f (by omega), show (31 : Int32) = nI 31 from rfl, show (1 : Int32) = nI 1 from rfl, y_bit (by omega) hv]; rfl
theorem ym_rshut {τ : j_G} {b : Nat → Nat} {p : Nat} (hW : y_W b) (on : 0 < b 9) (h : y_mw τ B n (0, p)) (hm : y_mb (τ.1 81) b) :
    ∃ τ', f_X12_readShut τ = some τ' ∧ y_mw τ' B n (y_gq B n (y_q2 b) [none] ((0, p), [])).1 ∧ y_fl τ τ' ∧
      ((y_gq B n (y_q2 b) [none] ((0, p), [])).1.1 = 0 → ∃ w0, (y_gq B n (y_q2 b) [none] ((0, p), [])).2 = [w0] ∧ w0 < y_ho b ∧ y_sh b w0 = 0 ∧ y_oft b w0 = 0 ∧ y_mb (τ'.1 81) (y_u b 7 (b 7 ||| 2 ^ w0))) := by
  have ho := hW.ho
  have hp := hW.on1 on
  have vl := y_val_le B n p
  have i1 : ¬ nI 1 = (0 : Int32) := by decide
  obtain ⟨g1, gg2, q9, q8, q10, q11⟩ := h.2.2.2.1 rfl
  obtain ⟨τ2, d0, d1, d2⟩ : ∃ τ2, (∀ K : j_G → Option j_G, (j_b1 (f_X12_isNextHole τ) fun v1 => j_b1 (if ¬ v1 = 0 then (j_ix (7 : Int32) 116 (j_lt (j_b1 (f_X12_errs (2 : Int32) τ) fun σ5 => some σ5) fun (k3 : Option j_G) =>
      if ¬ (((τ.1 81 ((7 : Int32)).toNatClampNeg) >>> ((τ.1 75 11) &&& (31 : Int32))) &&& (1 : Int32)) = (1 : Int32) then (j_b1 (f_X12_isFreshComing (τ.1 75 11) τ) fun v4 => if ¬ v4 = 0 then (k3) else (some τ)) else (k3))) else (some τ)) K) = K τ2) ∧
      ((y_mw τ2 B n (0, p) ∧ ((0 : Nat) = 0 → y_kd B n p = 2 → y_val B n p < y_ho b → ¬ (y_sh b (y_val B n p) = 1 ∨ y_oft b (y_val B n p) ≠ 0))) ∨ ((0 : Nat) = 0 ∧ y_kd B n p = 2 ∧ y_val B n p < y_ho b ∧ (y_sh b (y_val B n p) = 1 ∨ y_oft b (y_val B n p) ≠ 0) ∧ y_mw τ2 B n (2, y_s B n p))) ∧ y_fm 8 13 1 0 τ τ2 := by
    rw [ym_nh hW hm h]
    by_cases c : (0 : Nat) = 0 ∧ y_kd B n p = 2 ∧ y_val B n p < y_ho b
    · obtain ⟨_, c1, c2⟩ := c
      have e11 : τ.1 75 11 = nI (y_val B n p) := by
        have : τ.1 75 11 = nI (min 99999 (y_val B n p)) := q11 c1
        rw [this]; congr 1; omega
      obtain ⟨τ', e1, e2, e3⟩ := ym_errs (k := 2) (by omega) (by omega) h
      have sh2 : y_sh b (y_val B n p) < 2 := Nat.mod_lt _ (by omega)
      by_cases s : y_sh b (y_val B n p) = 1
      · refine ⟨τ', fun K => ?_, Or.inr ⟨rfl, c1, c2, Or.inl s, e2⟩, e3.wide (by omega) (by omega) (by omega) (by omega)⟩
        rw [j_b1_s, if_pos (show (0, p).1 = 0 ∧ y_kd B n (0, p).2 = 2 ∧ y_val B n (0, p).2 < y_ho b from ⟨rfl, c1, c2⟩), if_pos i1, show j_ix (7 : Int32) 116 _ = _ from y_i81 (k := 7) (by omega)]
        simp only [j_lt]
        rw [e11, show ((7 : Int32)).toNatClampNeg = 7 from rfl, ym_b7 hW hm (by omega), s, if_neg (fun z => z rfl), show (2 : Int32) = nI 2 from rfl, e1, j_b1_s, j_b1_s]
      · by_cases o : y_oft b (y_val B n p) = 0
        · refine ⟨τ, fun K => ?_, Or.inl ⟨h, fun _ _ _ z => z.elim s (fun z => z o)⟩, y_fm.refl⟩
          rw [j_b1_s, if_pos (show (0, p).1 = 0 ∧ y_kd B n (0, p).2 = 2 ∧ y_val B n (0, p).2 < y_ho b from ⟨rfl, c1, c2⟩), if_pos i1, show j_ix (7 : Int32) 116 _ = _ from y_i81 (k := 7) (by omega)]
          simp only [j_lt]
          rw [e11, show ((7 : Int32)).toNatClampNeg = 7 from rfl, ym_b7 hW hm (by omega), if_pos (show ¬ nI (y_sh b (y_val B n p)) = (1 : Int32) by rw [show (1 : Int32) = nI 1 from rfl, y_eq (by omega) (by omega)]; exact s), ym_ifc hW hm (by omega), j_b1_s, if_pos o, if_neg (fun z => z rfl), j_b1_s]
        · refine ⟨τ', fun K => ?_, Or.inr ⟨rfl, c1, c2, Or.inr o, e2⟩, e3.wide (by omega) (by omega) (by omega) (by omega)⟩
          rw [j_b1_s, if_pos (show (0, p).1 = 0 ∧ y_kd B n (0, p).2 = 2 ∧ y_val B n (0, p).2 < y_ho b from ⟨rfl, c1, c2⟩), if_pos i1, show j_ix (7 : Int32) 116 _ = _ from y_i81 (k := 7) (by omega)]
          simp only [j_lt]
          rw [e11, show ((7 : Int32)).toNatClampNeg = 7 from rfl, ym_b7 hW hm (by omega), if_pos (show ¬ nI (y_sh b (y_val B n p)) = (1 : Int32) by rw [show (1 : Int32) = nI 1 from rfl, y_eq (by omega) (by omega)]; exact s), ym_ifc hW hm (by omega), j_b1_s, if_neg o, if_pos i1, show (2 : Int32) = nI 2 from rfl, e1, j_b1_s, j_b1_s]
    · refine ⟨τ, fun K => ?_, Or.inl ⟨h, fun _ a d => absurd ⟨rfl, a, d⟩ c⟩, y_fm.refl⟩
      rw [j_b1_s, if_neg (show ¬ ((0, p).1 = 0 ∧ y_kd B n (0, p).2 = 2 ∧ y_val B n (0, p).2 < y_ho b) from c), if_neg (fun z => z rfl), j_b1_s]
  have m2 := hm.fm d2
  obtain ⟨v, τ4, e1, e2, e3, e4⟩ := ym_hn (J := y_q2 b) (x := ((0, p), [])) (P := fun v => y_sh b v = 1 ∨ y_oft b v ≠ 0) ho (fun _ k => by
    have sh2 : y_sh b (y_val B n p) < 2 := Nat.mod_lt _ (by omega)
    show (y_q2 b [] (y_val B n p) = 0 ∧ y_val B n p < y_ho b ∧ ¬ (y_sh b (y_val B n p) = 1 ∨ y_oft b (y_val B n p) ≠ 0)) ∨ (y_q2 b [] (y_val B n p) = 2 ∧ (¬ y_val B n p < y_ho b ∨ (y_sh b (y_val B n p) = 1 ∨ y_oft b (y_val B n p) ≠ 0)))
    unfold y_q2
    by_cases c : y_qo b (y_val B n p) = 0 ∧ y_oft b (y_val B n p) = 0
    · have := y_qo0.mp c.1
      rw [if_pos c]; left; exact ⟨rfl, this.1, by omega⟩
    · rw [if_neg c]; right
      refine ⟨rfl, ?_⟩
      rw [y_qo0] at c
      omega) d1
  have m4 := m2.fm e3
  have gd := ym_good e2
  have go : y_gq B n (y_q2 b) [none] ((0, p), []) = y_stp B n (y_q2 b) none ((0, p), []) := rfl
  rw [go]
  have e1' : f_X12_number (0 : Int32) (nI (y_ho b) - (1 : Int32)) τ2 = some (v, τ4) := e1
  have pre : f_X12_readShut τ = if ¬ (f_X12_good τ4) = 0 then (j_ix (7 : Int32) 116 (j_ix (7 : Int32) 116 (j_lt (j_si τ4 81 ((7 : Int32)).toNatClampNeg ((τ4.1 81 ((7 : Int32)).toNatClampNeg) ||| ((1 : Int32) <<< (v &&& (31 : Int32))))) fun σ9 => some σ9))) else (some τ4) := by
    unfold f_X12_readShut
    refine Eq.trans (d0 _) ?_
    rw [ym_fh m2, j_b1_s, e1', j_b2_s]
  rw [pre, gd]
  by_cases z : (y_stp B n (y_q2 b) none ((0, p), [])).1.1 = 0
  · obtain ⟨k1, k2, k3, k4⟩ := e4 z
    have k3' : y_val B n p < y_ho b := k3
    have k4' : ¬ (y_sh b (y_val B n p) = 1 ∨ y_oft b (y_val B n p) ≠ 0) := k4
    have sh2 : y_sh b (y_val B n p) < 2 := Nat.mod_lt _ (by omega)
    subst k1
    rw [if_pos z, if_pos i1, show j_ix (7 : Int32) 116 _ = _ from y_i81 (k := 7) (by omega), show j_ix (7 : Int32) 116 _ = _ from y_i81 (k := 7) (by omega)]
    simp only [j_lt]
    refine ⟨_, rfl, e2.s81, y_fl.s (y_fl.t (y_fl.of d2) e3), fun _ => ⟨y_val B n p, k2, k3, by omega, by omega, ?_⟩⟩
    rw [show ((7 : Int32)).toNatClampNeg = 7 from rfl, m4.f (j := 7) (by omega), show (1 : Int32) = nI 1 from rfl, show (31 : Int32) = nI 31 from rfl, y_shl (by show y_val B n p < 31; omega), y_or]
    exact y_mbs m4 (by omega)
  · rw [if_neg z, if_neg (show ¬ ¬ nI 0 = (0 : Int32) from fun z => z rfl)]
    exact ⟨τ4, rfl, e2, y_fl.t (y_fl.of d2) e3, fun w => absurd w z⟩
end R
/-! ===== a hole, a coming, a player ===== -/
section R
variable {B : Nat → Int32} {n : Nat}
theorem ym_rhole {τ : j_G} {b : Nat → Nat} {x : (Nat × Nat) × List Nat} {J : List Nat → Nat → Nat} {but : Int32} (hW : y_W b) (on : 0 < b 9) (h : y_mw τ B n x.1) (hm : y_mb (τ.1 81) b)
    (hJ : x.1.1 = 0 → ∀ v, v ≤ 1000000 → J x.2 v = if y_qo b v = 0 ∧ nI v ≠ but then 0 else 2) :
    ∃ v τ', f_X12_readHole but τ = some (v, τ') ∧ y_mw τ' B n (y_stp B n J none x).1 ∧ y_fm 8 13 1 0 τ τ' ∧ ((y_stp B n J none x).1.1 = 0 → v = nI (y_val B n x.1.2) ∧ (y_stp B n J none x).2 = x.2 ++ [y_val B n x.1.2] ∧ y_val B n x.1.2 < y_ho b ∧ y_sh b (y_val B n x.1.2) = 0 ∧ nI (y_val B n x.1.2) ≠ but) := by
  have ho := hW.ho
  have hp := hW.on1 on
  obtain ⟨⟨r1, p⟩, vs⟩ := x
  have vl := y_val_le B n p
  have i1 : ¬ nI 1 = (0 : Int32) := by decide
  have sh2 : y_sh b (y_val B n p) < 2 := Nat.mod_lt _ (by omega)
  obtain ⟨τ2, d0, d1, d2⟩ : ∃ τ2, (∀ K : j_G → Option (Int32 × j_G), (j_b1 (f_X12_isNextHole τ) fun v1 => j_b1 (if ¬ v1 = 0 then (j_ix (7 : Int32) 116 (
      if ((((τ.1 81 ((7 : Int32)).toNatClampNeg) >>> ((τ.1 75 11) &&& 31)) &&& (1 : Int32)) = (1 : Int32)) ∨ ((τ.1 75 11) = but) then (j_b1 (f_X12_errs (2 : Int32) τ) fun σ3 => some σ3) else (some τ))) else (some τ)) K) = K τ2) ∧
      ((y_mw τ2 B n (r1, p) ∧ (r1 = 0 → y_kd B n p = 2 → y_val B n p < y_ho b → ¬ (y_sh b (y_val B n p) = 1 ∨ nI (y_val B n p) = but))) ∨ (r1 = 0 ∧ y_kd B n p = 2 ∧ y_val B n p < y_ho b ∧ (y_sh b (y_val B n p) = 1 ∨ nI (y_val B n p) = but) ∧ y_mw τ2 B n (2, y_s B n p))) ∧ y_fm 8 13 1 0 τ τ2 := by
    rw [ym_nh hW hm h]
    by_cases c : r1 = 0 ∧ y_kd B n p = 2 ∧ y_val B n p < y_ho b
    · obtain ⟨c0, c1, c2⟩ := c
      subst c0
      obtain ⟨g1, gg2, q9, q8, q10, q11⟩ := h.2.2.2.1 rfl
      have e11 : τ.1 75 11 = nI (y_val B n p) := by
        have : τ.1 75 11 = nI (min 99999 (y_val B n p)) := q11 c1
        rw [this]; congr 1; omega
      obtain ⟨τ', e1, e2, e3⟩ := ym_errs (k := 2) (by omega) (by omega) h
      have bit : ((τ.1 81 ((7 : Int32)).toNatClampNeg) >>> ((τ.1 75 11) &&& 31)) &&& (1 : Int32) = nI (y_sh b (y_val B n p)) := by
        rw [e11, show ((7 : Int32)).toNatClampNeg = 7 from rfl]; exact ym_b7 hW hm (by omega)
      by_cases s : y_sh b (y_val B n p) = 1 ∨ nI (y_val B n p) = but
      · refine ⟨τ', fun K => ?_, Or.inr ⟨rfl, c1, c2, s, e2⟩, e3.wide (by omega) (by omega) (by omega) (by omega)⟩
        rw [j_b1_s, if_pos (show ((0, p), vs).1.1 = 0 ∧ y_kd B n ((0, p), vs).1.2 = 2 ∧ y_val B n ((0, p), vs).1.2 < y_ho b from ⟨rfl, c1, c2⟩), if_pos i1, show j_ix (7 : Int32) 116 _ = _ from y_i81 (k := 7) (by omega), bit, e11, if_pos (show nI (y_sh b (y_val B n p)) = (1 : Int32) ∨ nI (y_val B n p) = but from s.elim (fun z => Or.inl (by rw [z]; rfl)) Or.inr), show (2 : Int32) = nI 2 from rfl, e1, j_b1_s, j_b1_s]
      · refine ⟨τ, fun K => ?_, Or.inl ⟨h, fun _ _ _ => s⟩, y_fm.refl⟩
        rw [j_b1_s, if_pos (show ((0, p), vs).1.1 = 0 ∧ y_kd B n ((0, p), vs).1.2 = 2 ∧ y_val B n ((0, p), vs).1.2 < y_ho b from ⟨rfl, c1, c2⟩), if_pos i1, show j_ix (7 : Int32) 116 _ = _ from y_i81 (k := 7) (by omega), bit, e11, if_neg (show ¬ (nI (y_sh b (y_val B n p)) = (1 : Int32) ∨ nI (y_val B n p) = but) from fun z => s (z.elim (fun z => Or.inl (by rw [show (1 : Int32) = nI 1 from rfl, y_eq (by omega) (by omega)] at z; exact z)) Or.inr)), j_b1_s]
    · refine ⟨τ, fun K => ?_, Or.inl ⟨h, fun a d e => absurd ⟨a, d, e⟩ c⟩, y_fm.refl⟩
      rw [j_b1_s, if_neg (show ¬ (((r1, p), vs).1.1 = 0 ∧ y_kd B n ((r1, p), vs).1.2 = 2 ∧ y_val B n ((r1, p), vs).1.2 < y_ho b) from c), if_neg (fun z => z rfl), j_b1_s]
  have m2 := hm.fm d2
  obtain ⟨v, τ4, e1, e2, e3, e4⟩ := ym_hn (J := J) (x := ((r1, p), vs)) (P := fun v => y_sh b v = 1 ∨ nI v = but) ho (fun z k => by
    show (J vs (y_val B n p) = 0 ∧ y_val B n p < y_ho b ∧ ¬ (y_sh b (y_val B n p) = 1 ∨ nI (y_val B n p) = but)) ∨ (J vs (y_val B n p) = 2 ∧ (¬ y_val B n p < y_ho b ∨ (y_sh b (y_val B n p) = 1 ∨ nI (y_val B n p) = but)))
    rw [show J vs (y_val B n p) = _ from hJ z _ vl]
    by_cases c : y_qo b (y_val B n p) = 0 ∧ nI (y_val B n p) ≠ but
    · have := y_qo0.mp c.1
      rw [if_pos c]; left
      exact ⟨rfl, this.1, fun w => w.elim (fun w => by omega) (fun w => c.2 w)⟩
    · rw [if_neg c]; right
      refine ⟨rfl, ?_⟩
      by_cases d : nI (y_val B n p) = but
      · exact Or.inr (Or.inr d)
      · rw [y_qo0] at c
        by_cases e : y_val B n p < y_ho b
        · right; left
          by_cases f : y_sh b (y_val B n p) = 0
          · exact absurd ⟨⟨e, f⟩, d⟩ c
          · omega
        · exact Or.inl e) d1
  have e1' : f_X12_number (0 : Int32) (nI (y_ho b) - (1 : Int32)) τ2 = some (v, τ4) := e1
  refine ⟨v, τ4, ?_, e2, d2.trans e3, fun z => ?_⟩
  · unfold f_X12_readHole
    refine Eq.trans (d0 _) ?_
    rw [ym_fh m2, j_b1_s, e1', j_b2_s]
  · obtain ⟨k1, k2, k3, k4⟩ := e4 z
    have k4' : ¬ (y_sh b (y_val B n p) = 1 ∨ nI (y_val B n p) = but) := k4
    refine ⟨k1, k2, k3, ?_, fun w => k4' (Or.inr w)⟩
    show y_sh b (y_val B n p) = 0
    have : y_sh b (y_val B n p) ≠ 1 := fun w => k4' (Or.inl w)
    omega
theorem ym_acw {τ : j_G} {b : Nat → Nat} {r : Nat × Nat} {v w e : Nat} {xw xe : Int32} (hw : xw = nP w) (he : xe = nI e) (h5 : b 5 < 24) (h : y_mw τ B n r) (hm : y_mb (τ.1 81) b) :
    ∃ τ', (j_ix (nI (24 + 3 * b 5) + (0 : Int32)) 116 (
  j_lt (j_si τ 81 ((nI (24 + 3 * b 5) + (0 : Int32))).toNatClampNeg (nI v)) fun σ8 =>
  j_ix (nI (24 + 3 * b 5) + (1 : Int32)) 116 (
  j_lt (j_si σ8 81 ((nI (24 + 3 * b 5) + (1 : Int32))).toNatClampNeg xw) fun σ9 =>
  j_lt xe fun v10 =>
  j_ix (nI (24 + 3 * b 5) + (2 : Int32)) 116 (
  j_lt (j_si σ9 81 ((nI (24 + 3 * b 5) + (2 : Int32))).toNatClampNeg v10) fun σ11 =>
  j_ix (5 : Int32) 116 (
  j_ix (5 : Int32) 116 (
  j_lt (j_si σ11 81 ((5 : Int32)).toNatClampNeg ((σ11.1 81 ((5 : Int32)).toNatClampNeg) + (1 : Int32))) fun σ12 =>
  some σ12)))))) = some τ' ∧ y_mw τ' B n r ∧ y_fl τ τ' ∧ y_mb (τ'.1 81) (y_ac b v w e) := by
  subst hw
  subst he
  have hm5 : τ.1 81 5 = nI (b 5) := hm.f (by omega)
  refine ⟨j_si (j_si (j_si (j_si τ 81 (24 + 3 * b 5) (nI v)) 81 (25 + 3 * b 5) (nP w)) 81 (26 + 3 * b 5) (nI e)) 81 5 (nI (b 5 + 1)), ?_, h.s81.s81.s81.s81, y_fl.s (y_fl.s (y_fl.s (y_fl.s y_fm.refl))), ?_⟩
  · simp (disch := omega) only [y_lit, y_n1, nI_add, pk_mul, j_lt, j_b1_s, j_b2_s, j_b3_s, j_b0_s, y_bo, y_bo1, y_bo0, y_i0, y_i1, Classical.not_not, nI_clamp, y_ix, y_lt, y_le, y_eq, y_nP, y_nPs, y_ltP, y_ltQ, y_ltPP, y_eqP, y_eqQ, y_eqPP, if_pos, if_neg, ite_true, ite_false, not_true_eq_false, not_false_eq_true, and_true, true_and, and_false, false_and, or_true, true_or, or_false, false_or, j_r_ne, j_r_eq, j_r_nj, Nat.add_zero, hm5, show 24 + 3 * b 5 + 1 = 25 + 3 * b 5 by omega, show 24 + 3 * b 5 + 2 = 26 + 3 * b 5 by omega]
  · exact y_mbs (y_mbs (y_mbp (y_mbs hm (by omega)) (by omega)) (by omega)) (by omega)
theorem ym_e5 {τ : j_G} {b : Nat → Nat} (hW : y_W b) (hm : y_mb (τ.1 81) b) : (24 : Int32) + (3 : Int32) * (τ.1 81 ((5 : Int32)).toNatClampNeg) = nI (24 + 3 * b 5) := by
  have b5 := hW.b5
  rw [show ((5 : Int32)).toNatClampNeg = 5 from rfl, hm.f (j := 5) (by omega), show (24 : Int32) = nI 24 from rfl, show (3 : Int32) = nI 3 from rfl, pk_mul, nI_add]
theorem ym_rcom1 {τ : j_G} {b : Nat → Nat} {p r : Nat} (hW : y_W b) (on : 0 < b 9) (h5 : b 5 < 24) (hr : r ≤ 1) (h : y_mw τ B n (0, p)) (hm : y_mb (τ.1 81) b) :
    ∃ τ', f_X12_readComing (nI r) (0 : Int32) τ = some τ' ∧ y_mw τ' B n (y_gq B n (fun _ v => y_qo b v) [none] ((0, p), [])).1 ∧ y_fl τ τ' ∧
      ((y_gq B n (fun _ v => y_qo b v) [none] ((0, p), [])).1.1 = 0 → ∃ w0, (y_gq B n (fun _ v => y_qo b v) [none] ((0, p), [])).2 = [w0] ∧ w0 < y_ho b ∧ y_sh b w0 = 0 ∧ y_mb (τ'.1 81) (y_ac b w0 0 r)) := by
  obtain ⟨v, τ1, a1, a2, a3, a4⟩ := ym_rhole (x := ((0, p), [])) (J := fun _ v => y_qo b v) (but := (-1 : Int32)) hW on h hm (fun _ v hv => by
    have ne : nI v ≠ (-1 : Int32) := by rw [y_m1, ne_eq, y_eqQ (by omega) (by omega)]; omega
    show y_qo b v = _
    by_cases c : y_qo b v = 0
    · rw [if_pos ⟨c, ne⟩]; exact c
    · rw [if_neg (fun z => c z.1)]; exact y_qo2 c)
  have m1 := hm.fm a3
  have gd := ym_good a2
  have go : y_gq B n (fun _ v => y_qo b v) [none] ((0, p), []) = y_stp B n (fun _ v => y_qo b v) none ((0, p), []) := rfl
  rw [go]
  unfold f_X12_readComing
  rw [show j_ix (5 : Int32) 116 _ = _ from y_i81 (k := 5) (by omega)]
  simp only [j_lt]
  rw [ym_e5 hW hm, a1, j_b2_s, if_neg (show ¬ ¬ True from fun z => z trivial), j_b2_s, gd]
  by_cases z : (y_stp B n (fun _ v => y_qo b v) none ((0, p), [])).1.1 = 0
  · obtain ⟨k1, k2, k3, k4, _⟩ := a4 z
    subst k1
    rw [if_pos z, if_neg (show ¬ nI 1 = (0 : Int32) by decide)]
    obtain ⟨τ', t1, t2, t3, t4⟩ := ym_acw (v := y_val B n p) (w := 0) (e := r) (xe := if ¬ (nI r) = 0 then ((1 : Int32)) else ((0 : Int32))) y_m1 (by
      obtain rfl | rfl : r = 0 ∨ r = 1 := by omega
      · rw [if_neg (fun z => z rfl)]; rfl
      · rw [if_pos (by decide)]; rfl) h5 a2 m1
    exact ⟨τ', t1, t2, y_fm.trans (y_fl.of a3) t3, fun _ => ⟨_, k2, k3, k4, t4⟩⟩
  · rw [if_neg z, if_pos (show nI 0 = (0 : Int32) from rfl)]
    exact ⟨τ1, rfl, a2, y_fl.of a3, fun w => absurd w z⟩
theorem ym_rcom2 {τ : j_G} {b : Nat → Nat} {p : Nat} (hW : y_W b) (on : 0 < b 9) (h5 : b 5 < 24) (h : y_mw τ B n (0, p)) (hm : y_mb (τ.1 81) b) :
    ∃ τ', f_X12_readComing (0 : Int32) (1 : Int32) τ = some τ' ∧ y_mw τ' B n (y_gq B n (y_q5 b) [none, none] ((0, p), [])).1 ∧ y_fl τ τ' ∧
      ((y_gq B n (y_q5 b) [none, none] ((0, p), [])).1.1 = 0 → ∃ w0 w1, (y_gq B n (y_q5 b) [none, none] ((0, p), [])).2 = [w0, w1] ∧ w0 < y_ho b ∧ y_sh b w0 = 0 ∧ w1 < y_ho b ∧ y_sh b w1 = 0 ∧ w1 ≠ w0 ∧ y_mb (τ'.1 81) (y_ac b w0 (w1 + 1) 0)) := by
  obtain ⟨v, τ1, a1, a2, a3, a4⟩ := ym_rhole (x := ((0, p), [])) (J := y_q5 b) (but := (-1 : Int32)) hW on h hm (fun _ v hv => by
    have ne : nI v ≠ (-1 : Int32) := by rw [y_m1, ne_eq, y_eqQ (by omega) (by omega)]; omega
    show y_q5 b [] v = _
    unfold y_q5
    by_cases c : y_qo b v = 0
    · exact (if_pos ⟨c, Or.inl rfl⟩).trans (if_pos ⟨c, ne⟩).symm
    · exact (if_neg (fun z => c z.1)).trans (if_neg (fun z => c z.1)).symm)
  have m1 := hm.fm a3
  have go : y_gq B n (y_q5 b) [none, none] ((0, p), []) = y_stp B n (y_q5 b) none (y_stp B n (y_q5 b) none ((0, p), [])) := rfl
  rw [go]
  clear go
  generalize y_stp B n (y_q5 b) none ((0, p), []) = X1 at *
  obtain ⟨v2, τ2, c1, c2, c3, c4⟩ := ym_rhole (x := X1) (J := y_q5 b) (but := v) hW on a2 m1 (fun z u hu => by
    obtain ⟨k1, k2, k3, k4, _⟩ := a4 z
    have vl := y_val_le B n p
    rw [k1, k2]
    show (if y_qo b u = 0 ∧ (1 = 0 ∨ u ≠ y_val B n p) then 0 else 2) = if y_qo b u = 0 ∧ nI u ≠ nI (y_val B n p) then 0 else 2
    have e : (1 = 0 ∨ u ≠ y_val B n p) ↔ nI u ≠ nI (y_val B n p) := by rw [ne_eq, ne_eq, y_eq (by omega) (by omega)]; omega
    by_cases c : y_qo b u = 0 ∧ nI u ≠ nI (y_val B n p)
    · exact (if_pos ⟨c.1, e.mpr c.2⟩).trans (if_pos c).symm
    · exact (if_neg (fun w => c ⟨w.1, e.mp w.2⟩)).trans (if_neg c).symm)
  have m2 := m1.fm c3
  have gd := ym_good c2
  have g1 : (y_stp B n (y_q5 b) none X1).1.1 = 0 → X1.1.1 = 0 := y_stp_good
  unfold f_X12_readComing
  rw [show j_ix (5 : Int32) 116 _ = _ from y_i81 (k := 5) (by omega)]
  simp only [j_lt]
  rw [ym_e5 hW hm, a1, j_b2_s, if_pos (show ¬ (1 : Int32) = 0 by decide), c1, j_b2_s, j_b2_s, gd]
  by_cases z : (y_stp B n (y_q5 b) none X1).1.1 = 0
  · obtain ⟨k1, k2, k3, k4, _⟩ := a4 (g1 z)
    obtain ⟨q1, q2, q3, q4, q5⟩ := c4 z
    subst k1
    subst q1
    have vl := y_val_le B n p
    have vl2 := y_val_le B n X1.1.2
    have q5' : nI (y_val B n X1.1.2) ≠ nI (y_val B n p) := q5
    rw [ne_eq, y_eq (by omega) (by omega)] at q5'
    rw [if_pos z, if_neg (show ¬ nI 1 = (0 : Int32) by decide)]
    obtain ⟨τ', t1, t2, t3, t4⟩ := ym_acw (v := y_val B n p) (w := y_val B n X1.1.2 + 1) (e := 0) (xw := nI (y_val B n X1.1.2)) (xe := if ¬ (0 : Int32) = 0 then ((1 : Int32)) else ((0 : Int32))) (y_nPs _).symm (by rw [if_neg (fun z => z rfl)]; rfl) h5 c2 m2
    exact ⟨τ', t1, t2, y_fm.trans (y_fl.t (y_fl.of a3) c3) t3, fun _ => ⟨_, _, by rw [q2, k2]; rfl, k3, k4, q3, q4, q5', t4⟩⟩
  · rw [if_neg z, if_pos (show nI 0 = (0 : Int32) from rfl)]
    exact ⟨τ2, rfl, c2, y_fl.t (y_fl.of a3) c3, fun w => absurd w z⟩
end R
/-! ===== a player, tickets ===== -/
section R
variable {B : Nat → Int32} {n : Nat}
def y_F24 (τ : j_G) (b : Nat → Nat) : Prop := ∀ j, j < 24 → τ.1 81 j = nI (b j)
theorem y_F24.fm {τ τ' : j_G} {b : Nat → Nat} {f g : Nat} (h : y_F24 τ b) (hf : y_fm f g 1 0 τ τ') : y_F24 τ' b := fun j hj => by rw [(hf.2 81 (by omega) (by omega)).1]; exact h j hj
theorem y_F24.s {τ : j_G} {b : Nat → Nat} {k : Nat} {v : Int32} (h : y_F24 τ b) (hk : 24 ≤ k) : y_F24 (j_si τ 81 k v) b := fun j hj => by rw [j_r_nj (by omega)]; exact h j hj
theorem ym_fh2 {τ : j_G} {b : Nat → Nat} (h : y_F24 τ b) : f_X12_freshHoles τ = some (nI (y_ho b)) := by
  have e0 := h 0 (by omega)
  have e1 := h 1 (by omega)
  unfold f_X12_freshHoles y_ho
  simp (disch := omega) only [y_lit, y_n1, nI_add, pk_mul, j_lt, j_b1_s, j_b2_s, j_b3_s, j_b0_s, y_bo, y_bo1, y_bo0, y_i0, y_i1, Classical.not_not, nI_clamp, y_ix, y_lt, y_le, y_eq, y_nP, y_nPs, y_ltP, y_ltQ, y_ltPP, y_eqP, y_eqQ, y_eqPP, if_pos, if_neg, ite_true, ite_false, not_true_eq_false, not_false_eq_true, and_true, true_and, and_false, false_and, or_true, true_or, or_false, false_or, e0, e1]
theorem ym_rplayer {τ : j_G} {b : Nat → Nat} {p : Nat} (hW : y_W b) (on : 0 < b 9) (h6 : b 6 < 4) (h : y_mw τ B n (0, p)) (hm : y_mb (τ.1 81) b) :
    ∃ τ', f_X12_readPlayer τ = some τ' ∧ y_mw τ' B n (y_gq B n (y_q6 b) [some (y_L 21), none, some (y_L 22), none, some (y_L 23), none, some (y_L 24), none, some (y_L 25), none] ((0, p), [])).1 ∧ y_fl τ τ' ∧
      ((y_gq B n (y_q6 b) [some (y_L 21), none, some (y_L 22), none, some (y_L 23), none, some (y_L 24), none, some (y_L 25), none] ((0, p), [])).1.1 = 0 → ∃ w0 w1 w2 w3 w4, (y_gq B n (y_q6 b) [some (y_L 21), none, some (y_L 22), none, some (y_L 23), none, some (y_L 24), none, some (y_L 25), none] ((0, p), [])).2 = [w0, w1, w2, w3, w4] ∧ (1 ≤ w0 ∧ w0 < 10) ∧ w1 < 21 ∧ w2 < 100 ∧ w3 < 10 ∧ w4 < y_ho b ∧ y_mb (τ'.1 81) (y_pb b w0 w1 w2 w3 w4)) := by
  have ho := hW.ho
  have go : y_gq B n (y_q6 b) [some (y_L 21), none, some (y_L 22), none, some (y_L 23), none, some (y_L 24), none, some (y_L 25), none] ((0, p), []) = y_gq B n (y_q6 b) [some (y_L 25), none] (y_gq B n (y_q6 b) [some (y_L 24), none] (y_gq B n (y_q6 b) [some (y_L 23), none] (y_gq B n (y_q6 b) [some (y_L 22), none] (y_gq B n (y_q6 b) [some (y_L 21), none] ((0, p), []))))) := rfl
  rw [go]
  clear go
  have F0 : y_F24 τ b := fun j hj => hm.f hj
  obtain ⟨v0, τ1, a1, a2, a3, a4⟩ := ym_toldR (J := y_q6 b) (x := ((0, p), [])) (lo := 1) (hi := 10) (y_strK (k := 21) (by omega)) (y_ne 21 (by omega)) (by omega) (by omega) (fun _ v => rfl) h
  have F1 := (F0.fm a3).s (k := 96 + 5 * b 6) (v := v0) (by omega)
  generalize y_gq B n (y_q6 b) [some (y_L 21), none] ((0, p), []) = X1 at *
  obtain ⟨v1, τ2, b1, b2, b3, b4⟩ := ym_toldR (J := y_q6 b) (x := X1) (lo := 0) (hi := 21) (y_strK (k := 22) (by omega)) (y_ne 22 (by omega)) (by omega) (by omega) (fun z v => by obtain ⟨w, _, e, _⟩ := a4 z; rw [e]; rfl) (a2.s81 (j := 96 + 5 * b 6) (v := v0))
  have F2 := (F1.fm b3).s (k := 97 + 5 * b 6) (v := v1) (by omega)
  have g2 : (y_gq B n (y_q6 b) [some (y_L 22), none] X1).1.1 = 0 → X1.1.1 = 0 := y_gq_good
  generalize y_gq B n (y_q6 b) [some (y_L 22), none] X1 = X2 at *
  obtain ⟨v2, τ3, c1, c2, c3, c4⟩ := ym_toldR (J := y_q6 b) (x := X2) (lo := 0) (hi := 100) (y_strK (k := 23) (by omega)) (y_ne 23 (by omega)) (by omega) (by omega) (fun z v => by obtain ⟨w, _, e, _⟩ := a4 (g2 z); obtain ⟨w', _, e', _⟩ := b4 z; rw [e', e]; rfl) (b2.s81 (j := 97 + 5 * b 6) (v := v1))
  have F3 := (F2.fm c3).s (k := 98 + 5 * b 6) (v := v2) (by omega)
  have g3 : (y_gq B n (y_q6 b) [some (y_L 23), none] X2).1.1 = 0 → X2.1.1 = 0 := y_gq_good
  generalize y_gq B n (y_q6 b) [some (y_L 23), none] X2 = X3 at *
  obtain ⟨v3, τ4, d1, d2, d3, d4⟩ := ym_toldR (J := y_q6 b) (x := X3) (lo := 0) (hi := 10) (y_strK (k := 24) (by omega)) (y_ne 24 (by omega)) (by omega) (by omega) (fun z v => by obtain ⟨w, _, e, _⟩ := a4 (g2 (g3 z)); obtain ⟨w', _, e', _⟩ := b4 (g3 z); obtain ⟨w'', _, e'', _⟩ := c4 z; rw [e'', e', e]; rfl) (c2.s81 (j := 98 + 5 * b 6) (v := v2))
  have F4 := (F3.fm d3).s (k := 99 + 5 * b 6) (v := v3) (by omega)
  have g4 : (y_gq B n (y_q6 b) [some (y_L 24), none] X3).1.1 = 0 → X3.1.1 = 0 := y_gq_good
  generalize y_gq B n (y_q6 b) [some (y_L 24), none] X3 = X4 at *
  obtain ⟨v4, τ5, e1, e2, e3, e4⟩ := ym_toldR (J := y_q6 b) (x := X4) (lo := 0) (hi := y_ho b) (y_strK (k := 25) (by omega)) (y_ne 25 (by omega)) (by omega) (by omega) (fun z v => by obtain ⟨w, _, e, _⟩ := a4 (g2 (g3 (g4 z))); obtain ⟨w', _, e', _⟩ := b4 (g3 (g4 z)); obtain ⟨w'', _, e'', _⟩ := c4 (g4 z); obtain ⟨w''', _, e''', _⟩ := d4 z; rw [e''', e'', e', e]; rfl) (d2.s81 (j := 99 + 5 * b 6) (v := v3))
  have F5 := (F4.fm e3).s (k := 100 + 5 * b 6) (v := v4) (by omega)
  have g5 : (y_gq B n (y_q6 b) [some (y_L 25), none] X4).1.1 = 0 → X4.1.1 = 0 := y_gq_good
  generalize y_gq B n (y_q6 b) [some (y_L 25), none] X4 = X5 at *
  refine ⟨j_si (j_si τ5 81 (100 + 5 * b 6) v4) 81 6 (nI (b 6 + 1)), ?_, (e2.s81).s81, ?_, fun z => ?_⟩
  · have ix : ∀ q : Nat, q < 5 → ∀ o : Option j_G, j_ix (nI (96 + 5 * b 6) + nI q) 116 o = o := fun q hq o => by rw [nI_add]; exact y_ix (by omega) (by omega)
    have ec : ∀ q : Nat, q < 5 → (nI (96 + 5 * b 6) + nI q).toNatClampNeg = 96 + q + 5 * b 6 := fun q hq => by rw [nI_add, nI_clamp (by omega)]; omega
    have ee : (96 : Int32) + (5 : Int32) * (τ.1 81 ((6 : Int32)).toNatClampNeg) = nI (96 + 5 * b 6) := by
      rw [show ((6 : Int32)).toNatClampNeg = 6 from rfl, hm.f (j := 6) (by omega), show (96 : Int32) = nI 96 from rfl, show (5 : Int32) = nI 5 from rfl, pk_mul, nI_add]
    have f6 := F5 6 (by omega)
    have a1' : f_X12_told 2000021 (1 : Int32) (9 : Int32) τ = some (v0, τ1) := by rw [show (9 : Int32) = nP 10 from by decide]; exact a1
    have b1' : f_X12_told 2000022 (0 : Int32) (20 : Int32) (j_si τ1 81 (96 + 5 * b 6) v0) = some (v1, τ2) := by rw [show (20 : Int32) = nP 21 from by decide]; exact b1
    have c1' : f_X12_told 2000023 (0 : Int32) (99 : Int32) (j_si τ2 81 (97 + 5 * b 6) v1) = some (v2, τ3) := by rw [show (99 : Int32) = nP 100 from by decide]; exact c1
    have d1' : f_X12_told 2000024 (0 : Int32) (9 : Int32) (j_si τ3 81 (98 + 5 * b 6) v2) = some (v3, τ4) := by rw [show (9 : Int32) = nP 10 from by decide]; exact d1
    have e1' : f_X12_told 2000025 (0 : Int32) (nI (y_ho b) - (1 : Int32)) (j_si τ4 81 (99 + 5 * b 6) v3) = some (v4, τ5) := e1
    unfold f_X12_readPlayer
    simp only [j_lt]
    rw [show j_ix (6 : Int32) 116 _ = _ from y_i81 (k := 6) (by omega), ee]
    rw [a1', j_b2_s]
    rw [show j_ix (nI (96 + 5 * b 6) + (0 : Int32)) 116 _ = _ from ix 0 (by omega) _, show (nI (96 + 5 * b 6) + (0 : Int32)).toNatClampNeg = 96 + 5 * b 6 from ec 0 (by omega)]
    rw [b1', j_b2_s]
    rw [show j_ix (nI (96 + 5 * b 6) + (1 : Int32)) 116 _ = _ from ix 1 (by omega) _, show (nI (96 + 5 * b 6) + (1 : Int32)).toNatClampNeg = 97 + 5 * b 6 from ec 1 (by omega)]
    rw [c1', j_b2_s]
    rw [show j_ix (nI (96 + 5 * b 6) + (2 : Int32)) 116 _ = _ from ix 2 (by omega) _, show (nI (96 + 5 * b 6) + (2 : Int32)).toNatClampNeg = 98 + 5 * b 6 from ec 2 (by omega)]
    rw [d1', j_b2_s]
    rw [show j_ix (nI (96 + 5 * b 6) + (3 : Int32)) 116 _ = _ from ix 3 (by omega) _, show (nI (96 + 5 * b 6) + (3 : Int32)).toNatClampNeg = 99 + 5 * b 6 from ec 3 (by omega)]
    rw [ym_fh2 F4, j_b1_s, e1', j_b2_s]
    rw [show j_ix (nI (96 + 5 * b 6) + (4 : Int32)) 116 _ = _ from ix 4 (by omega) _, show (nI (96 + 5 * b 6) + (4 : Int32)).toNatClampNeg = 100 + 5 * b 6 from ec 4 (by omega)]
    rw [show j_ix (6 : Int32) 116 _ = _ from y_i81 (k := 6) (by omega), show j_ix (6 : Int32) 116 _ = _ from y_i81 (k := 6) (by omega), show ((6 : Int32)).toNatClampNeg = 6 from rfl, f6, show nI (b 6) + (1 : Int32) = nI (b 6 + 1) by simp (disch := omega) only [y_lit, nI_add]]
  · refine y_fl.s (y_fl.s ?_)
    exact y_fl.t (y_fl.s (y_fl.t (y_fl.s (y_fl.t (y_fl.s (y_fl.t (y_fl.s (y_fl.of a3)) b3)) c3)) d3)) e3
  · obtain ⟨w0, rfl, q0, h0⟩ := a4 (g2 (g3 (g4 (g5 z))))
    obtain ⟨w1, rfl, q1, h1⟩ := b4 (g3 (g4 (g5 z)))
    obtain ⟨w2, rfl, q2, h2⟩ := c4 (g4 (g5 z))
    obtain ⟨w3, rfl, q3, h3⟩ := d4 (g5 z)
    obtain ⟨w4, rfl, q4, h4⟩ := e4 z
    refine ⟨w0, w1, w2, w3, w4, by rw [q4, q3, q2, q1, q0]; rfl, h0, h1.2, h2.2, h3.2, h4.2, ?_⟩
    have m1 := hm.fm a3
    have m2 := (y_mbs (j := 96 + 5 * b 6) (v := w0) m1 (by omega)).fm b3
    have m3 := (y_mbs (j := 97 + 5 * b 6) (v := w1) m2 (by omega)).fm c3
    have m4 := (y_mbs (j := 98 + 5 * b 6) (v := w2) m3 (by omega)).fm d3
    have m5 := (y_mbs (j := 99 + 5 * b 6) (v := w3) m4 (by omega)).fm e3
    exact y_mbs (y_mbs m5 (by omega)) (by omega)
theorem ym_rtick {τ : j_G} {b : Nat → Nat} {p : Nat} (h : y_mw τ B n (0, p)) (hm : y_mb (τ.1 81) b) :
    ∃ τ', (j_b2 (f_X12_number (1 : Int32) (99 : Int32) τ) fun v38 σ37 => j_ix (10 : Int32) 116 (j_lt (j_si σ37 81 ((10 : Int32)).toNatClampNeg v38) fun σ39 =>
      j_b2 (f_X12_told 2000026 (1 : Int32) (500 : Int32) σ39) fun v41 σ40 => j_ix (11 : Int32) 116 (j_lt (j_si σ40 81 ((11 : Int32)).toNatClampNeg v41) fun σ42 => some σ42))) = some τ' ∧ y_mw τ' B n (y_gq B n y_q7 [none, some (y_L 26), none] ((0, p), [])).1 ∧ y_fl τ τ' ∧
      ((y_gq B n y_q7 [none, some (y_L 26), none] ((0, p), [])).1.1 = 0 → ∃ w0 w1, (y_gq B n y_q7 [none, some (y_L 26), none] ((0, p), [])).2 = [w0, w1] ∧ (1 ≤ w0 ∧ w0 < 100) ∧ (1 ≤ w1 ∧ w1 < 501) ∧ y_mb (τ'.1 81) (y_u (y_u b 10 w0) 11 w1)) := by
  have go : y_gq B n y_q7 [none, some (y_L 26), none] ((0, p), []) = y_gq B n y_q7 [some (y_L 26), none] (y_stp B n y_q7 none ((0, p), [])) := rfl
  rw [go]
  clear go
  obtain ⟨v0, τ1, a1, a2, a3, a4⟩ := ym_numR (J := y_q7) (x := ((0, p), [])) (lo := 1) (hi := 100) (by omega) (by omega) (fun _ v => rfl) h
  generalize y_stp B n y_q7 none ((0, p), []) = X1 at *
  obtain ⟨v1, τ2, b1, b2, b3, b4⟩ := ym_toldR (J := y_q7) (x := X1) (lo := 1) (hi := 501) (y_strK (k := 26) (by omega)) (y_ne 26 (by omega)) (by omega) (by omega) (fun z v => by obtain ⟨_, e, _⟩ := a4 z; rw [e]; rfl) (a2.s81 (j := 10) (v := v0))
  have g2 : (y_gq B n y_q7 [some (y_L 26), none] X1).1.1 = 0 → X1.1.1 = 0 := y_gq_good
  generalize y_gq B n y_q7 [some (y_L 26), none] X1 = X2 at *
  refine ⟨j_si τ2 81 11 v1, ?_, b2.s81, y_fl.s (y_fl.t (y_fl.s (y_fl.of a3)) b3), fun z => ?_⟩
  · have a1' : f_X12_number (1 : Int32) (99 : Int32) τ = some (v0, τ1) := by rw [show (99 : Int32) = nP 100 from by decide]; exact a1
    have b1' : f_X12_told 2000026 (1 : Int32) (500 : Int32) (j_si τ1 81 10 v0) = some (v1, τ2) := by rw [show (500 : Int32) = nP 501 from by decide]; exact b1
    rw [a1', j_b2_s, show j_ix (10 : Int32) 116 _ = _ from y_i81 (k := 10) (by omega)]
    simp only [j_lt]
    rw [show ((10 : Int32)).toNatClampNeg = 10 from rfl, b1', j_b2_s, show j_ix (11 : Int32) 116 _ = _ from y_i81 (k := 11) (by omega)]
    rfl
  · obtain ⟨e1, e2, e3, e4⟩ := a4 (g2 z)
    obtain ⟨w1, rfl, q1, h1⟩ := b4 z
    subst e1
    refine ⟨_, w1, by rw [q1, e2]; rfl, ⟨e3, e4⟩, h1, ?_⟩
    exact y_mbs ((y_mbs (j := 10) (hm.fm a3) (by omega)).fm b3) (by omega)
end R
/-! ===== a line, for both ===== -/
noncomputable def y_ii : Nat → List (Option (List Int32))
  | 0 => [some (y_L 9), none, some (y_L 10), none, some (y_L 11), none, some (y_L 12), none]
  | 1 => [none, some (y_L 20), none]
  | 2 => [none]
  | 3 => [none]
  | 4 => [none]
  | 5 => [none, none]
  | 6 => [some (y_L 21), none, some (y_L 22), none, some (y_L 23), none, some (y_L 24), none, some (y_L 25), none]
  | _ => [none, some (y_L 26), none]
theorem y_ii_it : ∀ k, y_it k = y_ii k ++ [some []]
  | 0 => rfl
  | 1 => rfl
  | 2 => rfl
  | 3 => rfl
  | 4 => rfl
  | 5 => rfl
  | 6 => rfl
  | _ + 7 => rfl
abbrev y_full (b : Nat → Nat) (k : Nat) : Prop := (3 ≤ k ∧ k ≤ 5 ∧ b 5 = 24) ∨ (k = 6 ∧ b 6 = 4)
def y_okv (b : Nat → Nat) : Nat → List Nat → Prop
  | 0, vs => ∃ w0 w1 w2 w3, vs = [w0, w1, w2, w3] ∧ (1 ≤ w0 ∧ w0 < 5) ∧ (1 ≤ w1 ∧ w1 < 4) ∧ (1 ≤ w2 ∧ w2 < 201) ∧ w3 < 10
  | 1, vs => ∃ w0 w1, vs = [w0, w1] ∧ (1 ≤ w0 ∧ w0 < 41) ∧ w1 < b 2 ∧ (y_hi b w1 (b 4) 0 < b 4 ∨ b 4 < 6)
  | 2, vs => ∃ w0, vs = [w0] ∧ w0 < y_ho b ∧ y_sh b w0 = 0 ∧ y_oft b w0 = 0
  | 3, vs => ∃ w0, vs = [w0] ∧ w0 < y_ho b ∧ y_sh b w0 = 0
  | 4, vs => ∃ w0, vs = [w0] ∧ w0 < y_ho b ∧ y_sh b w0 = 0
  | 5, vs => ∃ w0 w1, vs = [w0, w1] ∧ w0 < y_ho b ∧ y_sh b w0 = 0 ∧ w1 < y_ho b ∧ y_sh b w1 = 0 ∧ w1 ≠ w0
  | 6, vs => ∃ w0 w1 w2 w3 w4, vs = [w0, w1, w2, w3, w4] ∧ (1 ≤ w0 ∧ w0 < 10) ∧ w1 < 21 ∧ w2 < 100 ∧ w3 < 10 ∧ w4 < y_ho b
  | _, vs => ∃ w0 w1, vs = [w0, w1] ∧ (1 ≤ w0 ∧ w0 < 100) ∧ (1 ≤ w1 ∧ w1 < 501)
noncomputable def y_lap (b : Nat → Nat) (k : Nat) (vs : List Nat) : Nat → Nat :=
  match k with
  | 0 => y_bb b (vs.getD 0 0) (vs.getD 1 0) (vs.getD 2 0) (vs.getD 3 0)
  | 1 => y_sb b (vs.getD 0 0) (vs.getD 1 0)
  | 2 => y_u b 7 (b 7 ||| 2 ^ vs.getD 0 0)
  | 3 => y_ac b (vs.getD 0 0) 0 0
  | 4 => y_ac b (vs.getD 0 0) 0 1
  | 5 => y_ac b (vs.getD 0 0) (vs.getD 1 0 + 1) 0
  | 6 => y_pb b (vs.getD 0 0) (vs.getD 1 0) (vs.getD 2 0) (vs.getD 3 0) (vs.getD 4 0)
  | _ => y_u (y_u b 10 (vs.getD 0 0)) 11 (vs.getD 1 0)
theorem y_lap9 {b : Nat → Nat} {k : Nat} {vs : List Nat} : y_lap b k vs 9 = b 9 := by
  unfold y_lap y_bb y_sb y_ac y_pb
  split
  all_goals simp (disch := omega) only [y_un]
theorem y_or_sh {b : Nat → Nat} {x : Nat} (h : y_sh b x = 0) : b 7 ||| 2 ^ x = y_shn (b 7) x 1 := by
  unfold y_sh at h
  unfold y_shn
  rw [if_neg (by omega)]
  apply Nat.eq_of_testBit_eq
  intro i
  rw [Nat.testBit_or, Nat.testBit_xor]
  by_cases e : i = x
  · subst e
    rw [y_tb2] at h
    cases hb : (b 7).testBit i with
    | true => rw [hb] at h; exact absurd h (by decide)
    | false => rw [Bool.false_or, Bool.false_xor]
  · rw [Nat.testBit_two_pow_of_ne (fun z => e z.symm), Bool.or_false, Bool.xor_false]
theorem y_W.ap {b : Nat → Nat} (hW : y_W b) (h9 : b 9 < 1300) : ∀ k, k < 8 → (k = 0 ↔ b 9 = 0) → ¬ y_full b k → ∀ vs, y_okv b k vs → y_W (y_l9 (y_lap b k vs))
  | 0, _, h0, _, _, h => by
    obtain ⟨w0, w1, w2, w3, rfl, q0, q1, q2, q3⟩ := h
    exact hW.bb (h0.mp rfl) q0 q1 q2 q3
  | 1, _, h0, _, vs, h => by
    have on : 0 < b 9 := by omega
    have e9 := y_lap9 (b := b) (k := 1) (vs := vs)
    obtain ⟨w0, w1, rfl, q0, q1, q2⟩ := h
    have e9' : y_sb b w0 w1 9 = b 9 := e9
    exact (hW.sb q0 q1 q2).l9 (by omega) (by omega)
  | 2, _, h0, _, vs, h => by
    have on : 0 < b 9 := by omega
    have e9 := y_lap9 (b := b) (k := 2) (vs := vs)
    obtain ⟨w0, rfl, q0, q1, q2⟩ := h
    have e : y_lap b 2 [w0] = y_u b 7 (y_shn (b 7) w0 1) := by rw [← y_or_sh q1]; rfl
    rw [e] at e9 ⊢
    exact (hW.set7 q0 q2).l9 (by omega) (by omega)
  | 3, _, h0, hf, vs, h => by
    have on : 0 < b 9 := by omega
    have e9 := y_lap9 (b := b) (k := 3) (vs := vs)
    have b5 := hW.b5
    obtain ⟨w0, rfl, q0, q1⟩ := h
    have n5 : b 5 ≠ 24 := fun z => hf (Or.inl ⟨by omega, by omega, z⟩)
    have e9' : y_ac b w0 0 0 9 = b 9 := e9
    exact (hW.ac (w := 0) (r := 0) (by omega) ⟨q0, q1⟩ (Or.inl rfl) (by omega)).l9 (by omega) (by omega)
  | 4, _, h0, hf, vs, h => by
    have on : 0 < b 9 := by omega
    have e9 := y_lap9 (b := b) (k := 4) (vs := vs)
    have b5 := hW.b5
    obtain ⟨w0, rfl, q0, q1⟩ := h
    have n5 : b 5 ≠ 24 := fun z => hf (Or.inl ⟨by omega, by omega, z⟩)
    have e9' : y_ac b w0 0 1 9 = b 9 := e9
    exact (hW.ac (w := 0) (r := 1) (by omega) ⟨q0, q1⟩ (Or.inl rfl) (by omega)).l9 (by omega) (by omega)
  | 5, _, h0, hf, vs, h => by
    have on : 0 < b 9 := by omega
    have e9 := y_lap9 (b := b) (k := 5) (vs := vs)
    have b5 := hW.b5
    obtain ⟨w0, w1, rfl, q0, q1, q2, q3, q4⟩ := h
    have n5 : b 5 ≠ 24 := fun z => hf (Or.inl ⟨by omega, by omega, z⟩)
    have e9' : y_ac b w0 (w1 + 1) 0 9 = b 9 := e9
    exact (hW.ac (w := w1 + 1) (r := 0) (by omega) ⟨q0, q1⟩ (Or.inr ⟨by omega, by omega, q3, rfl⟩) (by omega)).l9 (by omega) (by omega)
  | 6, _, h0, hf, vs, h => by
    have on : 0 < b 9 := by omega
    have e9 := y_lap9 (b := b) (k := 6) (vs := vs)
    have b6 := hW.b6
    obtain ⟨w0, w1, w2, w3, w4, rfl, q0, q1, q2, q3, q4⟩ := h
    have n6 : b 6 ≠ 4 := fun z => hf (Or.inr ⟨rfl, z⟩)
    have e9' : y_pb b w0 w1 w2 w3 w4 9 = b 9 := e9
    exact (hW.pb (by omega) on q0 q1 q2 q3 q4).l9 (by omega) (by omega)
  | 7, _, h0, _, vs, h => by
    have on : 0 < b 9 := by omega
    have e9 := y_lap9 (b := b) (k := 7) (vs := vs)
    obtain ⟨w0, w1, rfl, q0, q1⟩ := h
    have e9' : y_u (y_u b 10 w0) 11 w1 9 = b 9 := e9
    exact (hW.tk ⟨q0.1, by omega⟩ ⟨q1.1, by omega⟩).l9 (by omega) (by omega)
  | _ + 8, h, _, _, _, _ => absurd h (by omega)
section Q
variable {B : Nat → Int32} {n : Nat} {J : List Nat → Nat → Nat}
theorem y_gq_app {l m : List (Option (List Int32))} : ∀ {x : (Nat × Nat) × List Nat}, y_gq B n J (l ++ m) x = y_gq B n J m (y_gq B n J l x) := by
  induction l with
  | nil => intro x; rfl
  | cons it l ih => intro x; exact ih
theorem y_stp_mono {it : Option (List Int32)} {x : (Nat × Nat) × List Nat} (hx : x.1.2 ≤ n) (h : (y_stp B n J it x).1.1 = 0) : x.1.2 ≤ (y_stp B n J it x).1.2 ∧ (y_stp B n J it x).1.2 ≤ n := by
  obtain ⟨⟨r1, p⟩, vs⟩ := x
  have r0 : r1 = 0 := y_stp_good (x := ((r1, p), vs)) h
  subst r0
  have sb := y_s_bd (B := B) (show p ≤ n from hx)
  have eb := y_e_bd (B := B) (show p ≤ n from hx)
  have key : (y_stp B n J it ((0, p), vs)).1 = (0, y_e B n p) := by
    match it, h with
    | none, h =>
      rw [y_stp_n] at h ⊢
      by_cases k : y_kd B n p ≠ 2
      · rw [if_pos k] at h; exact absurd h (by show ¬ (1 : Nat) = 0; omega)
      · rw [if_neg k] at h ⊢
        by_cases g : J vs (y_val B n p) ≠ 0
        · rw [if_pos g] at h; exact absurd h g
        · rw [if_neg g]
    | some [], h =>
      rw [y_stp_s] at h ⊢
      by_cases k : y_kd B n p = 3
      · rw [if_pos k]
      · rw [if_neg k] at h; exact absurd h (by show ¬ (1 : Nat) = 0; omega)
    | some (a :: L), h =>
      rw [y_stp_w (List.cons_ne_nil a L)] at h ⊢
      by_cases k : y_sp (a :: L) B n p = true
      · rw [if_pos k]
      · rw [if_neg k] at h; exact absurd h (by show ¬ (1 : Nat) = 0; omega)
  rw [key]
  exact ⟨by show p ≤ y_e B n p; omega, eb.2.1⟩
theorem y_gq_mono : ∀ {l : List (Option (List Int32))} {x : (Nat × Nat) × List Nat}, x.1.2 ≤ n → (y_gq B n J l x).1.1 = 0 → x.1.2 ≤ (y_gq B n J l x).1.2 ∧ (y_gq B n J l x).1.2 ≤ n := by
  intro l
  induction l with
  | nil => intro x hx _; exact ⟨Nat.le_refl _, hx⟩
  | cons it l ih =>
    intro x hx h
    have h' : (y_gq B n J l (y_stp B n J it x)).1.1 = 0 := h
    obtain ⟨a, c⟩ := y_stp_mono hx (y_gq_good h')
    obtain ⟨d, e⟩ := ih c h'
    exact ⟨Nat.le_trans a d, e⟩
end Q
/-- a line behind p, told by both -/
noncomputable def y_lr (B : Nat → Int32) (n : Nat) (b : Nat → Nat) (p : Nat) : (Nat × Nat) × List Nat :=
  if y_kn B n p = 8 ∨ ¬ (y_kn B n p = 0 ↔ b 9 = 0) then ((1, y_s B n p), []) else if y_full b (y_kn B n p) then ((3, y_s B n p), []) else y_gq B n (y_qk b (y_kn B n p)) (y_it (y_kn B n p)) ((0, y_e B n p), [])
section Y
variable {B : Nat → Int32} {n : Nat} {b : Nat → Nat} {p : Nat}
theorem y_lr_bad (h : y_kn B n p = 8 ∨ ¬ (y_kn B n p = 0 ↔ b 9 = 0)) : y_lr B n b p = ((1, y_s B n p), []) := if_pos h
theorem y_lr_full (h : ¬ (y_kn B n p = 8 ∨ ¬ (y_kn B n p = 0 ↔ b 9 = 0))) (hf : y_full b (y_kn B n p)) : y_lr B n b p = ((3, y_s B n p), []) := (if_neg h).trans (if_pos hf)
theorem y_lr_go (h : ¬ (y_kn B n p = 8 ∨ ¬ (y_kn B n p = 0 ↔ b 9 = 0))) (hf : ¬ y_full b (y_kn B n p)) : y_lr B n b p = y_gq B n (y_qk b (y_kn B n p)) (y_it (y_kn B n p)) ((0, y_e B n p), []) := (if_neg h).trans (if_neg hf)
theorem y_lr_ok (h : (y_lr B n b p).1.1 = 0) : ¬ (y_kn B n p = 8 ∨ ¬ (y_kn B n p = 0 ↔ b 9 = 0)) ∧ ¬ y_full b (y_kn B n p) := by
  by_cases c : y_kn B n p = 8 ∨ ¬ (y_kn B n p = 0 ↔ b 9 = 0)
  · rw [y_lr_bad c] at h; exact absurd h (by show ¬ (1 : Nat) = 0; omega)
  · refine ⟨c, fun d => ?_⟩
    rw [y_lr_full c d] at h; exact absurd h (by show ¬ (3 : Nat) = 0; omega)
theorem y_kn_le : y_kn B n p ≤ 8 := by
  rcases y_kn_sp (B := B) (n := n) (p := p) with ⟨a, _⟩ | ⟨a, _⟩ <;> omega
theorem y_lr_mono (hp : p ≤ n) (hk : y_kd B n p ≠ 0) (h : (y_lr B n b p).1.1 = 0) : p < (y_lr B n b p).1.2 ∧ (y_lr B n b p).1.2 ≤ n := by
  obtain ⟨c, d⟩ := y_lr_ok h
  rw [y_lr_go c d] at h ⊢
  have sb := y_s_bd (B := B) hp
  have eb := y_e_bd (B := B) hp
  have lt : y_s B n p < n := by
    unfold y_kd at hk
    by_cases e : n ≤ y_s B n p
    · rw [if_pos e] at hk; exact absurd rfl hk
    · omega
  obtain ⟨a, e⟩ := y_gq_mono (x := ((0, y_e B n p), [])) eb.2.1 h
  have a' : y_e B n p ≤ _ := a
  exact ⟨by have := eb.2.2 lt; omega, e⟩
end Y
/-! ===== the reference's line ===== -/
section R
variable {B : Nat → Int32} {n : Nat}
theorem ym_isk {τ : j_G} {r : Nat × Nat} {k q : Nat} (h : y_mw τ B n r) (hk : k < 8) (hq : q = 2000000 + y_fw k) : f_X12_is q τ = some (if r.1 = 0 ∧ y_kn B n r.2 = k then nI 1 else nI 0) := by
  subst hq
  rw [ym_is (y_strK (y_fw_lt k hk).2) h]
  by_cases c : r.1 = 0 ∧ y_kn B n r.2 = k
  · rw [if_pos c, if_pos ⟨c.1, (y_kn_iff hk).mpr c.2⟩]
  · rw [if_neg c, if_neg (fun z => c ⟨z.1, (y_kn_iff hk).mp z.2⟩)]
theorem ym_tkn {τ : j_G} {p k q : Nat} (h : y_mw τ B n (0, p)) (hk : k < 8) (hq : q = 2000000 + y_fw k) (hn : y_kn B n p ≠ k) : f_X12_takes q τ = some (nI 0, τ) := by
  subst hq
  rcases ym_takes (y_strK (y_fw_lt k hk).2) (y_ne _ (y_fw_lt k hk).2) h [] with ⟨c1, c2, _⟩ | ⟨c, e⟩
  · exact absurd ((y_kn_iff hk).mp c2) hn
  · exact e
theorem ym_tky {τ : j_G} {p k q : Nat} (h : y_mw τ B n (0, p)) (hk : k < 8) (hq : q = 2000000 + y_fw k) (hn : y_kn B n p = k) : ∃ τ', f_X12_takes q τ = some (nI 1, τ') ∧ y_mw τ' B n (0, y_e B n p) ∧ y_fm 8 13 1 0 τ τ' := by
  subst hq
  rcases ym_takes (y_strK (y_fw_lt k hk).2) (y_ne _ (y_fw_lt k hk).2) h [] with ⟨c1, c2, r⟩ | ⟨c, e⟩
  · exact r
  · exact absurd ⟨rfl, (y_kn_iff hk).mpr hn⟩ c
/-- what stands ahead of the kinds -/
theorem ym_pre {τ : j_G} {b : Nat → Nat} {p : Nat} (hW : y_W b) (h : y_mw τ B n (0, p)) (hm : y_mb (τ.1 81) b) :
    ∃ τ2, (∀ K : j_G → Option j_G, (j_b1 (f_X12_is 2000013 τ) fun v1 =>
  j_b1 (if v1 = 0 then (j_b1 (f_X12_is 2000014 τ) fun v3 =>
  j_lt (some (1 : Int32)) fun (k4 : Option Int32) =>
  if v3 = 0 then (j_b1 (f_X12_is 2000015 τ) fun v5 =>
  if ¬ v5 = 0 then (k4) else (some (0 : Int32))) else (k4)) else (some (1 : Int32))) fun v2 =>
  j_b1 (if v2 = 0 then (j_b1 (f_X12_is 2000016 τ) fun v7 =>
  if v7 = 0 then (j_b1 (f_X12_is 2000017 τ) fun v8 =>
  if v8 = 0 then (j_b1 (f_X12_is 2000018 τ) fun v9 =>
  if v9 = 0 then (j_b1 (f_X12_is 2000019 τ) fun v10 =>
  if v10 = 0 then (j_b1 (f_X12_errs (1 : Int32) τ) fun σ11 =>
  some σ11) else (some τ)) else (some τ)) else (some τ)) else (some τ)) else (some τ)) fun σ6 =>
  j_b1 (if ¬ v2 = 0 then (j_ix (5 : Int32) 116 (
  j_lt (j_b1 (f_X12_errs (3 : Int32) σ6) fun σ15 =>
  some σ15) fun (k13 : Option j_G) =>
  if ¬ (σ6.1 81 ((5 : Int32)).toNatClampNeg) = (24 : Int32) then (j_b1 (f_X12_is 2000018 σ6) fun v14 =>
  if ¬ v14 = 0 then (j_ix (6 : Int32) 116 (
  if (σ6.1 81 ((6 : Int32)).toNatClampNeg) = (4 : Int32) then (k13) else (some σ6))) else (some σ6)) else (k13))) else (j_b1 (f_X12_is 2000018 σ6) fun v16 =>
  if ¬ v16 = 0 then (j_ix (6 : Int32) 116 (
  if (σ6.1 81 ((6 : Int32)).toNatClampNeg) = (4 : Int32) then (j_b1 (f_X12_errs (3 : Int32) σ6) fun σ17 =>
  some σ17) else (some σ6))) else (some σ6))) K) = K τ2) ∧
      ((¬ (y_kn B n p = 8 ∨ y_kn B n p = 0) ∧ ¬ y_full b (y_kn B n p) ∧ τ2 = τ) ∨ ((y_kn B n p = 8 ∨ y_kn B n p = 0) ∧ y_mw τ2 B n (1, y_s B n p) ∧ y_fm 8 13 1 0 τ τ2) ∨ (¬ (y_kn B n p = 8 ∨ y_kn B n p = 0) ∧ y_full b (y_kn B n p) ∧ y_mw τ2 B n (3, y_s B n p) ∧ y_fm 8 13 1 0 τ τ2)) := by
  have b5 := hW.b5
  have b6 := hW.b6
  have kl := y_kn_le (B := B) (n := n) (p := p)
  have F : (nI 0 = (0 : Int32)) := rfl
  have i0 : ¬ ¬ nI 0 = (0 : Int32) := fun z => z rfl
  have i1 : ¬ nI 1 = (0 : Int32) := by decide
  have w1 : (1 : Int32) = nI 1 := rfl
  have w0 : (0 : Int32) = nI 0 := rfl
  have i81 : ∀ (k : Nat) (o : Option j_G), k < 116 → j_ix (nI k) 116 o = o := fun k o hk => y_i81 hk
  have i5 : ∀ (o : Option j_G), j_ix (5 : Int32) 116 o = o := fun o => y_i81 (k := 5) (by omega)
  have i6 : ∀ (o : Option j_G), j_ix (6 : Int32) 116 o = o := fun o => y_i81 (k := 6) (by omega)
  have isy : ∀ k q, k < 8 → q = 2000000 + y_fw k → y_kn B n p = k → f_X12_is q τ = some (nI 1) := fun k q a c d => by rw [ym_isk h a c, if_pos ⟨rfl, d⟩]
  have isn : ∀ k q, k < 8 → q = 2000000 + y_fw k → y_kn B n p ≠ k → f_X12_is q τ = some (nI 0) := fun k q a c d => by rw [ym_isk h a c, if_neg (fun z => d z.2)]
  have s5 : τ.1 81 ((5 : Int32)).toNatClampNeg = nI (b 5) := hm.f (j := 5) (by omega)
  have s6 : τ.1 81 ((6 : Int32)).toNatClampNeg = nI (b 6) := hm.f (j := 6) (by omega)
  have e24 : nI (b 5) = (24 : Int32) ↔ b 5 = 24 := by rw [show (24 : Int32) = nI 24 from rfl, y_eq (by omega) (by omega)]
  have e4 : nI (b 6) = (4 : Int32) ↔ b 6 = 4 := by rw [show (4 : Int32) = nI 4 from rfl, y_eq (by omega) (by omega)]
  obtain ⟨τ1, a1, a2, a3⟩ := ym_errs (k := 1) (by omega) (by omega) h
  obtain ⟨τ3, c1, c2, c3⟩ := ym_errs (k := 3) (by omega) (by omega) h
  have a1' : f_X12_errs (1 : Int32) τ = some τ1 := a1
  have c1' : f_X12_errs (3 : Int32) τ = some τ3 := c1
  have is1 : f_X12_is 2000018 τ1 = some (nI 0) := by rw [ym_isk (k := 6) (q := 2000018) a2 (by omega) rfl, if_neg (fun z => by have := z.1; simp at this)]
  by_cases k3 : y_kn B n p = 3
  · have n6 := isn 6 2000018 (by omega) rfl (by omega)
    by_cases f : b 5 = 24
    · refine ⟨τ3, fun K => ?_, Or.inr (Or.inr ⟨by omega, Or.inl ⟨by omega, by omega, f⟩, c2, c3.wide (by omega) (by omega) (by omega) (by omega)⟩)⟩
      simp only [j_lt]
      rw [isy 3 2000013 (by omega) rfl k3, j_b1_s, if_neg i1, j_b1_s, if_neg (show ¬ (1 : Int32) = 0 by decide), j_b1_s, if_pos (show ¬ (1 : Int32) = 0 by decide), i5, s5, if_neg (show ¬ ¬ nI (b 5) = (24 : Int32) from fun z => z (e24.mpr f)), c1', j_b1_s, j_b1_s]
    · refine ⟨τ, fun K => ?_, Or.inl ⟨by omega, fun z => by omega, rfl⟩⟩
      simp only [j_lt]
      rw [isy 3 2000013 (by omega) rfl k3, j_b1_s, if_neg i1, j_b1_s, if_neg (show ¬ (1 : Int32) = 0 by decide), j_b1_s, if_pos (show ¬ (1 : Int32) = 0 by decide), i5, s5, if_pos (show ¬ nI (b 5) = (24 : Int32) from fun z => f (e24.mp z)), n6, j_b1_s, if_neg i0, j_b1_s]
  have m3 := isn 3 2000013 (by omega) rfl k3
  by_cases k4 : y_kn B n p = 4
  · have n6 := isn 6 2000018 (by omega) rfl (by omega)
    by_cases f : b 5 = 24
    · refine ⟨τ3, fun K => ?_, Or.inr (Or.inr ⟨by omega, Or.inl ⟨by omega, by omega, f⟩, c2, c3.wide (by omega) (by omega) (by omega) (by omega)⟩)⟩
      simp only [j_lt]
      rw [m3, j_b1_s, if_pos F, isy 4 2000014 (by omega) rfl k4, j_b1_s, if_neg i1, j_b1_s, if_neg (show ¬ (1 : Int32) = 0 by decide), j_b1_s, if_pos (show ¬ (1 : Int32) = 0 by decide), i5, s5, if_neg (show ¬ ¬ nI (b 5) = (24 : Int32) from fun z => z (e24.mpr f)), c1', j_b1_s, j_b1_s]
    · refine ⟨τ, fun K => ?_, Or.inl ⟨by omega, fun z => by omega, rfl⟩⟩
      simp only [j_lt]
      rw [m3, j_b1_s, if_pos F, isy 4 2000014 (by omega) rfl k4, j_b1_s, if_neg i1, j_b1_s, if_neg (show ¬ (1 : Int32) = 0 by decide), j_b1_s, if_pos (show ¬ (1 : Int32) = 0 by decide), i5, s5, if_pos (show ¬ nI (b 5) = (24 : Int32) from fun z => f (e24.mp z)), n6, j_b1_s, if_neg i0, j_b1_s]
  have m4 := isn 4 2000014 (by omega) rfl k4
  by_cases k5 : y_kn B n p = 5
  · have n6 := isn 6 2000018 (by omega) rfl (by omega)
    by_cases f : b 5 = 24
    · refine ⟨τ3, fun K => ?_, Or.inr (Or.inr ⟨by omega, Or.inl ⟨by omega, by omega, f⟩, c2, c3.wide (by omega) (by omega) (by omega) (by omega)⟩)⟩
      simp only [j_lt]
      rw [m3, j_b1_s, if_pos F, m4, j_b1_s, if_pos F, isy 5 2000015 (by omega) rfl k5, j_b1_s, if_pos i1, j_b1_s, if_neg (show ¬ (1 : Int32) = 0 by decide), j_b1_s, if_pos (show ¬ (1 : Int32) = 0 by decide), i5, s5, if_neg (show ¬ ¬ nI (b 5) = (24 : Int32) from fun z => z (e24.mpr f)), c1', j_b1_s, j_b1_s]
    · refine ⟨τ, fun K => ?_, Or.inl ⟨by omega, fun z => by omega, rfl⟩⟩
      simp only [j_lt]
      rw [m3, j_b1_s, if_pos F, m4, j_b1_s, if_pos F, isy 5 2000015 (by omega) rfl k5, j_b1_s, if_pos i1, j_b1_s, if_neg (show ¬ (1 : Int32) = 0 by decide), j_b1_s, if_pos (show ¬ (1 : Int32) = 0 by decide), i5, s5, if_pos (show ¬ nI (b 5) = (24 : Int32) from fun z => f (e24.mp z)), n6, j_b1_s, if_neg i0, j_b1_s]
  have m5 := isn 5 2000015 (by omega) rfl k5
  by_cases k6 : y_kn B n p = 6
  · have n6 := isy 6 2000018 (by omega) rfl k6
    have n1 := isn 1 2000016 (by omega) rfl (by omega)
    have n2 := isn 2 2000017 (by omega) rfl (by omega)
    by_cases f : b 6 = 4
    · refine ⟨τ3, fun K => ?_, Or.inr (Or.inr ⟨by omega, Or.inr ⟨k6, f⟩, c2, c3.wide (by omega) (by omega) (by omega) (by omega)⟩)⟩
      simp only [j_lt]
      rw [m3, j_b1_s, if_pos F, m4, j_b1_s, if_pos F, m5, j_b1_s, if_neg i0, j_b1_s, if_pos (show (0 : Int32) = 0 from rfl), n1, j_b1_s, if_pos F, n2, j_b1_s, if_pos F, n6, j_b1_s, if_neg i1, j_b1_s, if_neg (show ¬ ¬ (0 : Int32) = 0 from fun z => z rfl), n6, j_b1_s, if_pos i1, i6, s6, if_pos (e4.mpr f), c1', j_b1_s, j_b1_s]
    · refine ⟨τ, fun K => ?_, Or.inl ⟨by omega, fun z => by omega, rfl⟩⟩
      simp only [j_lt]
      rw [m3, j_b1_s, if_pos F, m4, j_b1_s, if_pos F, m5, j_b1_s, if_neg i0, j_b1_s, if_pos (show (0 : Int32) = 0 from rfl), n1, j_b1_s, if_pos F, n2, j_b1_s, if_pos F, n6, j_b1_s, if_neg i1, j_b1_s, if_neg (show ¬ ¬ (0 : Int32) = 0 from fun z => z rfl), n6, j_b1_s, if_pos i1, i6, s6, if_neg (fun z => f (e4.mp z)), j_b1_s]
  have n6 := isn 6 2000018 (by omega) rfl k6
  by_cases k1 : y_kn B n p = 1
  · have n1 := isy 1 2000016 (by omega) rfl k1
    refine ⟨τ, fun K => ?_, Or.inl ⟨by omega, fun z => by omega, rfl⟩⟩
    simp only [j_lt]
    rw [m3, j_b1_s, if_pos F, m4, j_b1_s, if_pos F, m5, j_b1_s, if_neg i0, j_b1_s, if_pos (show (0 : Int32) = 0 from rfl), n1, j_b1_s, if_neg i1, j_b1_s, if_neg (show ¬ ¬ (0 : Int32) = 0 from fun z => z rfl), n6, j_b1_s, if_neg i0, j_b1_s]
  have n1 := isn 1 2000016 (by omega) rfl k1
  by_cases k2 : y_kn B n p = 2
  · have n2 := isy 2 2000017 (by omega) rfl k2
    refine ⟨τ, fun K => ?_, Or.inl ⟨by omega, fun z => by omega, rfl⟩⟩
    simp only [j_lt]
    rw [m3, j_b1_s, if_pos F, m4, j_b1_s, if_pos F, m5, j_b1_s, if_neg i0, j_b1_s, if_pos (show (0 : Int32) = 0 from rfl), n1, j_b1_s, if_pos F, n2, j_b1_s, if_neg i1, j_b1_s, if_neg (show ¬ ¬ (0 : Int32) = 0 from fun z => z rfl), n6, j_b1_s, if_neg i0, j_b1_s]
  have n2 := isn 2 2000017 (by omega) rfl k2
  by_cases k7 : y_kn B n p = 7
  · have n7 := isy 7 2000019 (by omega) rfl k7
    refine ⟨τ, fun K => ?_, Or.inl ⟨by omega, fun z => by omega, rfl⟩⟩
    simp only [j_lt]
    rw [m3, j_b1_s, if_pos F, m4, j_b1_s, if_pos F, m5, j_b1_s, if_neg i0, j_b1_s, if_pos (show (0 : Int32) = 0 from rfl), n1, j_b1_s, if_pos F, n2, j_b1_s, if_pos F, n6, j_b1_s, if_pos F, n7, j_b1_s, if_neg i1, j_b1_s, if_neg (show ¬ ¬ (0 : Int32) = 0 from fun z => z rfl), n6, j_b1_s, if_neg i0, j_b1_s]
  have n7 := isn 7 2000019 (by omega) rfl k7
  refine ⟨τ1, fun K => ?_, Or.inr (Or.inl ⟨by omega, a2, a3.wide (by omega) (by omega) (by omega) (by omega)⟩)⟩
  simp only [j_lt]
  rw [m3, j_b1_s, if_pos F, m4, j_b1_s, if_pos F, m5, j_b1_s, if_neg i0, j_b1_s, if_pos (show (0 : Int32) = 0 from rfl), n1, j_b1_s, if_pos F, n2, j_b1_s, if_pos F, n6, j_b1_s, if_pos F, n7, j_b1_s, if_pos F, a1', j_b1_s, j_b1_s, if_neg (show ¬ ¬ (0 : Int32) = 0 from fun z => z rfl), is1, j_b1_s, if_neg i0, j_b1_s]
end R
/-! ===== the reference's line, by kinds ===== -/
section R
variable {B : Nat → Int32} {n : Nat}
theorem y_b1id {α : Type} {o : Option α} : j_b1 o (fun s => some s) = o := by cases o <;> rfl
theorem ym_nxk {τ : j_G} {b : Nat → Nat} {p : Nat} (hW : y_W b) (on : 0 < b 9) (h : y_mw τ B n (0, p)) (hm : y_mb (τ.1 81) b) : ∀ k, k < 8 → k ≠ 0 → y_kn B n p = k → ¬ y_full b k →
    ∃ τ', f_X12_readNext τ = some τ' ∧ y_mw τ' B n (y_gq B n (y_qk b k) (y_ii k) ((0, y_e B n p), [])).1 ∧ y_fl τ τ' ∧
      ((y_gq B n (y_qk b k) (y_ii k) ((0, y_e B n p), [])).1.1 = 0 → y_okv b k (y_gq B n (y_qk b k) (y_ii k) ((0, y_e B n p), [])).2 ∧ y_mb (τ'.1 81) (y_lap b k (y_gq B n (y_qk b k) (y_ii k) ((0, y_e B n p), [])).2)) := by
  intro k hk k0 hkn hf
  have b5 := hW.b5
  have b6 := hW.b6
  have i0 : ¬ ¬ nI 0 = (0 : Int32) := fun z => z rfl
  have i1 : ¬ nI 1 = (0 : Int32) := by decide
  have gd := ym_good h
  rw [if_pos (show (0, p).1 = 0 from rfl)] at gd
  obtain ⟨τ2, d0, d1⟩ := ym_pre hW h hm
  have e : τ2 = τ := by
    rw [hkn] at d1
    rcases d1 with d | d | d
    · exact d.2.2
    · have := d.1; omega
    · exact absurd d.2.1 hf
  subst e
  have no : ∀ j q, j < 8 → q = 2000000 + y_fw j → k ≠ j → f_X12_takes q τ2 = some (nI 0, τ2) := fun j q a c d => ym_tkn h a c (fun z => d (by omega))
  have ye : ∀ q, q = 2000000 + y_fw k → ∃ τ', f_X12_takes q τ2 = some (nI 1, τ') ∧ y_mw τ' B n (0, y_e B n p) ∧ y_fm 8 13 1 0 τ2 τ' := fun q c => ym_tky h hk c hkn
  obtain rfl | rfl | rfl | rfl | rfl | rfl | rfl : k = 1 ∨ k = 2 ∨ k = 3 ∨ k = 4 ∨ k = 5 ∨ k = 6 ∨ k = 7 := by omega
  · obtain ⟨τ1, t1, t2, t3⟩ := ye 2000016 rfl
    obtain ⟨τ', e1, e2, e3, e4⟩ := ym_rstay hW on t2 (hm.fm t3)
    have cv : y_gq B n (y_qk b 1) (y_ii 1) ((0, y_e B n p), []) = y_gq B n (y_q1 b) [none, some (y_L 20), none] ((0, y_e B n p), []) := rfl
    rw [cv]
    clear cv
    generalize y_gq B n (y_q1 b) [none, some (y_L 20), none] ((0, y_e B n p), []) = X at *
    refine ⟨τ', ?_, e2, y_fm.trans (y_fl.of t3) e3, fun z => ?_⟩
    · unfold f_X12_readNext
      refine Eq.trans (d0 _) ?_
      rw [gd, if_neg i1, t1, j_b2_s, if_pos i1, e1, j_b1_s]
    · obtain ⟨w0, w1, q, g0, g1, g2, g3⟩ := e4 z
      rw [q]
      exact ⟨⟨w0, w1, rfl, g0, g1, g2⟩, g3⟩
  · obtain ⟨τ1, t1, t2, t3⟩ := ye 2000017 rfl
    obtain ⟨τ', e1, e2, e3, e4⟩ := ym_rshut hW on t2 (hm.fm t3)
    have cv : y_gq B n (y_qk b 2) (y_ii 2) ((0, y_e B n p), []) = y_gq B n (y_q2 b) [none] ((0, y_e B n p), []) := rfl
    rw [cv]
    clear cv
    generalize y_gq B n (y_q2 b) [none] ((0, y_e B n p), []) = X at *
    refine ⟨τ', ?_, e2, y_fm.trans (y_fl.of t3) e3, fun z => ?_⟩
    · unfold f_X12_readNext
      refine Eq.trans (d0 _) ?_
      rw [gd, if_neg i1, no 1 2000016 (by omega) rfl (by omega), j_b2_s, if_neg i0, t1, j_b2_s, if_pos i1, e1, j_b1_s]
    · obtain ⟨w0, q, g0, g1, g2, g3⟩ := e4 z
      rw [q]
      exact ⟨⟨w0, rfl, g0, g1, g2⟩, g3⟩
  · obtain ⟨τ1, t1, t2, t3⟩ := ye 2000013 rfl
    have n5 : b 5 ≠ 24 := fun z => hf (Or.inl ⟨by omega, by omega, z⟩)
    obtain ⟨τ', e1, e2, e3, e4⟩ := ym_rcom1 (r := 0) hW on (by omega) (by omega) t2 (hm.fm t3)
    have e1' : f_X12_readComing (0 : Int32) (0 : Int32) τ1 = some τ' := e1
    have cv : y_gq B n (y_qk b 3) (y_ii 3) ((0, y_e B n p), []) = y_gq B n (fun _ v => y_qo b v) [none] ((0, y_e B n p), []) := rfl
    rw [cv]
    clear cv
    generalize y_gq B n (fun _ v => y_qo b v) [none] ((0, y_e B n p), []) = X at *
    refine ⟨τ', ?_, e2, y_fm.trans (y_fl.of t3) e3, fun z => ?_⟩
    · unfold f_X12_readNext
      refine Eq.trans (d0 _) ?_
      rw [gd, if_neg i1, no 1 2000016 (by omega) rfl (by omega), j_b2_s, if_neg i0, no 2 2000017 (by omega) rfl (by omega), j_b2_s, if_neg i0, t1, j_b2_s, if_pos i1, e1', j_b1_s]
    · obtain ⟨w0, q, g0, g1, g3⟩ := e4 z
      rw [q]
      exact ⟨⟨w0, rfl, g0, g1⟩, g3⟩
  · obtain ⟨τ1, t1, t2, t3⟩ := ye 2000014 rfl
    have n5 : b 5 ≠ 24 := fun z => hf (Or.inl ⟨by omega, by omega, z⟩)
    obtain ⟨τ', e1, e2, e3, e4⟩ := ym_rcom1 (r := 1) hW on (by omega) (by omega) t2 (hm.fm t3)
    have e1' : f_X12_readComing (1 : Int32) (0 : Int32) τ1 = some τ' := e1
    have cv : y_gq B n (y_qk b 4) (y_ii 4) ((0, y_e B n p), []) = y_gq B n (fun _ v => y_qo b v) [none] ((0, y_e B n p), []) := rfl
    rw [cv]
    clear cv
    generalize y_gq B n (fun _ v => y_qo b v) [none] ((0, y_e B n p), []) = X at *
    refine ⟨τ', ?_, e2, y_fm.trans (y_fl.of t3) e3, fun z => ?_⟩
    · unfold f_X12_readNext
      refine Eq.trans (d0 _) ?_
      rw [gd, if_neg i1, no 1 2000016 (by omega) rfl (by omega), j_b2_s, if_neg i0, no 2 2000017 (by omega) rfl (by omega), j_b2_s, if_neg i0, no 3 2000013 (by omega) rfl (by omega), j_b2_s, if_neg i0, t1, j_b2_s, if_pos i1, e1', j_b1_s]
    · obtain ⟨w0, q, g0, g1, g3⟩ := e4 z
      rw [q]
      exact ⟨⟨w0, rfl, g0, g1⟩, g3⟩
  · obtain ⟨τ1, t1, t2, t3⟩ := ye 2000015 rfl
    have n5 : b 5 ≠ 24 := fun z => hf (Or.inl ⟨by omega, by omega, z⟩)
    obtain ⟨τ', e1, e2, e3, e4⟩ := ym_rcom2 hW on (by omega) t2 (hm.fm t3)
    have cv : y_gq B n (y_qk b 5) (y_ii 5) ((0, y_e B n p), []) = y_gq B n (y_q5 b) [none, none] ((0, y_e B n p), []) := rfl
    rw [cv]
    clear cv
    generalize y_gq B n (y_q5 b) [none, none] ((0, y_e B n p), []) = X at *
    refine ⟨τ', ?_, e2, y_fm.trans (y_fl.of t3) e3, fun z => ?_⟩
    · unfold f_X12_readNext
      refine Eq.trans (d0 _) ?_
      rw [gd, if_neg i1, no 1 2000016 (by omega) rfl (by omega), j_b2_s, if_neg i0, no 2 2000017 (by omega) rfl (by omega), j_b2_s, if_neg i0, no 3 2000013 (by omega) rfl (by omega), j_b2_s, if_neg i0, no 4 2000014 (by omega) rfl (by omega), j_b2_s, if_neg i0, t1, j_b2_s, if_pos i1, e1, j_b1_s]
    · obtain ⟨w0, w1, q, g0, g1, g2, g3, g4, g5⟩ := e4 z
      rw [q]
      exact ⟨⟨w0, w1, rfl, g0, g1, g2, g3, g4⟩, g5⟩
  · obtain ⟨τ1, t1, t2, t3⟩ := ye 2000018 rfl
    have n6 : b 6 ≠ 4 := fun z => hf (Or.inr ⟨rfl, z⟩)
    obtain ⟨τ', e1, e2, e3, e4⟩ := ym_rplayer hW on (by omega) t2 (hm.fm t3)
    have cv : y_gq B n (y_qk b 6) (y_ii 6) ((0, y_e B n p), []) = y_gq B n (y_q6 b) [some (y_L 21), none, some (y_L 22), none, some (y_L 23), none, some (y_L 24), none, some (y_L 25), none] ((0, y_e B n p), []) := rfl
    rw [cv]
    clear cv
    generalize y_gq B n (y_q6 b) [some (y_L 21), none, some (y_L 22), none, some (y_L 23), none, some (y_L 24), none, some (y_L 25), none] ((0, y_e B n p), []) = X at *
    refine ⟨τ', ?_, e2, y_fm.trans (y_fl.of t3) e3, fun z => ?_⟩
    · unfold f_X12_readNext
      refine Eq.trans (d0 _) ?_
      rw [gd, if_neg i1, no 1 2000016 (by omega) rfl (by omega), j_b2_s, if_neg i0, no 2 2000017 (by omega) rfl (by omega), j_b2_s, if_neg i0, no 3 2000013 (by omega) rfl (by omega), j_b2_s, if_neg i0, no 4 2000014 (by omega) rfl (by omega), j_b2_s, if_neg i0, no 5 2000015 (by omega) rfl (by omega), j_b2_s, if_neg i0, t1, j_b2_s, if_pos i1, e1, j_b1_s]
    · obtain ⟨w0, w1, w2, w3, w4, q, g0, g1, g2, g3, g4, g5⟩ := e4 z
      rw [q]
      exact ⟨⟨w0, w1, w2, w3, w4, rfl, g0, g1, g2, g3, g4⟩, g5⟩
  · obtain ⟨τ1, t1, t2, t3⟩ := ym_advR h
    have t3' : y_fm 8 13 1 0 τ2 τ1 := t3.wide (by omega) (by omega) (by omega) (by omega)
    obtain ⟨τ', e1, e2, e3, e4⟩ := ym_rtick t2 (hm.fm t3')
    have cv : y_gq B n (y_qk b 7) (y_ii 7) ((0, y_e B n p), []) = y_gq B n y_q7 [none, some (y_L 26), none] ((0, y_e B n p), []) := rfl
    rw [cv]
    clear cv
    generalize y_gq B n y_q7 [none, some (y_L 26), none] ((0, y_e B n p), []) = X at *
    refine ⟨τ', ?_, e2, y_fm.trans (y_fl.of t3') e3, fun z => ?_⟩
    · unfold f_X12_readNext
      refine Eq.trans (d0 _) ?_
      rw [gd, if_neg i1, no 1 2000016 (by omega) rfl (by omega), j_b2_s, if_neg i0, no 2 2000017 (by omega) rfl (by omega), j_b2_s, if_neg i0, no 3 2000013 (by omega) rfl (by omega), j_b2_s, if_neg i0, no 4 2000014 (by omega) rfl (by omega), j_b2_s, if_neg i0, no 5 2000015 (by omega) rfl (by omega), j_b2_s, if_neg i0, no 6 2000018 (by omega) rfl (by omega), j_b2_s, if_neg i0, t1, j_b1_s]
      exact e1
    · obtain ⟨w0, w1, q, g0, g1, g2⟩ := e4 z
      rw [q]
      exact ⟨⟨w0, w1, rfl, g0, g1⟩, g2⟩
theorem ym_body {τ : j_G} {b : Nat → Nat} {p : Nat} (hW : y_W b) (h : y_mw τ B n (0, p)) (hm : y_mb (τ.1 81) b) :
    ∃ τ1 X, (if (τ.1 81 ((9 : Int32)).toNatClampNeg) = 0 then (j_b1 (f_X12_readFirst τ) fun σ2 => some σ2) else (j_b1 (f_X12_readNext τ) fun σ3 => some σ3)) = some τ1 ∧ y_mw τ1 B n X.1 ∧ y_fl τ τ1 ∧
      y_lr B n b p = y_stp B n (y_qk b (y_kn B n p)) (some []) X ∧ (X.1.1 = 0 → y_okv b (y_kn B n p) X.2 ∧ y_mb (τ1.1 81) (y_lap b (y_kn B n p) X.2)) := by
  have b9 := hW.b9
  have kl := y_kn_le (B := B) (n := n) (p := p)
  have e9 : τ.1 81 ((9 : Int32)).toNatClampNeg = nI (b 9) := hm.f (j := 9) (by omega)
  rw [e9, y_b1id, y_b1id]
  by_cases c : b 9 = 0
  · rw [c, if_pos (show nI 0 = (0 : Int32) from rfl)]
    obtain ⟨τ', e1, e2, e3, e4⟩ := ym_first h hm
    have cv : y_gq B n y_q0 [some (y_L 8), some (y_L 9), none, some (y_L 10), none, some (y_L 11), none, some (y_L 12), none] ((0, p), []) = y_gq B n y_q0 (y_ii 0) (y_stp B n y_q0 (some (y_L 8)) ((0, p), [])) := rfl
    rw [cv] at e2 e4
    clear cv
    have ki := y_kn_iff (B := B) (n := n) (p := p) (k := 0) (by omega)
    rw [show y_fw 0 = 8 from rfl] at ki
    rw [y_stp_w (y_ne 8 (by omega))] at e2 e4
    by_cases d : y_kn B n p = 0
    · rw [if_pos (ki.mpr d)] at e2 e4
      refine ⟨τ', _, e1, e2, e3, ?_, fun z => ?_⟩
      · rw [y_lr_go (by omega) (by rw [d]; exact fun z => by omega), d, y_ii_it, y_gq_app]
        rfl
      · obtain ⟨w0, w1, w2, w3, q, g0, g1, g2, g3, g4⟩ := e4 z
        rw [d, q]
        exact ⟨⟨w0, w1, w2, w3, rfl, g0, g1, g2, g3⟩, g4⟩
    · rw [if_neg (fun z => d (ki.mp z)), y_gq_bad (show ((1, y_s B n p), ([] : List Nat)).1.1 ≠ 0 by show (1 : Nat) ≠ 0; omega)] at e2
      refine ⟨τ', ((1, y_s B n p), []), e1, e2, e3, ?_, fun z => absurd z (by show ¬ (1 : Nat) = 0; omega)⟩
      rw [y_lr_bad (by omega), y_stp_bad (show ((1, y_s B n p), ([] : List Nat)).1.1 ≠ 0 by show (1 : Nat) ≠ 0; omega)]
  · rw [if_neg (show ¬ nI (b 9) = (0 : Int32) by rw [show (0 : Int32) = nI 0 from rfl, y_eq (by omega) (by omega)]; exact c)]
    obtain ⟨τ2, d0, d1⟩ := ym_pre hW h hm
    have bad : ∀ k, 0 < k → y_mw τ2 B n (k, y_s B n p) → f_X12_readNext τ = some τ2 := by
      intro k hk hw
      unfold f_X12_readNext
      refine Eq.trans (d0 _) ?_
      rw [ym_good hw, if_neg (show ¬ (k, y_s B n p).1 = 0 by show ¬ k = 0; omega), if_pos (show nI 0 = (0 : Int32) from rfl)]
    rcases d1 with ⟨g0, g1, g2⟩ | ⟨g0, g1, g2⟩ | ⟨g0, g1, g2, g3⟩
    · obtain ⟨τ', e1, e2, e3, e4⟩ := ym_nxk hW (by omega) h hm (y_kn B n p) (by omega) (by omega) rfl g1
      refine ⟨τ', _, e1, e2, e3, ?_, e4⟩
      rw [y_lr_go (by omega) g1, y_ii_it, y_gq_app]
      rfl
    · refine ⟨τ2, ((1, y_s B n p), []), bad 1 (by omega) g1, g1, y_fl.of g2, ?_, fun z => absurd z (by show ¬ (1 : Nat) = 0; omega)⟩
      rw [y_lr_bad (by omega), y_stp_bad (show ((1, y_s B n p), ([] : List Nat)).1.1 ≠ 0 by show (1 : Nat) ≠ 0; omega)]
    · refine ⟨τ2, ((3, y_s B n p), []), bad 3 (by omega) g2, g2, y_fl.of g3, ?_, fun z => absurd z (by show ¬ (3 : Nat) = 0; omega)⟩
      rw [y_lr_full (by omega) g1, y_stp_bad (show ((3, y_s B n p), ([] : List Nat)).1.1 ≠ 0 by show (3 : Nat) ≠ 0; omega)]
theorem ym_line {τ : j_G} {b : Nat → Nat} {p : Nat} (hW : y_W b) (h : y_mw τ B n (0, p)) (hm : y_mb (τ.1 81) b) :
    ∃ τ', f_X12_readLine τ = some τ' ∧ y_mw τ' B n (y_lr B n b p).1 ∧ y_fl τ τ' ∧ ((y_lr B n b p).1.1 = 0 → y_okv b (y_kn B n p) (y_lr B n b p).2 ∧ y_mb (τ'.1 81) (y_l9 (y_lap b (y_kn B n p) (y_lr B n b p).2))) := by
  obtain ⟨τ1, X, a1, a2, a3, a4, a5⟩ := ym_body hW h hm
  obtain ⟨τ2, τ3, s1, s2, s3, s4⟩ := ym_semi (J := y_qk b (y_kn B n p)) a2
  have s1' := (y_b1id).symm.trans s1
  have s2' := (y_b1id).symm.trans s2
  have i9 : ∀ (o : Option j_G), j_ix (9 : Int32) 116 o = o := fun o => y_i81 (k := 9) (by omega)
  rw [a4]
  refine ⟨j_si τ3 81 9 (τ3.1 81 9 + 1), ?_, s3.s81, y_fl.s (y_fl.t a3 s4), fun z => ?_⟩
  · unfold f_X12_readLine
    rw [i9, a1, j_b1_s, s1', j_b1_s, s2', j_b1_s, i9, i9]
    rfl
  · have x0 := y_stp_good z
    obtain ⟨o1, o2⟩ := a5 x0
    have e2 : (y_stp B n (y_qk b (y_kn B n p)) (some []) X).2 = X.2 := by
      obtain ⟨⟨r1, q⟩, vs⟩ := X
      have r0 : r1 = 0 := x0
      subst r0
      rw [y_stp_s]; split <;> rfl
    rw [e2]
    have m3 := o2.fm s4
    have e9 := m3.f (j := 9) (by omega)
    refine ⟨o1, ?_⟩
    rw [e9, show nI (y_lap b (y_kn B n p) X.2 9) + (1 : Int32) = nI (y_lap b (y_kn B n p) X.2 9 + 1) by simp (disch := omega) only [y_lit, nI_add]]
    exact y_mbs m3 (by omega)
end R
/-! ===== the class's line, whole ===== -/
def y_fT (σ σ' : j_G) : Prop := (∀ c, c < 10 ∨ 18 < c → c ≠ 21 → σ'.1 c = σ.1 c) ∧ σ'.2 = σ.2
theorem y_fT.refl {σ : j_G} : y_fT σ σ := ⟨fun _ _ _ => rfl, rfl⟩
theorem y_fT.trans {σ σ' σ'' : j_G} (h : y_fT σ σ') (h' : y_fT σ' σ'') : y_fT σ σ'' := ⟨fun c a d => (h'.1 c a d).trans (h.1 c a d), h'.2.trans h.2⟩
theorem y_fT.si {σ σ' : j_G} {c j : Nat} {v : Int32} (h : y_fT σ σ') (hc : 10 ≤ c ∧ c ≤ 18) : y_fT σ (j_si σ' c j v) := ⟨fun c' a d => (funext fun j' => j_r_ne (by omega)).trans (h.1 c' a d), h.2⟩
theorem y_fc.fT {σ σ' : j_G} (h : y_fc σ σ') : y_fT σ σ' := ⟨fun c a d => h.1 c (by omega) d, h.2⟩
theorem y_ft2.fT {σ σ' : j_G} (h : y_ft2 σ σ') : y_fT σ σ' := ⟨fun c a d => h.1 c a d, h.2.2⟩
theorem y_cf10.fT {σ σ' : j_G} (h : y_cf10 σ σ') : y_fT σ σ' := h.fc.fT
section A
variable {B : Nat → Int32} {n : Nat} {σ : j_G} {b : Nat → Nat}
theorem y_ct.fT {σ' : j_G} (h : y_ct σ B n) (hf : y_fT σ σ') : y_ct σ' B n := by
  unfold y_ct at *; rw [hf.1 19 (by omega) (by omega), hf.1 20 (by omega) (by omega)]; exact h
theorem y_cw.cg {σ' : j_G} {r : Nat × Nat} (h : y_cw σ B n r) (e : σ'.1 10 = σ.1 10) (e1 : σ'.1 19 = σ.1 19) (e2 : σ'.1 20 = σ.1 20) : y_cw σ' B n r := by
  unfold y_cw y_ct at *; rw [e, e1, e2]; exact h
theorem y_T.l9' (h : y_T σ b) (h0 : 0 < b 9) : y_T (j_si σ 11 1 (σ.1 11 1 + (1 : Int32))) (y_l9 b) := by
  rw [h.f1, show nI (b 9) + (1 : Int32) = nI (b 9 + 1) by simp (disch := omega) only [y_lit, nI_add]]
  exact h.l9 h0
theorem yc_apply (hW : y_W b) (hT : y_T σ b) (t89 : b 9 = 0 → σ.1 11 8 = nI 1 ∧ σ.1 11 9 = nI 100) : ∀ k, k < 8 → (k = 0 ↔ b 9 = 0) → ¬ y_full b k → ∀ vs, y_okv b k vs → (∀ j, j < vs.length → σ.1 21 j = nI (vs.getD j 0)) →
    ∃ σ', f_X7_apply (nI k) σ = some σ' ∧ y_ft2 σ σ' ∧ y_T (j_si σ' 11 1 (σ'.1 11 1 + (1 : Int32))) (y_l9 (y_lap b k vs)) := by
  intro k hk h0 hf vs hok hv
  have b2 := hW.b2
  have b5 := hW.b5
  have b6 := hW.b6
  have ho := hW.ho
  have x0 : ∀ (o : Option j_G), j_ix (0 : Int32) 5 o = o := fun o => y_ix (k := 0) (by omega) (by omega)
  have x1 : ∀ (o : Option j_G), j_ix (1 : Int32) 5 o = o := fun o => y_ix (k := 1) (by omega) (by omega)
  have x2 : ∀ (o : Option j_G), j_ix (2 : Int32) 5 o = o := fun o => y_ix (k := 2) (by omega) (by omega)
  have x3 : ∀ (o : Option j_G), j_ix (3 : Int32) 5 o = o := fun o => y_ix (k := 3) (by omega) (by omega)
  have c0 : ((0 : Int32)).toNatClampNeg = 0 := rfl
  have c1 : ((1 : Int32)).toNatClampNeg = 1 := rfl
  have c2 : ((2 : Int32)).toNatClampNeg = 2 := rfl
  have c3 : ((3 : Int32)).toNatClampNeg = 3 := rfl
  have nk : ∀ j : Nat, j < 8 → k ≠ j → ¬ nI k = nI j := fun j a d => by rw [y_eq (by omega) (by omega)]; exact d
  have e9 := y_lap9 (b := b) (k := k) (vs := vs)
  unfold f_X7_apply
  simp only [j_lt, x0, x1, x2, x3, c0, c1, c2, c3, y_b1id]
  obtain rfl | rfl | rfl | rfl | rfl | rfl | rfl | rfl : k = 0 ∨ k = 1 ∨ k = 2 ∨ k = 3 ∨ k = 4 ∨ k = 5 ∨ k = 6 ∨ k = 7 := by omega
  · rw [if_pos (show nI 0 = (0 : Int32) from rfl)]
    obtain ⟨w0, w1, w2, w3, rfl, g0, g1, g2, g3⟩ := hok
    have v0 : σ.1 21 0 = nI w0 := hv 0 (by show 0 < 4; omega)
    have v1 : σ.1 21 1 = nI w1 := hv 1 (by show 1 < 4; omega)
    have v2 : σ.1 21 2 = nI w2 := hv 2 (by show 2 < 4; omega)
    have v3 : σ.1 21 3 = nI w3 := hv 3 (by show 3 < 4; omega)
    have b9 := h0.mp rfl
    obtain ⟨t8, t9⟩ := t89 b9
    refine ⟨j_si (j_si (j_si (j_si σ 11 2 (nI w0)) 11 3 (nI w1)) 11 4 (nI w2)) 11 5 (nI w3), ?_, (((y_ft2.refl.si (by omega)).si (by omega)).si (by omega)).si (by omega), ?_⟩
    · simp (disch := omega) only [j_r_ne, j_r_eq, j_r_nj, v0, v1, v2, v3]
    · have := hT.bb hW b9 t8 t9 (v0 := w0) (v1 := w1) (v2 := w2) (v3 := w3)
      rw [show (j_si (j_si (j_si (j_si σ 11 2 (nI w0)) 11 3 (nI w1)) 11 4 (nI w2)) 11 5 (nI w3)).1 11 1 = nI (b 9) by simp (disch := omega) only [j_r_ne, j_r_eq, j_r_nj]; exact hT.f1, show nI (b 9) + (1 : Int32) = nI (b 9 + 1) by simp (disch := omega) only [y_lit, nI_add]]
      exact this
  · rw [if_neg (show ¬ nI 1 = (0 : Int32) from nk 0 (by omega) (by omega)), if_pos (show nI 1 = (1 : Int32) from rfl)]
    obtain ⟨w0, w1, rfl, g0, g1, g2⟩ := hok
    have v0 : σ.1 21 0 = nI w0 := hv 0 (by show 0 < 2; omega)
    have v1 : σ.1 21 1 = nI w1 := hv 1 (by show 1 < 2; omega)
    obtain ⟨σ', e1, e2, e3⟩ := hT.sb hW (l := w0) (t := w1) (by omega) g2
    rw [v0, v1, e1]
    exact ⟨σ', rfl, e3, y_T.l9' e2 (by have : y_sb b w0 w1 9 = b 9 := e9; omega)⟩
  · rw [if_neg (show ¬ nI 2 = (0 : Int32) from nk 0 (by omega) (by omega)), if_neg (show ¬ nI 2 = (1 : Int32) from nk 1 (by omega) (by omega)), if_pos (show nI 2 = (2 : Int32) from rfl)]
    obtain ⟨w0, rfl, g0, g1, g2⟩ := hok
    have v0 : σ.1 21 0 = nI w0 := hv 0 (by show 0 < 1; omega)
    rw [v0, hT.f6, show (1 : Int32) = nI 1 from rfl, show (31 : Int32) = nI 31 from rfl, y_shl (by omega), y_or]
    exact ⟨_, rfl, y_ft2.refl.si (by omega), y_T.l9' hT.s7 (by have : y_u b 7 (b 7 ||| 2 ^ w0) 9 = b 9 := e9; omega)⟩
  · rw [if_neg (show ¬ nI 3 = (0 : Int32) from nk 0 (by omega) (by omega)), if_neg (show ¬ nI 3 = (1 : Int32) from nk 1 (by omega) (by omega)), if_neg (show ¬ nI 3 = (2 : Int32) from nk 2 (by omega) (by omega)), if_pos (show nI 3 = (3 : Int32) from rfl)]
    obtain ⟨w0, rfl, g0, g1⟩ := hok
    have v0 : σ.1 21 0 = nI w0 := hv 0 (by show 0 < 1; omega)
    have n5 : b 5 ≠ 24 := fun z => hf (Or.inl ⟨by omega, by omega, z⟩)
    rw [v0, yc_addC hT (by omega), y_m1, show (0 : Int32) = nI 0 from rfl]
    exact ⟨_, rfl, (((y_ft2.refl.si (by omega)).si (by omega)).si (by omega)).si (by omega), y_T.l9' (hT.ac hW (by omega)) (by have : y_ac b w0 0 0 9 = b 9 := e9; omega)⟩
  · rw [if_neg (show ¬ nI 4 = (0 : Int32) from nk 0 (by omega) (by omega)), if_neg (show ¬ nI 4 = (1 : Int32) from nk 1 (by omega) (by omega)), if_neg (show ¬ nI 4 = (2 : Int32) from nk 2 (by omega) (by omega)), if_neg (show ¬ nI 4 = (3 : Int32) from nk 3 (by omega) (by omega)), if_pos (show nI 4 = (4 : Int32) from rfl)]
    obtain ⟨w0, rfl, g0, g1⟩ := hok
    have v0 : σ.1 21 0 = nI w0 := hv 0 (by show 0 < 1; omega)
    have n5 : b 5 ≠ 24 := fun z => hf (Or.inl ⟨by omega, by omega, z⟩)
    rw [v0, yc_addC hT (by omega), y_m1]
    exact ⟨_, rfl, (((y_ft2.refl.si (by omega)).si (by omega)).si (by omega)).si (by omega), y_T.l9' (hT.ac (v := w0) (w := 0) (r := 1) hW (by omega)) (by have : y_ac b w0 0 1 9 = b 9 := e9; omega)⟩
  · rw [if_neg (show ¬ nI 5 = (0 : Int32) from nk 0 (by omega) (by omega)), if_neg (show ¬ nI 5 = (1 : Int32) from nk 1 (by omega) (by omega)), if_neg (show ¬ nI 5 = (2 : Int32) from nk 2 (by omega) (by omega)), if_neg (show ¬ nI 5 = (3 : Int32) from nk 3 (by omega) (by omega)), if_neg (show ¬ nI 5 = (4 : Int32) from nk 4 (by omega) (by omega)), if_pos (show nI 5 = (5 : Int32) from rfl)]
    obtain ⟨w0, w1, rfl, g0, g1, g2, g3, g4⟩ := hok
    have v0 : σ.1 21 0 = nI w0 := hv 0 (by show 0 < 2; omega)
    have v1 : σ.1 21 1 = nI w1 := hv 1 (by show 1 < 2; omega)
    have n5 : b 5 ≠ 24 := fun z => hf (Or.inl ⟨by omega, by omega, z⟩)
    rw [v0, v1, yc_addC hT (by omega), ← y_nPs w1]
    exact ⟨_, rfl, (((y_ft2.refl.si (by omega)).si (by omega)).si (by omega)).si (by omega), y_T.l9' (hT.ac (v := w0) (w := w1 + 1) (r := 0) hW (by omega)) (by have : y_ac b w0 (w1 + 1) 0 9 = b 9 := e9; omega)⟩
  · rw [if_neg (show ¬ nI 6 = (0 : Int32) from nk 0 (by omega) (by omega)), if_neg (show ¬ nI 6 = (1 : Int32) from nk 1 (by omega) (by omega)), if_neg (show ¬ nI 6 = (2 : Int32) from nk 2 (by omega) (by omega)), if_neg (show ¬ nI 6 = (3 : Int32) from nk 3 (by omega) (by omega)), if_neg (show ¬ nI 6 = (4 : Int32) from nk 4 (by omega) (by omega)), if_neg (show ¬ nI 6 = (5 : Int32) from nk 5 (by omega) (by omega)), if_pos (show nI 6 = (6 : Int32) from rfl)]
    obtain ⟨w0, w1, w2, w3, w4, rfl, g0, g1, g2, g3, g4⟩ := hok
    have v0 : σ.1 21 0 = nI w0 := hv 0 (by show 0 < 5; omega)
    have v1 : σ.1 21 1 = nI w1 := hv 1 (by show 1 < 5; omega)
    have v2 : σ.1 21 2 = nI w2 := hv 2 (by show 2 < 5; omega)
    have v3 : σ.1 21 3 = nI w3 := hv 3 (by show 3 < 5; omega)
    have v4 : σ.1 21 4 = nI w4 := hv 4 (by show 4 < 5; omega)
    have n6 : b 6 ≠ 4 := fun z => hf (Or.inr ⟨rfl, z⟩)
    rw [yc_addP hT (by omega) v0 v1 v2 v3 v4]
    exact ⟨_, rfl, (((((y_ft2.refl.si (by omega)).si (by omega)).si (by omega)).si (by omega)).si (by omega)).si (by omega), y_T.l9' (hT.pb hW (by omega)) (by have : y_pb b w0 w1 w2 w3 w4 9 = b 9 := e9; omega)⟩
  · rw [if_neg (show ¬ nI 7 = (0 : Int32) from nk 0 (by omega) (by omega)), if_neg (show ¬ nI 7 = (1 : Int32) from nk 1 (by omega) (by omega)), if_neg (show ¬ nI 7 = (2 : Int32) from nk 2 (by omega) (by omega)), if_neg (show ¬ nI 7 = (3 : Int32) from nk 3 (by omega) (by omega)), if_neg (show ¬ nI 7 = (4 : Int32) from nk 4 (by omega) (by omega)), if_neg (show ¬ nI 7 = (5 : Int32) from nk 5 (by omega) (by omega)), if_neg (show ¬ nI 7 = (6 : Int32) from nk 6 (by omega) (by omega))]
    obtain ⟨w0, w1, rfl, g0, g1⟩ := hok
    have v0 : σ.1 21 0 = nI w0 := hv 0 (by show 0 < 2; omega)
    have v1 : (j_si σ 11 8 (nI w0)).1 21 1 = nI w1 := by rw [j_r_ne (by omega)]; exact hv 1 (by show 1 < 2; omega)
    rw [v0, v1]
    exact ⟨_, rfl, (y_ft2.refl.si (by omega)).si (by omega), y_T.l9' hT.tk (by have : y_u (y_u b 10 w0) 11 w1 9 = b 9 := e9; omega)⟩
theorem yc_full (hW : y_W b) (hT : y_T σ b) {k : Nat} (hk : k < 8) : f_X7_isFull (nI k) σ = if y_full b k then nI 1 else nI 0 := by
  have b5 := hW.b5
  have b6 := hW.b6
  have nk : ∀ j : Nat, j < 8 → k ≠ j → ¬ nI k = nI j := fun j a d => by rw [y_eq (by omega) (by omega)]; exact d
  have e5 : (if ¬ (σ.1 15 0) < (24 : Int32) then ((1 : Int32)) else ((0 : Int32))) = if b 5 = 24 then nI 1 else nI 0 := by
    rw [hT.d0, show (24 : Int32) = nI 24 from rfl]
    by_cases c : b 5 = 24
    · rw [if_pos c, if_pos (by rw [y_lt (by omega) (by omega)]; omega)]; rfl
    · rw [if_neg c, if_neg (by rw [y_lt (by omega) (by omega)]; omega)]; rfl
  have e6 : (if ¬ (σ.1 11 7) < (4 : Int32) then ((1 : Int32)) else ((0 : Int32))) = if b 6 = 4 then nI 1 else nI 0 := by
    rw [hT.f7, show (4 : Int32) = nI 4 from rfl]
    by_cases c : b 6 = 4
    · rw [if_pos c, if_pos (by rw [y_lt (by omega) (by omega)]; omega)]; rfl
    · rw [if_neg c, if_neg (by rw [y_lt (by omega) (by omega)]; omega)]; rfl
  unfold f_X7_isFull
  rw [e5, e6]
  have g5 : 3 ≤ k ∧ k ≤ 5 → (if b 5 = 24 then nI 1 else nI 0) = if y_full b k then nI 1 else nI 0 := by
    intro h
    by_cases c : b 5 = 24
    · rw [if_pos c, if_pos (Or.inl ⟨h.1, h.2, c⟩)]
    · rw [if_neg c, if_neg (fun z => by omega)]
  by_cases k3 : k = 3
  · subst k3; rw [if_pos (show nI 3 = (3 : Int32) from rfl)]; exact g5 (by omega)
  rw [if_neg (show ¬ nI k = (3 : Int32) from nk 3 (by omega) k3)]
  by_cases k4 : k = 4
  · subst k4; rw [if_pos (show nI 4 = (4 : Int32) from rfl)]; exact g5 (by omega)
  rw [if_neg (show ¬ nI k = (4 : Int32) from nk 4 (by omega) k4)]
  by_cases k5 : k = 5
  · subst k5; rw [if_pos (show nI 5 = (5 : Int32) from rfl)]; exact g5 (by omega)
  rw [if_neg (show ¬ nI k = (5 : Int32) from nk 5 (by omega) k5)]
  by_cases k6 : k = 6
  · subst k6
    rw [if_pos (show nI 6 = (6 : Int32) from rfl)]
    by_cases c : b 6 = 4
    · rw [if_pos c, if_pos (Or.inr ⟨rfl, c⟩)]
    · rw [if_neg c, if_neg (fun z => by omega)]
  rw [if_neg (show ¬ nI k = (6 : Int32) from nk 6 (by omega) k6), if_neg (fun z => by omega)]; rfl
theorem yc_line {p : Nat} (hW : y_W b) (hp : p ≤ n) (hc : y_ck σ B n p) (hw : y_cw σ B n (0, y_e B n p)) (hT : y_T σ b) (t89 : b 9 = 0 → σ.1 11 8 = nI 1 ∧ σ.1 11 9 = nI 100) (hok : (y_lr B n b p).1.1 = 0 → y_okv b (y_kn B n p) (y_lr B n b p).2) :
    ∃ σ', f_X7_readLine σ = some σ' ∧ y_cw σ' B n (y_lr B n b p).1 ∧ y_fT σ σ' ∧ ((y_lr B n b p).1.1 = 0 → y_T σ' (y_l9 (y_lap b (y_kn B n p) (y_lr B n b p).2))) := by
  have ht := hw.1
  have b9 := hW.b9
  have kl := y_kn_le (B := B) (n := n) (p := p)
  have i0 : ¬ ¬ nI 0 = (0 : Int32) := fun z => z rfl
  have i1 : ¬ nI 1 = (0 : Int32) := by decide
  have kd : f_X7_kindOfLine σ = some (if y_kn B n p = 8 then nP 0 else if (y_kn B n p = 0 ↔ σ.1 11 1 = nI 0) then nI (y_kn B n p) else nP 0) := by
    unfold f_X7_kindOfLine
    rw [show (0 : Int32) = nI 0 from rfl]
    exact yc_kol ht hp hc 8 0 j_F (by omega) (y_F (by omega))
  have e9 : (y_kn B n p = 0 ↔ σ.1 11 1 = nI 0) ↔ (y_kn B n p = 0 ↔ b 9 = 0) := by rw [hT.f1, y_eq (by omega) (by omega)]
  unfold f_X7_readLine
  rw [kd, j_b1_s]
  by_cases c : y_kn B n p = 8 ∨ ¬ (y_kn B n p = 0 ↔ b 9 = 0)
  · rw [y_lr_bad c]
    obtain ⟨σ', s1, s2, s3⟩ := yc_blame (k := 1) (by omega) (by omega) hp ht hc.2.1
    refine ⟨σ', ?_, s2, s3.fT, fun z => absurd z (by show ¬ (1 : Nat) = 0; omega)⟩
    have v : (if y_kn B n p = 8 then nP 0 else if (y_kn B n p = 0 ↔ σ.1 11 1 = nI 0) then nI (y_kn B n p) else nP 0) = nP 0 := by
      by_cases d : y_kn B n p = 8
      · rw [if_pos d]
      · rw [if_neg d, if_neg (fun z => c.elim d (fun w => w (e9.mp z)))]
    rw [v, if_pos y_m1.symm, show (1 : Int32) = nI 1 from rfl, s1]
    rfl
  · have k8 : y_kn B n p < 8 := by omega
    have v : (if y_kn B n p = 8 then nP 0 else if (y_kn B n p = 0 ↔ σ.1 11 1 = nI 0) then nI (y_kn B n p) else nP 0) = nI (y_kn B n p) := by
      rw [if_neg (by omega), if_pos (e9.mpr (Classical.not_not.mp (fun z => c (Or.inr z))))]
    rw [v, if_neg (show ¬ nI (y_kn B n p) = (-1 : Int32) by rw [y_m1, y_eqQ (by omega) (by omega)]; omega), yc_full hW hT k8]
    by_cases d : y_full b (y_kn B n p)
    · rw [if_pos d, if_pos i1, y_lr_full c d]
      obtain ⟨σ', s1, s2, s3⟩ := yc_blame (k := 3) (by omega) (by omega) hp ht hc.2.1
      refine ⟨σ', ?_, s2, s3.fT, fun z => absurd z (by show ¬ (3 : Nat) = 0; omega)⟩
      rw [show (3 : Int32) = nI 3 from rfl, s1]
      rfl
    · rw [if_neg d, if_neg i0]
      have hiff : y_kn B n p = 0 ↔ b 9 = 0 := Classical.not_not.mp (fun z => c (Or.inr z))
      have lr := y_lr_go c d
      rw [lr] at hok ⊢
      clear lr
      generalize y_kn B n p = k at *
      obtain ⟨q1, q2, q3, q4, q5, q6, q7⟩ := y_first k k8
      obtain ⟨f1, f2, f3⟩ := y_fits k k8
      have hS := y_strK (k := k) (by omega)
      have ec : f_X7_behindBlank (2000000 + k) (nI 0) = some (nI ((y_L (y_fw k)).length + 1)) := by
        refine yc_bbn hS (by omega) (by omega) (fun _ => ?_) (fun t x y => ?_)
        · rw [Nat.zero_add] at q4; exact q4
        · have := (q5 t y).2; rw [Nat.zero_add] at this; exact this
      rw [q1, show (0 : Int32) = nI 0 from rfl, ec, j_b1_s]
      obtain ⟨σ1, g1, g2, g3, g4⟩ := yc_loop (J := y_qk b k) hS (nI k) (y_it k) ((y_L (y_fw k)).length + 1) j_F 1 (y_e B n p) [] σ f1 (y_F (by omega)) (by omega) (y_jdk hW hT k k8) hw (fun j hj => absurd hj (by show ¬ j < 0; omega))
      by_cases z : (y_gq B n (y_qk b k) (y_it k) ((0, y_e B n p), [])).1.1 = 0
      · obtain ⟨h1, h2⟩ := g4 z
        obtain ⟨σ2, a1, a2, a3⟩ := yc_apply hW (hT.fc g2) (fun w => by rw [g2.1 11 (by omega) (by omega)]; exact t89 w) k k8 hiff d _ (hok z) (fun j hj => (h2 j hj).1)
        have h1' : p_X7_readLine_47 (nI k) (2000000 + k) j_F (nI 0) (nI ((y_L (y_fw k)).length + 1)) (1 : Int32) σ = _ := h1
        rw [h1', a1, j_b1_s]
        refine ⟨_, rfl, ?_, (g2.fT.trans a2.fT).si (by omega), fun _ => a3⟩
        refine g1.cg ?_ ?_ ?_
        · exact (funext fun j' => j_r_ne (by omega)).trans a2.2.1
        · exact (funext fun j' => j_r_ne (by omega)).trans (a2.1 19 (by omega) (by omega))
        · exact (funext fun j' => j_r_ne (by omega)).trans (a2.1 20 (by omega) (by omega))
      · have h1 := g3 z
        exact ⟨σ1, h1, g1, g2.fT, fun w => absurd w z⟩
end A
/-! ===== board ===== -/
section A
variable {B : Nat → Int32} {n : Nat}
theorem yc_stepA {σ : j_G} (ht : y_ct σ B n) : ∃ σ', f_X7_step σ = some σ' ∧ y_cf10 σ σ' := by
  have hn := ht.1
  by_cases h : 0 ≤ (σ.1 10 7).toInt ∧ (σ.1 10 7).toInt < ((n + 1 : Nat) : Int)
  · obtain ⟨p, hp, e⟩ := y_of _ (n + 1) h.1 h.2
    obtain ⟨σ', e1, _, e3⟩ := yc_step ht (p := p) (by omega) e
    exact ⟨σ', e1, e3⟩
  · have F0 : (0 : Int32) = nI 0 := rfl
    have hA : ∀ σ' : j_G, σ'.1 19 0 = nI n → f_X10_at (σ.1 10 7) σ' = some (-1 : Int32) := by
      intro σ' e
      unfold f_X10_at
      rw [if_neg]
      rintro ⟨a, c⟩
      rw [e, y_ltr (by omega)] at c
      rw [F0, y_ltr (by omega)] at a
      omega
    have h8 : p_X7_step_8 j_F (j_si σ 10 6 (σ.1 10 7)) = some (j_si σ 10 6 (σ.1 10 7)) := by
      obtain ⟨f, hf⟩ : ∃ f, j_F = f + 1 := ⟨_, rfl⟩
      rw [hf]
      unfold p_X7_step_8
      have e19 : (j_si σ 10 6 (σ.1 10 7)).1 19 0 = nI n := by rw [j_r_ne (by omega)]; exact ht.2.1
      rw [j_r_eq, hA _ e19, j_b1_s, if_neg (show ¬ ¬ f_X7_isBlank (-1 : Int32) = 0 by decide)]
      split <;> rfl
    have fr : y_cf10 σ (j_si (j_si (j_si (j_si σ 10 6 (σ.1 10 7)) 10 7 (σ.1 10 7)) 10 8 (0 : Int32)) 10 5 (1 : Int32)) := (((y_cf10.refl.si (by omega) (by omega)).si (by omega) (by omega)).si (by omega) (by omega)).si (by omega) (by omega)
    refine ⟨_, ?_, fr⟩
    unfold f_X7_step
    simp only [j_lt]
    rw [h8, j_b1_s]
    have e6 : (j_si (j_si (j_si σ 10 6 (σ.1 10 7)) 10 7 ((j_si σ 10 6 (σ.1 10 7)).1 10 6)) 10 8 (0 : Int32)).1 10 6 = σ.1 10 7 := by simp (disch := omega) only [j_r_ne, j_r_eq, j_r_nj]
    have e19 : (j_si (j_si (j_si σ 10 6 (σ.1 10 7)) 10 7 ((j_si σ 10 6 (σ.1 10 7)).1 10 6)) 10 8 (0 : Int32)).1 19 0 = nI n := by simp (disch := omega) only [j_r_ne, j_r_eq, j_r_nj]; exact ht.2.1
    rw [e6, hA _ e19, j_b1_s, if_pos rfl, j_r_eq]
theorem y_l99 {b : Nat → Nat} {k : Nat} {vs : List Nat} : y_l9 (y_lap b k vs) 9 = b 9 + 1 := by
  unfold y_l9; rw [y_ue, y_lap9]
def y_end (σ τ : j_G) : Prop := σ.1 10 1 = τ.1 75 12 ∧ σ.1 10 2 = τ.1 75 13 ∧ ((σ.1 10 1 = nI 0 ∧ ∃ b, y_W b ∧ y_T σ b ∧ y_mb (τ.1 81) b) ∨ ∃ k, 0 < k ∧ k ≤ 3 ∧ σ.1 10 1 = nI k)
theorem y_read : ∀ m p c f f' (b : Nat → Nat) (σ τ : j_G), n < p + m → m < f → m < f' → p ≤ n → c ≤ p → b 9 ≤ c → y_W b → y_ck σ B n p → y_cw σ B n (0, y_e B n p) → y_T σ b → (b 9 = 0 → σ.1 11 8 = nI 1 ∧ σ.1 11 9 = nI 100) → y_mw τ B n (0, p) → y_mb (τ.1 81) b →
    ∃ σ' τ', p_X7_readAll_28 f (nI c) σ = some σ' ∧ p_X12_board_53 f' τ = some τ' ∧ y_fT σ σ' ∧ y_fl τ τ' ∧ y_end σ' τ' := by
  intro m
  induction m with
  | zero => intro p c f f' b σ τ h _ _ hp; omega
  | succ m ih =>
    intro p c f f' b σ τ h hf hf' hp hc h9 hW hck hcw hT t89 hmw hmb
    obtain ⟨f, rfl⟩ := y_pos hf
    obtain ⟨f', rfl⟩ := y_pos hf'
    have hn := hcw.1.1
    have i1 : ¬ nI 1 = (0 : Int32) := by decide
    obtain ⟨g1, g2, q9, q8, q10, q11⟩ := hmw.2.2.2.1 rfl
    obtain ⟨c1, c2, c3⟩ := hcw.2.2.2.1 rfl
    have kl := y_kd_le (B := B) (n := n) (p := p)
    have gd := ym_good hmw
    rw [if_pos (show (0, p).1 = 0 from rfl)] at gd
    have q10' : τ.1 75 10 = nI (y_kd B n p) := q10
    by_cases k : y_kd B n p = 0
    · refine ⟨σ, τ, ?_, ?_, y_fT.refl, y_fm.refl, ?_⟩
      · unfold p_X7_readAll_28
        rw [if_neg]
        rintro ⟨_, _, z⟩
        apply z
        rw [hck.1, k]; rfl
      · unfold p_X12_board_53
        rw [if_neg]
        rintro ⟨_, z⟩
        apply z
        rw [q10', k]; rfl
      · exact ⟨by rw [c1, g1], by rw [c2, g2], Or.inl ⟨c1, b, hW, hT, hmb⟩⟩
    · obtain ⟨τ1, a1, a2, a3, a4⟩ := ym_line hW hmw hmb
      obtain ⟨σ1, s1, s2, s3, s4⟩ := yc_line hW hp hck hcw hT t89 (fun z => (a4 z).1)
      have cs : p_X7_readAll_28 (f + 1) (nI c) σ = (j_b1 (f_X7_step σ1) fun σ2 => p_X7_readAll_28 f (nI (c + 1)) σ2) := by
        rw [p_X7_readAll_28.eq_def]
        show (if (¬ (1200 : Int32) < nI c) ∧ (((σ.1 10 1) = 0) ∧ (¬ (σ.1 10 5) = (1 : Int32))) then (j_b1 (f_X7_readLine σ) fun σ1 => j_b1 (f_X7_step σ1) fun σ2 => p_X7_readAll_28 f (nI c + (1 : Int32)) σ2) else (some σ)) = _
        rw [if_pos, s1, j_b1_s, show nI c + (1 : Int32) = nI (c + 1) by simp (disch := omega) only [y_lit, nI_add]]
        refine ⟨by rw [show (1200 : Int32) = nI 1200 from rfl, y_lt (by omega) (by omega)]; omega, c1, ?_⟩
        rw [hck.1]
        intro z
        have := (y_srt_eq (j := 1) kl (by omega) (by omega)).mp z
        omega
      have ms : p_X12_board_53 (f' + 1) τ = p_X12_board_53 f' τ1 := by
        rw [p_X12_board_53.eq_def]
        show (if (¬ (f_X12_good τ) = 0) ∧ (¬ (τ.1 75 10) = 0) then (j_b1 (f_X12_readLine τ) fun σ1 => p_X12_board_53 f' σ1) else (some τ)) = _
        rw [if_pos, a1, j_b1_s]
        refine ⟨by rw [gd]; exact i1, ?_⟩
        rw [q10', show (0 : Int32) = nI 0 from rfl, y_eq (by omega) (by omega)]
        exact k
      rw [cs, ms]
      by_cases z : (y_lr B n b p).1.1 = 0
      · obtain ⟨m1, m2⟩ := y_lr_mono hp k z
        obtain ⟨ok, mb'⟩ := a4 z
        obtain ⟨nf8, nf⟩ := y_lr_ok z
        have b9 := hW.b9
        have kn8 := y_kn_le (B := B) (n := n) (p := p)
        have hW' := hW.ap (by omega) (y_kn B n p) (by omega) (Classical.not_not.mp (fun w => nf8 (Or.inr w))) nf _ ok
        have e99 := y_l99 (b := b) (k := y_kn B n p) (vs := (y_lr B n b p).2)
        have T' := s4 z
        have er : (y_lr B n b p).1 = (0, (y_lr B n b p).1.2) := by rw [← z]
        rw [er] at s2 a2
        obtain ⟨σ2, u1, u2, u3, u4, u5⟩ := yc_stepW s2
        rw [u1, j_b1_s]
        obtain ⟨σ', τ', v1, v2, v3, v4, v5⟩ := ih (y_lr B n b p).1.2 (c + 1) f f' _ σ2 τ1 (by omega) (by omega) (by omega) m2 (by omega) (by omega) hW' u2 u5 (T'.fc u3.fc) (fun w => by omega) a2 mb'
        exact ⟨σ', τ', v1, v2, (s3.trans u3.fT).trans v3, y_fm.trans a3 v4, v5⟩
      · obtain ⟨w1, w2, w3, w4, w5⟩ := s2
        obtain ⟨x1, x2, x3, x4, x5⟩ := a2
        obtain ⟨σ2, u1, u2⟩ := yc_stepA w1
        obtain ⟨y1, y2⟩ := w5 z
        obtain ⟨y3, y4⟩ := x5 z
        have e1 : σ2.1 10 1 = nI (y_lr B n b p).1.1 := by rw [u2.2.2.1]; exact y1
        have e2 : σ2.1 10 2 = nI (y_lr B n b p).1.2 := by rw [u2.2.2.2]; exact y2
        have nz : ¬ nI (y_lr B n b p).1.1 = (0 : Int32) := by rw [show (0 : Int32) = nI 0 from rfl, y_eq (by omega) (by omega)]; exact z
        rw [u1, j_b1_s]
        obtain ⟨f, rfl⟩ := y_pos (show 0 < f by omega)
        obtain ⟨f', rfl⟩ := y_pos (show 0 < f' by omega)
        refine ⟨σ2, τ1, ?_, ?_, s3.trans u2.fT, a3, ?_⟩
        · unfold p_X7_readAll_28
          rw [if_neg]
          rintro ⟨_, v, _⟩
          rw [e1] at v
          exact nz v
        · unfold p_X12_board_53
          rw [if_neg]
          rintro ⟨v, _⟩
          apply v
          unfold f_X12_good
          rw [y3, if_neg nz]
        · exact ⟨by rw [e1, y3], by rw [e2, y4], Or.inr ⟨(y_lr B n b p).1.1, by omega, w2, e1⟩⟩
end A
theorem y_W0 : y_W y_b0 := by
  have e0 : y_b0 0 = 0 := rfl
  have e1 : y_b0 1 = 0 := rfl
  have e2 : y_b0 2 = 0 := rfl
  have e3 : y_b0 3 = 0 := rfl
  have e4 : y_b0 4 = 0 := rfl
  have e5 : y_b0 5 = 0 := rfl
  have e6 : y_b0 6 = 0 := rfl
  have e7 : y_b0 7 = 0 := rfl
  have e8 : y_b0 8 = 0 := rfl
  have e9 : y_b0 9 = 0 := rfl
  refine ⟨⟨by omega, by omega, by omega, by omega, by omega, by omega, by omega, ?_, by omega⟩, fun _ => ⟨rfl, rfl, rfl, rfl, rfl, rfl, rfl⟩, fun h => absurd h (by omega), fun h => absurd h (by omega), fun _ => rfl, fun k hk => absurd hk (by omega), fun k l h1 h2 => absurd h2 (by omega), fun k hk => absurd hk (by omega), fun k hk => absurd hk (by omega)⟩
  rw [e7]; exact Nat.pow_pos (by omega)
theorem y_T0 {σ : j_G} : ∃ σ', f_X2_empty σ = some σ' ∧ y_T σ' y_b0 ∧ σ'.1 11 8 = nI 1 ∧ σ'.1 11 9 = nI 100 ∧ y_fT σ σ' := by
  unfold f_X2_empty f_X3_empty
  simp only [j_lt, j_b1_s]
  refine ⟨_, rfl, ⟨⟨?_, ?_, ?_, ?_, ?_, ?_, ?_, ?_, ?_, ?_⟩, fun h => absurd h (by show ¬ 0 < y_b0 9; rw [show y_b0 9 = 0 from rfl]; omega), fun k hk => absurd hk (by rw [show y_b0 4 = 0 from rfl]; omega), fun p q hp => absurd hp (by rw [show y_b0 6 = 0 from rfl]; omega), fun k hk => absurd hk (by rw [show y_b0 5 = 0 from rfl]; omega)⟩, ?_, ?_, ?_⟩
  · simp (disch := omega) only [j_r_ne, j_r_eq, j_r_nj]; rfl
  · simp (disch := omega) only [j_r_ne, j_r_eq, j_r_nj]; rfl
  · simp (disch := omega) only [j_r_ne, j_r_eq, j_r_nj]; rfl
  · simp (disch := omega) only [j_r_ne, j_r_eq, j_r_nj]; rfl
  · simp (disch := omega) only [j_r_ne, j_r_eq, j_r_nj]; rfl
  · simp (disch := omega) only [j_r_ne, j_r_eq, j_r_nj]; rfl
  · simp (disch := omega) only [j_r_ne, j_r_eq, j_r_nj]; rfl
  · simp (disch := omega) only [j_r_ne, j_r_eq, j_r_nj]; rfl
  · simp (disch := omega) only [j_r_ne, j_r_eq, j_r_nj]; rfl
  · simp (disch := omega) only [j_r_ne, j_r_eq, j_r_nj]; rfl
  · simp (disch := omega) only [j_r_ne, j_r_eq, j_r_nj]; rfl
  · simp (disch := omega) only [j_r_ne, j_r_eq, j_r_nj]; rfl
  · exact (((((((((((y_fT.refl.si (by omega)).si (by omega)).si (by omega)).si (by omega)).si (by omega)).si (by omega)).si (by omega)).si (by omega)).si (by omega)).si (by omega)).si (by omega)).si (by omega)
theorem ym_clear : ∀ (m i f : Nat) (τ : j_G), i + m = 116 → m < f → ∃ τ', p_X12_board_30 f (nI i) τ = some τ' ∧ (∀ j, i ≤ j → j < 116 → τ'.1 81 j = nI 0) ∧ (∀ j, j < i → τ'.1 81 j = τ.1 81 j) ∧ (∀ c, c ≠ 81 → τ'.1 c = τ.1 c) ∧ τ'.2 = τ.2 := by
  intro m
  induction m with
  | zero =>
    intro i f τ h hf
    obtain ⟨f, rfl⟩ := y_pos hf
    refine ⟨τ, ?_, fun j a c => by omega, fun _ _ => rfl, fun _ _ => rfl, rfl⟩
    unfold p_X12_board_30; simp (disch := omega) only [y_lit, y_n1, nI_add, pk_mul, j_lt, j_b1_s, j_b2_s, j_b3_s, j_b0_s, y_bo, y_bo1, y_bo0, y_i0, y_i1, Classical.not_not, nI_clamp, y_ix, y_lt, y_le, y_eq, y_nP, y_nPs, y_ltP, y_ltQ, y_ltPP, y_eqP, y_eqQ, y_eqPP, if_pos, if_neg, ite_true, ite_false, not_true_eq_false, not_false_eq_true, and_true, true_and, and_false, false_and, or_true, true_or, or_false, false_or]
  | succ m ih =>
    intro i f τ h hf
    obtain ⟨f, rfl⟩ := y_pos hf
    obtain ⟨τ', e1, e2, e3, e4, e5⟩ := ih (i + 1) f (j_si τ 81 i (nI 0)) (by omega) (by omega)
    refine ⟨τ', ?_, fun j a c => ?_, fun j hj => ?_, fun c hc => ?_, e5⟩
    · unfold p_X12_board_30; simp (disch := omega) only [y_lit, y_n1, nI_add, pk_mul, j_lt, j_b1_s, j_b2_s, j_b3_s, j_b0_s, y_bo, y_bo1, y_bo0, y_i0, y_i1, Classical.not_not, nI_clamp, y_ix, y_lt, y_le, y_eq, y_nP, y_nPs, y_ltP, y_ltQ, y_ltPP, y_eqP, y_eqQ, y_eqPP, if_pos, if_neg, ite_true, ite_false, not_true_eq_false, not_false_eq_true, and_true, true_and, and_false, false_and, or_true, true_or, or_false, false_or]; exact e1
    · by_cases e : j = i
      · subst e; rw [e3 j (by omega), j_r_eq]
      · exact e2 j (by omega) c
    · rw [e3 j (by omega), j_r_nj (by omega)]
    · rw [e4 c hc]; funext j; exact j_r_ne hc
theorem ym_world : ∀ (m i f : Nat) (τ : j_G), i + m = 116 → m < f → ∃ τ', p_X12_board_86 f (nI i) τ = some τ' ∧ (∀ j, i ≤ j → j < 116 → τ'.1 76 j = τ.1 81 j) ∧ (∀ j, j < i → τ'.1 76 j = τ.1 76 j) ∧ (∀ c, c ≠ 76 → τ'.1 c = τ.1 c) ∧ τ'.2 = τ.2 := by
  intro m
  induction m with
  | zero =>
    intro i f τ h hf
    obtain ⟨f, rfl⟩ := y_pos hf
    refine ⟨τ, ?_, fun j a c => by omega, fun _ _ => rfl, fun _ _ => rfl, rfl⟩
    unfold p_X12_board_86; simp (disch := omega) only [y_lit, y_n1, nI_add, pk_mul, j_lt, j_b1_s, j_b2_s, j_b3_s, j_b0_s, y_bo, y_bo1, y_bo0, y_i0, y_i1, Classical.not_not, nI_clamp, y_ix, y_lt, y_le, y_eq, y_nP, y_nPs, y_ltP, y_ltQ, y_ltPP, y_eqP, y_eqQ, y_eqPP, if_pos, if_neg, ite_true, ite_false, not_true_eq_false, not_false_eq_true, and_true, true_and, and_false, false_and, or_true, true_or, or_false, false_or]
  | succ m ih =>
    intro i f τ h hf
    obtain ⟨f, rfl⟩ := y_pos hf
    obtain ⟨τ', e1, e2, e3, e4, e5⟩ := ih (i + 1) f (j_si τ 76 i (τ.1 81 i)) (by omega) (by omega)
    refine ⟨τ', ?_, fun j a c => ?_, fun j hj => ?_, fun c hc => ?_, e5⟩
    · unfold p_X12_board_86; simp (disch := omega) only [y_lit, y_n1, nI_add, pk_mul, j_lt, j_b1_s, j_b2_s, j_b3_s, j_b0_s, y_bo, y_bo1, y_bo0, y_i0, y_i1, Classical.not_not, nI_clamp, y_ix, y_lt, y_le, y_eq, y_nP, y_nPs, y_ltP, y_ltQ, y_ltPP, y_eqP, y_eqQ, y_eqPP, if_pos, if_neg, ite_true, ite_false, not_true_eq_false, not_false_eq_true, and_true, true_and, and_false, false_and, or_true, true_or, or_false, false_or]; exact e1
    · by_cases e : j = i
      · subst e; rw [e3 j (by omega), j_r_eq]
      · rw [e2 j (by omega) c, j_r_ne (by omega)]
    · rw [e3 j (by omega), j_r_nj (by omega)]
    · rw [e4 c hc]; funext j; exact j_r_ne hc
theorem y_K.rd {σ τ σ' τ' : j_G} (h : y_K σ τ) (h1 : ∀ c, 43 ≤ c → σ'.1 c = σ.1 c) (h1' : σ'.2 = σ.2) (h2 : ∀ c, c = 77 ∨ c = 78 ∨ c = 94 ∨ c = 95 → τ'.1 c = τ.1 c) (h2' : τ'.2 96 = τ.2 96) (ht : y_tp σ' τ') (hf : y_ft σ' τ') : y_K σ' τ' := by
  obtain ⟨⟨i0, i1, i2⟩, ⟨s0, s1, s2, s3⟩, _, _⟩ := h
  have e77 := h2 77 (by omega)
  have e78 := h2 78 (by omega)
  have e94 := h2 94 (by omega)
  have e95 := h2 95 (by omega)
  exact ⟨⟨i0.fr (fun x hx => h1 x (by omega)) e77 e78, i1.fr (fun x hx => h1 x (by omega)) e77 e78, i2.fr (fun x hx => h1 x (by omega)) e77 e78⟩,
    ⟨s0.fr (h1 67 (by omega)) (by rw [h1']) e94 e95 h2', s1.fr (h1 69 (by omega)) (by rw [h1']) e94 e95 h2', s2.fr (h1 71 (by omega)) (by rw [h1']) e94 e95 h2', s3.fr (h1 73 (by omega)) (by rw [h1']) e94 e95 h2'⟩, ht, hf⟩
section Z
variable {σ τ : j_G}
theorem z_board (hR : j_Rel σ τ) : ∃ v σ1 τ1, f_X11_board σ = some (v, σ1) ∧ f_X12_board τ = some (v, τ1) ∧ j_Rel σ1 τ1 := by
  obtain ⟨b, hW, hN, hM, hK⟩ := id hR
  obtain ⟨n, hn, t1, t2, t3⟩ := hK.2.2.1
  have F0 : (0 : Int32) = nI 0 := rfl
  have i1 : ¬ nI 1 = (0 : Int32) := by decide
  -- the class's start
  obtain ⟨σ1, a1, a2, a3, a4, a5⟩ := y_T0 (σ := σ)
  have fs : y_fT σ (j_si (j_si (j_si σ1 10 7 (nI 0)) 10 1 (nI 0)) 10 2 (nP 0)) := ((a5.si (by omega)).si (by omega)).si (by omega)
  have ct : y_ct (j_si (j_si (j_si σ1 10 7 (nI 0)) 10 1 (nI 0)) 10 2 (nP 0)) (fun i => τ.1 79 i) n := by
    have c0 : y_ct σ (fun i => τ.1 79 i) n := ⟨hn, t1, fun i hi => (t3 i hi).1⟩
    exact c0.fT fs
  obtain ⟨σ5, b1, b2, b3⟩ := yc_step ct (p := 0) (by omega) (by simp (disch := omega) only [j_r_ne, j_r_eq, j_r_nj])
  have eb := y_e_bd (B := fun i => τ.1 79 i) (n := n) (p := 0) (by omega)
  have hcw : y_cw σ5 (fun i => τ.1 79 i) n (0, y_e (fun i => τ.1 79 i) n 0) := by
    refine ⟨ct.fr b3, by show 0 ≤ 3; omega, eb.2.1, fun _ => ⟨?_, ?_, b2.2.2.1⟩, fun z => absurd rfl z⟩
    · rw [b3.2.2.1]; simp (disch := omega) only [j_r_ne, j_r_eq, j_r_nj]
    · rw [b3.2.2.2]; simp (disch := omega) only [j_r_ne, j_r_eq, j_r_nj]
  have hT5 : y_T σ5 y_b0 := by
    have q : y_T (j_si (j_si (j_si σ1 10 7 (nI 0)) 10 1 (nI 0)) 10 2 (nP 0)) y_b0 := a2.fc (((y_fc.refl.si (by omega)).si (by omega)).si (by omega))
    exact q.fc b3.fc
  have t89 : σ5.1 11 8 = nI 1 ∧ σ5.1 11 9 = nI 100 := by
    rw [b3.1 11 (by omega)]
    simp (disch := omega) only [j_r_ne, j_r_eq, j_r_nj]
    exact ⟨a3, a4⟩
  have fs5 := fs.trans b3.fT
  -- the reference's start
  obtain ⟨τ6, c1, c2, c3, c4, c5⟩ := ym_clear 116 0 j_F (j_si (j_si (j_si (j_si (j_si τ 75 7 (nI n)) 75 5 (nI 0)) 75 8 (nI 0)) 75 12 (nI 0)) 75 13 (nP 0)) (by omega) (y_F (by omega))
  have r75 : ∀ j v, (j_si (j_si (j_si (j_si (j_si τ 75 7 (nI n)) 75 5 (nI 0)) 75 8 (nI 0)) 75 12 (nI 0)) 75 13 (nP 0)).1 75 j = v → τ6.1 75 j = v := fun j v hv => by rw [c4 75 (by omega)]; exact hv
  have r79 : τ6.1 79 = τ.1 79 := by
    rw [c4 79 (by omega)]
    funext j
    simp (disch := omega) only [j_r_ne, j_r_eq, j_r_nj]
  have mt6 : y_mt τ6 (fun i => τ.1 79 i) n := by
    refine ⟨hn, r75 7 _ (by simp (disch := omega) only [j_r_ne, j_r_eq, j_r_nj]), fun i hi => ⟨by rw [r79], (t3 i hi).2⟩⟩
  obtain ⟨τ7, d1, d2, d3⟩ := ym_adv mt6 (p := 0) (by omega) (r75 8 _ (by simp (disch := omega) only [j_r_ne, j_r_eq, j_r_nj]))
  have hmw : y_mw τ7 (fun i => τ.1 79 i) n (0, 0) := by
    refine ⟨mt6.fr d3, by show 0 ≤ 3; omega, by show 0 ≤ n; omega, fun _ => ⟨?_, ?_, d2⟩, fun z => absurd rfl z⟩
    · rw [d3.1 12 (by omega)]; exact r75 12 _ (by simp (disch := omega) only [j_r_ne, j_r_eq, j_r_nj])
    · rw [d3.1 13 (by omega)]; exact r75 13 _ (by simp (disch := omega) only [j_r_ne, j_r_eq, j_r_nj])
  have hmb : y_mb (τ7.1 81) y_b0 := by
    rw [(d3.2 81 (by omega) (by omega)).1]
    intro j hj
    rw [c2 j (by omega) hj]
    unfold y_b0
    split
    · rfl
    · rfl
  obtain ⟨σ6, τ8, e1, e2, e3, e4, e5, e6, e7⟩ := y_read (n + 1) 0 0 j_F j_F y_b0 σ5 τ7 (by omega) (y_F (by omega)) (y_F (by omega)) (by omega) (by omega) (by rw [show y_b0 9 = 0 from rfl]; omega) y_W0 b2 hcw hT5 (fun _ => t89) hmw hmb
  have fs6 := fs5.trans e3
  -- frames of the reference
  have t75 : ∀ c, c ≠ 75 → c ≠ 81 → τ8.1 c = τ.1 c ∧ τ8.2 c = τ.2 c := by
    intro c x y
    have q1 := e4.2 c x (by omega)
    have q2 := d3.2 c x (by omega)
    rw [q1.1, q1.2, q2.1, q2.2, c4 c y, c5]
    refine ⟨?_, rfl⟩
    funext j
    rw [j_r_ne x, j_r_ne x, j_r_ne x, j_r_ne x, j_r_ne x]
  have t755 : τ8.1 75 5 = nI 0 := by
    rw [e4.1 5 (by omega), d3.1 5 (by omega)]; exact r75 5 _ (by simp (disch := omega) only [j_r_ne, j_r_eq, j_r_nj])
  have ra : f_X7_readAll σ = (if (σ6.1 10 1) = 0 then (some ((1 : Int32), σ6)) else (some ((0 : Int32), σ6))) := by
    have b1' : f_X7_step (j_si (j_si (j_si σ1 10 7 (0 : Int32)) 10 1 (0 : Int32)) 10 2 (-1 : Int32)) = some σ5 := by rw [y_m1]; exact b1
    have e1' : p_X7_readAll_28 j_F (0 : Int32) σ5 = some σ6 := e1
    unfold f_X7_readAll
    rw [a1, j_b1_s]
    simp only [j_lt]
    rw [b1', j_b1_s, e1', j_b1_s]
  have rb : f_X12_board τ = (if (f_X12_good τ8) = 0 then (some ((-4 : Int32), τ8)) else (j_b1 (p_X12_board_86 j_F (0 : Int32) τ8) fun σ9 => j_ix (9 : Int32) 116 (some ((σ9.1 76 ((9 : Int32)).toNatClampNeg), σ9)))) := by
    have c1' : p_X12_board_30 j_F (0 : Int32) (j_si (j_si (j_si (j_si (j_si τ 75 7 (nI n)) 75 5 (0 : Int32)) 75 8 (0 : Int32)) 75 12 (0 : Int32)) 75 13 (-1 : Int32)) = some τ6 := by rw [y_m1]; exact c1
    unfold f_X12_board
    simp only [j_lt]
    rw [t2, c1', j_b1_s, d1, j_b1_s, e2, j_b1_s]
  rcases e7 with ⟨g0, b', g1, g2, g3⟩ | ⟨k, k0, k3, g0⟩
  · -- a board
    have hT : y_T (j_si σ6 19 0 (0 : Int32)) b' := by
      unfold y_T y_cb at *
      simp (disch := omega) only [j_r_ne]
      exact g2
    obtain ⟨σ7, u1, u2, u3, u4, u5⟩ := yc_copy (c := 11) (c1 := 12) (c2 := 13) (c3 := 14) (c4 := 15) (c5 := 16) (c6 := 17) (c7 := 18) (e := 1) (e1 := 2) (e2 := 3) (e3 := 4) (e4 := 5) (e5 := 6) (e6 := 7) (e7 := 8) g1 hT ⟨rfl, rfl, rfl, rfl, rfl, rfl, rfl⟩ ⟨rfl, rfl, rfl, rfl, rfl, rfl, rfl⟩ (Or.inr (by omega))
    obtain ⟨τ9, v1, v2, v3, v4, v5⟩ := ym_world 116 0 j_F τ8 (by omega) (y_F (by omega))
    have hM9 : y_M τ9 b' := by
      intro j hj
      rw [v2 j (by omega) hj]; exact g3 j hj
    refine ⟨nI (b' 9), σ7, τ9, ?_, ?_, b', g1, u2, hM9, ?_⟩
    · unfold f_X11_board
      simp only [j_lt]
      rw [ra, g0, if_pos F0.symm, j_b2_s, if_neg (show ¬ (1 : Int32) = 0 by decide), u1, j_b1_s, u2.f1]
    · have gd : f_X12_good τ8 = nI 1 := by
        unfold f_X12_good
        rw [← e5, g0, if_pos F0.symm]; rfl
      have v1' : p_X12_board_86 j_F (0 : Int32) τ8 = some τ9 := v1
      rw [rb, gd, if_neg i1, v1', j_b1_s, show j_ix (9 : Int32) 116 _ = _ from y_ix (k := 9) (by omega) (by omega), show ((9 : Int32)).toNatClampNeg = 9 from rfl, hM9.f (j := 9) (by omega)]
    · have x1 : ∀ c, 19 ≤ c → c ≠ 19 → c ≠ 21 → σ7.1 c = σ.1 c := fun c h h' h'' => by
        rw [u3 c (by omega), ← fs6.1 c (by omega) h'']
        funext j; exact j_r_ne h'
      refine hK.rd (fun c hc => x1 c (by omega) (by omega) (by omega)) ?_ (fun c hc => ?_) ?_ ?_ ?_
      · rw [u4]; exact fs6.2
      · rw [v4 c (by omega)]; exact (t75 c (by omega) (by omega)).1
      · rw [v5]; exact (t75 96 (by omega) (by omega)).2
      · refine ⟨0, by omega, ?_, ?_, fun i hi => by omega⟩
        · rw [u3 19 (by omega), j_r_eq]; rfl
        · rw [v4 75 (by omega)]; exact t755
      · unfold y_ft
        rw [u3 10 (by omega), v4 75 (by omega)]
        rw [j_r_ne (by omega), j_r_ne (by omega)]
        exact ⟨e5, e6⟩
  · have nz : ¬ nI k = (0 : Int32) := by rw [F0, y_eq (by omega) (by omega)]; omega
    refine ⟨-4, j_si σ6 19 0 (0 : Int32), τ8, ?_, ?_, b, hW, ?_, ?_, ?_⟩
    · unfold f_X11_board
      simp only [j_lt]
      rw [ra, g0, if_neg nz, j_b2_s, if_pos rfl]
    · have gd : f_X12_good τ8 = nI 0 := by
        unfold f_X12_good
        rw [← e5, g0, if_neg nz]; rfl
      rw [rb, gd, if_pos F0.symm]
    · have e : ∀ c, c < 9 → (j_si σ6 19 0 (0 : Int32)).1 c = σ.1 c := fun c hc => by
        rw [← fs6.1 c (by omega) (by omega)]
        funext j; exact j_r_ne (by omega)
      unfold y_N y_cb at *
      rw [e 1 (by omega), e 2 (by omega), e 3 (by omega), e 4 (by omega), e 5 (by omega), e 6 (by omega), e 7 (by omega), e 8 (by omega)]
      exact hN
    · unfold y_M
      rw [(t75 76 (by omega) (by omega)).1]; exact hM
    · refine hK.rd (fun c hc => ?_) fs6.2 (fun c hc => (t75 c (by omega) (by omega)).1) (t75 96 (by omega) (by omega)).2 ?_ ?_
      · rw [← fs6.1 c (by omega) (by omega)]
        funext j; exact j_r_ne (by omega)
      · exact ⟨0, by omega, by rw [j_r_eq]; rfl, t755, fun i hi => by omega⟩
      · unfold y_ft
        rw [j_r_ne (by omega), j_r_ne (by omega)]
        exact ⟨e5, e6⟩
end Z
/-! ===== lots: both answer ===== -/
theorem y_pn (k : Nat) : nP k + (1 : Int32) = nP (k + 1) := by
  rw [y_nPs]
  unfold nP
  exact Int32.sub_add_cancel _ _
section C
variable {σ : j_G} {b : Nat → Nat}
theorem tl_at {o h : Nat} : f_X5_at (nP o) (nI h) = nI (12 * o + h) := by
  unfold f_X5_at
  rw [y_pn, y_nPs, show (12 : Int32) = nI 12 from rfl, pk_mul, nI_add, Nat.mul_comm]
theorem tl_add {a o h : Nat} {v : Int64} (ho : o ≤ 12) (hh : h < 12) : f_X5_add a (nP o) (nI h) v σ = some (j_sl σ a (12 * o + h) (σ.2 a (12 * o + h) + v)) := by
  unfold f_X5_add
  rw [tl_at]
  simp (disch := omega) only [y_lit, y_n1, nI_add, pk_mul, j_lt, j_b1_s, j_b2_s, j_b3_s, j_b0_s, y_bo, y_bo1, y_bo0, y_i0, y_i1, Classical.not_not, nI_clamp, y_ix, y_lt, y_le, y_eq, y_nP, y_nPs, y_ltP, y_ltQ, y_ltPP, y_eqP, y_eqQ, y_eqPP, if_pos, if_neg, ite_true, ite_false, not_true_eq_false, not_false_eq_true, and_true, true_and, and_false, false_and, or_true, true_or, or_false, false_or]
theorem tl_ways {o h : Nat} (ho : o ≤ 12) (hh : h < 12) : f_X5_waysTo (nP o) (nI h) σ = some (σ.2 38 (12 * o + h)) := by
  unfold f_X5_waysTo
  rw [tl_at]
  simp (disch := omega) only [y_lit, y_n1, nI_add, pk_mul, j_lt, j_b1_s, j_b2_s, j_b3_s, j_b0_s, y_bo, y_bo1, y_bo0, y_i0, y_i1, Classical.not_not, nI_clamp, y_ix, y_lt, y_le, y_eq, y_nP, y_nPs, y_ltP, y_ltQ, y_ltPP, y_eqP, y_eqQ, y_eqPP, if_pos, if_neg, ite_true, ite_false, not_true_eq_false, not_false_eq_true, and_true, true_and, and_false, false_and, or_true, true_or, or_false, false_or]
theorem tl_b2 : ∀ m i n (σ : j_G), i + m = 156 → m < n → ∃ σ', p_X5_begin_2 n (nI i) σ = some σ' ∧ y_fr 38 39 σ σ' := by
  intro m
  induction m with
  | zero =>
    intro i n σ h hn
    obtain ⟨n, rfl⟩ := y_pos hn
    refine ⟨σ, ?_, y_fr.refl⟩
    unfold p_X5_begin_2; simp (disch := omega) only [y_lit, y_n1, nI_add, pk_mul, j_lt, j_b1_s, j_b2_s, j_b3_s, j_b0_s, y_bo, y_bo1, y_bo0, y_i0, y_i1, Classical.not_not, nI_clamp, y_ix, y_lt, y_le, y_eq, y_nP, y_nPs, y_ltP, y_ltQ, y_ltPP, y_eqP, y_eqQ, y_eqPP, if_pos, if_neg, ite_true, ite_false, not_true_eq_false, not_false_eq_true, and_true, true_and, and_false, false_and, or_true, true_or, or_false, false_or]
  | succ m ih =>
    intro i n σ h hn
    obtain ⟨n, rfl⟩ := y_pos hn
    obtain ⟨σ', e1, e2⟩ := ih (i + 1) n (j_sl σ 38 i (0 : Int64)) (by omega) (by omega)
    refine ⟨σ', ?_, (y_fr.refl.sl (by omega) (by omega)).trans e2⟩
    unfold p_X5_begin_2; simp (disch := omega) only [y_lit, y_n1, nI_add, pk_mul, j_lt, j_b1_s, j_b2_s, j_b3_s, j_b0_s, y_bo, y_bo1, y_bo0, y_i0, y_i1, Classical.not_not, nI_clamp, y_ix, y_lt, y_le, y_eq, y_nP, y_nPs, y_ltP, y_ltQ, y_ltPP, y_eqP, y_eqQ, y_eqPP, if_pos, if_neg, ite_true, ite_false, not_true_eq_false, not_false_eq_true, and_true, true_and, and_false, false_and, or_true, true_or, or_false, false_or]; exact e1
theorem tl_b24 (hW : y_W b) : ∀ m i n (σ : j_G), i + m = y_ho b → m < n → y_N σ b → ∃ σ', p_X5_begin_24 n (nI i) σ = some σ' ∧ y_fr 38 39 σ σ' := by
  have ho := hW.ho
  intro m
  induction m with
  | zero =>
    intro i n σ h hn hN
    obtain ⟨n, rfl⟩ := y_pos hn
    refine ⟨σ, ?_, y_fr.refl⟩
    unfold p_X5_begin_24; simp (disch := omega) only [y_lit, y_n1, nI_add, pk_mul, j_lt, j_b1_s, j_b2_s, j_b3_s, j_b0_s, y_bo, y_bo1, y_bo0, y_i0, y_i1, Classical.not_not, nI_clamp, y_ix, y_lt, y_le, y_eq, y_nP, y_nPs, y_ltP, y_ltQ, y_ltPP, y_eqP, y_eqQ, y_eqPP, if_pos, if_neg, ite_true, ite_false, not_true_eq_false, not_false_eq_true, and_true, true_and, and_false, false_and, or_true, true_or, or_false, false_or, yc_holes hN]
  | succ m ih =>
    intro i n σ h hn hN
    obtain ⟨n, rfl⟩ := y_pos hn
    unfold p_X5_begin_24
    rw [yc_holes hN, if_pos ((y_lt (by omega) (by omega)).mpr (by omega)), yc_isShut hN hW (by omega), show nI i + (1 : Int32) = nI (i + 1) by simp (disch := omega) only [y_lit, nI_add]]
    by_cases c : y_sh b i = 1
    · rw [if_pos c, if_neg (show ¬ nI 1 = (0 : Int32) by decide), j_b1_s]
      exact ih (i + 1) n σ (by omega) (by omega) hN
    · have fr : y_fr 38 39 σ (j_sl σ 38 (12 * 0 + i) (σ.2 38 (12 * 0 + i) + (1 : Int64))) := y_fr.refl.sl (by omega) (by omega)
      obtain ⟨σ', e1, e2⟩ := ih (i + 1) n _ (by omega) (by omega) (hN.fr fr (by omega))
      rw [if_neg c, if_pos (show nI 0 = (0 : Int32) from rfl), y_m1, tl_add (by omega) (by omega), j_b1_s, j_b1_s]
      exact ⟨σ', e1, fr.trans e2⟩
theorem tl_begin (hN : y_N σ b) (hW : y_W b) : ∃ σ', f_X5_begin σ = some σ' ∧ y_fr 38 39 σ σ' := by
  have ho := hW.ho
  obtain ⟨σ1, a1, a2⟩ := tl_b2 156 0 j_F σ (by omega) (y_F (by omega))
  obtain ⟨σ2, b1, b2⟩ := tl_b24 hW (y_ho b) 0 j_F σ1 (by omega) (y_F (by omega)) (hN.fr a2 (by omega))
  refine ⟨σ2, ?_, a2.trans b2⟩
  unfold f_X5_begin
  rw [show (0 : Int32) = nI 0 from rfl, a1, j_b1_s, b1, j_b1_s]
theorem tl_gf (hW : y_W b) (h9 : 0 < b 9) {l two one k : Nat} (hl : l < 4) (h2 : two ≤ 12) (h1 : one < 12) (hk : k ≤ 12) : ∀ m i n (σ : j_G), i + m = y_ho b → m < n → y_N σ b → ∃ σ', p_X5_growFrom_16 (nI l) (nP two) (nI one) (nP k) n (nI i) σ = some σ' ∧ y_fr 38 39 σ σ' := by
  have ho := hW.ho
  intro m
  induction m with
  | zero =>
    intro i n σ h hn hN
    obtain ⟨n, rfl⟩ := y_pos hn
    refine ⟨σ, ?_, y_fr.refl⟩
    unfold p_X5_growFrom_16; simp (disch := omega) only [y_lit, y_n1, nI_add, pk_mul, j_lt, j_b1_s, j_b2_s, j_b3_s, j_b0_s, y_bo, y_bo1, y_bo0, y_i0, y_i1, Classical.not_not, nI_clamp, y_ix, y_lt, y_le, y_eq, y_nP, y_nPs, y_ltP, y_ltQ, y_ltPP, y_eqP, y_eqQ, y_eqPP, if_pos, if_neg, ite_true, ite_false, not_true_eq_false, not_false_eq_true, and_true, true_and, and_false, false_and, or_true, true_or, or_false, false_or, yc_holes hN]
  | succ m ih =>
    intro i n σ h hn hN
    obtain ⟨n, rfl⟩ := y_pos hn
    have le := y_lz_le b l i (one + 1) two
    have cl := yc_lets hN hW h9 (l := l) (h := i) (one := one + 1) (two := two) hl (by omega) (by omega) h2 (fun z => by omega) rfl (y_nPs one).symm
    unfold p_X5_growFrom_16
    rw [yc_holes hN, if_pos ((y_lt (by omega) (by omega)).mpr (by omega)), yc_isShut hN hW (by omega), show nI i + (1 : Int32) = nI (i + 1) by simp (disch := omega) only [y_lit, nI_add]]
    by_cases c : y_sh b i = 1
    · rw [if_pos c, if_neg (show ¬ nI 1 = (0 : Int32) by decide), j_b1_s]
      exact ih (i + 1) n σ (by omega) (by omega) hN
    · rw [if_neg c, if_pos (show nI 0 = (0 : Int32) from rfl), cl, j_b1_s]
      by_cases d : y_lz b l i (one + 1) two = 0
      · rw [d, if_neg (show ¬ ¬ nI 0 = (0 : Int32) from fun z => z rfl), j_b1_s]
        exact ih (i + 1) n σ (by omega) (by omega) hN
      · rw [if_pos (show ¬ nI (y_lz b l i (one + 1) two) = (0 : Int32) by rw [show (0 : Int32) = nI 0 from rfl, y_eq (by omega) (by omega)]; exact d), tl_ways h2 h1, j_b1_s, tl_add hk (by omega), j_b1_s, j_b1_s]
        have fr : y_fr 38 39 σ (j_sl σ 39 (12 * k + i) (σ.2 39 (12 * k + i) + σ.2 38 (12 * two + one))) := y_fr.refl.sl (by omega) (by omega)
        obtain ⟨σ', e1, e2⟩ := ih (i + 1) n _ (by omega) (by omega) (hN.fr fr (by omega))
        exact ⟨σ', e1, fr.trans e2⟩
theorem tl_gfrom (hN : y_N σ b) (hW : y_W b) (h9 : 0 < b 9) {l two one : Nat} (hl : l < 4) (h2 : two ≤ 12) (h1 : one < 12) : ∃ σ', f_X5_growFrom (nI l) (nP two) (nI one) σ = some σ' ∧ y_fr 38 39 σ σ' := by
  have ho := hW.ho
  unfold f_X5_growFrom
  simp only [j_lt]
  have e : (if nI l = (3 : Int32) then nI one else (-1 : Int32)) = nP (if l = 3 then one + 1 else 0) := by
    by_cases c : l = 3
    · subst c; rw [if_pos (show nI 3 = (3 : Int32) from rfl), if_pos rfl, y_nPs]
    · rw [if_neg (show ¬ nI l = (3 : Int32) by rw [show (3 : Int32) = nI 3 from rfl, y_eq (by omega) (by omega)]; exact c), if_neg c, y_m1]
  have hk : (if l = 3 then one + 1 else 0) ≤ 12 := by split <;> omega
  obtain ⟨σ1, a1, a2⟩ := tl_gf hW h9 (k := if l = 3 then one + 1 else 0) hl h2 h1 hk (y_ho b) 0 j_F σ (by omega) (y_F (by omega)) hN
  rw [e, show (0 : Int32) = nI 0 from rfl, a1, j_b1_s]
  exact ⟨σ1, rfl, a2⟩
theorem tl_g2 {l : Nat} : ∀ m i n (σ : j_G), i + m = 156 → m < n → ∃ σ', p_X5_grow_2 (nI l) n (nI i) σ = some σ' ∧ y_fr 38 39 σ σ' := by
  intro m
  induction m with
  | zero =>
    intro i n σ h hn
    obtain ⟨n, rfl⟩ := y_pos hn
    refine ⟨σ, ?_, y_fr.refl⟩
    unfold p_X5_grow_2; simp (disch := omega) only [y_lit, y_n1, nI_add, pk_mul, j_lt, j_b1_s, j_b2_s, j_b3_s, j_b0_s, y_bo, y_bo1, y_bo0, y_i0, y_i1, Classical.not_not, nI_clamp, y_ix, y_lt, y_le, y_eq, y_nP, y_nPs, y_ltP, y_ltQ, y_ltPP, y_eqP, y_eqQ, y_eqPP, if_pos, if_neg, ite_true, ite_false, not_true_eq_false, not_false_eq_true, and_true, true_and, and_false, false_and, or_true, true_or, or_false, false_or]
  | succ m ih =>
    intro i n σ h hn
    obtain ⟨n, rfl⟩ := y_pos hn
    obtain ⟨σ', e1, e2⟩ := ih (i + 1) n (j_sl σ 39 i (0 : Int64)) (by omega) (by omega)
    refine ⟨σ', ?_, (y_fr.refl.sl (by omega) (by omega)).trans e2⟩
    unfold p_X5_grow_2; simp (disch := omega) only [y_lit, y_n1, nI_add, pk_mul, j_lt, j_b1_s, j_b2_s, j_b3_s, j_b0_s, y_bo, y_bo1, y_bo0, y_i0, y_i1, Classical.not_not, nI_clamp, y_ix, y_lt, y_le, y_eq, y_nP, y_nPs, y_ltP, y_ltQ, y_ltPP, y_eqP, y_eqQ, y_eqPP, if_pos, if_neg, ite_true, ite_false, not_true_eq_false, not_false_eq_true, and_true, true_and, and_false, false_and, or_true, true_or, or_false, false_or]; exact e1
theorem tl_g35 (hW : y_W b) (h9 : 0 < b 9) {l two : Nat} (hl : l < 4) (h2 : two ≤ 12) : ∀ m i n (σ : j_G), i + m = y_ho b → m < n → y_N σ b → ∃ σ', p_X5_grow_35 (nI l) (nP two) n (nI i) σ = some σ' ∧ y_fr 38 39 σ σ' := by
  have ho := hW.ho
  intro m
  induction m with
  | zero =>
    intro i n σ h hn hN
    obtain ⟨n, rfl⟩ := y_pos hn
    refine ⟨σ, ?_, y_fr.refl⟩
    unfold p_X5_grow_35; simp (disch := omega) only [y_lit, y_n1, nI_add, pk_mul, j_lt, j_b1_s, j_b2_s, j_b3_s, j_b0_s, y_bo, y_bo1, y_bo0, y_i0, y_i1, Classical.not_not, nI_clamp, y_ix, y_lt, y_le, y_eq, y_nP, y_nPs, y_ltP, y_ltQ, y_ltPP, y_eqP, y_eqQ, y_eqPP, if_pos, if_neg, ite_true, ite_false, not_true_eq_false, not_false_eq_true, and_true, true_and, and_false, false_and, or_true, true_or, or_false, false_or, yc_holes hN]
  | succ m ih =>
    intro i n σ h hn hN
    obtain ⟨n, rfl⟩ := y_pos hn
    unfold p_X5_grow_35
    rw [yc_holes hN, if_pos ((y_lt (by omega) (by omega)).mpr (by omega)), tl_ways h2 (by omega), j_b1_s, show nI i + (1 : Int32) = nI (i + 1) by simp (disch := omega) only [y_lit, nI_add]]
    obtain ⟨σ1, a1, a2⟩ := tl_gfrom hN hW h9 (l := l) (two := two) (one := i) hl h2 (by omega)
    by_cases c : (0 : Int64) < σ.2 38 (12 * two + i)
    · obtain ⟨σ', e1, e2⟩ := ih (i + 1) n σ1 (by omega) (by omega) (hN.fr a2 (by omega))
      rw [if_pos c, a1, j_b1_s, j_b1_s]
      exact ⟨σ', e1, a2.trans e2⟩
    · rw [if_neg c, j_b1_s]
      exact ih (i + 1) n σ (by omega) (by omega) hN
theorem tl_g24 (hW : y_W b) (h9 : 0 < b 9) {l : Nat} (hl : l < 4) : ∀ m j n (σ : j_G), j + m = y_ho b + 1 → m < n → y_N σ b → ∃ σ', p_X5_grow_24 (nI l) n (nP j) σ = some σ' ∧ y_fr 38 39 σ σ' := by
  have ho := hW.ho
  intro m
  induction m with
  | zero =>
    intro j n σ h hn hN
    obtain ⟨n, rfl⟩ := y_pos hn
    refine ⟨σ, ?_, y_fr.refl⟩
    unfold p_X5_grow_24
    rw [yc_holes hN, if_neg (by rw [y_ltP (by omega) (by omega)]; omega)]
  | succ m ih =>
    intro j n σ h hn hN
    obtain ⟨n, rfl⟩ := y_pos hn
    obtain ⟨σ1, a1, a2⟩ := tl_g35 hW h9 (l := l) (two := j) hl (by omega) (y_ho b) 0 j_F σ (by omega) (y_F (by omega)) hN
    obtain ⟨σ', e1, e2⟩ := ih (j + 1) n σ1 (by omega) (by omega) (hN.fr a2 (by omega))
    refine ⟨σ', ?_, a2.trans e2⟩
    unfold p_X5_grow_24
    rw [yc_holes hN, if_pos (by rw [y_ltP (by omega) (by omega)]; omega), show (0 : Int32) = nI 0 from rfl, a1, j_b1_s, y_pn]
    exact e1
theorem tl_grow (hN : y_N σ b) (hW : y_W b) (h9 : 0 < b 9) {l : Nat} (hl : l < 4) : ∃ σ', f_X5_grow (nI l) σ = some σ' ∧ y_fr 38 39 σ σ' := by
  have ho := hW.ho
  obtain ⟨σ1, a1, a2⟩ := tl_g2 (l := l) 156 0 j_F σ (by omega) (y_F (by omega))
  obtain ⟨σ2, b1, b2⟩ := tl_g24 hW h9 hl (y_ho b + 1) 0 j_F σ1 (by omega) (y_F (by omega)) (hN.fr a2 (by omega))
  have cg : ∀ {α : Type} (o : Option α), j_cg (0 : Int32) (0 : Int32) (156 : Int32) 156 156 o = o := by
    intro α o
    have h1 : ¬ ((0 : Int32) < 0 ∨ (0 : Int32) < 0 ∨ (156 : Int32) < 0 ∨ 156 < ((0 : Int32)).toNatClampNeg + ((156 : Int32)).toNatClampNeg ∨ 156 < ((0 : Int32)).toNatClampNeg + ((156 : Int32)).toNatClampNeg) := by decide
    exact if_neg h1
  refine ⟨j_cl σ2 39 0 38 0 156, ?_, (a2.trans b2).trans (y_fr.refl.cl (by omega) (by omega))⟩
  unfold f_X5_grow
  rw [show p_X5_grow_2 (nI l) j_F (0 : Int32) σ = _ from a1, j_b1_s, y_m1, b1, j_b1_s, cg]
  rfl
theorem tl_c43 (hW : y_W b) (h9 : 0 < b 9) {l c : Nat} (hl : l < 4) (hc : c ≤ 12) : ∀ m i n (σ : j_G), i + m = c → m < n → y_N σ b → ∃ σ', p_X11_countLots_43 (nI l) (nI c) n (nI i) σ = some σ' ∧ y_fr 38 39 σ σ' := by
  intro m
  induction m with
  | zero =>
    intro i n σ h hn hN
    obtain ⟨n, rfl⟩ := y_pos hn
    refine ⟨σ, ?_, y_fr.refl⟩
    unfold p_X11_countLots_43; simp (disch := omega) only [y_lit, y_n1, nI_add, pk_mul, j_lt, j_b1_s, j_b2_s, j_b3_s, j_b0_s, y_bo, y_bo1, y_bo0, y_i0, y_i1, Classical.not_not, nI_clamp, y_ix, y_lt, y_le, y_eq, y_nP, y_nPs, y_ltP, y_ltQ, y_ltPP, y_eqP, y_eqQ, y_eqPP, if_pos, if_neg, ite_true, ite_false, not_true_eq_false, not_false_eq_true, and_true, true_and, and_false, false_and, or_true, true_or, or_false, false_or]
  | succ m ih =>
    intro i n σ h hn hN
    obtain ⟨n, rfl⟩ := y_pos hn
    obtain ⟨σ1, a1, a2⟩ := tl_grow hN hW h9 hl
    obtain ⟨σ', e1, e2⟩ := ih (i + 1) n σ1 (by omega) (by omega) (hN.fr a2 (by omega))
    refine ⟨σ', ?_, a2.trans e2⟩
    unfold p_X11_countLots_43
    rw [if_pos ((y_lt (by omega) (by omega)).mpr (by omega)), a1, j_b1_s, show nI i + (1 : Int32) = nI (i + 1) by simp (disch := omega) only [y_lit, nI_add]]
    exact e1
theorem tl_rowsTo (hN : y_N σ b) (hW : y_W b) {x : Nat} (hx : x < 12) : ∃ v, f_X5_rowsTo (nI x) σ = some v := by
  have ho := hW.ho
  have key : ∀ m j n v, j + m = y_ho b + 1 → m < n → ∃ w, p_X5_rowsTo_5 (nI x) σ n v (nP j) = some w := by
    intro m
    induction m with
    | zero =>
      intro j n v h hn
      obtain ⟨n, rfl⟩ := y_pos hn
      refine ⟨v, ?_⟩
      unfold p_X5_rowsTo_5
      rw [yc_holes hN, if_neg (by rw [y_ltP (by omega) (by omega)]; omega)]
    | succ m ih =>
      intro j n v h hn
      obtain ⟨n, rfl⟩ := y_pos hn
      obtain ⟨w, e1⟩ := ih (j + 1) n (v + σ.2 38 (12 * j + x)) (by omega) (by omega)
      refine ⟨w, ?_⟩
      unfold p_X5_rowsTo_5
      rw [yc_holes hN, if_pos (by rw [y_ltP (by omega) (by omega)]; omega), tl_ways (by omega) hx, j_b1_s, y_pn]
      exact e1
  obtain ⟨w, e⟩ := key (y_ho b + 1) 0 j_F (0 : Int64) (by omega) (y_F (by omega))
  refine ⟨w, ?_⟩
  unfold f_X5_rowsTo
  rw [y_m1, e, j_b1_s]
theorem tl_inAll (hN : y_N σ b) (hW : y_W b) : ∃ v, f_X5_rowsInAll σ = some v := by
  have ho := hW.ho
  have key : ∀ m i n v, i + m = y_ho b → m < n → ∃ w, p_X5_rowsInAll_5 σ n v (nI i) = some w := by
    intro m
    induction m with
    | zero =>
      intro i n v h hn
      obtain ⟨n, rfl⟩ := y_pos hn
      refine ⟨v, ?_⟩
      unfold p_X5_rowsInAll_5; simp (disch := omega) only [y_lit, y_n1, nI_add, pk_mul, j_lt, j_b1_s, j_b2_s, j_b3_s, j_b0_s, y_bo, y_bo1, y_bo0, y_i0, y_i1, Classical.not_not, nI_clamp, y_ix, y_lt, y_le, y_eq, y_nP, y_nPs, y_ltP, y_ltQ, y_ltPP, y_eqP, y_eqQ, y_eqPP, if_pos, if_neg, ite_true, ite_false, not_true_eq_false, not_false_eq_true, and_true, true_and, and_false, false_and, or_true, true_or, or_false, false_or, yc_holes hN]
    | succ m ih =>
      intro i n v h hn
      obtain ⟨n, rfl⟩ := y_pos hn
      obtain ⟨u, e0⟩ := tl_rowsTo hN hW (x := i) (by omega)
      obtain ⟨w, e1⟩ := ih (i + 1) n (v + u) (by omega) (by omega)
      refine ⟨w, ?_⟩
      unfold p_X5_rowsInAll_5
      rw [yc_holes hN, if_pos ((y_lt (by omega) (by omega)).mpr (by omega)), e0, j_b1_s, show nI i + (1 : Int32) = nI (i + 1) by simp (disch := omega) only [y_lit, nI_add]]
      exact e1
  obtain ⟨w, e⟩ := key (y_ho b) 0 j_F (0 : Int64) (by omega) (y_F (by omega))
  refine ⟨w, ?_⟩
  unfold f_X5_rowsInAll
  rw [show (0 : Int32) = nI 0 from rfl, e, j_b1_s]
theorem tl_even (hN : y_N σ b) (hW : y_W b) : ∃ v, f_X5_isEven σ = some v := by
  have ho := hW.ho
  have key : ∀ m i n v, i + m = y_ho b → m < n → ∃ w, p_X5_isEven_7 σ n v (nI i) = some w := by
    intro m
    induction m with
    | zero =>
      intro i n v h hn
      obtain ⟨n, rfl⟩ := y_pos hn
      refine ⟨1, ?_⟩
      unfold p_X5_isEven_7; simp (disch := omega) only [y_lit, y_n1, nI_add, pk_mul, j_lt, j_b1_s, j_b2_s, j_b3_s, j_b0_s, y_bo, y_bo1, y_bo0, y_i0, y_i1, Classical.not_not, nI_clamp, y_ix, y_lt, y_le, y_eq, y_nP, y_nPs, y_ltP, y_ltQ, y_ltPP, y_eqP, y_eqQ, y_eqPP, if_pos, if_neg, ite_true, ite_false, not_true_eq_false, not_false_eq_true, and_true, true_and, and_false, false_and, or_true, true_or, or_false, false_or, yc_holes hN]
    | succ m ih =>
      intro i n v h hn
      obtain ⟨n, rfl⟩ := y_pos hn
      obtain ⟨u, e0⟩ := tl_rowsTo hN hW (x := i) (by omega)
      obtain ⟨w, e1⟩ := ih (i + 1) n u (by omega) (by omega)
      obtain ⟨w2, e2⟩ := ih (i + 1) n v (by omega) (by omega)
      unfold p_X5_isEven_7
      simp only [j_lt]
      rw [yc_holes hN, if_pos ((y_lt (by omega) (by omega)).mpr (by omega)), yc_isShut hN hW (by omega), show nI i + (1 : Int32) = nI (i + 1) by simp (disch := omega) only [y_lit, nI_add]]
      by_cases c : y_sh b i = 1
      · rw [if_pos c, if_neg (show ¬ nI 1 = (0 : Int32) by decide)]
        exact ⟨w2, e2⟩
      · rw [if_neg c, if_pos (show nI 0 = (0 : Int32) from rfl), e0, j_b1_s]
        by_cases d : ¬ v = (-1 : Int64) ∧ ¬ u = v
        · rw [if_pos d]; exact ⟨0, rfl⟩
        · rw [if_neg d]; exact ⟨w, e1⟩
  obtain ⟨w, e⟩ := key (y_ho b) 0 j_F (-1 : Int64) (by omega) (y_F (by omega))
  exact ⟨w, e⟩
theorem tl_count (hN : y_N σ b) (hW : y_W b) (x y : Int32) : ∃ v σ', f_X11_countLots x y σ = some (v, σ') ∧ y_fr 38 39 σ σ' := by
  have F0 : nI 0 = (0 : Int32) := rfl
  unfold f_X11_countLots
  rw [yc_isTold hN hW, yc_isLaw]
  by_cases h9 : 0 < b 9
  · by_cases hx : y_rg x 4
    · by_cases hy : y < (1 : Int32) ∨ (12 : Int32) < y
      · rw [if_pos (Or.inr (Or.inr hy))]; exact ⟨_, _, rfl, y_fr.refl⟩
      · obtain ⟨l, hl, rfl⟩ := y_of _ _ hx.1 hx.2
        have hy' : 1 ≤ y.toInt ∧ y.toInt < (13 : Nat) := by
          rw [show (1 : Int32) = nI 1 from rfl, show (12 : Int32) = nI 12 from rfl, y_ltr (by omega), y_ltl (by omega)] at hy
          omega
        obtain ⟨c, hc, rfl⟩ := y_of y 13 (by omega) hy'.2
        rw [nI_toInt (by omega)] at hy'
        obtain ⟨σ1, a1, a2⟩ := tl_begin hN hW
        obtain ⟨σ2, b1, b2⟩ := tl_c43 hW h9 hl (c := c) (by omega) (c - 1) 1 j_F σ1 (by omega) (y_F (by omega)) (hN.fr a2 (by omega))
        rw [if_pos h9, if_pos hx, if_neg (fun z => by
          rcases z with z | z | z
          · exact absurd z (by decide)
          · exact absurd z (by decide)
          · exact hy z), a1, j_b1_s, show (1 : Int32) = nI 1 from rfl, b1, j_b1_s]
        exact ⟨_, _, rfl, a2.trans b2⟩
    · rw [if_neg hx, if_pos (Or.inr (Or.inl F0))]; exact ⟨_, _, rfl, y_fr.refl⟩
  · rw [if_neg h9, if_pos (Or.inl F0)]; exact ⟨_, _, rfl, y_fr.refl⟩
theorem tl_rows (hN : y_N σ b) (hW : y_W b) (x y : Int32) : ∃ v σ', f_X11_rows x y σ = some (v, σ') ∧ y_fr 38 39 σ σ' := by
  obtain ⟨v, σ1, a1, a2⟩ := tl_count hN hW x y
  obtain ⟨w, e⟩ := tl_inAll (hN.fr a2 (by omega)) hW
  unfold f_X11_rows
  rw [a1, j_b2_s]
  by_cases c : v = 0
  · rw [if_neg (fun z => z c)]; exact ⟨_, _, rfl, a2⟩
  · rw [if_pos c, e, j_b1_s]; exact ⟨_, _, rfl, a2⟩
theorem tl_ends (hN : y_N σ b) (hW : y_W b) (x y z : Int32) : ∃ v σ', f_X11_ends x y z σ = some (v, σ') ∧ y_fr 38 39 σ σ' := by
  have ho := hW.ho
  obtain ⟨v, σ1, a1, a2⟩ := tl_count hN hW x y
  unfold f_X11_ends
  rw [yc_isHole hN hW]
  by_cases h : y_rg z (y_ho b)
  · obtain ⟨u, hh, rfl⟩ := y_of _ _ h.1 h.2
    obtain ⟨w, e⟩ := tl_rowsTo (hN.fr a2 (by omega)) hW (x := u) (by omega)
    rw [if_pos ((y_rn (by omega)).mpr hh), if_pos (show ¬ nI 1 = (0 : Int32) by decide), a1, j_b2_s]
    by_cases c : v = 0
    · rw [if_neg (fun z => z c)]; exact ⟨_, _, rfl, a2⟩
    · rw [if_pos c, e, j_b1_s]; exact ⟨_, _, rfl, a2⟩
  · rw [if_neg h, if_neg (show ¬ ¬ nI 0 = (0 : Int32) from fun z => z rfl)]; exact ⟨_, _, rfl, y_fr.refl⟩
theorem tl_f45 (hW : y_W b) (h9 : 0 < b 9) {l : Nat} (hl : l < 4) : ∀ m i n (v : Int32) (σ : j_G), i + m = 13 → m < n → y_N σ b → ∃ w σ', p_X11_fair_45 (nI l) n v (nI i) σ = some (w, σ') ∧ y_fr 38 39 σ σ' := by
  intro m
  induction m with
  | zero =>
    intro i n v σ h hn hN
    obtain ⟨n, rfl⟩ := y_pos hn
    refine ⟨v, σ, ?_, y_fr.refl⟩
    unfold p_X11_fair_45
    rw [if_neg]
    rintro ⟨z, _⟩
    apply z
    rw [show (12 : Int32) = nI 12 from rfl, y_lt (by omega) (by omega)]; omega
  | succ m ih =>
    intro i n v σ h hn hN
    obtain ⟨n, rfl⟩ := y_pos hn
    unfold p_X11_fair_45
    by_cases c : (¬ (12 : Int32) < nI i) ∧ (¬ v = 0)
    · obtain ⟨σ1, a1, a2⟩ := tl_grow hN hW h9 hl
      have hN1 : y_N σ1 b := hN.fr a2 (by omega)
      obtain ⟨u, e0⟩ := tl_even hN1 hW
      obtain ⟨w, σ', e1, e2⟩ := ih (i + 1) n u σ1 (by omega) (by omega) hN1
      rw [if_pos c, a1, j_b1_s, e0, j_b1_s, show nI i + (1 : Int32) = nI (i + 1) by simp (disch := omega) only [y_lit, nI_add]]
      exact ⟨w, σ', e1, a2.trans e2⟩
    · rw [if_neg c]; exact ⟨v, σ, rfl, y_fr.refl⟩
theorem tl_fair (hN : y_N σ b) (hW : y_W b) (x : Int32) : ∃ v σ', f_X11_fair x σ = some (v, σ') ∧ y_fr 38 39 σ σ' := by
  have F0 : nI 0 = (0 : Int32) := rfl
  unfold f_X11_fair
  rw [yc_isTold hN hW, yc_isLaw]
  by_cases h9 : 0 < b 9
  · by_cases hx : y_rg x 4
    · obtain ⟨l, hl, rfl⟩ := y_of _ _ hx.1 hx.2
      obtain ⟨σ1, a1, a2⟩ := tl_begin hN hW
      have hN1 : y_N σ1 b := hN.fr a2 (by omega)
      obtain ⟨u, e0⟩ := tl_even hN1 hW
      obtain ⟨w, σ2, b1, b2⟩ := tl_f45 hW h9 hl 11 2 j_F u σ1 (by omega) (y_F (by omega)) hN1
      rw [if_pos h9, if_pos hx, if_neg (fun z => by
          rcases z with z | z
          · exact absurd z (by decide)
          · exact absurd z (by decide)), a1, j_b1_s, e0, j_b1_s, show (2 : Int32) = nI 2 from rfl, b1, j_b2_s]
      by_cases c : w = 0
      · rw [if_neg (fun z => z c)]; exact ⟨_, _, rfl, a2.trans b2⟩
      · rw [if_pos c]; exact ⟨_, _, rfl, a2.trans b2⟩
    · rw [if_neg hx, if_pos (Or.inr F0)]; exact ⟨_, _, rfl, y_fr.refl⟩
  · rw [if_neg h9, if_pos (Or.inl F0)]; exact ⟨_, _, rfl, y_fr.refl⟩
end C
section R
variable {τ : j_G} {b : Nat → Nat}
theorem y_M.fr2 {τ τ' : j_G} (h : y_M τ b) (hf : y_fm 43 42 91 92 τ τ') : y_M τ' b := h.fr hf (by omega)
theorem tm_2 {l : Nat} {c : Int32} : ∀ m i n (τ : j_G), i + m = 169 → m < n → ∃ τ', p_X12_fillRows_2 (nI l) c n (nI i) τ = some τ' ∧ y_fm 43 42 91 92 τ τ' := by
  intro m
  induction m with
  | zero =>
    intro i n τ h hn
    obtain ⟨n, rfl⟩ := y_pos hn
    refine ⟨τ, ?_, y_fm.refl⟩
    unfold p_X12_fillRows_2; simp (disch := omega) only [y_lit, y_n1, nI_add, pk_mul, j_lt, j_b1_s, j_b2_s, j_b3_s, j_b0_s, y_bo, y_bo1, y_bo0, y_i0, y_i1, Classical.not_not, nI_clamp, y_ix, y_lt, y_le, y_eq, y_nP, y_nPs, y_ltP, y_ltQ, y_ltPP, y_eqP, y_eqQ, y_eqPP, if_pos, if_neg, ite_true, ite_false, not_true_eq_false, not_false_eq_true, and_true, true_and, and_false, false_and, or_true, true_or, or_false, false_or]
  | succ m ih =>
    intro i n τ h hn
    obtain ⟨n, rfl⟩ := y_pos hn
    obtain ⟨τ', e1, e2⟩ := ih (i + 1) n (j_sl τ 91 i (if nI i = 0 then (1 : Int64) else (0 : Int64))) (by omega) (by omega)
    refine ⟨τ', ?_, y_fm.trans (y_fm.refl.sl (by omega) (by omega) (by omega)) e2⟩
    unfold p_X12_fillRows_2
    simp only [j_lt]
    rw [if_pos (show nI i < (169 : Int32) by rw [show (169 : Int32) = nI 169 from rfl, y_lt (by omega) (by omega)]; omega), y_ix (by omega) (by omega), nI_clamp (by omega), show nI i + (1 : Int32) = nI (i + 1) by simp (disch := omega) only [y_lit, nI_add]]
    exact e1
theorem tm_42 {l i0 : Nat} {c : Int32} : ∀ m i n (τ : j_G), i + m = 169 → m < n → ∃ τ', p_X12_fillRows_42 (nI l) c (nI i0) n (nI i) τ = some τ' ∧ y_fm 43 42 91 92 τ τ' := by
  intro m
  induction m with
  | zero =>
    intro i n τ h hn
    obtain ⟨n, rfl⟩ := y_pos hn
    refine ⟨τ, ?_, y_fm.refl⟩
    unfold p_X12_fillRows_42; simp (disch := omega) only [y_lit, y_n1, nI_add, pk_mul, j_lt, j_b1_s, j_b2_s, j_b3_s, j_b0_s, y_bo, y_bo1, y_bo0, y_i0, y_i1, Classical.not_not, nI_clamp, y_ix, y_lt, y_le, y_eq, y_nP, y_nPs, y_ltP, y_ltQ, y_ltPP, y_eqP, y_eqQ, y_eqPP, if_pos, if_neg, ite_true, ite_false, not_true_eq_false, not_false_eq_true, and_true, true_and, and_false, false_and, or_true, true_or, or_false, false_or]
  | succ m ih =>
    intro i n τ h hn
    obtain ⟨n, rfl⟩ := y_pos hn
    obtain ⟨τ', e1, e2⟩ := ih (i + 1) n (j_sl (j_sl τ 92 i (τ.2 91 i)) 91 i (0 : Int64)) (by omega) (by omega)
    refine ⟨τ', ?_, y_fm.trans ((y_fm.refl.sl (by omega) (by omega) (by omega)).sl (by omega) (by omega) (by omega)) e2⟩
    unfold p_X12_fillRows_42; simp (disch := omega) only [y_lit, y_n1, nI_add, pk_mul, j_lt, j_b1_s, j_b2_s, j_b3_s, j_b0_s, y_bo, y_bo1, y_bo0, y_i0, y_i1, Classical.not_not, nI_clamp, y_ix, y_lt, y_le, y_eq, y_nP, y_nPs, y_ltP, y_ltQ, y_ltPP, y_eqP, y_eqQ, y_eqPP, if_pos, if_neg, ite_true, ite_false, not_true_eq_false, not_false_eq_true, and_true, true_and, and_false, false_and, or_true, true_or, or_false, false_or]; exact e1
theorem tm_136 (hW : y_W b) (h9 : 0 < b 9) {l i0 one two : Nat} {c : Int32} {v : Int64} (hl : l < 4) (h1 : one ≤ 12) (h2 : two ≤ 12) : ∀ m i n (τ : j_G), i + m = y_ho b → m < n → y_M τ b → ∃ τ', p_X12_fillRows_136 (nI l) c (nI i0) (nP one) (nP two) v n (nI i) τ = some τ' ∧ y_fm 43 42 91 92 τ τ' := by
  have ho := hW.ho
  intro m
  induction m with
  | zero =>
    intro i n τ h hn hM
    obtain ⟨n, rfl⟩ := y_pos hn
    refine ⟨τ, ?_, y_fm.refl⟩
    unfold p_X12_fillRows_136; simp (disch := omega) only [y_lit, y_n1, nI_add, pk_mul, j_lt, j_b1_s, j_b2_s, j_b3_s, j_b0_s, y_bo, y_bo1, y_bo0, y_i0, y_i1, Classical.not_not, nI_clamp, y_ix, y_lt, y_le, y_eq, y_nP, y_nPs, y_ltP, y_ltQ, y_ltPP, y_eqP, y_eqQ, y_eqPP, if_pos, if_neg, ite_true, ite_false, not_true_eq_false, not_false_eq_true, and_true, true_and, and_false, false_and, or_true, true_or, or_false, false_or, ym_holes hM]
  | succ m ih =>
    intro i n τ h hn hM
    obtain ⟨n, rfl⟩ := y_pos hn
    have le := y_lz_le b l i one two
    have cl := ym_lets hM hW h9 (l := l) (h := i) (one := one) (two := two) hl (by omega) h1 h2 rfl rfl
    have ei : (((13 : Int32) * (nI i + (1 : Int32))) + nP one) + (1 : Int32) = nI (13 * (i + 1) + one) := by
      rw [show nI i + (1 : Int32) = nI (i + 1) by simp (disch := omega) only [y_lit, nI_add], show (13 : Int32) = nI 13 from rfl, pk_mul, Int32.add_assoc, y_pn, y_nPs, nI_add]
    unfold p_X12_fillRows_136
    rw [ym_holes hM, j_b1_s, if_pos ((y_lt (by omega) (by omega)).mpr (by omega)), cl, j_b1_s, ei, show nI i + (1 : Int32) = nI (i + 1) by simp (disch := omega) only [y_lit, nI_add]]
    have hv : (if y_sh b i = 1 then 0 else y_lz b l i one two) ≤ 1 := by split <;> omega
    by_cases d : (if y_sh b i = 1 then 0 else y_lz b l i one two) = 0
    · rw [d, if_neg (show ¬ ¬ nI 0 = (0 : Int32) from fun z => z rfl), j_b1_s]
      exact ih (i + 1) n τ (by omega) (by omega) hM
    · rw [if_pos (show ¬ nI (if y_sh b i = 1 then 0 else y_lz b l i one two) = (0 : Int32) by rw [show (0 : Int32) = nI 0 from rfl, y_eq (by omega) (by omega)]; exact d), y_ix (by omega) (by omega), y_ix (by omega) (by omega), nI_clamp (by omega)]
      have fr : y_fm 43 42 91 92 τ (j_sl τ 91 (13 * (i + 1) + one) (τ.2 91 (13 * (i + 1) + one) + v)) := y_fm.refl.sl (by omega) (by omega) (by omega)
      obtain ⟨τ', e1, e2⟩ := ih (i + 1) n _ (by omega) (by omega) (hM.fr2 fr)
      simp only [j_lt]
      rw [j_b1_s]
      exact ⟨τ', e1, y_fm.trans fr e2⟩
theorem tm_95 (hW : y_W b) (h9 : 0 < b 9) {l i0 one : Nat} {c : Int32} (hl : l < 4) (h1 : one ≤ 12) : ∀ m j n (τ : j_G), j + m = y_ho b + 1 → m < n → y_M τ b → ∃ τ', p_X12_fillRows_95 (nI l) c (nI i0) (nP one) n (nP j) τ = some τ' ∧ y_fm 43 42 91 92 τ τ' := by
  have ho := hW.ho
  intro m
  induction m with
  | zero =>
    intro j n τ h hn hM
    obtain ⟨n, rfl⟩ := y_pos hn
    refine ⟨τ, ?_, y_fm.refl⟩
    unfold p_X12_fillRows_95
    rw [ym_holes hM, j_b1_s, if_neg (by rw [y_ltP (by omega) (by omega)]; omega)]
  | succ m ih =>
    intro j n τ h hn hM
    obtain ⟨n, rfl⟩ := y_pos hn
    have ei : (((13 : Int32) * (nP one + (1 : Int32))) + nP j) + (1 : Int32) = nI (13 * one + j) := by
      rw [y_pn, y_nPs, show (13 : Int32) = nI 13 from rfl, pk_mul, Int32.add_assoc, y_pn, y_nPs, nI_add]
    unfold p_X12_fillRows_95
    simp only [j_lt]
    rw [ym_holes hM, j_b1_s, if_pos (by rw [y_ltP (by omega) (by omega)]; omega), ei, y_ix (by omega) (by omega), nI_clamp (by omega), y_pn]
    by_cases z : τ.2 92 (13 * one + j) = (0 : Int64)
    · rw [if_pos z, j_b1_s]
      exact ih (j + 1) n τ (by omega) (by omega) hM
    · obtain ⟨τ1, a1, a2⟩ := tm_136 hW h9 (l := l) (i0 := i0) (one := one) (two := j) (c := c) (v := τ.2 92 (13 * one + j)) hl h1 (by omega) (y_ho b) 0 j_F τ (by omega) (y_F (by omega)) hM
      obtain ⟨τ', e1, e2⟩ := ih (j + 1) n τ1 (by omega) (by omega) (hM.fr2 a2)
      rw [if_neg z, show (0 : Int32) = nI 0 from rfl, a1, j_b1_s, j_b1_s]
      exact ⟨τ', e1, y_fm.trans a2 e2⟩
theorem tm_83 (hW : y_W b) (h9 : 0 < b 9) {l i0 : Nat} {c : Int32} (hl : l < 4) : ∀ m j n (τ : j_G), j + m = y_ho b + 1 → m < n → y_M τ b → ∃ τ', p_X12_fillRows_83 (nI l) c (nI i0) n (nP j) τ = some τ' ∧ y_fm 43 42 91 92 τ τ' := by
  have ho := hW.ho
  intro m
  induction m with
  | zero =>
    intro j n τ h hn hM
    obtain ⟨n, rfl⟩ := y_pos hn
    refine ⟨τ, ?_, y_fm.refl⟩
    unfold p_X12_fillRows_83
    rw [ym_holes hM, j_b1_s, if_neg (by rw [y_ltP (by omega) (by omega)]; omega)]
  | succ m ih =>
    intro j n τ h hn hM
    obtain ⟨n, rfl⟩ := y_pos hn
    obtain ⟨τ1, a1, a2⟩ := tm_95 hW h9 (l := l) (i0 := i0) (one := j) (c := c) hl (by omega) (y_ho b + 1) 0 j_F τ (by omega) (y_F (by omega)) hM
    obtain ⟨τ', e1, e2⟩ := ih (j + 1) n τ1 (by omega) (by omega) (hM.fr2 a2)
    refine ⟨τ', ?_, y_fm.trans a2 e2⟩
    unfold p_X12_fillRows_83
    rw [ym_holes hM, j_b1_s, if_pos (by rw [y_ltP (by omega) (by omega)]; omega), y_m1, a1, j_b1_s, y_pn]
    exact e1
theorem tm_34 (hW : y_W b) (h9 : 0 < b 9) {l c : Nat} (hl : l < 4) (hc : c ≤ 12) : ∀ m i n (τ : j_G), i + m = c → m < n → y_M τ b → ∃ τ', p_X12_fillRows_34 (nI l) (nI c) n (nI i) τ = some τ' ∧ y_fm 43 42 91 92 τ τ' := by
  have ho := hW.ho
  intro m
  induction m with
  | zero =>
    intro i n τ h hn hM
    obtain ⟨n, rfl⟩ := y_pos hn
    refine ⟨τ, ?_, y_fm.refl⟩
    unfold p_X12_fillRows_34; simp (disch := omega) only [y_lit, y_n1, nI_add, pk_mul, j_lt, j_b1_s, j_b2_s, j_b3_s, j_b0_s, y_bo, y_bo1, y_bo0, y_i0, y_i1, Classical.not_not, nI_clamp, y_ix, y_lt, y_le, y_eq, y_nP, y_nPs, y_ltP, y_ltQ, y_ltPP, y_eqP, y_eqQ, y_eqPP, if_pos, if_neg, ite_true, ite_false, not_true_eq_false, not_false_eq_true, and_true, true_and, and_false, false_and, or_true, true_or, or_false, false_or]
  | succ m ih =>
    intro i n τ h hn hM
    obtain ⟨n, rfl⟩ := y_pos hn
    obtain ⟨τ1, a1, a2⟩ := tm_42 (l := l) (i0 := i) (c := nI c) 169 0 j_F τ (by omega) (y_F (by omega))
    obtain ⟨τ2, b1, b2⟩ := tm_83 hW h9 (l := l) (i0 := i) (c := nI c) hl (y_ho b + 1) 0 j_F τ1 (by omega) (y_F (by omega)) (hM.fr2 a2)
    obtain ⟨τ', e1, e2⟩ := ih (i + 1) n τ2 (by omega) (by omega) ((hM.fr2 a2).fr2 b2)
    refine ⟨τ', ?_, y_fm.trans (y_fm.trans a2 b2) e2⟩
    unfold p_X12_fillRows_34
    rw [if_pos ((y_lt (by omega) (by omega)).mpr (by omega)), show (0 : Int32) = nI 0 from rfl, a1, j_b1_s, y_m1, b1, j_b1_s, show nI i + (1 : Int32) = nI (i + 1) by simp (disch := omega) only [y_lit, nI_add]]
    exact e1
theorem tm_fill (hM : y_M τ b) (hW : y_W b) (h9 : 0 < b 9) {l c : Nat} (hl : l < 4) (hc : c ≤ 12) : ∃ τ', f_X12_fillRows (nI l) (nI c) τ = some τ' ∧ y_fm 43 42 91 92 τ τ' := by
  obtain ⟨τ1, a1, a2⟩ := tm_2 (l := l) (c := nI c) 169 0 j_F τ (by omega) (y_F (by omega))
  obtain ⟨τ2, b1, b2⟩ := tm_34 hW h9 hl hc c 0 j_F τ1 (by omega) (y_F (by omega)) (hM.fr2 a2)
  refine ⟨τ2, ?_, y_fm.trans a2 b2⟩
  unfold f_X12_fillRows
  rw [show (0 : Int32) = nI 0 from rfl, a1, j_b1_s, b1, j_b1_s]
theorem tm_end {x : Nat} (hx : x < 12) : ∃ v, f_X12_endingIn (nI x) τ = some v := by
  have key : ∀ m i n v, i + m = 13 → m < n → ∃ w, p_X12_endingIn_5 (nI x) τ n v (nI i) = some w := by
    intro m
    induction m with
    | zero =>
      intro i n v h hn
      obtain ⟨n, rfl⟩ := y_pos hn
      refine ⟨v, ?_⟩
      unfold p_X12_endingIn_5; simp (disch := omega) only [y_lit, y_n1, nI_add, pk_mul, j_lt, j_b1_s, j_b2_s, j_b3_s, j_b0_s, y_bo, y_bo1, y_bo0, y_i0, y_i1, Classical.not_not, nI_clamp, y_ix, y_lt, y_le, y_eq, y_nP, y_nPs, y_ltP, y_ltQ, y_ltPP, y_eqP, y_eqQ, y_eqPP, if_pos, if_neg, ite_true, ite_false, not_true_eq_false, not_false_eq_true, and_true, true_and, and_false, false_and, or_true, true_or, or_false, false_or]
    | succ m ih =>
      intro i n v h hn
      obtain ⟨n, rfl⟩ := y_pos hn
      obtain ⟨w, e1⟩ := ih (i + 1) n (v + τ.2 91 (13 * (x + 1) + i)) (by omega) (by omega)
      refine ⟨w, ?_⟩
      unfold p_X12_endingIn_5; simp (disch := omega) only [y_lit, y_n1, nI_add, pk_mul, j_lt, j_b1_s, j_b2_s, j_b3_s, j_b0_s, y_bo, y_bo1, y_bo0, y_i0, y_i1, Classical.not_not, nI_clamp, y_ix, y_lt, y_le, y_eq, y_nP, y_nPs, y_ltP, y_ltQ, y_ltPP, y_eqP, y_eqQ, y_eqPP, if_pos, if_neg, ite_true, ite_false, not_true_eq_false, not_false_eq_true, and_true, true_and, and_false, false_and, or_true, true_or, or_false, false_or]; exact e1
  obtain ⟨w, e⟩ := key 13 0 j_F (0 : Int64) (by omega) (y_F (by omega))
  refine ⟨w, ?_⟩
  unfold f_X12_endingIn
  rw [show (0 : Int32) = nI 0 from rfl, e, j_b1_s]
theorem tm_rows (hM : y_M τ b) (hW : y_W b) (x y : Int32) : ∃ v τ', f_X12_rows x y τ = some (v, τ') ∧ y_fm 43 42 91 92 τ τ' := by
  have ho := hW.ho
  have F0 : nI 0 = (0 : Int32) := rfl
  unfold f_X12_rows
  rw [ym_isBoard hM hW, j_b1_s, ym_isLaw, show (1 : Int64) = (nI 1).toInt64 from rfl, show (12 : Int64) = (nI 12).toInt64 from rfl, y_in]
  by_cases h9 : 0 < b 9
  · by_cases hx : y_rg x 4
    · by_cases hy : ¬ y < nI 1 ∧ ¬ nI 12 < y
      · obtain ⟨l, hl, rfl⟩ := y_of _ _ hx.1 hx.2
        rw [y_ltr (by omega), y_ltl (by omega)] at hy
        obtain ⟨c, hc, rfl⟩ := y_of y 13 (by omega) (by omega)
        obtain ⟨τ1, a1, a2⟩ := tm_fill hM hW h9 hl (c := c) (by omega)
        have key : ∀ m i n v, i + m = y_ho b → m < n → ∃ w, p_X12_rows_41 τ1 n v (nI i) = some w := by
          intro m
          induction m with
          | zero =>
            intro i n v h hn
            obtain ⟨n, rfl⟩ := y_pos hn
            refine ⟨v, ?_⟩
            unfold p_X12_rows_41; simp (disch := omega) only [y_lit, y_n1, nI_add, pk_mul, j_lt, j_b1_s, j_b2_s, j_b3_s, j_b0_s, y_bo, y_bo1, y_bo0, y_i0, y_i1, Classical.not_not, nI_clamp, y_ix, y_lt, y_le, y_eq, y_nP, y_nPs, y_ltP, y_ltQ, y_ltPP, y_eqP, y_eqQ, y_eqPP, if_pos, if_neg, ite_true, ite_false, not_true_eq_false, not_false_eq_true, and_true, true_and, and_false, false_and, or_true, true_or, or_false, false_or, ym_holes (hM.fr2 a2)]
          | succ m ih =>
            intro i n v h hn
            obtain ⟨n, rfl⟩ := y_pos hn
            obtain ⟨u, e0⟩ := tm_end (τ := τ1) (x := i) (by omega)
            obtain ⟨w, e1⟩ := ih (i + 1) n (v + u) (by omega) (by omega)
            refine ⟨w, ?_⟩
            unfold p_X12_rows_41
            rw [ym_holes (hM.fr2 a2), j_b1_s, if_pos ((y_lt (by omega) (by omega)).mpr (by omega)), e0, j_b1_s, show nI i + (1 : Int32) = nI (i + 1) by simp (disch := omega) only [y_lit, nI_add]]
            exact e1
        obtain ⟨w, e⟩ := key (y_ho b) 0 j_F (0 : Int64) (by omega) (y_F (by omega))
        rw [if_pos h9, if_pos hx, if_pos (show ¬ nI c < nI 1 ∧ ¬ nI 12 < nI c by rw [y_ltr (by omega), y_ltl (by omega)]; exact hy), if_neg (fun z => by
          rcases z with z | z | z
          · exact absurd z (by decide)
          · exact absurd z (by decide)
          · exact absurd z (by decide)), a1, j_b1_s, show (0 : Int32) = nI 0 from rfl, e, j_b1_s]
        exact ⟨_, _, rfl, a2⟩
      · rw [if_neg hy, if_pos (Or.inr (Or.inr F0))]; exact ⟨_, _, rfl, y_fm.refl⟩
    · rw [if_neg hx, if_pos (Or.inr (Or.inl F0))]; exact ⟨_, _, rfl, y_fm.refl⟩
  · rw [if_neg h9, if_pos (Or.inl F0)]; exact ⟨_, _, rfl, y_fm.refl⟩
theorem tm_ends (hM : y_M τ b) (hW : y_W b) (x y z : Int32) : ∃ v τ', f_X12_ends x y z τ = some (v, τ') ∧ y_fm 43 42 91 92 τ τ' := by
  have ho := hW.ho
  have F0 : nI 0 = (0 : Int32) := rfl
  unfold f_X12_ends
  rw [ym_isHole hM hW, j_b1_s, ym_isLaw, show (1 : Int64) = (nI 1).toInt64 from rfl, show (12 : Int64) = (nI 12).toInt64 from rfl, y_in]
  by_cases hz : y_rg z (y_ho b)
  · by_cases hx : y_rg x 4
    · by_cases hy : ¬ y < nI 1 ∧ ¬ nI 12 < y
      · obtain ⟨l, hl, rfl⟩ := y_of _ _ hx.1 hx.2
        obtain ⟨h, hh, rfl⟩ := y_of _ _ hz.1 hz.2
        have h9 := hW.on0 (Or.inr (Or.inr (Or.inr (Or.inr (by omega : 0 < y_ho b)))))
        rw [y_ltr (by omega), y_ltl (by omega)] at hy
        obtain ⟨c, hc, rfl⟩ := y_of y 13 (by omega) (by omega)
        obtain ⟨τ1, a1, a2⟩ := tm_fill hM hW h9 hl (c := c) (by omega)
        obtain ⟨u, e0⟩ := tm_end (τ := τ1) (x := h) (by omega)
        rw [if_pos hz, if_pos hx, if_pos (show ¬ nI c < nI 1 ∧ ¬ nI 12 < nI c by rw [y_ltr (by omega), y_ltl (by omega)]; exact hy), if_neg (fun z => by
          rcases z with z | z | z
          · exact absurd z (by decide)
          · exact absurd z (by decide)
          · exact absurd z (by decide)), a1, j_b1_s, e0, j_b1_s]
        exact ⟨_, _, rfl, a2⟩
      · rw [if_neg hy, if_pos (Or.inr (Or.inr F0))]; exact ⟨_, _, rfl, y_fm.refl⟩
    · rw [if_neg hx, if_pos (Or.inr (Or.inl F0))]; exact ⟨_, _, rfl, y_fm.refl⟩
  · rw [if_neg hz, if_pos (Or.inl F0)]; exact ⟨_, _, rfl, y_fm.refl⟩
theorem tm_f36 (hW : y_W b) {l i0 : Nat} {K : Int32 → j_G → Option (Int32 × j_G)} (hM : y_M τ b) : ∀ m i n f, i + m = y_ho b → m < n → f ≤ 12 → p_X12_fair_36 (nI l) (nI i0) τ K n (nP f) (nI i) = some (0, τ) ∨ p_X12_fair_36 (nI l) (nI i0) τ K n (nP f) (nI i) = K (nI i0 + (1 : Int32)) τ := by
  have ho := hW.ho
  intro m
  induction m with
  | zero =>
    intro i n f h hn hf
    obtain ⟨n, rfl⟩ := y_pos hn
    right
    unfold p_X12_fair_36
    rw [ym_holes hM, j_b1_s, if_neg (by rw [y_lt (by omega) (by omega)]; omega)]
  | succ m ih =>
    intro i n f h hn hf
    obtain ⟨n, rfl⟩ := y_pos hn
    unfold p_X12_fair_36
    simp only [j_lt]
    rw [ym_holes hM, j_b1_s, if_pos ((y_lt (by omega) (by omega)).mpr (by omega)), ym_isShut hM hW (by omega), j_b1_s, show nI i + (1 : Int32) = nI (i + 1) by simp (disch := omega) only [y_lit, nI_add]]
    by_cases c : y_sh b i = 1
    · rw [if_pos c, if_pos (show ¬ nI 1 = (0 : Int32) by decide)]
      exact ih (i + 1) n f (by omega) (by omega) hf
    · have e : (if nP f = (-1 : Int32) then nI i else nP f) = nI (if f = 0 then i else f - 1) := by
        by_cases z : f = 0
        · subst z; rw [if_pos y_m1.symm, if_pos rfl]
        · rw [if_neg (by rw [y_m1, y_eqPP (by omega) (by omega)]; exact z), if_neg z, ← y_nPs]; congr 1; omega
      have hg : (if f = 0 then i else f - 1) < 12 := by split <;> omega
      obtain ⟨u1, g1⟩ := tm_end (τ := τ) (x := i) (by omega)
      obtain ⟨u2, g2⟩ := tm_end (τ := τ) (x := if f = 0 then i else f - 1) hg
      rw [if_neg c, if_neg (show ¬ ¬ nI 0 = (0 : Int32) from fun z => z rfl), e, g1, j_b1_s, g2, j_b1_s]
      by_cases d : u1 = u2
      · rw [if_neg (fun z => z d), ← y_nPs (if f = 0 then i else f - 1)]
        exact ih (i + 1) n _ (by omega) (by omega) (by omega)
      · rw [if_pos d]; left; rfl
theorem tm_f19 (hW : y_W b) (h9 : 0 < b 9) {l : Nat} (hl : l < 4) : ∀ m i n (τ : j_G), i + m = 13 → m < n → y_M τ b → ∃ w τ', p_X12_fair_19 (nI l) n (nI i) τ = some (w, τ') ∧ y_fm 43 42 91 92 τ τ' := by
  have ho := hW.ho
  intro m
  induction m with
  | zero =>
    intro i n τ h hn hM
    obtain ⟨n, rfl⟩ := y_pos hn
    refine ⟨1, τ, ?_, y_fm.refl⟩
    unfold p_X12_fair_19
    rw [if_neg]
    intro z
    apply z
    rw [show (12 : Int32) = nI 12 from rfl, y_lt (by omega) (by omega)]; omega
  | succ m ih =>
    intro i n τ h hn hM
    obtain ⟨n, rfl⟩ := y_pos hn
    obtain ⟨τ1, a1, a2⟩ := tm_fill hM hW h9 hl (c := i) (by omega)
    have hM1 : y_M τ1 b := hM.fr2 a2
    obtain ⟨w, τ', e1, e2⟩ := ih (i + 1) n τ1 (by omega) (by omega) hM1
    unfold p_X12_fair_19
    rw [if_pos (show ¬ (12 : Int32) < nI i by rw [show (12 : Int32) = nI 12 from rfl, y_lt (by omega) (by omega)]; omega), a1, j_b1_s, y_m1, show (0 : Int32) = nI 0 from rfl]
    rcases tm_f36 hW (l := l) (i0 := i) (K := fun w2 σw => p_X12_fair_19 (nI l) n w2 σw) hM1 (y_ho b) 0 j_F 0 (by omega) (y_F (by omega)) (by omega) with z | z
    · exact ⟨0, τ1, z, a2⟩
    · refine ⟨w, τ', z.trans ?_, y_fm.trans a2 e2⟩
      rw [show nI i + (1 : Int32) = nI (i + 1) by simp (disch := omega) only [y_lit, nI_add]]
      exact e1
theorem tm_fair (hM : y_M τ b) (hW : y_W b) (x : Int32) : ∃ v τ', f_X12_fair x τ = some (v, τ') ∧ y_fm 43 42 91 92 τ τ' := by
  have F0 : nI 0 = (0 : Int32) := rfl
  unfold f_X12_fair
  rw [ym_isBoard hM hW, j_b1_s, ym_isLaw]
  by_cases h9 : 0 < b 9
  · by_cases hx : y_rg x 4
    · obtain ⟨l, hl, rfl⟩ := y_of _ _ hx.1 hx.2
      rw [if_pos h9, if_pos hx, if_neg (fun z => by
          rcases z with z | z
          · exact absurd z (by decide)
          · exact absurd z (by decide))]
      exact tm_f19 hW h9 hl 12 1 j_F τ (by omega) (y_F (by omega)) hM
    · rw [if_neg hx, if_pos (Or.inr F0)]; exact ⟨_, _, rfl, y_fm.refl⟩
  · rw [if_neg h9, if_pos (Or.inl F0)]; exact ⟨_, _, rfl, y_fm.refl⟩
end R
section Z
variable {σ τ : j_G}
theorem y_donel {σ' τ' : j_G} (hR : j_Rel σ τ) (h1 : y_fr 38 39 σ σ') (h2 : y_fm 43 42 91 92 τ τ') : j_Rel σ' τ' :=
  y_done hR (h1.wide (by omega) (by omega)) (h2.wide (by omega) (by omega) (by omega) (by omega))
theorem t_rows (hR : j_Rel σ τ) (a1 a2 : Int32) : ∃ v σ1, f_X11_rows a1 a2 σ = some (v, σ1) ∧ ∃ w τ1, f_X12_rows a1 a2 τ = some (w, τ1) ∧ j_Rel σ1 τ1 := by
  obtain ⟨b, hW, hN, hM, hK⟩ := id hR
  obtain ⟨v, σ1, e1, e2⟩ := tl_rows hN hW a1 a2
  obtain ⟨w, τ1, f1, f2⟩ := tm_rows hM hW a1 a2
  exact ⟨v, σ1, e1, w, τ1, f1, y_donel hR e2 f2⟩
theorem t_ends (hR : j_Rel σ τ) (a1 a2 a3 : Int32) : ∃ v σ1, f_X11_ends a1 a2 a3 σ = some (v, σ1) ∧ ∃ w τ1, f_X12_ends a1 a2 a3 τ = some (w, τ1) ∧ j_Rel σ1 τ1 := by
  obtain ⟨b, hW, hN, hM, hK⟩ := id hR
  obtain ⟨v, σ1, e1, e2⟩ := tl_ends hN hW a1 a2 a3
  obtain ⟨w, τ1, f1, f2⟩ := tm_ends hM hW a1 a2 a3
  exact ⟨v, σ1, e1, w, τ1, f1, y_donel hR e2 f2⟩
theorem t_fair (hR : j_Rel σ τ) (a1 : Int32) : ∃ v σ1, f_X11_fair a1 σ = some (v, σ1) ∧ ∃ w τ1, f_X12_fair a1 τ = some (w, τ1) ∧ j_Rel σ1 τ1 := by
  obtain ⟨b, hW, hN, hM, hK⟩ := id hR
  obtain ⟨v, σ1, e1, e2⟩ := tl_fair hN hW a1
  obtain ⟨w, τ1, f1, f2⟩ := tm_fair hM hW a1
  exact ⟨v, σ1, e1, w, τ1, f1, y_donel hR e2 f2⟩
end Z
/-! ===== best: both answer ===== -/
section C
variable {σ : j_G} {b : Nat → Nat}
theorem tb_apart (hN : y_N σ b) (hW : y_W b) (h9 : 0 < b 9) (x y : Int32) : ∃ v, f_X2_apart x y σ = some v := by
  have h0 := hW.on h9
  have b0 := hW.b0
  have nz : ¬ nI (b 0) = (0 : Int32) := by rw [show (0 : Int32) = nI 0 from rfl, y_eq (by omega) (by omega)]; omega
  unfold f_X2_apart
  rw [hN.f2]
  by_cases c : ¬ (0 : Int32) < nI (b 0)
  · rw [if_pos c]; exact ⟨_, rfl⟩
  · rw [if_neg c, if_neg nz, if_neg nz, if_neg nz, if_neg nz]; exact ⟨_, rfl⟩
theorem tb_pace {a : Nat} (t : Int32) : ∃ v, f_X6_paceIn a t σ = some v := by
  unfold f_X6_paceIn
  by_cases c : 0 < σ.1 a 2
  · rw [if_pos c, if_neg (fun z => by rw [z] at c; exact absurd c (by decide))]; exact ⟨_, rfl⟩
  · rw [if_neg c]; exact ⟨_, rfl⟩
theorem tb_there (hN : y_N σ b) (hW : y_W b) (h9 : 0 < b 9) {a : Nat} (x y t : Int32) : ∃ v, f_X6_there a x y t σ = some v := by
  obtain ⟨u, e1⟩ := tb_apart hN hW h9 x y
  obtain ⟨w, e2⟩ := tb_pace (σ := σ) (a := a) t
  unfold f_X6_there
  rw [e1, j_b1_s, e2, j_b1_s]
  exact ⟨_, rfl⟩
theorem tb_strike {i : Nat} (hi : i < 60) (t : Int32) : ∃ v, f_X4_strike (nI i) t σ = some v := by
  unfold f_X4_strike
  simp only [j_lt]
  rw [y_ix hi (by omega), y_ix hi (by omega)]
  by_cases c : f_X4_has (nI i) σ = 0
  · rw [if_pos c]; exact ⟨_, rfl⟩
  · rw [if_neg c]
    generalize (if t < σ.1 26 (nI i).toNatClampNeg then σ.1 26 (nI i).toNatClampNeg else t) = z
    by_cases d : ¬ σ.1 27 (nI i).toNatClampNeg < z
    · rw [if_pos d]; exact ⟨_, rfl⟩
    · rw [if_neg d]; exact ⟨_, rfl⟩
theorem tb_keep (x y t : Int32) : ∃ σ', f_X0_keep x y t σ = some σ' ∧ y_fr 36 36 σ σ' := by
  unfold f_X0_keep
  simp only [j_lt]
  generalize x * (121 : Int32) + y = v
  by_cases c : ¬ v < 0 ∧ v < (1452 : Int32)
  · rw [if_pos c]
    rw [show (0 : Int32) = nI 0 from rfl, show (1452 : Int32) = nI 1452 from rfl, y_ltr (by omega), y_ltr (by omega)] at c
    obtain ⟨k, hk, rfl⟩ := y_of v 1452 (by omega) (by omega)
    rw [y_ix hk (by omega), y_ix hk (by omega)]
    split
    · exact ⟨_, rfl, y_fr.refl.si (by omega) (by omega)⟩
    · exact ⟨_, rfl, y_fr.refl⟩
  · rw [if_neg c]; exact ⟨_, rfl, y_fr.refl⟩
theorem tb_freeAt (x y : Int32) : ∃ v, f_X0_freeAt x y σ = some v := by
  unfold f_X0_freeAt
  simp only [j_lt]
  generalize x * (121 : Int32) + y = v
  by_cases c : ¬ v < 0 ∧ v < (1452 : Int32)
  · rw [if_pos c]
    rw [show (0 : Int32) = nI 0 from rfl, show (1452 : Int32) = nI 1452 from rfl, y_ltr (by omega), y_ltr (by omega)] at c
    obtain ⟨k, hk, rfl⟩ := y_of v 1452 (by omega) (by omega)
    rw [y_ix hk (by omega)]
    exact ⟨_, rfl⟩
  · rw [if_neg c]; exact ⟨_, rfl⟩
theorem tb_47 {y9 : Int32} (hW : y_W b) (h9 : 0 < b 9) {i h W w8 : Nat} {x : Int32} (hi : i < 60) (hh : h + 2 ≤ W) (hW2 : W ≤ 1000) (h8 : w8 ≤ 2) : ∀ m k n l6 (σ : j_G), k + m = w8 → m < n → y_N σ b → l6 ≤ W → ∃ v σ', p_X0_goOn_47 (nI i) (nI h) (nI w8) y9 x n (nI l6) (nI k) σ = some (nI v, σ') ∧ v ≤ W ∧ y_fr 36 36 σ σ' := by
  intro m
  induction m with
  | zero =>
    intro k n l6 σ hk hn hN hl
    obtain ⟨n, rfl⟩ := y_pos hn
    refine ⟨l6, σ, ?_, hl, y_fr.refl⟩
    unfold p_X0_goOn_47
    rw [if_neg (fun z => by have := z.1; rw [y_lt (by omega) (by omega)] at this; omega)]
  | succ m ih =>
    intro k n l6 σ hk hn hN hl
    obtain ⟨n, rfl⟩ := y_pos hn
    have ek : nI k + (1 : Int32) = nI (k + 1) := by simp (disch := omega) only [y_lit, nI_add]
    have eh1 : nI h + (1 : Int32) = nI (h + 1) := by simp (disch := omega) only [y_lit, nI_add]
    have eh2 : nI h + (2 : Int32) = nI (h + 2) := by simp (disch := omega) only [y_lit, nI_add]
    by_cases c : nI k < nI w8 ∧ ¬ x = (2147483647 : Int32)
    · obtain ⟨n1, hn1⟩ : ∃ v1, (if nI k = 0 then (j_ix (nI i) 60 (some (σ.1 23 (nI i).toNatClampNeg))) else (j_ix (nI i) 60 (some (σ.1 24 (nI i).toNatClampNeg)))) = some v1 := by
        rw [y_ix hi (by omega), y_ix hi (by omega)]
        split
        · exact ⟨_, rfl⟩
        · exact ⟨_, rfl⟩
      obtain ⟨t1, ht1⟩ := tb_there hN hW h9 (a := 28) y9 n1 x
      obtain ⟨s1, hs1⟩ := tb_strike (σ := σ) hi t1
      rw [p_X0_goOn_47.eq_def]
      simp only [j_lt]
      rw [if_pos c, hn1, j_b1_s, ht1, j_b1_s, hs1, j_b1_s, ek, eh1, eh2]
      by_cases d : s1 = (-1 : Int32)
      · rw [if_pos d, j_b2_s]
        exact ih (k + 1) n l6 σ (by omega) (by omega) hN hl
      · obtain ⟨σ6, hk1, fk1⟩ := tb_keep (σ := σ) n1 (nI (h + 1)) (s1 + (1 : Int32))
        have hN6 : y_N σ6 b := hN.fr fk1 (by omega)
        obtain ⟨n2, hn2⟩ : ∃ v8, (if nI k = 0 then (j_ix (nI i) 60 (some (σ6.1 24 (nI i).toNatClampNeg))) else (j_ix (nI i) 60 (some (σ6.1 23 (nI i).toNatClampNeg)))) = some v8 := by
          rw [y_ix hi (by omega), y_ix hi (by omega)]
          split
          · exact ⟨_, rfl⟩
          · exact ⟨_, rfl⟩
        obtain ⟨v9, hv9⟩ : ∃ v9, (if n2 = (-1 : Int32) then (some (-1 : Int32)) else (j_b1 (f_X6_there 28 n1 n2 (s1 + (1 : Int32)) σ6) fun v10 => j_b1 (f_X4_strike (nI i) v10 σ6) fun v11 => some v11)) = some v9 := by
          by_cases e : n2 = (-1 : Int32)
          · rw [if_pos e]; exact ⟨_, rfl⟩
          · obtain ⟨t2, ht2⟩ := tb_there hN6 hW h9 (a := 28) n1 n2 (s1 + (1 : Int32))
            obtain ⟨s2, hs2⟩ := tb_strike (σ := σ6) hi t2
            rw [if_neg e, ht2, j_b1_s, hs2, j_b1_s]; exact ⟨_, rfl⟩
        have e7 : (if nI l6 < nI (h + 1) then nI (h + 1) else nI l6) = nI (if l6 < h + 1 then h + 1 else l6) := by
          by_cases q : l6 < h + 1
          · rw [if_pos q, if_pos ((y_lt (by omega) (by omega)).mpr q)]
          · rw [if_neg q, if_neg (fun z => q ((y_lt (by omega) (by omega)).mp z))]
        rw [if_neg d, hk1, j_b1_s, hn2, j_b1_s, hv9, j_b1_s, e7]
        by_cases e : ¬ v9 = (-1 : Int32)
        · obtain ⟨σ12, hk2, fk2⟩ := tb_keep (σ := σ6) n2 (nI (h + 2)) (v9 + (1 : Int32))
          obtain ⟨v, σ', g1, g2, g3⟩ := ih (k + 1) n (h + 2) σ12 (by omega) (by omega) (hN6.fr fk2 (by omega)) hh
          rw [if_pos e, hk2, j_b1_s, j_b2_s]
          exact ⟨v, σ', g1, g2, (fk1.trans fk2).trans g3⟩
        · obtain ⟨v, σ', g1, g2, g3⟩ := ih (k + 1) n (if l6 < h + 1 then h + 1 else l6) σ6 (by omega) (by omega) hN6 (by split <;> omega)
          rw [if_neg e, j_b2_s]
          exact ⟨v, σ', g1, g2, fk1.trans g3⟩
    · refine ⟨l6, σ, ?_, hl, y_fr.refl⟩
      unfold p_X0_goOn_47
      rw [if_neg c]
theorem tb_25 (hW : y_W b) (h9 : 0 < b 9) {i h W w8 : Nat} (hi : i < 60) (hh : h + 2 ≤ W) (hW2 : W ≤ 1000) (h8 : w8 ≤ 2) : ∀ m k n l6 (σ : j_G), k + m = y_ho b → m < n → y_N σ b → l6 ≤ W → ∃ v σ', p_X0_goOn_25 (nI i) (nI h) (nI w8) n (nI l6) (nI k) σ = some (nI v, σ') ∧ v ≤ W ∧ y_fr 36 36 σ σ' := by
  have ho := hW.ho
  intro m
  induction m with
  | zero =>
    intro k n l6 σ hk hn hN hl
    obtain ⟨n, rfl⟩ := y_pos hn
    refine ⟨l6, σ, ?_, hl, y_fr.refl⟩
    unfold p_X0_goOn_25
    rw [yc_holes hN, if_neg (by rw [y_lt (by omega) (by omega)]; omega)]
  | succ m ih =>
    intro k n l6 σ hk hn hN hl
    obtain ⟨n, rfl⟩ := y_pos hn
    obtain ⟨x, hx⟩ := tb_freeAt (σ := σ) (nI k) (nI h)
    obtain ⟨v, σ1, a1, a2, a3⟩ := tb_47 (y9 := nI k) (x := x) hW h9 hi hh hW2 h8 w8 0 j_F l6 σ (by omega) (y_F (by omega)) hN hl
    obtain ⟨w, σ', g1, g2, g3⟩ := ih (k + 1) n v σ1 (by omega) (by omega) (hN.fr a3 (by omega)) a2
    refine ⟨w, σ', ?_, g2, a3.trans g3⟩
    unfold p_X0_goOn_25
    rw [yc_holes hN, if_pos ((y_lt (by omega) (by omega)).mpr (by omega)), hx, j_b1_s, show (0 : Int32) = nI 0 from rfl, a1, j_b2_s, show nI k + (1 : Int32) = nI (k + 1) by simp (disch := omega) only [y_lit, nI_add]]
    exact g1
theorem tb_goOn (hN : y_N σ b) (hW : y_W b) (h9 : 0 < b 9) {i h W : Nat} (hi : i < 60) (hh : h + 2 ≤ W) (hW2 : W ≤ 1000) : ∃ v σ', f_X0_goOn (nI i) (nI h) σ = some (nI v, σ') ∧ v ≤ W ∧ y_fr 36 36 σ σ' := by
  have ho := hW.ho
  have go : ∀ w8, w8 ≤ 2 → ∃ v σ', (j_b2 (p_X0_goOn_25 (nI i) (nI h) (nI w8) j_F (nI h) (0 : Int32) σ) fun v2 σ3 => some (v2, σ3)) = some (nI v, σ') ∧ v ≤ W ∧ y_fr 36 36 σ σ' := by
    intro w8 h8
    obtain ⟨v, σ1, a1, a2, a3⟩ := tb_25 hW h9 hi hh hW2 h8 (y_ho b) 0 j_F h σ (by omega) (y_F (by omega)) hN (by omega)
    rw [show (0 : Int32) = nI 0 from rfl, a1, j_b2_s]
    exact ⟨v, σ1, rfl, a2, a3⟩
  unfold f_X0_goOn
  simp only [j_lt]
  rw [y_ix hi (by omega)]
  by_cases c : σ.1 24 (nI i).toNatClampNeg = (-1 : Int32)
  · rw [if_pos c]; exact go 1 (by omega)
  · rw [if_neg c]; exact go 2 (by omega)
theorem tb_3 {c : Int32} : ∀ m i n (σ : j_G), i + m = 1452 → m < n → ∃ σ', p_X0_most_3 c n (nI i) σ = some σ' ∧ y_fr 36 36 σ σ' := by
  intro m
  induction m with
  | zero =>
    intro i n σ h hn
    obtain ⟨n, rfl⟩ := y_pos hn
    refine ⟨σ, ?_, y_fr.refl⟩
    unfold p_X0_most_3; simp (disch := omega) only [y_lit, y_n1, nI_add, pk_mul, j_lt, j_b1_s, j_b2_s, j_b3_s, j_b0_s, y_bo, y_bo1, y_bo0, y_i0, y_i1, Classical.not_not, nI_clamp, y_ix, y_lt, y_le, y_eq, y_nP, y_nPs, y_ltP, y_ltQ, y_ltPP, y_eqP, y_eqQ, y_eqPP, if_pos, if_neg, ite_true, ite_false, not_true_eq_false, not_false_eq_true, and_true, true_and, and_false, false_and, or_true, true_or, or_false, false_or]
  | succ m ih =>
    intro i n σ h hn
    obtain ⟨n, rfl⟩ := y_pos hn
    obtain ⟨σ', e1, e2⟩ := ih (i + 1) n (j_si σ 36 i (2147483647 : Int32)) (by omega) (by omega)
    refine ⟨σ', ?_, (y_fr.refl.si (by omega) (by omega)).trans e2⟩
    unfold p_X0_most_3
    rw [if_pos (show nI i < (1452 : Int32) by rw [show (1452 : Int32) = nI 1452 from rfl, y_lt (by omega) (by omega)]; omega), y_ix (by omega) (by omega), nI_clamp (by omega), show nI i + (1 : Int32) = nI (i + 1) by simp (disch := omega) only [y_lit, nI_add]]
    exact e1
theorem tb_74 (hW : y_W b) (h9 : 0 < b 9) {i W : Nat} {c : Int32} (hi : i < 60) (hW2 : W ≤ 1000) : ∀ j n w (σ : j_G), j < n → j + 1 ≤ W → w ≤ W → y_N σ b → ∃ v σ', p_X0_most_74 c (nI i) n (nI w) (nP j) σ = some (nI v, σ') ∧ v ≤ W ∧ y_fr 36 36 σ σ' := by
  intro j
  induction j with
  | zero =>
    intro n w σ hn hj hw hN
    obtain ⟨n, rfl⟩ := y_pos hn
    refine ⟨w, σ, ?_, hw, y_fr.refl⟩
    unfold p_X0_most_74
    rw [if_neg (show ¬ ¬ nP 0 < (0 : Int32) by decide)]
  | succ j ih =>
    intro n w σ hn hj hw hN
    obtain ⟨n, rfl⟩ := y_pos hn
    obtain ⟨v, σ1, a1, a2, a3⟩ := tb_goOn hN hW h9 (h := j) (W := W) hi (by omega) hW2
    have e7 : (if nI w < nI v then nI v else nI w) = nI (if w < v then v else w) := by
      by_cases q : w < v
      · rw [if_pos q, if_pos ((y_lt (by omega) (by omega)).mpr q)]
      · rw [if_neg q, if_neg (fun z => q ((y_lt (by omega) (by omega)).mp z))]
    obtain ⟨u, σ', g1, g2, g3⟩ := ih n (if w < v then v else w) σ1 (by omega) (by omega) (by split <;> omega) (hN.fr a3 (by omega))
    refine ⟨u, σ', ?_, g2, a3.trans g3⟩
    unfold p_X0_most_74
    simp only [j_lt]
    rw [y_nPs, if_pos (show ¬ nI j < (0 : Int32) by rw [show (0 : Int32) = nI 0 from rfl, y_lt (by omega) (by omega)]; omega), a1, j_b2_s, e7, show nI j + (-1 : Int32) = nP j from by unfold nP; rw [Int32.sub_eq_add_neg]]
    exact g1
theorem tb_44 (hW : y_W b) (h9 : 0 < b 9) {s : Nat} {c : Int32} (hs : s ≤ 60) : ∀ m i n w (σ : j_G), i + m = s → m < n → w ≤ 2 * i → σ.1 22 0 = nI s → y_N σ b → ∃ v σ', p_X0_most_44 c n (nI w) (nI i) σ = some (nI v, σ') ∧ y_fr 36 36 σ σ' := by
  intro m
  induction m with
  | zero =>
    intro i n w σ h hn hw h0 hN
    obtain ⟨n, rfl⟩ := y_pos hn
    refine ⟨w, σ, ?_, y_fr.refl⟩
    unfold p_X0_most_44
    rw [h0, if_neg (fun z => by have := z.2; rw [y_lt (by omega) (by omega)] at this; omega)]
  | succ m ih =>
    intro i n w σ h hn hw h0 hN
    obtain ⟨n, rfl⟩ := y_pos hn
    unfold p_X0_most_44
    by_cases d : nI i < c ∧ nI i < σ.1 22 0
    · rw [if_pos d, y_ix (by omega) (by omega), show nI i + (1 : Int32) = nI (i + 1) by simp (disch := omega) only [y_lit, nI_add]]
      by_cases r : σ.1 25 (nI i).toNatClampNeg = 0
      · obtain ⟨v, σ1, a1, a2, a3⟩ := tb_74 (c := c) hW h9 (i := i) (W := 2 * i + 2) (by omega) (by omega) (w + 1) j_F w σ (y_F (by omega)) (by omega) (by omega) hN
        rw [y_nPs] at a1
        obtain ⟨u, σ', g1, g2⟩ := ih (i + 1) n v σ1 (by omega) (by omega) (by omega) (by rw [a3.i 22 0 (by omega)]; exact h0) (hN.fr a3 (by omega))
        rw [if_pos r, a1, j_b2_s, j_b2_s]
        exact ⟨u, σ', g1, a3.trans g2⟩
      · rw [if_neg r, j_b2_s]
        exact ih (i + 1) n w σ (by omega) (by omega) (by omega) h0 hN
    · rw [if_neg d]; exact ⟨w, σ, rfl, y_fr.refl⟩
theorem tb_ahead (hN : y_N σ b) (hW : y_W b) (x y : Int32) : ∃ v σ', f_X11_ahead x y σ = some (v, σ') ∧ y_fr 22 41 σ σ' := by
  unfold f_X11_ahead
  by_cases c : ¬ y < 0 ∧ ¬ (60 : Int32) < y
  · rw [if_pos c]
    by_cases hx : y_rg x (b 6)
    · obtain ⟨p, hp, rfl⟩ := y_of _ _ hx.1 hx.2
      have h9 := hW.on0 (Or.inr (Or.inr (Or.inr (Or.inl (by omega : 0 < b 6)))))
      obtain ⟨σ1, a1, a2, a3⟩ := yc_ready hN hW hp
      have gs := y_gs_le (b := b)
      obtain ⟨σ2, c1, c2⟩ := tb_3 (c := y) 1452 0 j_F σ1 (by omega) (y_F (by omega))
      obtain ⟨σ3, d1, d2⟩ := tb_keep (σ := σ2) (σ2.1 28 4) (0 : Int32) (0 : Int32)
      have f3 := c2.trans d2
      obtain ⟨v, σ4, e1, e2⟩ := tb_44 (c := y) hW h9 gs (y_gs b) 0 j_F 0 σ3 (by omega) (y_F (by omega)) (by omega) (by rw [f3.i 22 0 (by omega)]; exact a2.2.1.1) (a2.1.fr f3 (by omega))
      rw [a1, j_b2_s, if_neg (show ¬ nI 1 = (0 : Int32) by decide)]
      unfold f_X0_most
      rw [show p_X0_most_3 y j_F (0 : Int32) σ1 = _ from c1, j_b1_s, d1, j_b1_s, show p_X0_most_44 y j_F (0 : Int32) (0 : Int32) σ3 = _ from e1, j_b2_s, j_b2_s]
      exact ⟨_, _, rfl, a3.trans ((f3.trans e2).wide (by omega) (by omega))⟩
    · rw [yc_unready hN hW hx, j_b2_s, if_pos (show nI 0 = (0 : Int32) from rfl)]; exact ⟨_, _, rfl, y_fr.refl⟩
  · rw [if_neg c]; exact ⟨_, _, rfl, y_fr.refl⟩
theorem tb_best (hN : y_N σ b) (hW : y_W b) (x : Int32) : ∃ v σ', f_X11_best x σ = some (v, σ') ∧ y_fr 22 41 σ σ' := by
  obtain ⟨v, σ1, a1, a2⟩ := tb_ahead hN hW x 60
  unfold f_X11_best
  rw [a1, j_b2_s]
  exact ⟨_, _, rfl, a2⟩
end C
section R
variable {τ : j_G} {b g : Nat → Nat} {s : Nat}
theorem tn_steps (hM : y_M τ b) (hW : y_W b) (h9 : 0 < b 9) (x y : Int32) : ∃ v, f_X12_stepsOf x y τ = some v := by
  have h0 := hW.on h9
  have b0 := hW.b0
  have nz : ¬ nI (b 0) = (0 : Int32) := by rw [show (0 : Int32) = nI 0 from rfl, y_eq (by omega) (by omega)]; omega
  have i0 : ∀ (o : Option Int32), j_ix (0 : Int32) 116 o = o := fun o => y_ix (k := 0) (by omega) (by omega)
  unfold f_X12_stepsOf
  rw [show ((0 : Int32)).toNatClampNeg = 0 from rfl, hM.f (j := 0) (by omega)]
  simp only [i0]
  rw [if_neg nz, if_neg nz, if_neg nz, if_neg nz]
  exact ⟨_, rfl⟩
theorem tn_of {p q : Nat} (hp : p < 4) (hq : q < 5) : f_X12_of (nI p) (nI q) τ = some (τ.1 76 (96 + 5 * p + q)) := by
  unfold f_X12_of; simp (disch := omega) only [y_lit, y_n1, nI_add, pk_mul, j_lt, j_b1_s, j_b2_s, j_b3_s, j_b0_s, y_bo, y_bo1, y_bo0, y_i0, y_i1, Classical.not_not, nI_clamp, y_ix, y_lt, y_le, y_eq, y_nP, y_nPs, y_ltP, y_ltQ, y_ltPP, y_eqP, y_eqQ, y_eqPP, if_pos, if_neg, ite_true, ite_false, not_true_eq_false, not_false_eq_true, and_true, true_and, and_false, false_and, or_true, true_or, or_false, false_or]
theorem tn_pace {p : Nat} (hp : p < 4) (t : Int32) : ∃ v, f_X12_paceIn (nI p) t τ = some v := by
  unfold f_X12_paceIn
  rw [show f_X12_of (nI p) (0 : Int32) τ = _ from tn_of hp (q := 0) (by omega), j_b1_s, show f_X12_of (nI p) (2 : Int32) τ = _ from tn_of hp (q := 2) (by omega), j_b1_s]
  by_cases c : τ.1 76 (96 + 5 * p + 2) = 0
  · rw [if_pos c]; exact ⟨_, rfl⟩
  · rw [if_neg c, j_b1_s, if_neg c]; exact ⟨_, rfl⟩
theorem tn_behind (hM : y_M τ b) (hW : y_W b) (h9 : 0 < b 9) {p i : Nat} (hp : p < 4) (h19 : τ.1 75 19 = nI p) (hi : i < 60) (x t y : Int32) : ∃ v, f_X12_behind (nI i) x t y τ = some v := by
  unfold f_X12_behind
  simp only [j_lt]
  by_cases c : t = (1000000 : Int32)
  · rw [if_pos c]; exact ⟨_, rfl⟩
  · obtain ⟨u, e1⟩ := tn_steps hM hW h9 x y
    obtain ⟨w, e2⟩ := tn_pace (τ := τ) hp t
    rw [if_neg c, y_ix hi (by omega), e1, j_b1_s, h19, e2, j_b1_s, y_ix hi (by omega)]
    generalize (if τ.1 83 (nI i).toNatClampNeg < t + u * w then t + u * w else τ.1 83 (nI i).toNatClampNeg) = z
    by_cases d : τ.1 84 (nI i).toNatClampNeg < z
    · rw [if_pos d]; exact ⟨_, rfl⟩
    · rw [if_neg d]; exact ⟨_, rfl⟩
theorem tn_cell {h k : Nat} : f_X12_cell (nI h) (nI k) = nI (121 * h + k) := by
  unfold f_X12_cell; rw [show (121 : Int32) = nI 121 from rfl, pk_mul, nI_add]
theorem tn_sooner {h k : Nat} (hh : h < 12) (hk : k < 121) (t : Int32) : ∃ τ', f_X12_sooner (nI h) (nI k) t τ = some τ' ∧ y_fm 43 42 89 90 τ τ' := by
  unfold f_X12_sooner
  rw [tn_cell, y_ix (by omega) (by omega), y_ix (by omega) (by omega)]
  exact ⟨_, rfl, y_fm.refl.si (by omega) (by omega) (by omega)⟩
theorem y_M.fr3 {τ τ' : j_G} (h : y_M τ b) (hf : y_fm 43 42 89 90 τ τ') : y_M τ' b := h.fr hf (by omega)
theorem tn_15 (hW : y_W b) (h9 : 0 < b 9) {p i x h : Nat} {o : Nat} (hp : p < 4) (hi : i < 60) (hx : x < 12) (hh : h < 12) (ho : o ≤ 12) : ∀ m k n (τ : j_G), k + m = 119 → m < n → y_M τ b → τ.1 75 19 = nI p → ∃ τ', p_X12_mayHit_15 (nI i) (nI x) (nP o) (nI h) n (nI k) τ = some τ' ∧ y_fm 43 42 89 90 τ τ' := by
  intro m
  induction m with
  | zero =>
    intro k n τ hk hn hM h19
    obtain ⟨n, rfl⟩ := y_pos hn
    refine ⟨τ, ?_, y_fm.refl⟩
    unfold p_X12_mayHit_15
    rw [if_neg (show ¬ nI k + (2 : Int32) < (121 : Int32) by rw [show (2 : Int32) = nI 2 from rfl, show (121 : Int32) = nI 121 from rfl, nI_add, y_lt (by omega) (by omega)]; omega)]
  | succ m ih =>
    intro k n τ hk hn hM h19
    obtain ⟨n, rfl⟩ := y_pos hn
    obtain ⟨v1, e1⟩ := tn_behind hM hW h9 hp h19 hi (nI h) (τ.1 90 (121 * h + k)) (nI x)
    obtain ⟨τ2, e2, f2⟩ := tn_sooner (τ := τ) hx (k := k + 1) (by omega) v1
    have hM2 : y_M τ2 b := hM.fr3 f2
    have h192 : τ2.1 75 19 = nI p := by rw [f2.1 19 (by omega)]; exact h19
    have e12 : nI k + (1 : Int32) = nI (k + 1) := by simp (disch := omega) only [y_lit, nI_add]
    have e22 : nI k + (2 : Int32) = nI (k + 2) := by simp (disch := omega) only [y_lit, nI_add]
    unfold p_X12_mayHit_15
    rw [e22, if_pos (show nI (k + 2) < (121 : Int32) by rw [show (121 : Int32) = nI 121 from rfl, y_lt (by omega) (by omega)]; omega), tn_cell, y_ix (by omega) (by omega), nI_clamp (by omega), e1, j_b1_s, e12, e2, j_b1_s]
    by_cases c : ¬ nP o = (-1 : Int32)
    · obtain ⟨q, rfl⟩ : ∃ q, o = q + 1 := ⟨o - 1, by
        have : o ≠ 0 := fun z => c (by rw [z]; exact y_m1.symm)
        omega⟩
      rw [y_nPs] at c ⊢
      obtain ⟨v4, e4⟩ := tn_behind hM2 hW h9 hp h192 hi (nI x) v1 (nI q)
      obtain ⟨τ5, e5, f5⟩ := tn_sooner (τ := τ2) (h := q) (by omega) (k := k + 2) (by omega) v4
      obtain ⟨τ', g1, g2⟩ := ih (k + 1) n τ5 (by omega) (by omega) (hM2.fr3 f5) (by rw [f5.1 19 (by omega)]; exact h192)
      rw [y_nPs] at g1
      rw [if_pos c, e4, j_b1_s, e5, j_b1_s, j_b1_s]
      exact ⟨τ', g1, y_fm.trans (y_fm.trans f2 f5) g2⟩
    · obtain ⟨τ', g1, g2⟩ := ih (k + 1) n τ2 (by omega) (by omega) hM2 h192
      rw [if_neg c, j_b1_s]
      exact ⟨τ', g1, y_fm.trans f2 g2⟩
theorem tn_3 (hW : y_W b) (h9 : 0 < b 9) {p i x : Nat} {o : Nat} (hp : p < 4) (hi : i < 60) (hx : x < 12) (ho : o ≤ 12) : ∀ m k n (τ : j_G), k + m = y_ho b → m < n → y_M τ b → τ.1 75 19 = nI p → ∃ τ', p_X12_mayHit_3 (nI i) (nI x) (nP o) n (nI k) τ = some τ' ∧ y_fm 43 42 89 90 τ τ' := by
  have hh := hW.ho
  intro m
  induction m with
  | zero =>
    intro k n τ hk hn hM h19
    obtain ⟨n, rfl⟩ := y_pos hn
    refine ⟨τ, ?_, y_fm.refl⟩
    unfold p_X12_mayHit_3
    rw [ym_holes hM, j_b1_s, if_neg (by rw [y_lt (by omega) (by omega)]; omega)]
  | succ m ih =>
    intro k n τ hk hn hM h19
    obtain ⟨n, rfl⟩ := y_pos hn
    obtain ⟨τ1, a1, a2⟩ := tn_15 hW h9 (h := k) hp hi hx (by omega) ho 119 0 j_F τ (by omega) (y_F (by omega)) hM h19
    obtain ⟨τ', g1, g2⟩ := ih (k + 1) n τ1 (by omega) (by omega) (hM.fr3 a2) (by rw [a2.1 19 (by omega)]; exact h19)
    refine ⟨τ', ?_, y_fm.trans a2 g2⟩
    unfold p_X12_mayHit_3
    rw [ym_holes hM, j_b1_s, if_pos ((y_lt (by omega) (by omega)).mpr (by omega)), show (0 : Int32) = nI 0 from rfl, a1, j_b1_s, show nI k + (1 : Int32) = nI (k + 1) by simp (disch := omega) only [y_lit, nI_add]]
    exact g1
theorem tn_mayHit (hM : y_M τ b) (hW : y_W b) (h9 : 0 < b 9) {p i x o : Nat} (hp : p < 4) (hi : i < 60) (hx : x < 12) (ho : o ≤ 12) (h19 : τ.1 75 19 = nI p) : ∃ τ', f_X12_mayHit (nI i) (nI x) (nP o) τ = some τ' ∧ y_fm 43 42 89 90 τ τ' := by
  have hh := hW.ho
  obtain ⟨τ1, a1, a2⟩ := tn_3 hW h9 hp hi hx ho (y_ho b) 0 j_F τ (by omega) (y_F (by omega)) hM h19
  refine ⟨τ1, ?_, a2⟩
  unfold f_X12_mayHit
  rw [show (0 : Int32) = nI 0 from rfl, a1, j_b1_s]
theorem tn_11 {c d : Int32} : ∀ m i n (τ : j_G), i + m = 1452 → m < n → ∃ τ', p_X12_bestOf_11 c d n (nI i) τ = some τ' ∧ y_fm 43 42 89 90 τ τ' := by
  intro m
  induction m with
  | zero =>
    intro i n τ h hn
    obtain ⟨n, rfl⟩ := y_pos hn
    refine ⟨τ, ?_, y_fm.refl⟩
    unfold p_X12_bestOf_11; simp (disch := omega) only [y_lit, y_n1, nI_add, pk_mul, j_lt, j_b1_s, j_b2_s, j_b3_s, j_b0_s, y_bo, y_bo1, y_bo0, y_i0, y_i1, Classical.not_not, nI_clamp, y_ix, y_lt, y_le, y_eq, y_nP, y_nPs, y_ltP, y_ltQ, y_ltPP, y_eqP, y_eqQ, y_eqPP, if_pos, if_neg, ite_true, ite_false, not_true_eq_false, not_false_eq_true, and_true, true_and, and_false, false_and, or_true, true_or, or_false, false_or]
  | succ m ih =>
    intro i n τ h hn
    obtain ⟨n, rfl⟩ := y_pos hn
    obtain ⟨τ', e1, e2⟩ := ih (i + 1) n (j_si τ 89 i (1000000 : Int32)) (by omega) (by omega)
    refine ⟨τ', ?_, y_fm.trans (y_fm.refl.si (by omega) (by omega) (by omega)) e2⟩
    unfold p_X12_bestOf_11
    rw [if_pos (show nI i < (1452 : Int32) by rw [show (1452 : Int32) = nI 1452 from rfl, y_lt (by omega) (by omega)]; omega), y_ix (by omega) (by omega), nI_clamp (by omega), show nI i + (1 : Int32) = nI (i + 1) by simp (disch := omega) only [y_lit, nI_add]]
    exact e1
theorem tn_82 {c d : Int32} : ∀ m i n (τ : j_G), i + m = 1452 → m < n → ∃ τ', p_X12_bestOf_82 c d n (nI i) τ = some τ' ∧ y_fm 43 42 89 90 τ τ' := by
  intro m
  induction m with
  | zero =>
    intro i n τ h hn
    obtain ⟨n, rfl⟩ := y_pos hn
    refine ⟨τ, ?_, y_fm.refl⟩
    unfold p_X12_bestOf_82; simp (disch := omega) only [y_lit, y_n1, nI_add, pk_mul, j_lt, j_b1_s, j_b2_s, j_b3_s, j_b0_s, y_bo, y_bo1, y_bo0, y_i0, y_i1, Classical.not_not, nI_clamp, y_ix, y_lt, y_le, y_eq, y_nP, y_nPs, y_ltP, y_ltQ, y_ltPP, y_eqP, y_eqQ, y_eqPP, if_pos, if_neg, ite_true, ite_false, not_true_eq_false, not_false_eq_true, and_true, true_and, and_false, false_and, or_true, true_or, or_false, false_or]
  | succ m ih =>
    intro i n τ h hn
    obtain ⟨n, rfl⟩ := y_pos hn
    obtain ⟨τ', e1, e2⟩ := ih (i + 1) n (j_si τ 90 i (τ.1 89 i)) (by omega) (by omega)
    refine ⟨τ', ?_, y_fm.trans (y_fm.refl.si (by omega) (by omega) (by omega)) e2⟩
    unfold p_X12_bestOf_82
    rw [if_pos (show nI i < (1452 : Int32) by rw [show (1452 : Int32) = nI 1452 from rfl, y_lt (by omega) (by omega)]; omega), y_ix (by omega) (by omega), y_ix (by omega) (by omega), nI_clamp (by omega), show nI i + (1 : Int32) = nI (i + 1) by simp (disch := omega) only [y_lit, nI_add]]
    exact e1
theorem tn_ing {i q : Nat} (hi : i < 60) (hq : q < 3) : f_X12_inGame (nI i) (nI q) τ = some (τ.1 82 (3 * i + q)) := by
  unfold f_X12_inGame; simp (disch := omega) only [y_lit, y_n1, nI_add, pk_mul, j_lt, j_b1_s, j_b2_s, j_b3_s, j_b0_s, y_bo, y_bo1, y_bo0, y_i0, y_i1, Classical.not_not, nI_clamp, y_ix, y_lt, y_le, y_eq, y_nP, y_nPs, y_ltP, y_ltQ, y_ltPP, y_eqP, y_eqQ, y_eqPP, if_pos, if_neg, ite_true, ite_false, not_true_eq_false, not_false_eq_true, and_true, true_and, and_false, false_and, or_true, true_or, or_false, false_or]
theorem y_mg.fr3 {τ' : j_G} (h : y_mg τ b s g) (hf : y_fm 43 42 89 90 τ τ') : y_mg τ' b s g := h.fr hf (by omega) (by omega)
theorem tn_53 (hW : y_W b) (h9 : 0 < b 9) (hv : y_vg b s g) {p : Nat} {c : Int32} (hp : p < 4) : ∀ m i n (τ : j_G), i + m = s → m < n → y_M τ b → y_mg τ b s g → τ.1 75 19 = nI p → ∃ τ', p_X12_bestOf_53 c n (nI i) τ = some τ' ∧ y_fm 43 42 89 90 τ τ' := by
  have hs := hv.1
  have hh := hW.ho
  intro m
  induction m with
  | zero =>
    intro i n τ h hn hM hg h19
    obtain ⟨n, rfl⟩ := y_pos hn
    refine ⟨τ, ?_, y_fm.refl⟩
    unfold p_X12_bestOf_53
    rw [hg.1, if_neg (fun z => by have := z.1; rw [y_lt (by omega) (by omega)] at this; omega)]
  | succ m ih =>
    intro i n τ h hn hM hg h19
    obtain ⟨n, rfl⟩ := y_pos hn
    obtain ⟨g0, g1, g2, g3, g4⟩ := hg.2 i (by omega)
    obtain ⟨w0, w1, w2, w3, w4, w5⟩ := hv.2 i (by omega)
    have z0 : (0 : Int32) = nI 0 := rfl
    have z1 : (1 : Int32) = nI 1 := rfl
    have z2 : (2 : Int32) = nI 2 := rfl
    unfold p_X12_bestOf_53
    by_cases d : nI i < τ.1 75 18 ∧ nI i < c
    · rw [if_pos d, show f_X12_inGame (nI i) (2 : Int32) τ = _ from tn_ing (i := i) (q := 2) (by omega) (by omega), j_b1_s, show nI i + (1 : Int32) = nI (i + 1) by simp (disch := omega) only [y_lit, nI_add]]
      by_cases r : τ.1 82 (3 * i + 2) = (1 : Int32)
      · rw [if_pos r, j_b1_s]
        exact ih (i + 1) n τ (by omega) (by omega) hM hg h19
      · obtain ⟨τ3, a1, a2⟩ := tn_82 (c := c) (d := nI i) 1452 0 j_F τ (by omega) (y_F (by omega))
        have hM3 : y_M τ3 b := hM.fr3 a2
        have hg3 : y_mg τ3 b s g := hg.fr3 a2
        obtain ⟨p0, p1, p2, p3, p4⟩ := hg3.2 i (by omega)
        have h193 : τ3.1 75 19 = nI p := by rw [a2.1 19 (by omega)]; exact h19
        obtain ⟨τ6, c1, c2⟩ := tn_mayHit hM3 hW h9 hp (i := i) (x := g (3 * i)) (o := g (3 * i + 1)) (by omega) (by omega) (by omega) h193
        have hM6 : y_M τ6 b := hM3.fr3 c2
        have hg6 : y_mg τ6 b s g := hg3.fr3 c2
        obtain ⟨q0, q1, q2, q3, q4⟩ := hg6.2 i (by omega)
        have h196 : τ6.1 75 19 = nI p := by rw [c2.1 19 (by omega)]; exact h193
        have i30 : f_X12_inGame (nI i) (0 : Int32) τ3 = some (nI (g (3 * i))) := by rw [z0, tn_ing (by omega) (by omega), Nat.add_zero, p0]
        have i31 : f_X12_inGame (nI i) (1 : Int32) τ3 = some (nP (g (3 * i + 1))) := by rw [z1, tn_ing (by omega) (by omega), p1]
        have i60 : f_X12_inGame (nI i) (0 : Int32) τ6 = some (nI (g (3 * i))) := by rw [z0, tn_ing (by omega) (by omega), Nat.add_zero, q0]
        have i61 : f_X12_inGame (nI i) (1 : Int32) τ6 = some (nP (g (3 * i + 1))) := by rw [z1, tn_ing (by omega) (by omega), q1]
        rw [if_neg r, show p_X12_bestOf_82 c (nI i) j_F (0 : Int32) τ = _ from a1, j_b1_s, i30, j_b1_s, i31, j_b1_s, c1, j_b1_s, i61, j_b1_s]
        by_cases e : ¬ nP (g (3 * i + 1)) = (-1 : Int32)
        · obtain ⟨q, hq⟩ : ∃ q, g (3 * i + 1) = q + 1 := ⟨g (3 * i + 1) - 1, by
            have : g (3 * i + 1) ≠ 0 := fun z => e (by rw [z]; exact y_m1.symm)
            omega⟩
          have c10 := tn_mayHit hM6 hW h9 hp (i := i) (x := q) (o := g (3 * i) + 1) (by omega) (by omega) (by omega) h196
          rw [y_nPs] at c10
          obtain ⟨τ10, d1, d2⟩ := c10
          obtain ⟨τ', k1, k2⟩ := ih (i + 1) n τ10 (by omega) (by omega) (hM6.fr3 d2) (hg6.fr3 d2) (by rw [d2.1 19 (by omega)]; exact h196)
          rw [if_pos e, j_b1_s, i60, j_b1_s, hq, y_nPs, d1, j_b1_s, j_b1_s]
          exact ⟨τ', k1, y_fm.trans (y_fm.trans (y_fm.trans a2 c2) d2) k2⟩
        · obtain ⟨τ', k1, k2⟩ := ih (i + 1) n τ6 (by omega) (by omega) hM6 hg6 h196
          rw [if_neg e, j_b1_s]
          exact ⟨τ', k1, y_fm.trans (y_fm.trans a2 c2) k2⟩
    · rw [if_neg d]; exact ⟨τ, rfl, y_fm.refl⟩
theorem tn_179 {h : Nat} (hh : h < 12) : ∀ m k n (v : Int32), k + m = 121 → m < n → ∃ w, p_X12_bestOf_179 (nI h) τ n v (nI k) = some w := by
  intro m
  induction m with
  | zero =>
    intro k n v hk hn
    obtain ⟨n, rfl⟩ := y_pos hn
    refine ⟨v, ?_⟩
    unfold p_X12_bestOf_179; simp (disch := omega) only [y_lit, y_n1, nI_add, pk_mul, j_lt, j_b1_s, j_b2_s, j_b3_s, j_b0_s, y_bo, y_bo1, y_bo0, y_i0, y_i1, Classical.not_not, nI_clamp, y_ix, y_lt, y_le, y_eq, y_nP, y_nPs, y_ltP, y_ltQ, y_ltPP, y_eqP, y_eqQ, y_eqPP, if_pos, if_neg, ite_true, ite_false, not_true_eq_false, not_false_eq_true, and_true, true_and, and_false, false_and, or_true, true_or, or_false, false_or]
  | succ m ih =>
    intro k n v hk hn
    obtain ⟨n, rfl⟩ := y_pos hn
    unfold p_X12_bestOf_179
    simp only [j_lt]
    rw [if_pos (show nI k < (121 : Int32) by rw [show (121 : Int32) = nI 121 from rfl, y_lt (by omega) (by omega)]; omega), tn_cell, y_ix (by omega) (by omega), show nI k + (1 : Int32) = nI (k + 1) by simp (disch := omega) only [y_lit, nI_add]]
    exact ih (k + 1) n _ (by omega) (by omega)
theorem tn_167 (hM : y_M τ b) (hW : y_W b) : ∀ m k n (v : Int32), k + m = y_ho b → m < n → ∃ w, p_X12_bestOf_167 τ n v (nI k) = some w := by
  have hh := hW.ho
  intro m
  induction m with
  | zero =>
    intro k n v hk hn
    obtain ⟨n, rfl⟩ := y_pos hn
    refine ⟨v, ?_⟩
    unfold p_X12_bestOf_167
    rw [ym_holes hM, j_b1_s, if_neg (by rw [y_lt (by omega) (by omega)]; omega)]
  | succ m ih =>
    intro k n v hk hn
    obtain ⟨n, rfl⟩ := y_pos hn
    obtain ⟨u, e⟩ := tn_179 (τ := τ) (h := k) (by omega) 121 0 j_F v (by omega) (y_F (by omega))
    obtain ⟨w, e2⟩ := ih (k + 1) n u (by omega) (by omega)
    refine ⟨w, ?_⟩
    unfold p_X12_bestOf_167
    rw [ym_holes hM, j_b1_s, if_pos ((y_lt (by omega) (by omega)).mpr (by omega)), show (0 : Int32) = nI 0 from rfl, e, j_b1_s, show nI k + (1 : Int32) = nI (k + 1) by simp (disch := omega) only [y_lit, nI_add]]
    exact e2
theorem tn_bestOf (hM : y_M τ b) (hW : y_W b) {p : Nat} (hp : p < b 6) (y : Int32) : ∃ v τ', f_X12_bestOf (nI p) y τ = some (v, τ') ∧ y_fm 18 42 80 93 τ τ' := by
  have hh := hW.ho
  have b6 := hW.b6
  have pl := hW.pl hp
  have h9 := hW.on0 (Or.inr (Or.inr (Or.inr (Or.inl (by omega : 0 < b 6)))))
  obtain ⟨τ1, a1, ⟨a2, a2'⟩, a3⟩ := ym_laid hM hW
  have f12 : y_fm 19 19 1 0 τ1 (j_si τ1 75 19 (nI p)) := y_fm.refl.so (by omega) (by omega)
  obtain ⟨τ3, c1, c2⟩ := tn_11 (c := nI p) (d := y) 1452 0 j_F (j_si τ1 75 19 (nI p)) (by omega) (y_F (by omega))
  have M2 : y_M (j_si τ1 75 19 (nI p)) b := by
    unfold y_M; rw [(f12.2 76 (by omega) (by omega)).1]; exact a2
  have M3 : y_M τ3 b := M2.fr3 c2
  have G2 : y_mg (j_si τ1 75 19 (nI p)) b (y_gs b) (y_dg b (b 8)) := by
    unfold y_mg at *
    rw [f12.1 18 (by omega), (f12.2 82 (by omega) (by omega)).1, (f12.2 83 (by omega) (by omega)).1, (f12.2 84 (by omega) (by omega)).1]
    exact a2'
  have G3 : y_mg τ3 b (y_gs b) (y_dg b (b 8)) := G2.fr3 c2
  have e4 : f_X12_of (nI p) (4 : Int32) τ3 = some (nI (b (96 + 5 * p + 4))) := by
    rw [show (4 : Int32) = nI 4 from rfl, tn_of (by omega) (by omega), M3.p (by omega) (by omega)]
  have w4 : b (96 + 5 * p + 4) < 12 := by
    have := pl.2.2.2.2.2
    rw [show 100 + 5 * p = 96 + 5 * p + 4 by omega] at this
    omega
  have f5 : y_fm 43 42 89 90 τ3 (j_si τ3 89 (121 * b (96 + 5 * p + 4) + 0) (0 : Int32)) := y_fm.refl.si (by omega) (by omega) (by omega)
  obtain ⟨τ6, d1, d2⟩ := tn_53 (c := y) hW h9 (y_dg_vg hW _) (p := p) (by omega) (y_gs b) 0 j_F _ (by omega) (y_F (by have := y_gs_le (b := b); omega)) (M3.fr3 f5) (G3.fr3 f5) (by rw [f5.1 19 (by omega), c2.1 19 (by omega), j_r_eq])
  obtain ⟨w, e7⟩ := tn_167 ((M3.fr3 f5).fr3 d2) hW (y_ho b) 0 j_F (0 : Int32) (by omega) (y_F (by omega))
  refine ⟨w, τ6, ?_, y_fm.trans a3 (y_fm.trans (y_fm.refl.so (by omega) (by omega) : y_fm 18 42 80 93 τ1 (j_si τ1 75 19 (nI p))) ((y_fm.trans c2 (y_fm.trans f5 d2)).wide (by omega) (by omega) (by omega) (by omega)))⟩
  unfold f_X12_bestOf
  simp only [j_lt]
  rw [a1, j_b1_s, show p_X12_bestOf_11 (nI p) y j_F (0 : Int32) (j_si τ1 75 19 (nI p)) = _ from c1, j_b1_s, e4, j_b1_s, show f_X12_cell (nI (b (96 + 5 * p + 4))) (0 : Int32) = _ from tn_cell (k := 0), y_ix (by omega) (by omega), nI_clamp (by omega), show p_X12_bestOf_53 y j_F (0 : Int32) (j_si τ3 89 (121 * b (96 + 5 * p + 4) + 0) (0 : Int32)) = _ from d1, j_b1_s, show p_X12_bestOf_167 τ6 j_F (0 : Int32) (0 : Int32) = _ from e7, j_b1_s]
theorem tn_best (hM : y_M τ b) (hW : y_W b) (x : Int32) : ∃ v τ', f_X12_best x τ = some (v, τ') ∧ y_fm 18 42 80 93 τ τ' := by
  unfold f_X12_best
  rw [ym_isPlayer hM hW, j_b1_s]
  by_cases hx : y_rg x (b 6)
  · obtain ⟨p, hp, rfl⟩ := y_of _ _ hx.1 hx.2
    obtain ⟨v, τ1, e1, e2⟩ := tn_bestOf hM hW hp 60
    rw [if_pos hx, if_pos (show ¬ nI 1 = (0 : Int32) by decide), e1, j_b2_s]
    exact ⟨_, _, rfl, e2⟩
  · rw [if_neg hx, if_neg (show ¬ ¬ nI 0 = (0 : Int32) from fun z => z rfl)]; exact ⟨_, _, rfl, y_fm.refl⟩
theorem tn_ahead (hM : y_M τ b) (hW : y_W b) (x y : Int32) : ∃ v τ', f_X12_ahead x y τ = some (v, τ') ∧ y_fm 18 42 80 93 τ τ' := by
  unfold f_X12_ahead
  rw [ym_isPlayer hM hW, j_b1_s]
  by_cases hx : y_rg x (b 6)
  · obtain ⟨p, hp, rfl⟩ := y_of _ _ hx.1 hx.2
    obtain ⟨v, τ1, e1, e2⟩ := tn_bestOf hM hW hp y
    rw [if_pos hx]
    by_cases c : (¬ nI 1 = (0 : Int32)) ∧ (¬ (f_X12_in y.toInt64 (0 : Int64) (60 : Int64)) = 0)
    · rw [if_pos c, e1, j_b2_s]; exact ⟨_, _, rfl, e2⟩
    · rw [if_neg c]; exact ⟨_, _, rfl, y_fm.refl⟩
  · rw [if_neg hx, if_neg (fun z => z.1 rfl)]; exact ⟨_, _, rfl, y_fm.refl⟩
end R
section Z
variable {σ τ : j_G}
theorem t_best (hR : j_Rel σ τ) (a1 : Int32) : ∃ v σ1, f_X11_best a1 σ = some (v, σ1) ∧ ∃ w τ1, f_X12_best a1 τ = some (w, τ1) ∧ j_Rel σ1 τ1 := by
  obtain ⟨b, hW, hN, hM, hK⟩ := id hR
  obtain ⟨v, σ1, e1, e2⟩ := tb_best hN hW a1
  obtain ⟨w, τ1, f1, f2⟩ := tn_best hM hW a1
  exact ⟨v, σ1, e1, w, τ1, f1, y_done hR e2 f2⟩
theorem t_ahead (hR : j_Rel σ τ) (a1 a2 : Int32) : ∃ v σ1, f_X11_ahead a1 a2 σ = some (v, σ1) ∧ ∃ w τ1, f_X12_ahead a1 a2 τ = some (w, τ1) ∧ j_Rel σ1 τ1 := by
  obtain ⟨b, hW, hN, hM, hK⟩ := id hR
  obtain ⟨v, σ1, e1, e2⟩ := tb_ahead hN hW a1 a2
  obtain ⟨w, τ1, f1, f2⟩ := tn_ahead hM hW a1 a2
  exact ⟨v, σ1, e1, w, τ1, f1, y_done hR e2 f2⟩
end Z
