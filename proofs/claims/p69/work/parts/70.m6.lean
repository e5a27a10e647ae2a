/-! ===== learns, enough, waits, slack, rash, look, line, tickets, prize ===== -/
/-- the first of the greatest -/
def y_am (h : Nat → Nat) : Nat → Nat → Nat → Nat
  | 0, _, z => z
  | m + 1, i, z => y_am h m (i + 1) (if h z < h i then i else z)
theorem y_ra_of {σ : j_G} {b : Nat → Nat} {p : Nat} (h : y_rdy σ b p) : y_ra σ b (y_pq b p) := h
section Z
variable {σ τ : j_G}
theorem z_learns (hR : j_Rel σ τ) (a1 a2 : Int32) : ∃ v σ1 τ1, f_X11_learns a1 a2 σ = some (v, σ1) ∧ f_X12_learns a1 a2 τ = some (v, τ1) ∧ j_Rel σ1 τ1 := by
  obtain ⟨b, hW, hN, hM, hK⟩ := id hR
  by_cases h : y_rg a1 (b 6)
  · by_cases h2 : y_rg a2 10
    · obtain ⟨p, hp, rfl⟩ := y_of _ _ h.1 h.2
      obtain ⟨n, hn, rfl⟩ := y_of _ _ h2.1 h2.2
      have h9 := hW.on0 (Or.inr (Or.inr (Or.inr (Or.inl (by omega : 0 < b 6)))))
      obtain ⟨σ1, e1, e2, e3⟩ := yc_ready hN hW hp
      obtain ⟨τ1, f1, f2, f3⟩ := ym_laid hM hW
      obtain ⟨σ2, g1, g2, g3⟩ := yc_know (n := n) e2 hW h9 (y_pqv hW hp) (by omega)
      obtain ⟨τ2, k1, k2, k3⟩ := ym_know (n := n) f2 hW hp (by omega)
      refine ⟨nI (y_H b (y_u (y_pq b p) 3 n)), σ2, τ2, ?_, ?_, y_done hR (e3.trans (g3.wide (by omega) (by omega))) (f3.trans k3)⟩
      · unfold f_X11_learns; simp (disch := omega) only [y_lit, y_n1, nI_add, pk_mul, j_lt, j_b1_s, j_b2_s, j_b3_s, j_b0_s, y_bo, y_bo1, y_bo0, y_i0, y_i1, Classical.not_not, nI_clamp, y_ix, y_lt, y_le, y_eq, y_nP, y_nPs, y_ltP, y_ltQ, y_ltPP, y_eqP, y_eqQ, y_eqPP, if_pos, if_neg, ite_true, ite_false, not_true_eq_false, not_false_eq_true, and_true, true_and, and_false, false_and, or_true, true_or, or_false, false_or, e1, g1]
      · unfold f_X12_learns; simp (disch := omega) only [y_lit, y_n1, nI_add, pk_mul, j_lt, j_b1_s, j_b2_s, j_b3_s, j_b0_s, y_bo, y_bo1, y_bo0, y_i0, y_i1, Classical.not_not, nI_clamp, y_ix, y_lt, y_le, y_eq, y_nP, y_nPs, y_ltP, y_ltQ, y_ltPP, y_eqP, y_eqQ, y_eqPP, if_pos, if_neg, ite_true, ite_false, not_true_eq_false, not_false_eq_true, and_true, true_and, and_false, false_and, or_true, true_or, or_false, false_or, ym_isPlayer hM hW, if_pos h, y_lit64, y_in, f1, k1]
    · refine ⟨-2, σ, τ, ?_, ?_, hR⟩
      · unfold f_X11_learns; simp (disch := omega) only [y_lit, y_n1, nI_add, pk_mul, j_lt, j_b1_s, j_b2_s, j_b3_s, j_b0_s, y_bo, y_bo1, y_bo0, y_i0, y_i1, Classical.not_not, nI_clamp, y_ix, y_lt, y_le, y_eq, y_nP, y_nPs, y_ltP, y_ltQ, y_ltPP, y_eqP, y_eqQ, y_eqPP, if_pos, if_neg, ite_true, ite_false, not_true_eq_false, not_false_eq_true, and_true, true_and, and_false, false_and, or_true, true_or, or_false, false_or, y_c3, h2]
      · unfold f_X12_learns; simp (disch := omega) only [y_lit, y_n1, nI_add, pk_mul, j_lt, j_b1_s, j_b2_s, j_b3_s, j_b0_s, y_bo, y_bo1, y_bo0, y_i0, y_i1, Classical.not_not, nI_clamp, y_ix, y_lt, y_le, y_eq, y_nP, y_nPs, y_ltP, y_ltQ, y_ltPP, y_eqP, y_eqQ, y_eqPP, if_pos, if_neg, ite_true, ite_false, not_true_eq_false, not_false_eq_true, and_true, true_and, and_false, false_and, or_true, true_or, or_false, false_or, ym_isPlayer hM hW, y_lit64, y_in, y_c3, h2]
  · refine ⟨-2, σ, τ, ?_, ?_, hR⟩
    · unfold f_X11_learns; rw [yc_unready hN hW h]; simp (disch := omega) only [y_lit, y_n1, nI_add, pk_mul, j_lt, j_b1_s, j_b2_s, j_b3_s, j_b0_s, y_bo, y_bo1, y_bo0, y_i0, y_i1, Classical.not_not, nI_clamp, y_ix, y_lt, y_le, y_eq, y_nP, y_nPs, y_ltP, y_ltQ, y_ltPP, y_eqP, y_eqQ, y_eqPP, if_pos, if_neg, ite_true, ite_false, not_true_eq_false, not_false_eq_true, and_true, true_and, and_false, false_and, or_true, true_or, or_false, false_or]
      split <;> rfl
    · unfold f_X12_learns; simp (disch := omega) only [y_lit, y_n1, nI_add, pk_mul, j_lt, j_b1_s, j_b2_s, j_b3_s, j_b0_s, y_bo, y_bo1, y_bo0, y_i0, y_i1, Classical.not_not, nI_clamp, y_ix, y_lt, y_le, y_eq, y_nP, y_nPs, y_ltP, y_ltQ, y_ltPP, y_eqP, y_eqQ, y_eqPP, if_pos, if_neg, ite_true, ite_false, not_true_eq_false, not_false_eq_true, and_true, true_and, and_false, false_and, or_true, true_or, or_false, false_or, ym_isPlayer hM hW, h]
theorem z_enough (hR : j_Rel σ τ) (a1 : Int32) : ∃ v σ1 τ1, f_X11_enough a1 σ = some (v, σ1) ∧ f_X12_enough a1 τ = some (v, τ1) ∧ j_Rel σ1 τ1 := by
  obtain ⟨b, hW, hN, hM, hK⟩ := id hR
  by_cases h : y_rg a1 (b 6)
  · obtain ⟨p, hp, rfl⟩ := y_of _ _ h.1 h.2
    have h9 := hW.on0 (Or.inr (Or.inr (Or.inr (Or.inl (by omega : 0 < b 6)))))
    have hq := y_pqv hW hp
    obtain ⟨σ1, e1, e2, e3⟩ := yc_ready hN hW hp
    obtain ⟨τ1, f1, f2, f3⟩ := ym_laid hM hW
    obtain ⟨σ2, g1, g2, g3⟩ := yc_know (n := 0) e2 hW h9 hq (by omega)
    have hb : ∀ n, n ≤ 9 → y_H b (y_u (y_pq b p) 3 n) ≤ 120 := fun n hn => y_H_le hW (y_vq3 hq hn)
    have kc : ∀ m i n z x σ', i + m = 10 → m < n → z < 10 → x < 10 → y_ra σ' b (y_u (y_pq b p) 3 x) → ∃ σ'', p_X11_enough_22 n (nI z) (nI (y_H b (y_u (y_pq b p) 3 z))) (nI i) σ' = some (nI (y_am (fun n => y_H b (y_u (y_pq b p) 3 n)) m i z), σ'') ∧ y_fr 28 34 σ' σ'' := by
      intro m
      induction m with
      | zero =>
        intro i n z x σ' h hn hz hx hr
        obtain ⟨n, rfl⟩ := y_pos hn
        refine ⟨σ', ?_, y_fr.refl⟩
        unfold p_X11_enough_22 y_am; simp (disch := omega) only [y_lit, y_n1, nI_add, pk_mul, j_lt, j_b1_s, j_b2_s, j_b3_s, j_b0_s, y_bo, y_bo1, y_bo0, y_i0, y_i1, Classical.not_not, nI_clamp, y_ix, y_lt, y_le, y_eq, y_nP, y_nPs, y_ltP, y_ltQ, y_ltPP, y_eqP, y_eqQ, y_eqPP, if_pos, if_neg, ite_true, ite_false, not_true_eq_false, not_false_eq_true, and_true, true_and, and_false, false_and, or_true, true_or, or_false, false_or]
      | succ m ih =>
        intro i n z x σ' h hn hz hx hr
        obtain ⟨n, rfl⟩ := y_pos hn
        obtain ⟨σ3, k1, k2, k3⟩ := yc_know (n := i) hr hW h9 (y_vq3 hq (by omega)) (by omega)
        rw [y_uu] at k1 k2
        have b1 := hb i (by omega); have b2 := hb z (by omega)
        unfold p_X11_enough_22 y_am; simp (disch := omega) only [y_lit, y_n1, nI_add, pk_mul, j_lt, j_b1_s, j_b2_s, j_b3_s, j_b0_s, y_bo, y_bo1, y_bo0, y_i0, y_i1, Classical.not_not, nI_clamp, y_ix, y_lt, y_le, y_eq, y_nP, y_nPs, y_ltP, y_ltQ, y_ltPP, y_eqP, y_eqQ, y_eqPP, if_pos, if_neg, ite_true, ite_false, not_true_eq_false, not_false_eq_true, and_true, true_and, and_false, false_and, or_true, true_or, or_false, false_or, k1]
        by_cases c : y_H b (y_u (y_pq b p) 3 z) < y_H b (y_u (y_pq b p) 3 i)
        · obtain ⟨σ4, l1, l2⟩ := ih (i + 1) n i i σ3 (by omega) (by omega) (by omega) (by omega) k2
          simp (disch := omega) only [y_lit, y_n1, nI_add, pk_mul, j_lt, j_b1_s, j_b2_s, j_b3_s, j_b0_s, y_bo, y_bo1, y_bo0, y_i0, y_i1, Classical.not_not, nI_clamp, y_ix, y_lt, y_le, y_eq, y_nP, y_nPs, y_ltP, y_ltQ, y_ltPP, y_eqP, y_eqQ, y_eqPP, if_pos, if_neg, ite_true, ite_false, not_true_eq_false, not_false_eq_true, and_true, true_and, and_false, false_and, or_true, true_or, or_false, false_or]
          exact ⟨σ4, l1, k3.trans l2⟩
        · obtain ⟨σ4, l1, l2⟩ := ih (i + 1) n z i σ3 (by omega) (by omega) (by omega) (by omega) k2
          simp (disch := omega) only [y_lit, y_n1, nI_add, pk_mul, j_lt, j_b1_s, j_b2_s, j_b3_s, j_b0_s, y_bo, y_bo1, y_bo0, y_i0, y_i1, Classical.not_not, nI_clamp, y_ix, y_lt, y_le, y_eq, y_nP, y_nPs, y_ltP, y_ltQ, y_ltPP, y_eqP, y_eqQ, y_eqPP, if_pos, if_neg, ite_true, ite_false, not_true_eq_false, not_false_eq_true, and_true, true_and, and_false, false_and, or_true, true_or, or_false, false_or]
          exact ⟨σ4, l1, k3.trans l2⟩
    have km : ∀ m i n z τ', i + m = 10 → m < n → z < 10 → y_ldy τ' b → ∃ τ'', p_X12_enough_19 (nI p) n (nI z) (nI i) τ' = some (nI (y_am (fun n => y_H b (y_u (y_pq b p) 3 n)) m i z), τ'') ∧ y_fm 18 42 80 93 τ' τ'' := by
      intro m
      induction m with
      | zero =>
        intro i n z τ' h hn hz hr
        obtain ⟨n, rfl⟩ := y_pos hn
        refine ⟨τ', ?_, y_fm.refl⟩
        unfold p_X12_enough_19 y_am; simp (disch := omega) only [y_lit, y_n1, nI_add, pk_mul, j_lt, j_b1_s, j_b2_s, j_b3_s, j_b0_s, y_bo, y_bo1, y_bo0, y_i0, y_i1, Classical.not_not, nI_clamp, y_ix, y_lt, y_le, y_eq, y_nP, y_nPs, y_ltP, y_ltQ, y_ltPP, y_eqP, y_eqQ, y_eqPP, if_pos, if_neg, ite_true, ite_false, not_true_eq_false, not_false_eq_true, and_true, true_and, and_false, false_and, or_true, true_or, or_false, false_or]
      | succ m ih =>
        intro i n z τ' h hn hz hr
        obtain ⟨n, rfl⟩ := y_pos hn
        obtain ⟨τ3, k1, k2, k3⟩ := ym_know (n := i) hr hW hp (by omega)
        obtain ⟨τ4, k4, k5, k6⟩ := ym_know (n := z) k2 hW hp (by omega)
        have b1 := hb i (by omega); have b2 := hb z (by omega)
        unfold p_X12_enough_19 y_am; simp (disch := omega) only [y_lit, y_n1, nI_add, pk_mul, j_lt, j_b1_s, j_b2_s, j_b3_s, j_b0_s, y_bo, y_bo1, y_bo0, y_i0, y_i1, Classical.not_not, nI_clamp, y_ix, y_lt, y_le, y_eq, y_nP, y_nPs, y_ltP, y_ltQ, y_ltPP, y_eqP, y_eqQ, y_eqPP, if_pos, if_neg, ite_true, ite_false, not_true_eq_false, not_false_eq_true, and_true, true_and, and_false, false_and, or_true, true_or, or_false, false_or, k1, k4]
        by_cases c : y_H b (y_u (y_pq b p) 3 z) < y_H b (y_u (y_pq b p) 3 i)
        · obtain ⟨σ4, l1, l2⟩ := ih (i + 1) n i τ4 (by omega) (by omega) (by omega) k5
          simp (disch := omega) only [y_lit, y_n1, nI_add, pk_mul, j_lt, j_b1_s, j_b2_s, j_b3_s, j_b0_s, y_bo, y_bo1, y_bo0, y_i0, y_i1, Classical.not_not, nI_clamp, y_ix, y_lt, y_le, y_eq, y_nP, y_nPs, y_ltP, y_ltQ, y_ltPP, y_eqP, y_eqQ, y_eqPP, if_pos, if_neg, ite_true, ite_false, not_true_eq_false, not_false_eq_true, and_true, true_and, and_false, false_and, or_true, true_or, or_false, false_or]
          exact ⟨σ4, l1, k3.trans (k6.trans l2)⟩
        · obtain ⟨σ4, l1, l2⟩ := ih (i + 1) n z τ4 (by omega) (by omega) (by omega) k5
          simp (disch := omega) only [y_lit, y_n1, nI_add, pk_mul, j_lt, j_b1_s, j_b2_s, j_b3_s, j_b0_s, y_bo, y_bo1, y_bo0, y_i0, y_i1, Classical.not_not, nI_clamp, y_ix, y_lt, y_le, y_eq, y_nP, y_nPs, y_ltP, y_ltQ, y_ltPP, y_eqP, y_eqQ, y_eqPP, if_pos, if_neg, ite_true, ite_false, not_true_eq_false, not_false_eq_true, and_true, true_and, and_false, false_and, or_true, true_or, or_false, false_or]
          exact ⟨σ4, l1, k3.trans (k6.trans l2)⟩
    obtain ⟨σ3, c1, c2⟩ := kc 9 1 j_F 0 0 σ2 (by omega) (y_F (by omega)) (by omega) (by omega) g2
    obtain ⟨τ3, d1, d2⟩ := km 9 1 j_F 0 τ1 (by omega) (y_F (by omega)) (by omega) f2
    refine ⟨nI (y_am (fun n => y_H b (y_u (y_pq b p) 3 n)) 9 1 0), σ3, τ3, ?_, ?_, y_done hR (e3.trans ((g3.trans c2).wide (by omega) (by omega))) (f3.trans d2)⟩
    · unfold f_X11_enough; simp (disch := omega) only [y_lit, y_n1, nI_add, pk_mul, j_lt, j_b1_s, j_b2_s, j_b3_s, j_b0_s, y_bo, y_bo1, y_bo0, y_i0, y_i1, Classical.not_not, nI_clamp, y_ix, y_lt, y_le, y_eq, y_nP, y_nPs, y_ltP, y_ltQ, y_ltPP, y_eqP, y_eqQ, y_eqPP, if_pos, if_neg, ite_true, ite_false, not_true_eq_false, not_false_eq_true, and_true, true_and, and_false, false_and, or_true, true_or, or_false, false_or, e1, g1, c1]
    · unfold f_X12_enough; simp (disch := omega) only [y_lit, y_n1, nI_add, pk_mul, j_lt, j_b1_s, j_b2_s, j_b3_s, j_b0_s, y_bo, y_bo1, y_bo0, y_i0, y_i1, Classical.not_not, nI_clamp, y_ix, y_lt, y_le, y_eq, y_nP, y_nPs, y_ltP, y_ltQ, y_ltPP, y_eqP, y_eqQ, y_eqPP, if_pos, if_neg, ite_true, ite_false, not_true_eq_false, not_false_eq_true, and_true, true_and, and_false, false_and, or_true, true_or, or_false, false_or, ym_isPlayer hM hW, if_pos h, f1, d1]
  · refine ⟨-2, σ, τ, ?_, ?_, hR⟩
    · unfold f_X11_enough; rw [yc_unready hN hW h]; simp (disch := omega) only [y_lit, y_n1, nI_add, pk_mul, j_lt, j_b1_s, j_b2_s, j_b3_s, j_b0_s, y_bo, y_bo1, y_bo0, y_i0, y_i1, Classical.not_not, nI_clamp, y_ix, y_lt, y_le, y_eq, y_nP, y_nPs, y_ltP, y_ltQ, y_ltPP, y_eqP, y_eqQ, y_eqPP, if_pos, if_neg, ite_true, ite_false, not_true_eq_false, not_false_eq_true, and_true, true_and, and_false, false_and, or_true, true_or, or_false, false_or]
    · unfold f_X12_enough; simp (disch := omega) only [y_lit, y_n1, nI_add, pk_mul, j_lt, j_b1_s, j_b2_s, j_b3_s, j_b0_s, y_bo, y_bo1, y_bo0, y_i0, y_i1, Classical.not_not, nI_clamp, y_ix, y_lt, y_le, y_eq, y_nP, y_nPs, y_ltP, y_ltQ, y_ltPP, y_eqP, y_eqQ, y_eqPP, if_pos, if_neg, ite_true, ite_false, not_true_eq_false, not_false_eq_true, and_true, true_and, and_false, false_and, or_true, true_or, or_false, false_or, ym_isPlayer hM hW, h]
theorem z_slack (hR : j_Rel σ τ) (a1 : Int32) : ∃ v σ1 τ1, f_X11_slack a1 σ = some (v, σ1) ∧ f_X12_slack a1 τ = some (v, τ1) ∧ j_Rel σ1 τ1 := by
  obtain ⟨b, hW, hN, hM, hK⟩ := id hR
  by_cases h : y_rg a1 (b 6)
  · obtain ⟨p, hp, rfl⟩ := y_of _ _ h.1 h.2
    have h9 := hW.on0 (Or.inr (Or.inr (Or.inr (Or.inl (by omega : 0 < b 6)))))
    have hq := y_pqv hW hp
    obtain ⟨σ1, e1, e2, e3⟩ := yc_ready hN hW hp
    obtain ⟨τ1, f1, f2, f3⟩ := ym_laid hM hW
    obtain ⟨σ2, g1, g2, g3⟩ := yc_lagg (n := 0) e2 hW h9 hq (by omega)
    obtain ⟨τ2, w1, w2, w3⟩ := ym_lagg (n := 0) f2 hW hp (by omega)
    have hb : ∀ n, n ≤ 40 → y_H b (y_u (y_pq b p) 1 n) ≤ 120 := fun n hn => y_H_le hW (y_vq1 hq hn)
    have both : ∀ m i n z x σ' τ', i + m = 21 → m < n → z < 21 → x < 21 → y_ra σ' b (y_u (y_pq b p) 1 x) → y_ldy τ' b → ∃ v σ'' τ'', p_X11_slack_22 (nI (y_H b (y_u (y_pq b p) 1 0))) n (nI z) (nI i) σ' = some (v, σ'') ∧ y_fr 28 34 σ' σ'' ∧ p_X12_slack_27 (nI p) (nI (y_H b (y_u (y_pq b p) 1 0))) n (nI z) (nI i) τ' = some (v, τ'') ∧ y_fm 18 42 80 93 τ' τ'' := by
      intro m
      induction m with
      | zero =>
        intro i n z x σ' τ' h hn hz hx hr hl
        obtain ⟨n, rfl⟩ := y_pos hn
        refine ⟨nI z, σ', τ', ?_, y_fr.refl, ?_, y_fm.refl⟩
        · unfold p_X11_slack_22; simp (disch := omega) only [y_lit, y_n1, nI_add, pk_mul, j_lt, j_b1_s, j_b2_s, j_b3_s, j_b0_s, y_bo, y_bo1, y_bo0, y_i0, y_i1, Classical.not_not, nI_clamp, y_ix, y_lt, y_le, y_eq, y_nP, y_nPs, y_ltP, y_ltQ, y_ltPP, y_eqP, y_eqQ, y_eqPP, if_pos, if_neg, ite_true, ite_false, not_true_eq_false, not_false_eq_true, and_true, true_and, and_false, false_and, or_true, true_or, or_false, false_or]
        · unfold p_X12_slack_27; simp (disch := omega) only [y_lit, y_n1, nI_add, pk_mul, j_lt, j_b1_s, j_b2_s, j_b3_s, j_b0_s, y_bo, y_bo1, y_bo0, y_i0, y_i1, Classical.not_not, nI_clamp, y_ix, y_lt, y_le, y_eq, y_nP, y_nPs, y_ltP, y_ltQ, y_ltPP, y_eqP, y_eqQ, y_eqPP, if_pos, if_neg, ite_true, ite_false, not_true_eq_false, not_false_eq_true, and_true, true_and, and_false, false_and, or_true, true_or, or_false, false_or]
      | succ m ih =>
        intro i n z x σ' τ' h hn hz hx hr hl
        obtain ⟨n, rfl⟩ := y_pos hn
        obtain ⟨σ3, k1, k2, k3⟩ := yc_lagg (n := i) hr hW h9 (y_vq1 hq (by omega)) (by omega)
        rw [y_uu] at k1 k2
        obtain ⟨τ3, l1, l2, l3⟩ := ym_lagg (n := i) hl hW hp (by omega)
        have b1 := hb i (by omega); have b2 := hb 0 (by omega)
        unfold p_X11_slack_22 p_X12_slack_27; simp (disch := omega) only [y_lit, y_n1, nI_add, pk_mul, j_lt, j_b1_s, j_b2_s, j_b3_s, j_b0_s, y_bo, y_bo1, y_bo0, y_i0, y_i1, Classical.not_not, nI_clamp, y_ix, y_lt, y_le, y_eq, y_nP, y_nPs, y_ltP, y_ltQ, y_ltPP, y_eqP, y_eqQ, y_eqPP, if_pos, if_neg, ite_true, ite_false, not_true_eq_false, not_false_eq_true, and_true, true_and, and_false, false_and, or_true, true_or, or_false, false_or, k1, l1]
        by_cases c : y_H b (y_u (y_pq b p) 1 i) = y_H b (y_u (y_pq b p) 1 0)
        · obtain ⟨v, σ4, τ4, m1, m2, m3, m4⟩ := ih (i + 1) n i i σ3 τ3 (by omega) (by omega) (by omega) (by omega) k2 l2
          simp (disch := omega) only [y_lit, y_n1, nI_add, pk_mul, j_lt, j_b1_s, j_b2_s, j_b3_s, j_b0_s, y_bo, y_bo1, y_bo0, y_i0, y_i1, Classical.not_not, nI_clamp, y_ix, y_lt, y_le, y_eq, y_nP, y_nPs, y_ltP, y_ltQ, y_ltPP, y_eqP, y_eqQ, y_eqPP, if_pos, if_neg, ite_true, ite_false, not_true_eq_false, not_false_eq_true, and_true, true_and, and_false, false_and, or_true, true_or, or_false, false_or]
          exact ⟨v, σ4, τ4, m1, k3.trans m2, m3, l3.trans m4⟩
        · obtain ⟨v, σ4, τ4, m1, m2, m3, m4⟩ := ih (i + 1) n z i σ3 τ3 (by omega) (by omega) (by omega) (by omega) k2 l2
          simp (disch := omega) only [y_lit, y_n1, nI_add, pk_mul, j_lt, j_b1_s, j_b2_s, j_b3_s, j_b0_s, y_bo, y_bo1, y_bo0, y_i0, y_i1, Classical.not_not, nI_clamp, y_ix, y_lt, y_le, y_eq, y_nP, y_nPs, y_ltP, y_ltQ, y_ltPP, y_eqP, y_eqQ, y_eqPP, if_pos, if_neg, ite_true, ite_false, not_true_eq_false, not_false_eq_true, and_true, true_and, and_false, false_and, or_true, true_or, or_false, false_or]
          exact ⟨v, σ4, τ4, m1, k3.trans m2, m3, l3.trans m4⟩
    obtain ⟨v, σ3, τ3, c1, c2, d1, d2⟩ := both 20 1 j_F 0 0 σ2 τ2 (by omega) (y_F (by omega)) (by omega) (by omega) g2 w2
    refine ⟨v, σ3, τ3, ?_, ?_, y_done hR (e3.trans ((g3.trans c2).wide (by omega) (by omega))) (f3.trans (w3.trans d2))⟩
    · unfold f_X11_slack; simp (disch := omega) only [y_lit, y_n1, nI_add, pk_mul, j_lt, j_b1_s, j_b2_s, j_b3_s, j_b0_s, y_bo, y_bo1, y_bo0, y_i0, y_i1, Classical.not_not, nI_clamp, y_ix, y_lt, y_le, y_eq, y_nP, y_nPs, y_ltP, y_ltQ, y_ltPP, y_eqP, y_eqQ, y_eqPP, if_pos, if_neg, ite_true, ite_false, not_true_eq_false, not_false_eq_true, and_true, true_and, and_false, false_and, or_true, true_or, or_false, false_or, e1, g1, c1]
    · unfold f_X12_slack; simp (disch := omega) only [y_lit, y_n1, nI_add, pk_mul, j_lt, j_b1_s, j_b2_s, j_b3_s, j_b0_s, y_bo, y_bo1, y_bo0, y_i0, y_i1, Classical.not_not, nI_clamp, y_ix, y_lt, y_le, y_eq, y_nP, y_nPs, y_ltP, y_ltQ, y_ltPP, y_eqP, y_eqQ, y_eqPP, if_pos, if_neg, ite_true, ite_false, not_true_eq_false, not_false_eq_true, and_true, true_and, and_false, false_and, or_true, true_or, or_false, false_or, ym_isPlayer hM hW, if_pos h, f1, w1, d1]
  · refine ⟨-2, σ, τ, ?_, ?_, hR⟩
    · unfold f_X11_slack; rw [yc_unready hN hW h]; simp (disch := omega) only [y_lit, y_n1, nI_add, pk_mul, j_lt, j_b1_s, j_b2_s, j_b3_s, j_b0_s, y_bo, y_bo1, y_bo0, y_i0, y_i1, Classical.not_not, nI_clamp, y_ix, y_lt, y_le, y_eq, y_nP, y_nPs, y_ltP, y_ltQ, y_ltPP, y_eqP, y_eqQ, y_eqPP, if_pos, if_neg, ite_true, ite_false, not_true_eq_false, not_false_eq_true, and_true, true_and, and_false, false_and, or_true, true_or, or_false, false_or]
    · unfold f_X12_slack; simp (disch := omega) only [y_lit, y_n1, nI_add, pk_mul, j_lt, j_b1_s, j_b2_s, j_b3_s, j_b0_s, y_bo, y_bo1, y_bo0, y_i0, y_i1, Classical.not_not, nI_clamp, y_ix, y_lt, y_le, y_eq, y_nP, y_nPs, y_ltP, y_ltQ, y_ltPP, y_eqP, y_eqQ, y_eqPP, if_pos, if_neg, ite_true, ite_false, not_true_eq_false, not_false_eq_true, and_true, true_and, and_false, false_and, or_true, true_or, or_false, false_or, ym_isPlayer hM hW, h]
theorem z_waits (hR : j_Rel σ τ) (a1 a2 : Int32) : ∃ v σ1 τ1, f_X11_waits a1 a2 σ = some (v, σ1) ∧ f_X12_waits a1 a2 τ = some (v, τ1) ∧ j_Rel σ1 τ1 := by
  obtain ⟨b, hW, hN, hM, hK⟩ := id hR
  have h4 := hW.ho
  by_cases h : y_rg a1 (b 6)
  · by_cases h2 : y_rg a2 2
    · obtain ⟨p, hp, rfl⟩ := y_of _ _ h.1 h.2
      have h9 := hW.on0 (Or.inr (Or.inr (Or.inr (Or.inl (by omega : 0 < b 6)))))
      have ho := hW.on1 h9
      have hq := y_pqv hW hp
      obtain ⟨σ1, e1, e2, e3⟩ := yc_ready hN hW hp
      obtain ⟨τ1, f1, f2, f3⟩ := ym_laid hM hW
      have hb : ∀ n, n < y_ho b → y_H b (y_u (y_pq b p) 4 n) ≤ 120 := fun n hn => y_H_le hW (y_vq4 hq hn)
      have both : ∀ m i n n' z x σ' τ', i + m = y_ho b → m < n → m < n' → z < y_ho b → x < y_ho b → y_ra σ' b (y_u (y_pq b p) 4 x) → y_ldy τ' b → ∃ v σ'' τ'', v < y_ho b ∧ p_X11_waits_28 a2 n (nI z) (nI (y_H b (y_u (y_pq b p) 4 z))) (nI i) σ' = some (nI v, nI (y_H b (y_u (y_pq b p) 4 v)), σ'') ∧ y_fr 28 34 σ' σ'' ∧ p_X12_waits_30 (nI p) a2 n' (nI z) (nI i) τ' = some (nI v, τ'') ∧ y_ldy τ'' b ∧ y_fm 18 42 80 93 τ' τ'' := by
        intro m
        induction m with
        | zero =>
          intro i n n' z x σ' τ' h hn hn' hz hx hr hl
          obtain ⟨n, rfl⟩ := y_pos hn; obtain ⟨n', rfl⟩ := y_pos hn'
          refine ⟨z, σ', τ', hz, ?_, y_fr.refl, ?_, hl, y_fm.refl⟩
          · unfold p_X11_waits_28; simp (disch := omega) only [y_lit, y_n1, nI_add, pk_mul, j_lt, j_b1_s, j_b2_s, j_b3_s, j_b0_s, y_bo, y_bo1, y_bo0, y_i0, y_i1, Classical.not_not, nI_clamp, y_ix, y_lt, y_le, y_eq, y_nP, y_nPs, y_ltP, y_ltQ, y_ltPP, y_eqP, y_eqQ, y_eqPP, if_pos, if_neg, ite_true, ite_false, not_true_eq_false, not_false_eq_true, and_true, true_and, and_false, false_and, or_true, true_or, or_false, false_or, yc_holes hr.1]
          · unfold p_X12_waits_30; simp (disch := omega) only [y_lit, y_n1, nI_add, pk_mul, j_lt, j_b1_s, j_b2_s, j_b3_s, j_b0_s, y_bo, y_bo1, y_bo0, y_i0, y_i1, Classical.not_not, nI_clamp, y_ix, y_lt, y_le, y_eq, y_nP, y_nPs, y_ltP, y_ltQ, y_ltPP, y_eqP, y_eqQ, y_eqPP, if_pos, if_neg, ite_true, ite_false, not_true_eq_false, not_false_eq_true, and_true, true_and, and_false, false_and, or_true, true_or, or_false, false_or, ym_holes hl.1]
        | succ m ih =>
          intro i n n' z x σ' τ' h hn hn' hz hx hr hl
          obtain ⟨n, rfl⟩ := y_pos hn; obtain ⟨n', rfl⟩ := y_pos hn'
          obtain ⟨σ3, k1, k2, k3⟩ := yc_ra (hr.set (k := 4) (n := i)) hW h9 (y_vq4 (y_vq4 hq hx) (by omega))
          rw [y_uu] at k1 k2
          obtain ⟨τ3, l1, l2, l3⟩ := ym_wait (n := i) hl hW hp (by omega)
          obtain ⟨τ4, l4, l5, l6⟩ := ym_wait (n := z) l2 hW hp (by omega)
          have b1 := hb i (by omega); have b2 := hb z (by omega)
          have k3' : y_fr 28 34 σ' σ3 := (y_fr.refl.si (by omega) (by omega)).trans k3
          unfold p_X11_waits_28 p_X12_waits_30; rw [y_m1]; simp (disch := omega) only [y_lit, y_n1, nI_add, pk_mul, j_lt, j_b1_s, j_b2_s, j_b3_s, j_b0_s, y_bo, y_bo1, y_bo0, y_i0, y_i1, Classical.not_not, nI_clamp, y_ix, y_lt, y_le, y_eq, y_nP, y_nPs, y_ltP, y_ltQ, y_ltPP, y_eqP, y_eqQ, y_eqPP, if_pos, if_neg, ite_true, ite_false, not_true_eq_false, not_false_eq_true, and_true, true_and, and_false, false_and, or_true, true_or, or_false, false_or, yc_holes hr.1, ym_holes hl.1, k1, l1, l4]
          by_cases c : y_H b (y_u (y_pq b p) 4 z) < y_H b (y_u (y_pq b p) 4 i)
          · obtain ⟨v, σ4, τ5, m0, m1, m2, m3, m4, m5⟩ := ih (i + 1) n n' i i σ3 τ4 (by omega) (by omega) (by omega) (by omega) (by omega) k2 l5
            simp (disch := omega) only [y_lit, y_n1, nI_add, pk_mul, j_lt, j_b1_s, j_b2_s, j_b3_s, j_b0_s, y_bo, y_bo1, y_bo0, y_i0, y_i1, Classical.not_not, nI_clamp, y_ix, y_lt, y_le, y_eq, y_nP, y_nPs, y_ltP, y_ltQ, y_ltPP, y_eqP, y_eqQ, y_eqPP, if_pos, if_neg, ite_true, ite_false, not_true_eq_false, not_false_eq_true, and_true, true_and, and_false, false_and, or_true, true_or, or_false, false_or]
            exact ⟨v, σ4, τ5, m0, m1, k3'.trans m2, m3, m4, l3.trans (l6.trans m5)⟩
          · obtain ⟨v, σ4, τ5, m0, m1, m2, m3, m4, m5⟩ := ih (i + 1) n n' z i σ3 τ4 (by omega) (by omega) (by omega) (by omega) (by omega) k2 l5
            simp (disch := omega) only [y_lit, y_n1, nI_add, pk_mul, j_lt, j_b1_s, j_b2_s, j_b3_s, j_b0_s, y_bo, y_bo1, y_bo0, y_i0, y_i1, Classical.not_not, nI_clamp, y_ix, y_lt, y_le, y_eq, y_nP, y_nPs, y_ltP, y_ltQ, y_ltPP, y_eqP, y_eqQ, y_eqPP, if_pos, if_neg, ite_true, ite_false, not_true_eq_false, not_false_eq_true, and_true, true_and, and_false, false_and, or_true, true_or, or_false, false_or]
            exact ⟨v, σ4, τ5, m0, m1, k3'.trans m2, m3, m4, l3.trans (l6.trans m5)⟩
      obtain ⟨σ2, k1, k2, k3⟩ := yc_ra ((y_ra_of e2).set (k := 4) (n := 0)) hW h9 (y_vq4 hq (by omega))
      have k3' : y_fr 28 34 σ1 σ2 := (y_fr.refl.si (by omega) (by omega)).trans k3
      obtain ⟨v, σ3, τ3, m0, c1, c2, d1, d2, d3⟩ := both (y_ho b - 1) 1 4999 j_F 0 0 σ2 τ1 (by omega) (by omega) (y_F (by omega)) (by omega) (by omega) k2 f2
      obtain ⟨τ4, l1, l2, l3⟩ := ym_wait (n := v) d2 hW hp (by omega)
      have hr := y_done hR (e3.trans ((k3'.trans c2).wide (by omega) (by omega))) (f3.trans d3)
      have hr2 := y_done hR (e3.trans ((k3'.trans c2).wide (by omega) (by omega))) (f3.trans (d3.trans l3))
      have b0 := hb 0 (by omega)
      have w0 : p_X11_waits_28 a2 j_F (nI 0) (nP 0) (nI 0) σ1 = some (nI v, nI (y_H b (y_u (y_pq b p) 4 v)), σ3) := by
        rw [show j_F = 4999 + 1 from rfl]
        unfold p_X11_waits_28; rw [y_m1]; simp (disch := omega) only [y_lit, y_n1, nI_add, pk_mul, j_lt, j_b1_s, j_b2_s, j_b3_s, j_b0_s, y_bo, y_bo1, y_bo0, y_i0, y_i1, Classical.not_not, nI_clamp, y_ix, y_lt, y_le, y_eq, y_nP, y_nPs, y_ltP, y_ltQ, y_ltPP, y_eqP, y_eqQ, y_eqPP, if_pos, if_neg, ite_true, ite_false, not_true_eq_false, not_false_eq_true, and_true, true_and, and_false, false_and, or_true, true_or, or_false, false_or, yc_holes e2.1, k1]
        exact c1
      by_cases c : a2 = nI 0
      · subst c
        refine ⟨nI v, σ3, τ3, ?_, ?_, hr⟩
        · unfold f_X11_waits; simp (disch := omega) only [y_lit, y_n1, nI_add, pk_mul, j_lt, j_b1_s, j_b2_s, j_b3_s, j_b0_s, y_bo, y_bo1, y_bo0, y_i0, y_i1, Classical.not_not, nI_clamp, y_ix, y_lt, y_le, y_eq, y_nP, y_nPs, y_ltP, y_ltQ, y_ltPP, y_eqP, y_eqQ, y_eqPP, if_pos, if_neg, ite_true, ite_false, not_true_eq_false, not_false_eq_true, and_true, true_and, and_false, false_and, or_true, true_or, or_false, false_or, e1, w0]
        · unfold f_X12_waits; simp (disch := omega) only [y_lit, y_n1, nI_add, pk_mul, j_lt, j_b1_s, j_b2_s, j_b3_s, j_b0_s, y_bo, y_bo1, y_bo0, y_i0, y_i1, Classical.not_not, nI_clamp, y_ix, y_lt, y_le, y_eq, y_nP, y_nPs, y_ltP, y_ltQ, y_ltPP, y_eqP, y_eqQ, y_eqPP, if_pos, if_neg, ite_true, ite_false, not_true_eq_false, not_false_eq_true, and_true, true_and, and_false, false_and, or_true, true_or, or_false, false_or, ym_isPlayer hM hW, if_pos h, y_lit64, y_in, f1, d1]
      · refine ⟨nI (y_H b (y_u (y_pq b p) 4 v)), σ3, τ4, ?_, ?_, hr2⟩
        · unfold f_X11_waits; simp (disch := omega) only [y_lit, y_n1, nI_add, pk_mul, j_lt, j_b1_s, j_b2_s, j_b3_s, j_b0_s, y_bo, y_bo1, y_bo0, y_i0, y_i1, Classical.not_not, nI_clamp, y_ix, y_lt, y_le, y_eq, y_nP, y_nPs, y_ltP, y_ltQ, y_ltPP, y_eqP, y_eqQ, y_eqPP, if_pos, if_neg, ite_true, ite_false, not_true_eq_false, not_false_eq_true, and_true, true_and, and_false, false_and, or_true, true_or, or_false, false_or, y_c3, h2, e1, w0, c]
        · unfold f_X12_waits; simp (disch := omega) only [y_lit, y_n1, nI_add, pk_mul, j_lt, j_b1_s, j_b2_s, j_b3_s, j_b0_s, y_bo, y_bo1, y_bo0, y_i0, y_i1, Classical.not_not, nI_clamp, y_ix, y_lt, y_le, y_eq, y_nP, y_nPs, y_ltP, y_ltQ, y_ltPP, y_eqP, y_eqQ, y_eqPP, if_pos, if_neg, ite_true, ite_false, not_true_eq_false, not_false_eq_true, and_true, true_and, and_false, false_and, or_true, true_or, or_false, false_or, ym_isPlayer hM hW, if_pos h, y_lit64, y_in, y_c3, h2, f1, d1, c, l1]
    · refine ⟨-2, σ, τ, ?_, ?_, hR⟩
      · unfold f_X11_waits; simp (disch := omega) only [y_lit, y_n1, nI_add, pk_mul, j_lt, j_b1_s, j_b2_s, j_b3_s, j_b0_s, y_bo, y_bo1, y_bo0, y_i0, y_i1, Classical.not_not, nI_clamp, y_ix, y_lt, y_le, y_eq, y_nP, y_nPs, y_ltP, y_ltQ, y_ltPP, y_eqP, y_eqQ, y_eqPP, if_pos, if_neg, ite_true, ite_false, not_true_eq_false, not_false_eq_true, and_true, true_and, and_false, false_and, or_true, true_or, or_false, false_or, y_c3, h2]
      · unfold f_X12_waits; simp (disch := omega) only [y_lit, y_n1, nI_add, pk_mul, j_lt, j_b1_s, j_b2_s, j_b3_s, j_b0_s, y_bo, y_bo1, y_bo0, y_i0, y_i1, Classical.not_not, nI_clamp, y_ix, y_lt, y_le, y_eq, y_nP, y_nPs, y_ltP, y_ltQ, y_ltPP, y_eqP, y_eqQ, y_eqPP, if_pos, if_neg, ite_true, ite_false, not_true_eq_false, not_false_eq_true, and_true, true_and, and_false, false_and, or_true, true_or, or_false, false_or, ym_isPlayer hM hW, y_lit64, y_in, y_c3, h2]
  · refine ⟨-2, σ, τ, ?_, ?_, hR⟩
    · unfold f_X11_waits; rw [yc_unready hN hW h]; simp (disch := omega) only [y_lit, y_n1, nI_add, pk_mul, j_lt, j_b1_s, j_b2_s, j_b3_s, j_b0_s, y_bo, y_bo1, y_bo0, y_i0, y_i1, Classical.not_not, nI_clamp, y_ix, y_lt, y_le, y_eq, y_nP, y_nPs, y_ltP, y_ltQ, y_ltPP, y_eqP, y_eqQ, y_eqPP, if_pos, if_neg, ite_true, ite_false, not_true_eq_false, not_false_eq_true, and_true, true_and, and_false, false_and, or_true, true_or, or_false, false_or]
      split <;> rfl
    · unfold f_X12_waits; simp (disch := omega) only [y_lit, y_n1, nI_add, pk_mul, j_lt, j_b1_s, j_b2_s, j_b3_s, j_b0_s, y_bo, y_bo1, y_bo0, y_i0, y_i1, Classical.not_not, nI_clamp, y_ix, y_lt, y_le, y_eq, y_nP, y_nPs, y_ltP, y_ltQ, y_ltPP, y_eqP, y_eqQ, y_eqPP, if_pos, if_neg, ite_true, ite_false, not_true_eq_false, not_false_eq_true, and_true, true_and, and_false, false_and, or_true, true_or, or_false, false_or, ym_isPlayer hM hW, h]
end Z
