/-! ===== drawn, night, years, lucky ===== -/
def y_NH (b : Nat → Nat) (l x : Nat) (q : Nat → Nat) : Nat := y_run b (y_nig b l x).2 q y_k1 0 (y_nig b l x).1 0
section C
variable {σ τ : j_G} {b q : Nat → Nat} {l x p : Nat}
theorem yc_isSeed {x : Int32} : f_X11_isSeed x = if y_rg x 2000000001 then nI 1 else nI 0 := by
  unfold f_X11_isSeed; simp only [y_lit]; simp (disch := omega) only [y_c3]
theorem ym_isSeed {x : Int32} : f_X12_isSeed x = if y_rg x 2000000001 then nI 1 else nI 0 := by
  unfold f_X12_isSeed; simp (disch := omega) only [y_lit, y_n1, nI_add, pk_mul, j_lt, j_b1_s, j_b2_s, j_b3_s, j_b0_s, y_bo, y_bo1, y_bo0, y_i0, y_i1, Classical.not_not, nI_clamp, y_ix, y_lt, y_le, y_eq, y_nP, y_nPs, y_ltP, y_ltQ, y_ltPP, y_eqP, y_eqQ, y_eqPP, if_pos, if_neg, ite_true, ite_false, not_true_eq_false, not_false_eq_true, and_true, true_and, and_false, false_and, or_true, true_or, or_false, false_or, y_lit64, y_in, y_c3]
theorem y_NH_le (hW : y_W b) (hq : y_vq b q) : y_NH b l x q ≤ 120 := (y_run_br hW (y_nig_vg hW l x) hq).1
theorem yc_nightH (hN : y_N σ b) (hp : y_cp σ 28 q) (hW : y_W b) (h9 : 0 < b 9) (hq : y_vq b q) (hl : l < 4) (hx : x < 2147483648) : ∃ σ1 σ2, f_X4_draw (nI x) (nI l) σ = some σ1 ∧ f_X9_good 30 28 22 31 32 25 23 24 26 33 34 (nP 0) σ1 = some (nI (y_NH b l x q), σ2) ∧ y_N σ2 b ∧ y_cp σ2 28 q ∧ y_fr 22 41 σ σ2 := by
  obtain ⟨σ1, e1, e2, e3⟩ := yc_draw hN hW h9 hl hx
  have hN1 := hN.fr e3 (by omega)
  have hp1 := hp.fr e3 (by omega)
  obtain ⟨σ2, f1, f2, f3⟩ := yc_good hN1 hW h9 e2 (y_nig_vg hW l x) hp1 (by omega) hq y_mkC
  exact ⟨σ1, σ2, e1, f1, hN1.fr f3 (by omega), hp1.fr f3 (by omega), (e3.wide (by omega) (by omega)).trans (f3.wide (by omega) (by omega))⟩
theorem ym_nightH (hM : y_M τ b) (hW : y_W b) (hp : p < b 6) (hl : l < 4) (hx : x < 2147483648) : ∃ τ', f_X12_nightOf (lN x) (nI l) (nI p) τ = some (nI (y_NH b l x (y_pq b p)), τ') ∧ y_M τ' b ∧ y_fm 18 42 80 93 τ τ' := by
  have h9 := hW.on0 (Or.inr (Or.inr (Or.inr (Or.inl (by omega : 0 < b 6)))))
  obtain ⟨τ1, e1, e2, e3⟩ := ym_night hM hW h9 hl hx
  have hM1 := hM.fr e3 (by omega)
  obtain ⟨τ2, g1, g2, g3, g4, g5⟩ := ym_told hM1 hW hp
  have hM2 := hM1.fr g5 (by omega)
  have hg2 : y_mg τ2 b (y_nig b l x).1 (y_nig b l x).2 := by
    unfold y_mg at *
    rw [(g5.2 82 (by omega) (by omega)).1, (g5.2 83 (by omega) (by omega)).1, (g5.2 84 (by omega) (by omega)).1, g5.1 18 (by omega)]
    exact e2
  obtain ⟨τ3, k1, k2, k3⟩ := ym_run (k := y_k1) (red := 0) hM2 hW h9 hg2 (y_nig_vg hW l x) g2 (y_pqv hW hp) (by rw [g3]; exact y_mkM) (by omega) g4
  unfold f_X12_nightOf
  rw [e1, j_b1_s, g1, j_b1_s, k1]
  refine ⟨τ3, by rw [j_b1_s, k2.1.1]; rfl, hM2.fr k3 (by omega), (e3.wide (by omega) (by omega) (by omega) (by omega)).trans ((g5.wide (by omega) (by omega) (by omega) (by omega)).trans (k3.wide (by omega) (by omega) (by omega) (by omega)))⟩
end C
section Z
variable {σ τ : j_G}
theorem z_drawn (hR : j_Rel σ τ) (a1 a2 a3 : Int32) : ∃ v σ1 τ1, f_X11_drawn a1 a2 a3 σ = some (v, σ1) ∧ f_X12_drawn a1 a2 a3 τ = some (v, τ1) ∧ j_Rel σ1 τ1 := by
  obtain ⟨b, hW, hN, hM, hK⟩ := id hR
  by_cases h9 : 0 < b 9
  · by_cases h : y_rg a1 2000000001
    · by_cases h2 : y_rg a2 4
      · obtain ⟨x, hx, rfl⟩ := y_of _ _ h.1 h.2
        obtain ⟨l, hl, rfl⟩ := y_of _ _ h2.1 h2.2
        obtain ⟨σ1, e1, e2, e3⟩ := yc_draw (x := x) hN hW h9 hl (by omega)
        obtain ⟨τ1, f1, f2, f3⟩ := ym_night (x := x) hM hW h9 hl (by omega)
        have hv := y_nig_vg hW l x
        have hr := y_done hR (e3.wide (by omega) (by omega)) (f3.wide (by omega) (by omega) (by omega) (by omega))
        generalize y_nig b l x = P at *
        have hs := hv.1
        by_cases h3 : y_rg a3 P.1
        · obtain ⟨i, hi, rfl⟩ := y_of _ _ h3.1 h3.2
          have c := e2.2 i hi
          have m := f2.2 i hi
          refine ⟨nI (P.2 (3 * i)), σ1, τ1, ?_, ?_, hr⟩
          · unfold f_X11_drawn; simp (disch := omega) only [y_lit, y_n1, nI_add, pk_mul, j_lt, j_b1_s, j_b2_s, j_b3_s, j_b0_s, y_bo, y_bo1, y_bo0, y_i0, y_i1, Classical.not_not, nI_clamp, y_ix, y_lt, y_le, y_eq, y_nP, y_nPs, y_ltP, y_ltQ, y_ltPP, y_eqP, y_eqQ, y_eqPP, if_pos, if_neg, ite_true, ite_false, not_true_eq_false, not_false_eq_true, and_true, true_and, and_false, false_and, or_true, true_or, or_false, false_or, yc_isTold hN hW, yc_isSeed, yc_isLaw, y_rn, e1, yc_ghas e2 hs, c]
          · unfold f_X12_drawn f_X12_inGame; simp (disch := omega) only [y_lit, y_n1, nI_add, pk_mul, j_lt, j_b1_s, j_b2_s, j_b3_s, j_b0_s, y_bo, y_bo1, y_bo0, y_i0, y_i1, Classical.not_not, nI_clamp, y_ix, y_lt, y_le, y_eq, y_nP, y_nPs, y_ltP, y_ltQ, y_ltPP, y_eqP, y_eqQ, y_eqPP, if_pos, if_neg, ite_true, ite_false, not_true_eq_false, not_false_eq_true, and_true, true_and, and_false, false_and, or_true, true_or, or_false, false_or, ym_isBoard hM hW, ym_isSeed, ym_isLaw, y_rn, nI_l, f1, ym_ing f2.1 hs, m, Nat.add_zero]
        · refine ⟨-1, σ1, τ1, ?_, ?_, hr⟩
          · unfold f_X11_drawn; simp (disch := omega) only [y_lit, y_n1, nI_add, pk_mul, j_lt, j_b1_s, j_b2_s, j_b3_s, j_b0_s, y_bo, y_bo1, y_bo0, y_i0, y_i1, Classical.not_not, nI_clamp, y_ix, y_lt, y_le, y_eq, y_nP, y_nPs, y_ltP, y_ltQ, y_ltPP, y_eqP, y_eqQ, y_eqPP, if_pos, if_neg, ite_true, ite_false, not_true_eq_false, not_false_eq_true, and_true, true_and, and_false, false_and, or_true, true_or, or_false, false_or, yc_isTold hN hW, yc_isSeed, yc_isLaw, y_rn, e1, yc_ghas e2 hs, h3]
          · unfold f_X12_drawn; simp (disch := omega) only [y_lit, y_n1, nI_add, pk_mul, j_lt, j_b1_s, j_b2_s, j_b3_s, j_b0_s, y_bo, y_bo1, y_bo0, y_i0, y_i1, Classical.not_not, nI_clamp, y_ix, y_lt, y_le, y_eq, y_nP, y_nPs, y_ltP, y_ltQ, y_ltPP, y_eqP, y_eqQ, y_eqPP, if_pos, if_neg, ite_true, ite_false, not_true_eq_false, not_false_eq_true, and_true, true_and, and_false, false_and, or_true, true_or, or_false, false_or, ym_isBoard hM hW, ym_isSeed, ym_isLaw, y_rn, nI_l, f1, ym_ing f2.1 hs, h3]
      · refine ⟨-2, σ, τ, ?_, ?_, hR⟩
        · unfold f_X11_drawn; simp (disch := omega) only [y_lit, y_n1, nI_add, pk_mul, j_lt, j_b1_s, j_b2_s, j_b3_s, j_b0_s, y_bo, y_bo1, y_bo0, y_i0, y_i1, Classical.not_not, nI_clamp, y_ix, y_lt, y_le, y_eq, y_nP, y_nPs, y_ltP, y_ltQ, y_ltPP, y_eqP, y_eqQ, y_eqPP, if_pos, if_neg, ite_true, ite_false, not_true_eq_false, not_false_eq_true, and_true, true_and, and_false, false_and, or_true, true_or, or_false, false_or, yc_isTold hN hW, yc_isSeed, yc_isLaw, h, h2]
        · unfold f_X12_drawn; simp (disch := omega) only [y_lit, y_n1, nI_add, pk_mul, j_lt, j_b1_s, j_b2_s, j_b3_s, j_b0_s, y_bo, y_bo1, y_bo0, y_i0, y_i1, Classical.not_not, nI_clamp, y_ix, y_lt, y_le, y_eq, y_nP, y_nPs, y_ltP, y_ltQ, y_ltPP, y_eqP, y_eqQ, y_eqPP, if_pos, if_neg, ite_true, ite_false, not_true_eq_false, not_false_eq_true, and_true, true_and, and_false, false_and, or_true, true_or, or_false, false_or, ym_isBoard hM hW, ym_isSeed, ym_isLaw, h, h2]
    · refine ⟨-2, σ, τ, ?_, ?_, hR⟩
      · unfold f_X11_drawn; simp (disch := omega) only [y_lit, y_n1, nI_add, pk_mul, j_lt, j_b1_s, j_b2_s, j_b3_s, j_b0_s, y_bo, y_bo1, y_bo0, y_i0, y_i1, Classical.not_not, nI_clamp, y_ix, y_lt, y_le, y_eq, y_nP, y_nPs, y_ltP, y_ltQ, y_ltPP, y_eqP, y_eqQ, y_eqPP, if_pos, if_neg, ite_true, ite_false, not_true_eq_false, not_false_eq_true, and_true, true_and, and_false, false_and, or_true, true_or, or_false, false_or, yc_isTold hN hW, yc_isSeed, h]
      · unfold f_X12_drawn; simp (disch := omega) only [y_lit, y_n1, nI_add, pk_mul, j_lt, j_b1_s, j_b2_s, j_b3_s, j_b0_s, y_bo, y_bo1, y_bo0, y_i0, y_i1, Classical.not_not, nI_clamp, y_ix, y_lt, y_le, y_eq, y_nP, y_nPs, y_ltP, y_ltQ, y_ltPP, y_eqP, y_eqQ, y_eqPP, if_pos, if_neg, ite_true, ite_false, not_true_eq_false, not_false_eq_true, and_true, true_and, and_false, false_and, or_true, true_or, or_false, false_or, ym_isBoard hM hW, ym_isSeed, h]
  · refine ⟨-2, σ, τ, ?_, ?_, hR⟩
    · unfold f_X11_drawn; simp (disch := omega) only [y_lit, y_n1, nI_add, pk_mul, j_lt, j_b1_s, j_b2_s, j_b3_s, j_b0_s, y_bo, y_bo1, y_bo0, y_i0, y_i1, Classical.not_not, nI_clamp, y_ix, y_lt, y_le, y_eq, y_nP, y_nPs, y_ltP, y_ltQ, y_ltPP, y_eqP, y_eqQ, y_eqPP, if_pos, if_neg, ite_true, ite_false, not_true_eq_false, not_false_eq_true, and_true, true_and, and_false, false_and, or_true, true_or, or_false, false_or, yc_isTold hN hW]
    · unfold f_X12_drawn; simp (disch := omega) only [y_lit, y_n1, nI_add, pk_mul, j_lt, j_b1_s, j_b2_s, j_b3_s, j_b0_s, y_bo, y_bo1, y_bo0, y_i0, y_i1, Classical.not_not, nI_clamp, y_ix, y_lt, y_le, y_eq, y_nP, y_nPs, y_ltP, y_ltQ, y_ltPP, y_eqP, y_eqQ, y_eqPP, if_pos, if_neg, ite_true, ite_false, not_true_eq_false, not_false_eq_true, and_true, true_and, and_false, false_and, or_true, true_or, or_false, false_or, ym_isBoard hM hW]
theorem y_years {b : Nat → Nat} {x l p k : Nat} (hW : y_W b) (hp : p < b 6) (hl : l < 4) (hx : x ≤ 2000000000) (hk : k ≤ 20) : ∀ m i n v σ τ, i + m = k → m < n → v ≤ 120 * i → y_N σ b → y_cp σ 28 (y_pq b p) → y_M τ b → ∃ w σ1 τ1, p_X11_years_59 (nI x) (nI k) (nI l) n (nI v) (nI i) σ = some (w, σ1) ∧ p_X12_years_44 (nI x) (nI k) (nI l) (nI p) n (nI v) (nI i) τ = some (w, τ1) ∧ y_fr 22 41 σ σ1 ∧ y_fm 18 42 80 93 τ τ1 := by
  have h9 := hW.on0 (Or.inr (Or.inr (Or.inr (Or.inl (by omega : 0 < b 6)))))
  have hq := y_pqv hW hp
  intro m
  induction m with
  | zero =>
    intro i n v σ τ h hn hv hN hc hM
    obtain ⟨n, rfl⟩ := y_pos hn
    refine ⟨nI v, σ, τ, ?_, ?_, y_fr.refl, y_fm.refl⟩
    · unfold p_X11_years_59; simp (disch := omega) only [y_lit, y_n1, nI_add, pk_mul, j_lt, j_b1_s, j_b2_s, j_b3_s, j_b0_s, y_bo, y_bo1, y_bo0, y_i0, y_i1, Classical.not_not, nI_clamp, y_ix, y_lt, y_le, y_eq, y_nP, y_nPs, y_ltP, y_ltQ, y_ltPP, y_eqP, y_eqQ, y_eqPP, if_pos, if_neg, ite_true, ite_false, not_true_eq_false, not_false_eq_true, and_true, true_and, and_false, false_and, or_true, true_or, or_false, false_or]
    · unfold p_X12_years_44; simp (disch := omega) only [y_lit, y_n1, nI_add, pk_mul, j_lt, j_b1_s, j_b2_s, j_b3_s, j_b0_s, y_bo, y_bo1, y_bo0, y_i0, y_i1, Classical.not_not, nI_clamp, y_ix, y_lt, y_le, y_eq, y_nP, y_nPs, y_ltP, y_ltQ, y_ltPP, y_eqP, y_eqQ, y_eqPP, if_pos, if_neg, ite_true, ite_false, not_true_eq_false, not_false_eq_true, and_true, true_and, and_false, false_and, or_true, true_or, or_false, false_or]
  | succ m ih =>
    intro i n v σ τ h hn hv hN hc hM
    obtain ⟨n, rfl⟩ := y_pos hn
    obtain ⟨σ1, σ2, e1, e2, e3, e4, e5⟩ := yc_nightH (x := x + i) hN hc hW h9 hq hl (by omega)
    obtain ⟨τ2, f1, f2, f3⟩ := ym_nightH (x := x + i) hM hW hp hl (by omega)
    have le := y_NH_le (l := l) (x := x + i) hW hq
    have eL : (nI x).toInt64 + (nI i).toInt64 = lN (x + i) := by rw [nI_l (by omega), nI_l (by omega), lN_add]
    obtain ⟨w, σ3, τ3, g1, g2, g3, g4⟩ := ih (i + 1) n (v + y_NH b l (x + i) (y_pq b p)) σ2 τ2 (by omega) (by omega) (by omega) e3 e4 f2
    refine ⟨w, σ3, τ3, ?_, ?_, e5.trans g3, f3.trans g4⟩
    · unfold p_X11_years_59; simp (disch := omega) only [y_lit, y_n1, nI_add, pk_mul, j_lt, j_b1_s, j_b2_s, j_b3_s, j_b0_s, y_bo, y_bo1, y_bo0, y_i0, y_i1, Classical.not_not, nI_clamp, y_ix, y_lt, y_le, y_eq, y_nP, y_nPs, y_ltP, y_ltQ, y_ltPP, y_eqP, y_eqQ, y_eqPP, if_pos, if_neg, ite_true, ite_false, not_true_eq_false, not_false_eq_true, and_true, true_and, and_false, false_and, or_true, true_or, or_false, false_or, e1, e2, g1]
    · unfold p_X12_years_44; simp (disch := omega) only [y_lit, y_n1, nI_add, pk_mul, j_lt, j_b1_s, j_b2_s, j_b3_s, j_b0_s, y_bo, y_bo1, y_bo0, y_i0, y_i1, Classical.not_not, nI_clamp, y_ix, y_lt, y_le, y_eq, y_nP, y_nPs, y_ltP, y_ltQ, y_ltPP, y_eqP, y_eqQ, y_eqPP, if_pos, if_neg, ite_true, ite_false, not_true_eq_false, not_false_eq_true, and_true, true_and, and_false, false_and, or_true, true_or, or_false, false_or, eL, f1, g2]
theorem z_years (hR : j_Rel σ τ) (a1 a2 a3 a4 : Int32) : ∃ v σ1 τ1, f_X11_years a1 a2 a3 a4 σ = some (v, σ1) ∧ f_X12_years a1 a2 a3 a4 τ = some (v, τ1) ∧ j_Rel σ1 τ1 := by
  obtain ⟨b, hW, hN, hM, hK⟩ := id hR
  have c20 : ∀ x : Int32, (x < nI 1 ∨ nI 20 < x) ↔ ¬ (1 ≤ x.toInt ∧ x.toInt ≤ 20) := fun x => by
    rw [j_ltI, j_ltI, nI_toInt (by omega), nI_toInt (by omega)]; omega
  have d20 : ∀ x : Int32, (¬ x < nI 1 ∧ ¬ nI 20 < x) ↔ (1 ≤ x.toInt ∧ x.toInt ≤ 20) := fun x => by
    rw [j_ltI, j_ltI, nI_toInt (by omega), nI_toInt (by omega)]; omega
  by_cases h : y_rg a1 2000000001
  · by_cases h2 : 1 ≤ a2.toInt ∧ a2.toInt ≤ 20
    · by_cases h3 : y_rg a3 4
      · by_cases h4 : y_rg a4 (b 6)
        · obtain ⟨x, hx, rfl⟩ := y_of _ _ h.1 h.2
          obtain ⟨k, hk, rfl⟩ := y_of a2 21 (by omega) (by omega)
          obtain ⟨l, hl, rfl⟩ := y_of _ _ h3.1 h3.2
          obtain ⟨p, hp, rfl⟩ := y_of _ _ h4.1 h4.2
          rw [nI_toInt (by omega)] at h2
          obtain ⟨σ1, e1, e2, e3⟩ := yc_take (a := 28) hN hW hp (by omega)
          obtain ⟨w, σ2, τ2, g1, g2, g3, g4⟩ := y_years (x := x) (k := k) hW hp hl (by omega) (by omega) k 0 j_F 0 σ1 τ (by omega) (y_F (by omega)) (by omega) (hN.fr e3 (by omega)) e2 hM
          refine ⟨w, σ2, τ2, ?_, ?_, y_done hR ((e3.wide (by omega) (by omega)).trans g3) g4⟩
          · unfold f_X11_years; simp (disch := omega) only [y_lit, y_n1, nI_add, pk_mul, j_lt, j_b1_s, j_b2_s, j_b3_s, j_b0_s, y_bo, y_bo1, y_bo0, y_i0, y_i1, Classical.not_not, nI_clamp, y_ix, y_lt, y_le, y_eq, y_nP, y_nPs, y_ltP, y_ltQ, y_ltPP, y_eqP, y_eqQ, y_eqPP, if_pos, if_neg, ite_true, ite_false, not_true_eq_false, not_false_eq_true, and_true, true_and, and_false, false_and, or_true, true_or, or_false, false_or, yc_isSeed, yc_isLaw, yc_isPlayer hN hW, y_rn, e1, g1]
          · unfold f_X12_years; simp (disch := omega) only [y_lit, y_n1, nI_add, pk_mul, j_lt, j_b1_s, j_b2_s, j_b3_s, j_b0_s, y_bo, y_bo1, y_bo0, y_i0, y_i1, Classical.not_not, nI_clamp, y_ix, y_lt, y_le, y_eq, y_nP, y_nPs, y_ltP, y_ltQ, y_ltPP, y_eqP, y_eqQ, y_eqPP, if_pos, if_neg, ite_true, ite_false, not_true_eq_false, not_false_eq_true, and_true, true_and, and_false, false_and, or_true, true_or, or_false, false_or, ym_isSeed, ym_isLaw, ym_isPlayer hM hW, y_rn, y_lit64, y_in, g2]
        · refine ⟨-2, σ, τ, ?_, ?_, hR⟩
          · unfold f_X11_years; simp (disch := omega) only [y_lit, y_n1, nI_add, pk_mul, j_lt, j_b1_s, j_b2_s, j_b3_s, j_b0_s, y_bo, y_bo1, y_bo0, y_i0, y_i1, Classical.not_not, nI_clamp, y_ix, y_lt, y_le, y_eq, y_nP, y_nPs, y_ltP, y_ltQ, y_ltPP, y_eqP, y_eqQ, y_eqPP, if_pos, if_neg, ite_true, ite_false, not_true_eq_false, not_false_eq_true, and_true, true_and, and_false, false_and, or_true, true_or, or_false, false_or, yc_isSeed, yc_isLaw, yc_isPlayer hN hW, h4]
          · unfold f_X12_years; simp (disch := omega) only [y_lit, y_n1, nI_add, pk_mul, j_lt, j_b1_s, j_b2_s, j_b3_s, j_b0_s, y_bo, y_bo1, y_bo0, y_i0, y_i1, Classical.not_not, nI_clamp, y_ix, y_lt, y_le, y_eq, y_nP, y_nPs, y_ltP, y_ltQ, y_ltPP, y_eqP, y_eqQ, y_eqPP, if_pos, if_neg, ite_true, ite_false, not_true_eq_false, not_false_eq_true, and_true, true_and, and_false, false_and, or_true, true_or, or_false, false_or, ym_isSeed, ym_isLaw, ym_isPlayer hM hW, y_lit64, y_in, d20, h, h2, h3, h4]
      · refine ⟨-2, σ, τ, ?_, ?_, hR⟩
        · unfold f_X11_years; simp (disch := omega) only [y_lit, y_n1, nI_add, pk_mul, j_lt, j_b1_s, j_b2_s, j_b3_s, j_b0_s, y_bo, y_bo1, y_bo0, y_i0, y_i1, Classical.not_not, nI_clamp, y_ix, y_lt, y_le, y_eq, y_nP, y_nPs, y_ltP, y_ltQ, y_ltPP, y_eqP, y_eqQ, y_eqPP, if_pos, if_neg, ite_true, ite_false, not_true_eq_false, not_false_eq_true, and_true, true_and, and_false, false_and, or_true, true_or, or_false, false_or, yc_isSeed, yc_isLaw, h3]
        · unfold f_X12_years; simp (disch := omega) only [y_lit, y_n1, nI_add, pk_mul, j_lt, j_b1_s, j_b2_s, j_b3_s, j_b0_s, y_bo, y_bo1, y_bo0, y_i0, y_i1, Classical.not_not, nI_clamp, y_ix, y_lt, y_le, y_eq, y_nP, y_nPs, y_ltP, y_ltQ, y_ltPP, y_eqP, y_eqQ, y_eqPP, if_pos, if_neg, ite_true, ite_false, not_true_eq_false, not_false_eq_true, and_true, true_and, and_false, false_and, or_true, true_or, or_false, false_or, ym_isSeed, ym_isLaw, h3]
    · refine ⟨-2, σ, τ, ?_, ?_, hR⟩
      · have q := (c20 a2).mpr h2
        unfold f_X11_years
        rw [if_pos]
        rcases q with q | q
        · exact Or.inr (Or.inl q)
        · exact Or.inr (Or.inr (Or.inl q))
      · unfold f_X12_years; simp (disch := omega) only [y_lit, y_n1, nI_add, pk_mul, j_lt, j_b1_s, j_b2_s, j_b3_s, j_b0_s, y_bo, y_bo1, y_bo0, y_i0, y_i1, Classical.not_not, nI_clamp, y_ix, y_lt, y_le, y_eq, y_nP, y_nPs, y_ltP, y_ltQ, y_ltPP, y_eqP, y_eqQ, y_eqPP, if_pos, if_neg, ite_true, ite_false, not_true_eq_false, not_false_eq_true, and_true, true_and, and_false, false_and, or_true, true_or, or_false, false_or, ym_isSeed, ym_isLaw, y_lit64, y_in, d20, h2]
  · refine ⟨-2, σ, τ, ?_, ?_, hR⟩
    · unfold f_X11_years; simp (disch := omega) only [y_lit, y_n1, nI_add, pk_mul, j_lt, j_b1_s, j_b2_s, j_b3_s, j_b0_s, y_bo, y_bo1, y_bo0, y_i0, y_i1, Classical.not_not, nI_clamp, y_ix, y_lt, y_le, y_eq, y_nP, y_nPs, y_ltP, y_ltQ, y_ltPP, y_eqP, y_eqQ, y_eqPP, if_pos, if_neg, ite_true, ite_false, not_true_eq_false, not_false_eq_true, and_true, true_and, and_false, false_and, or_true, true_or, or_false, false_or, yc_isSeed, h]
    · unfold f_X12_years; simp (disch := omega) only [y_lit, y_n1, nI_add, pk_mul, j_lt, j_b1_s, j_b2_s, j_b3_s, j_b0_s, y_bo, y_bo1, y_bo0, y_i0, y_i1, Classical.not_not, nI_clamp, y_ix, y_lt, y_le, y_eq, y_nP, y_nPs, y_ltP, y_ltQ, y_ltPP, y_eqP, y_eqQ, y_eqPP, if_pos, if_neg, ite_true, ite_false, not_true_eq_false, not_false_eq_true, and_true, true_and, and_false, false_and, or_true, true_or, or_false, false_or, ym_isSeed, h]
theorem z_night (hR : j_Rel σ τ) (a1 a2 a3 : Int32) : ∃ v σ1 τ1, f_X11_night a1 a2 a3 σ = some (v, σ1) ∧ f_X12_night a1 a2 a3 τ = some (v, τ1) ∧ j_Rel σ1 τ1 := by
  obtain ⟨b, hW, hN, hM, hK⟩ := id hR
  by_cases h : y_rg a1 2000000001
  · by_cases h3 : y_rg a2 4
    · by_cases h4 : y_rg a3 (b 6)
      · obtain ⟨x, hx, rfl⟩ := y_of _ _ h.1 h.2
        obtain ⟨l, hl, rfl⟩ := y_of _ _ h3.1 h3.2
        obtain ⟨p, hp, rfl⟩ := y_of _ _ h4.1 h4.2
        have h9 := hW.on0 (Or.inr (Or.inr (Or.inr (Or.inl (by omega : 0 < b 6)))))
        have hq := y_pqv hW hp
        obtain ⟨σ1, e1, e2, e3⟩ := yc_take (a := 28) hN hW hp (by omega)
        obtain ⟨σ2, σ3, c1, c2, c3, c4, c5⟩ := yc_nightH (x := x) (hN.fr e3 (by omega)) e2 hW h9 hq hl (by omega)
        obtain ⟨τ2, f1, f2, f3⟩ := ym_nightH (x := x) hM hW hp hl (by omega)
        refine ⟨nI (y_NH b l x (y_pq b p)), σ3, τ2, ?_, ?_, y_done hR ((e3.wide (by omega) (by omega)).trans c5) f3⟩
        · have w : p_X11_years_59 (nI x) (nI 1) (nI l) j_F (nI 0) (nI 0) σ1 = some (nI (y_NH b l x (y_pq b p)), σ3) := by
            rw [show j_F = 4998 + 1 + 1 from rfl]
            unfold p_X11_years_59
            rw [y_m1]
            simp (disch := omega) only [y_lit, y_n1, nI_add, pk_mul, j_lt, j_b1_s, j_b2_s, j_b3_s, j_b0_s, y_bo, y_bo1, y_bo0, y_i0, y_i1, Classical.not_not, nI_clamp, y_ix, y_lt, y_le, y_eq, y_nP, y_nPs, y_ltP, y_ltQ, y_ltPP, y_eqP, y_eqQ, y_eqPP, if_pos, if_neg, ite_true, ite_false, not_true_eq_false, not_false_eq_true, and_true, true_and, and_false, false_and, or_true, true_or, or_false, false_or, Nat.add_zero, c1, c2, Nat.zero_add]
            unfold p_X11_years_59
            simp (disch := omega) only [y_lit, y_n1, nI_add, pk_mul, j_lt, j_b1_s, j_b2_s, j_b3_s, j_b0_s, y_bo, y_bo1, y_bo0, y_i0, y_i1, Classical.not_not, nI_clamp, y_ix, y_lt, y_le, y_eq, y_nP, y_nPs, y_ltP, y_ltQ, y_ltPP, y_eqP, y_eqQ, y_eqPP, if_pos, if_neg, ite_true, ite_false, not_true_eq_false, not_false_eq_true, and_true, true_and, and_false, false_and, or_true, true_or, or_false, false_or]
          unfold f_X11_night f_X11_years; simp (disch := omega) only [y_lit, y_n1, nI_add, pk_mul, j_lt, j_b1_s, j_b2_s, j_b3_s, j_b0_s, y_bo, y_bo1, y_bo0, y_i0, y_i1, Classical.not_not, nI_clamp, y_ix, y_lt, y_le, y_eq, y_nP, y_nPs, y_ltP, y_ltQ, y_ltPP, y_eqP, y_eqQ, y_eqPP, if_pos, if_neg, ite_true, ite_false, not_true_eq_false, not_false_eq_true, and_true, true_and, and_false, false_and, or_true, true_or, or_false, false_or, yc_isSeed, yc_isLaw, yc_isPlayer hN hW, y_rn, e1, w]
        · unfold f_X12_night; simp (disch := omega) only [y_lit, y_n1, nI_add, pk_mul, j_lt, j_b1_s, j_b2_s, j_b3_s, j_b0_s, y_bo, y_bo1, y_bo0, y_i0, y_i1, Classical.not_not, nI_clamp, y_ix, y_lt, y_le, y_eq, y_nP, y_nPs, y_ltP, y_ltQ, y_ltPP, y_eqP, y_eqQ, y_eqPP, if_pos, if_neg, ite_true, ite_false, not_true_eq_false, not_false_eq_true, and_true, true_and, and_false, false_and, or_true, true_or, or_false, false_or, ym_isSeed, ym_isLaw, ym_isPlayer hM hW, y_rn, nI_l, f1]
      · refine ⟨-2, σ, τ, ?_, ?_, hR⟩
        · unfold f_X11_night f_X11_years; simp (disch := omega) only [y_lit, y_n1, nI_add, pk_mul, j_lt, j_b1_s, j_b2_s, j_b3_s, j_b0_s, y_bo, y_bo1, y_bo0, y_i0, y_i1, Classical.not_not, nI_clamp, y_ix, y_lt, y_le, y_eq, y_nP, y_nPs, y_ltP, y_ltQ, y_ltPP, y_eqP, y_eqQ, y_eqPP, if_pos, if_neg, ite_true, ite_false, not_true_eq_false, not_false_eq_true, and_true, true_and, and_false, false_and, or_true, true_or, or_false, false_or, yc_isSeed, yc_isLaw, yc_isPlayer hN hW, h4]
        · unfold f_X12_night; simp (disch := omega) only [y_lit, y_n1, nI_add, pk_mul, j_lt, j_b1_s, j_b2_s, j_b3_s, j_b0_s, y_bo, y_bo1, y_bo0, y_i0, y_i1, Classical.not_not, nI_clamp, y_ix, y_lt, y_le, y_eq, y_nP, y_nPs, y_ltP, y_ltQ, y_ltPP, y_eqP, y_eqQ, y_eqPP, if_pos, if_neg, ite_true, ite_false, not_true_eq_false, not_false_eq_true, and_true, true_and, and_false, false_and, or_true, true_or, or_false, false_or, ym_isSeed, ym_isLaw, ym_isPlayer hM hW, h, h3, h4]
    · refine ⟨-2, σ, τ, ?_, ?_, hR⟩
      · unfold f_X11_night f_X11_years; simp (disch := omega) only [y_lit, y_n1, nI_add, pk_mul, j_lt, j_b1_s, j_b2_s, j_b3_s, j_b0_s, y_bo, y_bo1, y_bo0, y_i0, y_i1, Classical.not_not, nI_clamp, y_ix, y_lt, y_le, y_eq, y_nP, y_nPs, y_ltP, y_ltQ, y_ltPP, y_eqP, y_eqQ, y_eqPP, if_pos, if_neg, ite_true, ite_false, not_true_eq_false, not_false_eq_true, and_true, true_and, and_false, false_and, or_true, true_or, or_false, false_or, yc_isSeed, yc_isLaw, h3]
      · unfold f_X12_night; simp (disch := omega) only [y_lit, y_n1, nI_add, pk_mul, j_lt, j_b1_s, j_b2_s, j_b3_s, j_b0_s, y_bo, y_bo1, y_bo0, y_i0, y_i1, Classical.not_not, nI_clamp, y_ix, y_lt, y_le, y_eq, y_nP, y_nPs, y_ltP, y_ltQ, y_ltPP, y_eqP, y_eqQ, y_eqPP, if_pos, if_neg, ite_true, ite_false, not_true_eq_false, not_false_eq_true, and_true, true_and, and_false, false_and, or_true, true_or, or_false, false_or, ym_isSeed, ym_isLaw, h3]
  · refine ⟨-2, σ, τ, ?_, ?_, hR⟩
    · unfold f_X11_night f_X11_years; simp (disch := omega) only [y_lit, y_n1, nI_add, pk_mul, j_lt, j_b1_s, j_b2_s, j_b3_s, j_b0_s, y_bo, y_bo1, y_bo0, y_i0, y_i1, Classical.not_not, nI_clamp, y_ix, y_lt, y_le, y_eq, y_nP, y_nPs, y_ltP, y_ltQ, y_ltPP, y_eqP, y_eqQ, y_eqPP, if_pos, if_neg, ite_true, ite_false, not_true_eq_false, not_false_eq_true, and_true, true_and, and_false, false_and, or_true, true_or, or_false, false_or, yc_isSeed, h]
    · unfold f_X12_night; simp (disch := omega) only [y_lit, y_n1, nI_add, pk_mul, j_lt, j_b1_s, j_b2_s, j_b3_s, j_b0_s, y_bo, y_bo1, y_bo0, y_i0, y_i1, Classical.not_not, nI_clamp, y_ix, y_lt, y_le, y_eq, y_nP, y_nPs, y_ltP, y_ltQ, y_ltPP, y_eqP, y_eqQ, y_eqPP, if_pos, if_neg, ite_true, ite_false, not_true_eq_false, not_false_eq_true, and_true, true_and, and_false, false_and, or_true, true_or, or_false, false_or, ym_isSeed, h]
end Z
/-! another stand -/
section U
variable {b : Nat → Nat} {k : Nat}
theorem y8_st (t : Nat) : ∀ m i s v, y_st (y_u b 8 k) t m i s v = y_st b t m i s v := by
  intro m
  induction m with
  | zero => intro i s v; rfl
  | succ m ih => intro i s v; unfold y_st; rw [y_un (by omega), y_un (by omega), ih, ih]
theorem y8_stay : y_stay (y_u b 8 k) = y_stay b := by
  funext t; unfold y_stay; rw [y8_st, y_un (by omega)]
theorem y8_from : y_from (y_u b 8 k) = y_from b := by
  funext i
  induction i with
  | zero => rfl
  | succ i ih => unfold y_from; rw [ih, y8_stay, y_un (by omega)]
theorem y8_last : y_last (y_u b 8 k) = y_last b := by
  funext i; unfold y_last; rw [y8_from, y8_stay]
theorem y8_gn : ∀ m i, y_gn (y_u b 8 k) m i = y_gn b m i := by
  intro m
  induction m with
  | zero => intro i; rfl
  | succ m ih => intro i; unfold y_gn; rw [y8_last, ih, y_un (by omega)]
theorem y8_gs : y_gs (y_u b 8 k) = y_gs b := by unfold y_gs; rw [y8_gn, y_un (by omega)]
theorem y8_dg : y_dg (y_u b 8 k) k = y_dg b k := by
  funext j; unfold y_dg; rw [y_un (by omega), y_un (by omega)]
theorem y8_ap : y_ap (y_u b 8 k) = y_ap b := by
  funext a c; unfold y_ap; rw [y_un (by omega)]
theorem y8_pq {p : Nat} : y_pq (y_u b 8 k) p = y_pq b p := by
  funext j; unfold y_pq; rw [y_un (by omega)]
theorem y8_go {g q : Nat → Nat} : y_go (y_u b 8 k) g q = y_go b g q := by
  funext i to R; unfold y_go y_set y_at y_th y_aw; rw [y8_ap, y8_from, y8_last]
theorem y8_go2 {g q : Nat → Nat} : y_go2 (y_u b 8 k) g q = y_go2 b g q := by
  funext i to th R; unfold y_go2 y_at y_th y_aw; rw [y8_go, y8_ap, y8_from, y8_last]
theorem y8_gf {g q kk : Nat → Nat} : y_gf (y_u b 8 k) g q kk = y_gf b g q kk := by
  funext i R; unfold y_gf; rw [y8_go, y8_go2, y8_ap]
theorem y8_rl {g q kk : Nat → Nat} {red : Nat} : ∀ m i R, y_rl (y_u b 8 k) g q kk red m i R = y_rl b g q kk red m i R := by
  intro m
  induction m with
  | zero => intro i R; rfl
  | succ m ih => intro i R; unfold y_rl; rw [y8_gf, ih]
theorem y8_own {p : Nat} : y_own (y_u b 8 k) p = y_run b (y_dg b k) (y_pq b p) y_k1 0 (y_gs b) := by
  unfold y_own y_run
  rw [y_ue, y8_gs, y8_dg, y8_pq, y8_rl]
end U
section Z
variable {σ τ : j_G}
theorem z_lucky (hR : j_Rel σ τ) (a1 : Int32) : ∃ v σ1 τ1, f_X11_lucky a1 σ = some (v, σ1) ∧ f_X12_lucky a1 τ = some (v, τ1) ∧ j_Rel σ1 τ1 := by
  obtain ⟨b, hW, hN, hM, hK⟩ := id hR
  have h5 := hW.b5
  by_cases h : y_rg a1 (b 6)
  · obtain ⟨p, hp, rfl⟩ := y_of _ _ h.1 h.2
    have h9 := hW.on0 (Or.inr (Or.inr (Or.inr (Or.inl (by omega : 0 < b 6)))))
    have hq := y_pqv hW hp
    obtain ⟨σ1, e1, e2, e3⟩ := yc_take (a := 28) hN hW hp (by omega)
    have hN1 := hN.fr e3 (by omega)
    have both : ∀ m k n f x kk σ' τ', k + m = b 5 → m < n → x ≤ 121 → y_N σ' b → y_cp σ' 28 (y_pq b p) → y_M τ' (y_u b 8 kk) → ∃ v σ'' τ'' kk', p_X11_lucky_33 n f (nP x) (nI k) σ' = some (v, σ'') ∧ y_fr 22 41 σ' σ'' ∧ p_X12_lucky_27 (nI p) (nI (b 8)) n f (nP x) (nI k) τ' = some (v, τ'') ∧ y_M τ'' (y_u b 8 kk') ∧ y_km τ' τ'' := by
      intro m
      induction m with
      | zero =>
        intro k n f x kk σ' τ' h hn hx hN hc hM
        obtain ⟨n, rfl⟩ := y_pos hn
        have e5 : τ'.1 76 5 = nI (b 5) := by rw [hM.f (j := 5) (by omega), y_un (by omega)]
        refine ⟨f, σ', τ', kk, ?_, y_fr.refl, ?_, hM, y_km.refl⟩
        · unfold p_X11_lucky_33; simp (disch := omega) only [y_lit, y_n1, nI_add, pk_mul, j_lt, j_b1_s, j_b2_s, j_b3_s, j_b0_s, y_bo, y_bo1, y_bo0, y_i0, y_i1, Classical.not_not, nI_clamp, y_ix, y_lt, y_le, y_eq, y_nP, y_nPs, y_ltP, y_ltQ, y_ltPP, y_eqP, y_eqQ, y_eqPP, if_pos, if_neg, ite_true, ite_false, not_true_eq_false, not_false_eq_true, and_true, true_and, and_false, false_and, or_true, true_or, or_false, false_or, hN.d0]
        · unfold p_X12_lucky_27; simp (disch := omega) only [y_lit, y_n1, nI_add, pk_mul, j_lt, j_b1_s, j_b2_s, j_b3_s, j_b0_s, y_bo, y_bo1, y_bo0, y_i0, y_i1, Classical.not_not, nI_clamp, y_ix, y_lt, y_le, y_eq, y_nP, y_nPs, y_ltP, y_ltQ, y_ltPP, y_eqP, y_eqQ, y_eqPP, if_pos, if_neg, ite_true, ite_false, not_true_eq_false, not_false_eq_true, and_true, true_and, and_false, false_and, or_true, true_or, or_false, false_or, e5]
      | succ m ih =>
        intro k n f x kk σ' τ' h hn hx hN hc hM
        obtain ⟨n, rfl⟩ := y_pos hn
        have e5 : τ'.1 76 5 = nI (b 5) := by rw [hM.f (j := 5) (by omega), y_un (by omega)]
        obtain ⟨σ2, c1, c2, c3⟩ := yc_deal (st := k) hN hW (Or.inr (by omega))
        have hN2 := hN.fr c3 (by omega)
        have hc2 := hc.fr c3 (by omega)
        obtain ⟨σ3, d1, d2, d3⟩ := yc_good hN2 hW h9 c2 (y_dg_vg hW k) hc2 (by omega) hq y_mkC
        have hWk := hW.set8 (k := k) (by omega)
        have hM1 := hM.set (j := 8) (v := k) (by omega)
        rw [y_uu] at hM1
        have hpk : p < y_u b 8 k 6 := by rw [y_un (by omega)]; exact hp
        obtain ⟨τ1, g1, g2, g3, g4, g5⟩ := ym_ras hM1 hWk hpk
        have r0 := g3.1.1
        rw [y8_own] at r0
        have le := (y_run_br (k := y_k1) (red := 0) hW (y_dg_vg hW k) hq).1
        have km : y_km τ' τ1 := y_km.w.trans (y_km.of g5 (by omega) (by omega) (by omega))
        have cm : y_fr 22 41 σ' σ3 := (c3.wide (by omega) (by omega)).trans (d3.wide (by omega) (by omega))
        have hlt : nI k < nI (b 5) := (y_lt (by omega) (by omega)).mpr (by omega)
        generalize y_run b (y_dg b k) (y_pq b p) y_k1 0 (y_gs b) 0 = H at *
        have kc : p_X11_lucky_33 (n + 1) f (nP x) (nI k) σ' = p_X11_lucky_33 n (if nP x < nI H then (nI k, nI H) else (f, nP x)).1 (if nP x < nI H then (nI k, nI H) else (f, nP x)).2 (nI (k + 1)) σ3 := by
          rw [p_X11_lucky_33, hN.d0, if_pos hlt, c1, j_b1_s, y_m1, d1, j_b2_s, show (1 : Int32) = nI 1 from rfl, nI_add]
          rfl
        have kM : p_X12_lucky_27 (nI p) (nI (b 8)) (n + 1) f (nP x) (nI k) τ' = p_X12_lucky_27 (nI p) (nI (b 8)) n (if ¬ nP x < nI H then (f, nP x) else (nI k, nI H)).1 (if ¬ nP x < nI H then (f, nP x) else (nI k, nI H)).2 (nI (k + 1)) τ1 := by
          rw [p_X12_lucky_27, show (5 : Int32) = nI 5 from rfl, y_ix (by omega) (by omega), nI_clamp (by omega), e5, if_pos hlt, show (8 : Int32) = nI 8 from rfl, y_ix (by omega) (by omega), nI_clamp (by omega)]
          simp only [j_lt]
          rw [g1, j_b1_s, r0, show (1 : Int32) = nI 1 from rfl, nI_add]
        rw [kc, kM]
        by_cases c : nP x < nI H
        · rw [if_pos c, if_neg (fun z => z c)]
          obtain ⟨v, σ4, τ4, kk', l1, l2, l3, l4, l5⟩ := ih (k + 1) n (nI k) (H + 1) k σ3 τ1 (by omega) (by omega) (by omega) (hN2.fr d3 (by omega)) (hc2.fr d3 (by omega)) g2.1
          rw [y_nPs] at l1 l3
          exact ⟨v, σ4, τ4, kk', l1, cm.trans l2, l3, l4, km.trans l5⟩
        · rw [if_neg c, if_pos c]
          obtain ⟨v, σ4, τ4, kk', l1, l2, l3, l4, l5⟩ := ih (k + 1) n f x k σ3 τ1 (by omega) (by omega) hx (hN2.fr d3 (by omega)) (hc2.fr d3 (by omega)) g2.1
          exact ⟨v, σ4, τ4, kk', l1, cm.trans l2, l3, l4, km.trans l5⟩
    obtain ⟨v, σ2, τ2, kk', l1, l2, l3, l4, l5⟩ := both (b 5) 0 j_F (nP 0) 0 (b 8) σ1 τ (by omega) (y_F (by omega)) (by omega) hN1 e2 (by rw [y_uid]; exact hM)
    have hM3 := l4.set (j := 8) (v := b 8) (by omega)
    rw [y_uu, y_uid] at hM3
    refine ⟨v, σ2, j_si τ2 76 8 (nI (b 8)), ?_, ?_, b, hW, hN1.fr l2 (by omega), hM3, hK.fr2 ((y_kc.of e3 (by omega) (by omega)).trans (y_kc.of l2 (by omega) (by omega))) (l5.trans y_km.w)⟩
    · unfold f_X11_lucky; simp (disch := omega) only [y_lit, y_n1, nI_add, pk_mul, j_lt, j_b1_s, j_b2_s, j_b3_s, j_b0_s, y_bo, y_bo1, y_bo0, y_i0, y_i1, Classical.not_not, nI_clamp, y_ix, y_lt, y_le, y_eq, y_nP, y_nPs, y_ltP, y_ltQ, y_ltPP, y_eqP, y_eqQ, y_eqPP, if_pos, if_neg, ite_true, ite_false, not_true_eq_false, not_false_eq_true, and_true, true_and, and_false, false_and, or_true, true_or, or_false, false_or, yc_isPlayer hN hW, y_rn, e1, l1]
    · unfold f_X12_lucky; simp (disch := omega) only [y_lit, y_n1, nI_add, pk_mul, j_lt, j_b1_s, j_b2_s, j_b3_s, j_b0_s, y_bo, y_bo1, y_bo0, y_i0, y_i1, Classical.not_not, nI_clamp, y_ix, y_lt, y_le, y_eq, y_nP, y_nPs, y_ltP, y_ltQ, y_ltPP, y_eqP, y_eqQ, y_eqPP, if_pos, if_neg, ite_true, ite_false, not_true_eq_false, not_false_eq_true, and_true, true_and, and_false, false_and, or_true, true_or, or_false, false_or, ym_isPlayer hM hW, y_rn, hM.f, l3]
  · refine ⟨-2, σ, τ, ?_, ?_, hR⟩
    · unfold f_X11_lucky; simp (disch := omega) only [y_lit, y_n1, nI_add, pk_mul, j_lt, j_b1_s, j_b2_s, j_b3_s, j_b0_s, y_bo, y_bo1, y_bo0, y_i0, y_i1, Classical.not_not, nI_clamp, y_ix, y_lt, y_le, y_eq, y_nP, y_nPs, y_ltP, y_ltQ, y_ltPP, y_eqP, y_eqQ, y_eqPP, if_pos, if_neg, ite_true, ite_false, not_true_eq_false, not_false_eq_true, and_true, true_and, and_false, false_and, or_true, true_or, or_false, false_or, yc_isPlayer hN hW, h]
    · unfold f_X12_lucky; simp (disch := omega) only [y_lit, y_n1, nI_add, pk_mul, j_lt, j_b1_s, j_b2_s, j_b3_s, j_b0_s, y_bo, y_bo1, y_bo0, y_i0, y_i1, Classical.not_not, nI_clamp, y_ix, y_lt, y_le, y_eq, y_nP, y_nPs, y_ltP, y_ltQ, y_ltPP, y_eqP, y_eqQ, y_eqPP, if_pos, if_neg, ite_true, ite_false, not_true_eq_false, not_false_eq_true, and_true, true_and, and_false, false_and, or_true, true_or, or_false, false_or, ym_isPlayer hM hW, h]
end Z
