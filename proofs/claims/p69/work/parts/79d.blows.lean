/-! ===== blows ===== -/
theorem y_below2 {σ τ : j_G} {b : Nat → Nat} {s c d n w : Nat} (hr : y_ro σ τ s c d n w) (hN : y_N σ b) (hM : y_M τ b) (hW : y_W b) (he : n % 2 = 0) : (f_X8_isBelow c d (nI (y_ho b)) (nI (b 2)) σ = some (nI 0) ∧ p_X12_asksBlows_46 (nI s) τ j_F (nI 0) = some (-2)) ∨ (f_X8_isBelow c d (nI (y_ho b)) (nI (b 2)) σ = some (nI 1) ∧ p_X12_asksBlows_46 (nI s) τ j_F (nI 0) = some (nI 0) ∧ ∃ e, y_hd σ τ s c d n e ∧ ∀ i, 2 * i < n → e (2 * i) < y_ho b ∧ e (2 * i + 1) < b 2) := by
  have h4 := hW.ho
  have hb2 := hW.b2
  obtain ⟨hs, hn, hw, h1, h2, h3, h4', h5⟩ := id hr
  have s4 : s < 4 := by unfold y_sc at hs; omega
  have cs : ∀ i f (B : Nat), i < n → B < 2 ^ 31 → (B = if i % 2 = 0 then y_ho b else b 2) → p_X8_isBelow_2 c d (nI (y_ho b)) (nI (b 2)) σ (f + 1) (nI i) = if y_nb (σ.2 d i) B then p_X8_isBelow_2 c d (nI (y_ho b)) (nI (b 2)) σ f (nI (i + 1)) else some (nI 0) := by
    intro i f B hi hB eB
    have hlt : nI i < nI n := (y_lt (by omega) (by omega)).mpr (by omega)
    have em : nI i - nI i / nI 2 * nI 2 = nI (i % 2) := pk_rem (by omega) (by omega) (by omega)
    have eV : (if nI (i % 2) = nI 0 then nI (y_ho b) else nI (b 2)) = nI B := by
      rw [eB]
      by_cases z : i % 2 = 0
      · rw [z, if_pos rfl, if_pos rfl]
      · rw [if_neg z, if_neg (by rw [y_eq (by omega) (by omega)]; exact z)]
    have q := y_nb1 (x := σ.2 d i) (n := B) hB
    rw [p_X8_isBelow_2, h1, if_pos hlt, if_neg (by decide), show (2 : Int32) = nI 2 from rfl, show (0 : Int32) = nI 0 from rfl, em]
    simp only [j_lt]
    rw [eV, y_ix (by omega) (by omega), y_ix (by omega) (by omega), nI_clamp (by omega), show (1 : Int32) = nI 1 from rfl, nI_add]
    by_cases z : y_nb (σ.2 d i) B
    · rw [if_pos z, if_pos (q.mpr z).1, if_neg (q.mpr z).2]
    · rw [if_neg z]
      by_cases z1 : ¬ σ.2 d i < (0 : Int64)
      · rw [if_pos z1, if_pos (fun z2 => z (q.mp ⟨z1, fun z3 => z3 z2⟩))]
      · rw [if_neg z1]
  have key : ∀ m i f f', i + 2 * m = n → i % 2 = 0 → 2 * m < f → m < f' → (p_X8_isBelow_2 c d (nI (y_ho b)) (nI (b 2)) σ f (nI i) = some (nI 0) ∧ p_X12_asksBlows_46 (nI s) τ f' (nI i) = some (-2)) ∨ (p_X8_isBelow_2 c d (nI (y_ho b)) (nI (b 2)) σ f (nI i) = some (nI 1) ∧ p_X12_asksBlows_46 (nI s) τ f' (nI i) = some (nI 0) ∧ ∀ j, i ≤ 2 * j → 2 * j < n → y_nb (σ.2 d (2 * j)) (y_ho b) ∧ y_nb (σ.2 d (2 * j + 1)) (b 2)) := by
    intro m
    induction m with
    | zero =>
      intro i f f' h hp hf hf'
      obtain ⟨f, rfl⟩ := y_pos hf; obtain ⟨f', rfl⟩ := y_pos hf'
      refine Or.inr ⟨?_, ?_, fun j _ _ => by omega⟩
      · unfold p_X8_isBelow_2; simp (disch := omega) only [y_lit, y_n1, nI_add, pk_mul, j_lt, j_b1_s, j_b2_s, j_b3_s, j_b0_s, y_bo, y_bo1, y_bo0, y_i0, y_i1, Classical.not_not, nI_clamp, y_ix, y_lt, y_le, y_eq, y_nP, y_nPs, y_ltP, y_ltQ, y_ltPP, y_eqP, y_eqQ, y_eqPP, if_pos, if_neg, ite_true, ite_false, not_true_eq_false, not_false_eq_true, and_true, true_and, and_false, false_and, or_true, true_or, or_false, false_or, h1]
      · unfold p_X12_asksBlows_46; simp (disch := omega) only [y_lit, y_n1, nI_add, pk_mul, j_lt, j_b1_s, j_b2_s, j_b3_s, j_b0_s, y_bo, y_bo1, y_bo0, y_i0, y_i1, Classical.not_not, nI_clamp, y_ix, y_lt, y_le, y_eq, y_nP, y_nPs, y_ltP, y_ltQ, y_ltPP, y_eqP, y_eqQ, y_eqPP, if_pos, if_neg, ite_true, ite_false, not_true_eq_false, not_false_eq_true, and_true, true_and, and_false, false_and, or_true, true_or, or_false, false_or, h2]
    | succ m ih =>
      intro i f f' h hp hf hf'
      obtain ⟨f, rfl⟩ : ∃ f1, f = f1 + 1 + 1 := ⟨f - 2, by omega⟩
      obtain ⟨f', rfl⟩ := y_pos hf'
      have hlt : nI i < nI n := (y_lt (by omega) (by omega)).mpr (by omega)
      have c1 := cs i (f + 1) (y_ho b) (by omega) (by omega) (by rw [if_pos hp])
      have c2 := cs (i + 1) f (b 2) (by omega) (by omega) (by rw [if_neg (by omega)])
      have num1 := ym_num hr (i := i) (by omega)
      have num2 := ym_num hr (i := i + 1) (by omega)
      have m1 : p_X12_asksBlows_46 (nI s) τ (f' + 1) (nI i) = if y_nb (σ.2 d i) (y_ho b) then (if y_nb (σ.2 d (i + 1)) (b 2) then p_X12_asksBlows_46 (nI s) τ f' (nI (i + 1 + 1)) else some (-2)) else some (-2) := by
        rw [p_X12_asksBlows_46, y_ix (by omega) (by omega), nI_clamp (by omega), h2, if_pos hlt, num1, j_b1_s, ym_isHoleL hM hW, j_b1_s]
        by_cases z : y_nb (σ.2 d i) (y_ho b)
        · rw [if_pos (show 0 ≤ (σ.2 d i).toInt ∧ (σ.2 d i).toInt < y_ho b from z), if_pos (by decide), if_pos z, show (1 : Int32) = nI 1 from rfl, nI_add, num2, j_b1_s, ym_isTickL hM hW, j_b1_s]
          by_cases z2 : y_nb (σ.2 d (i + 1)) (b 2)
          · rw [if_pos (show 0 ≤ (σ.2 d (i + 1)).toInt ∧ (σ.2 d (i + 1)).toInt < b 2 from z2), if_neg (by decide), if_pos z2, show (2 : Int32) = nI 2 from rfl, nI_add]
          · rw [if_neg (show ¬ (0 ≤ (σ.2 d (i + 1)).toInt ∧ (σ.2 d (i + 1)).toInt < b 2) from z2), if_pos (show nI 0 = (0 : Int32) from rfl), if_neg z2]
        · rw [if_neg (show ¬ (0 ≤ (σ.2 d i).toInt ∧ (σ.2 d i).toInt < y_ho b) from z), if_neg (fun q => q rfl), if_neg z]
      rw [c1, c2, m1]
      by_cases z : y_nb (σ.2 d i) (y_ho b)
      · rw [if_pos z, if_pos z]
        by_cases z2 : y_nb (σ.2 d (i + 1)) (b 2)
        · rw [if_pos z2, if_pos z2]
          rcases ih (i + 1 + 1) f f' (by omega) (by omega) (by omega) (by omega) with k | ⟨k1, k2, k3⟩
          · exact Or.inl k
          · refine Or.inr ⟨k1, k2, fun j h1 h2 => ?_⟩
            by_cases e : 2 * j = i
            · rw [e]; exact ⟨z, z2⟩
            · exact k3 j (by omega) h2
        · rw [if_neg z2, if_neg z2]; exact Or.inl ⟨rfl, rfl⟩
      · rw [if_neg z, if_neg z]; exact Or.inl ⟨rfl, rfl⟩
  rcases key (n / 2) 0 j_F j_F (by omega) (by omega) (y_F (by omega)) (y_F (by omega)) with k | ⟨k1, k2, k3⟩
  · exact Or.inl k
  · have all : ∀ i, i < n → ∃ k, k < 201 ∧ σ.2 d i = lN k ∧ (i % 2 = 0 → k < y_ho b) ∧ (i % 2 = 1 → k < b 2) := by
      intro i hi
      have q := k3 (i / 2) (by omega) (by omega)
      by_cases z : i % 2 = 0
      · rw [show 2 * (i / 2) = i from by omega] at q
        obtain ⟨k, hk, e⟩ := y_nbe q.1
        exact ⟨k, by omega, e, fun _ => hk, fun y => by omega⟩
      · rw [show 2 * (i / 2) + 1 = i from by omega] at q
        obtain ⟨k, hk, e⟩ := y_nbe q.2
        exact ⟨k, by omega, e, fun y => by omega, fun _ => hk⟩
    have ee : ∀ i k, σ.2 d i = lN k → k < 201 → (σ.2 d i).toInt.toNat = k := fun i k e hk => by rw [e, pk_lT (by omega)]; rfl
    refine Or.inr ⟨k1, k2, fun i => (σ.2 d i).toInt.toNat, ⟨hs, hn, h1, h2, fun i hi => ?_⟩, fun i hi => ?_⟩
    · obtain ⟨k, hk, e, _, _⟩ := all i hi
      have e' := ee i k e hk
      refine ⟨by show (σ.2 d i).toInt.toNat < 1000; omega, ?_, ?_⟩
      · show _ = lN (σ.2 d i).toInt.toNat; rw [e', e]
      · show _ = lN (σ.2 d i).toInt.toNat; rw [← h5 i hi, e', e]
    · obtain ⟨k, hk, e, a1, a2⟩ := all (2 * i) (by omega)
      obtain ⟨k', hk', e', a1', a2'⟩ := all (2 * i + 1) (by omega)
      have q1 := ee _ k e hk; have q2 := ee _ k' e' hk'
      show (σ.2 d (2 * i)).toInt.toNat < _ ∧ (σ.2 d (2 * i + 1)).toInt.toNat < _
      rw [q1, q2]
      exact ⟨a1 (by omega), a2' (by omega)⟩
/-- is it a row of blows; the class lays the game out -/
theorem y_whyB {σ τ : j_G} {b : Nat → Nat} (hW : y_W b) (hN : y_N σ b) (hM : y_M τ b) (hK : y_K σ τ) (a1 : Int32) : (∃ k : Int32, k < 0 ∧ ¬ k = 0 ∧ f_X11_whyNoBlows a1 σ = some (k, σ) ∧ f_X12_asksBlows a1 τ = some k) ∨ (f_X12_asksBlows a1 τ = some (nI 0) ∧ 0 < b 9 ∧ ∃ σ1 s c d n e, f_X11_whyNoBlows a1 σ = some (nI 0, σ1) ∧ y_cg σ1 b (y_gs b) (y_dg b (b 8)) ∧ y_fr 22 27 σ σ1 ∧ a1 = nI s ∧ n % 2 = 0 ∧ y_hd σ τ s c d n e ∧ ∀ i, 2 * i < n → e (2 * i) < y_ho b ∧ e (2 * i + 1) < b 2) := by
  have h4 := hW.ho
  by_cases h : y_rg a1 4
  · by_cases h9 : 0 < b 9
    · obtain ⟨s, hs, rfl⟩ := y_of _ _ h.1 h.2
      obtain ⟨c, d, hc, hk⟩ := hK.slot s hs
      rcases hk with ⟨k1, k2⟩ | ⟨n, w, hr⟩
      · refine Or.inl ⟨-6, by decide, by decide, ?_, ?_⟩
        · unfold f_X11_whyNoBlows f_X8_isMade
          rcases hc with ⟨rfl, rfl, rfl⟩ | ⟨rfl, rfl, rfl⟩ | ⟨rfl, rfl, rfl⟩ | ⟨rfl, rfl, rfl⟩
          · simp (disch := omega) only [y_lit, y_n1, nI_add, pk_mul, j_lt, j_b1_s, j_b2_s, j_b3_s, j_b0_s, y_bo, y_bo1, y_bo0, y_i0, y_i1, Classical.not_not, nI_clamp, y_ix, y_lt, y_le, y_eq, y_nP, y_nPs, y_ltP, y_ltQ, y_ltPP, y_eqP, y_eqQ, y_eqPP, if_pos, if_neg, ite_true, ite_false, not_true_eq_false, not_false_eq_true, and_true, true_and, and_false, false_and, or_true, true_or, or_false, false_or, yc_isSlot, y_rn, yc_isTold hN hW, k1]
          · simp (disch := omega) only [y_lit, y_n1, nI_add, pk_mul, j_lt, j_b1_s, j_b2_s, j_b3_s, j_b0_s, y_bo, y_bo1, y_bo0, y_i0, y_i1, Classical.not_not, nI_clamp, y_ix, y_lt, y_le, y_eq, y_nP, y_nPs, y_ltP, y_ltQ, y_ltPP, y_eqP, y_eqQ, y_eqPP, if_pos, if_neg, ite_true, ite_false, not_true_eq_false, not_false_eq_true, and_true, true_and, and_false, false_and, or_true, true_or, or_false, false_or, yc_isSlot, y_rn, yc_isTold hN hW, k1]
          · simp (disch := omega) only [y_lit, y_n1, nI_add, pk_mul, j_lt, j_b1_s, j_b2_s, j_b3_s, j_b0_s, y_bo, y_bo1, y_bo0, y_i0, y_i1, Classical.not_not, nI_clamp, y_ix, y_lt, y_le, y_eq, y_nP, y_nPs, y_ltP, y_ltQ, y_ltPP, y_eqP, y_eqQ, y_eqPP, if_pos, if_neg, ite_true, ite_false, not_true_eq_false, not_false_eq_true, and_true, true_and, and_false, false_and, or_true, true_or, or_false, false_or, yc_isSlot, y_rn, yc_isTold hN hW, k1]
          · simp (disch := omega) only [y_lit, y_n1, nI_add, pk_mul, j_lt, j_b1_s, j_b2_s, j_b3_s, j_b0_s, y_bo, y_bo1, y_bo0, y_i0, y_i1, Classical.not_not, nI_clamp, y_ix, y_lt, y_le, y_eq, y_nP, y_nPs, y_ltP, y_ltQ, y_ltPP, y_eqP, y_eqQ, y_eqPP, if_pos, if_neg, ite_true, ite_false, not_true_eq_false, not_false_eq_true, and_true, true_and, and_false, false_and, or_true, true_or, or_false, false_or, yc_isSlot, y_rn, yc_isTold hN hW, k1]
        · unfold f_X12_asksBlows; simp (disch := omega) only [y_lit, y_n1, nI_add, pk_mul, j_lt, j_b1_s, j_b2_s, j_b3_s, j_b0_s, y_bo, y_bo1, y_bo0, y_i0, y_i1, Classical.not_not, nI_clamp, y_ix, y_lt, y_le, y_eq, y_nP, y_nPs, y_ltP, y_ltQ, y_ltPP, y_eqP, y_eqQ, y_eqPP, if_pos, if_neg, ite_true, ite_false, not_true_eq_false, not_false_eq_true, and_true, true_and, and_false, false_and, or_true, true_or, or_false, false_or, ym_isSlot, y_rn, ym_isBoard hM hW, k2]
      · obtain ⟨_, hn, hw, r1, r2, r3, r4, r5⟩ := id hr
        have em : nI n - nI (n / 2 * 2) = nI (n % 2) := by
          rw [← pk_mul, ← pk_div (by omega) (by omega) (by omega), pk_rem (by omega) (by omega) (by omega)]
        have cw : f_X11_whyNoBlows (nI s) σ = if nI (n % 2) = nI 0 then (j_b1 (f_X8_isBelow c d (nI (y_ho b)) (nI (b 2)) σ) (fun v1 => if v1 = nI 0 then some (-2, σ) else (j_b1 (f_X4_deal (σ.1 5 1) σ) fun σ2 => some (nI 0, σ2)))) else some (-2, σ) := by
          unfold f_X11_whyNoBlows f_X8_isMade
          rcases hc with ⟨rfl, rfl, rfl⟩ | ⟨rfl, rfl, rfl⟩ | ⟨rfl, rfl, rfl⟩ | ⟨rfl, rfl, rfl⟩
          · simp (disch := omega) only [y_lit, y_n1, nI_add, pk_mul, j_lt, j_b1_s, j_b2_s, j_b3_s, j_b0_s, y_bo, y_bo1, y_bo0, y_i0, y_i1, Classical.not_not, nI_clamp, y_ix, y_lt, y_le, y_eq, y_nP, y_nPs, y_ltP, y_ltQ, y_ltPP, y_eqP, y_eqQ, y_eqPP, if_pos, if_neg, ite_true, ite_false, not_true_eq_false, not_false_eq_true, and_true, true_and, and_false, false_and, or_true, true_or, or_false, false_or, yc_isSlot, y_rn, yc_isTold hN hW, r1, yc_holes hN, hN.f4, pk_div, em]
          · simp (disch := omega) only [y_lit, y_n1, nI_add, pk_mul, j_lt, j_b1_s, j_b2_s, j_b3_s, j_b0_s, y_bo, y_bo1, y_bo0, y_i0, y_i1, Classical.not_not, nI_clamp, y_ix, y_lt, y_le, y_eq, y_nP, y_nPs, y_ltP, y_ltQ, y_ltPP, y_eqP, y_eqQ, y_eqPP, if_pos, if_neg, ite_true, ite_false, not_true_eq_false, not_false_eq_true, and_true, true_and, and_false, false_and, or_true, true_or, or_false, false_or, yc_isSlot, y_rn, yc_isTold hN hW, r1, yc_holes hN, hN.f4, pk_div, em]
          · simp (disch := omega) only [y_lit, y_n1, nI_add, pk_mul, j_lt, j_b1_s, j_b2_s, j_b3_s, j_b0_s, y_bo, y_bo1, y_bo0, y_i0, y_i1, Classical.not_not, nI_clamp, y_ix, y_lt, y_le, y_eq, y_nP, y_nPs, y_ltP, y_ltQ, y_ltPP, y_eqP, y_eqQ, y_eqPP, if_pos, if_neg, ite_true, ite_false, not_true_eq_false, not_false_eq_true, and_true, true_and, and_false, false_and, or_true, true_or, or_false, false_or, yc_isSlot, y_rn, yc_isTold hN hW, r1, yc_holes hN, hN.f4, pk_div, em]
          · simp (disch := omega) only [y_lit, y_n1, nI_add, pk_mul, j_lt, j_b1_s, j_b2_s, j_b3_s, j_b0_s, y_bo, y_bo1, y_bo0, y_i0, y_i1, Classical.not_not, nI_clamp, y_ix, y_lt, y_le, y_eq, y_nP, y_nPs, y_ltP, y_ltQ, y_ltPP, y_eqP, y_eqQ, y_eqPP, if_pos, if_neg, ite_true, ite_false, not_true_eq_false, not_false_eq_true, and_true, true_and, and_false, false_and, or_true, true_or, or_false, false_or, yc_isSlot, y_rn, yc_isTold hN hW, r1, yc_holes hN, hN.f4, pk_div, em]
        have mw : f_X12_asksBlows (nI s) τ = if ¬ nI (n % 2) = nI 0 then some (-2) else p_X12_asksBlows_46 (nI s) τ j_F (nI 0) := by
          unfold f_X12_asksBlows; simp (disch := omega) only [y_lit, y_n1, nI_add, pk_mul, j_lt, j_b1_s, j_b2_s, j_b3_s, j_b0_s, y_bo, y_bo1, y_bo0, y_i0, y_i1, Classical.not_not, nI_clamp, y_ix, y_lt, y_le, y_eq, y_nP, y_nPs, y_ltP, y_ltQ, y_ltPP, y_eqP, y_eqQ, y_eqPP, if_pos, if_neg, ite_true, ite_false, not_true_eq_false, not_false_eq_true, and_true, true_and, and_false, false_and, or_true, true_or, or_false, false_or, ym_isSlot, y_rn, ym_isBoard hM hW, r2, pk_div, em]
        by_cases ev : n % 2 = 0
        · rw [ev] at cw mw
          rw [if_pos rfl] at cw
          rw [if_neg (fun z => z rfl)] at mw
          rcases y_below2 hr hN hM hW ev with ⟨q1, q2⟩ | ⟨q1, q2, e, q3, q4⟩
          · refine Or.inl ⟨-2, by decide, by decide, ?_, ?_⟩
            · rw [cw, q1]; rfl
            · rw [mw, q2]
          · obtain ⟨σ1, e1, e2, e3⟩ := yc_dealt hN hW
            refine Or.inr ⟨?_, h9, σ1, s, c, d, n, e, ?_, e2, e3, rfl, ev, q3, q4⟩
            · rw [mw, q2]
            · rw [cw, q1, j_b1_s, if_neg (show ¬ nI 1 = nI 0 from by decide), e1]; rfl
        · have nz : ¬ nI (n % 2) = nI 0 := by rw [y_eq (by omega) (by omega)]; exact ev
          refine Or.inl ⟨-2, by decide, by decide, ?_, ?_⟩
          · rw [cw, if_neg nz]
          · rw [mw, if_pos nz]
    · refine Or.inl ⟨-2, by decide, by decide, ?_, ?_⟩
      · unfold f_X11_whyNoBlows; simp (disch := omega) only [y_lit, y_n1, nI_add, pk_mul, j_lt, j_b1_s, j_b2_s, j_b3_s, j_b0_s, y_bo, y_bo1, y_bo0, y_i0, y_i1, Classical.not_not, nI_clamp, y_ix, y_lt, y_le, y_eq, y_nP, y_nPs, y_ltP, y_ltQ, y_ltPP, y_eqP, y_eqQ, y_eqPP, if_pos, if_neg, ite_true, ite_false, not_true_eq_false, not_false_eq_true, and_true, true_and, and_false, false_and, or_true, true_or, or_false, false_or, yc_isSlot, yc_isTold hN hW]
      · unfold f_X12_asksBlows; simp (disch := omega) only [y_lit, y_n1, nI_add, pk_mul, j_lt, j_b1_s, j_b2_s, j_b3_s, j_b0_s, y_bo, y_bo1, y_bo0, y_i0, y_i1, Classical.not_not, nI_clamp, y_ix, y_lt, y_le, y_eq, y_nP, y_nPs, y_ltP, y_ltQ, y_ltPP, y_eqP, y_eqQ, y_eqPP, if_pos, if_neg, ite_true, ite_false, not_true_eq_false, not_false_eq_true, and_true, true_and, and_false, false_and, or_true, true_or, or_false, false_or, ym_isSlot, h, ym_isBoard hM hW]
  · refine Or.inl ⟨-2, by decide, by decide, ?_, ?_⟩
    · unfold f_X11_whyNoBlows; simp (disch := omega) only [y_lit, y_n1, nI_add, pk_mul, j_lt, j_b1_s, j_b2_s, j_b3_s, j_b0_s, y_bo, y_bo1, y_bo0, y_i0, y_i1, Classical.not_not, nI_clamp, y_ix, y_lt, y_le, y_eq, y_nP, y_nPs, y_ltP, y_ltQ, y_ltPP, y_eqP, y_eqQ, y_eqPP, if_pos, if_neg, ite_true, ite_false, not_true_eq_false, not_false_eq_true, and_true, true_and, and_false, false_and, or_true, true_or, or_false, false_or, yc_isSlot, h]
    · unfold f_X12_asksBlows; simp (disch := omega) only [y_lit, y_n1, nI_add, pk_mul, j_lt, j_b1_s, j_b2_s, j_b3_s, j_b0_s, y_bo, y_bo1, y_bo0, y_i0, y_i1, Classical.not_not, nI_clamp, y_ix, y_lt, y_le, y_eq, y_nP, y_nPs, y_ltP, y_ltQ, y_ltPP, y_eqP, y_eqQ, y_eqPP, if_pos, if_neg, ite_true, ite_false, not_true_eq_false, not_false_eq_true, and_true, true_and, and_false, false_and, or_true, true_or, or_false, false_or, ym_isSlot, h]
