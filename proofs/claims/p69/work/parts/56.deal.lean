/-! ===== deal and lay ===== -/
/-- the game with i comings and its next tick told -/
def y_ci (σ : j_G) (b : Nat → Nat) (i : Nat) (g : Nat → Nat) : Prop := y_cg σ b i g ∧ σ.1 22 6 = nI (y_from b i)
theorem y_from_bd {b : Nat → Nat} (hW : y_W b) {i : Nat} (h : i = 0 ∨ y_last b (i - 1) < b 2) : y_from b i ≤ 210 := by
  rcases h with h | h
  · subst h; exact Nat.zero_le _
  · obtain _ | i := i
    · exact Nat.zero_le _
    · have := hW.b2; have := hW.b3
      rw [y_from_s]
      rw [show i + 1 - 1 = i from rfl] at h
      omega
theorem yc_room {σ : j_G} {b : Nat → Nat} {i : Nat} {g : Nat → Nat} (hN : y_N σ b) (hW : y_W b) (hi : i ≤ 60) (hf : y_from b i ≤ 210) (hc : y_ci σ b i g) : f_X4_hasRoom σ = some (if i < 60 ∧ y_last b i < b 2 then nI 1 else nI 0) := by
  have h2 := hW.b2
  have hl := y_last_le hW i
  have hs := y_stay_bd hW (y_from b i)
  unfold f_X4_hasRoom
  rw [hc.1.1, hc.2]
  simp (disch := omega) only [y_lit, y_n1, nI_add, pk_mul, j_lt, j_b1_s, j_b2_s, j_b3_s, j_b0_s, y_bo, y_bo1, y_bo0, y_i0, y_i1, Classical.not_not, nI_clamp, y_ix, y_lt, y_le, y_eq, y_nP, y_nPs, y_ltP, y_ltQ, y_ltPP, y_eqP, y_eqQ, y_eqPP, if_pos, if_neg, ite_true, ite_false, not_true_eq_false, not_false_eq_true, and_true, true_and, and_false, false_and, or_true, true_or, or_false, false_or, yc_stay hN hW, yc_isTick hN hW, y_rn, pk_sub]
  by_cases h : i < 60
  · rw [if_pos h]
    by_cases h2 : y_last b i < b 2
    · rw [if_pos (show y_from b i + y_stay b (y_from b i) - 1 < b 2 from h2), if_pos (And.intro h h2)]
    · rw [if_neg (show ¬ y_from b i + y_stay b (y_from b i) - 1 < b 2 from h2), if_neg (fun z : i < 60 ∧ y_last b i < b 2 => h2 z.2)]
  · rw [if_neg h, if_neg (fun z : i < 60 ∧ y_last b i < b 2 => h z.1)]
theorem yc_add {σ : j_G} {b : Nat → Nat} {i : Nat} {g : Nat → Nat} {x y z : Int32} (hN : y_N σ b) (hW : y_W b) (hi : i < 60) (hf : y_from b i ≤ 210) (hc : y_ci σ b i g) (hx : x = nI (g (3 * i))) (hy : y = nP (g (3 * i + 1))) (hz : z = nI (g (3 * i + 2))) : ∃ σ', f_X4_add x y z σ = some σ' ∧ y_ci σ' b (i + 1) g ∧ y_fr 22 27 σ σ' := by
  have h2 := hW.b2
  have h3 := hW.b3
  have hl := y_last_le hW i
  have hs := y_stay_bd hW (y_from b i)
  have e0 := hc.1.1
  have e6 := hc.2
  have e5 := hN.f5
  subst hx hy hz
  unfold f_X4_add
  simp (disch := omega) only [y_lit, y_n1, nI_add, pk_mul, j_lt, j_b1_s, j_b2_s, j_b3_s, j_b0_s, y_bo, y_bo1, y_bo0, y_i0, y_i1, Classical.not_not, nI_clamp, y_ix, y_lt, y_le, y_eq, y_nP, y_nPs, y_ltP, y_ltQ, y_ltPP, y_eqP, y_eqQ, y_eqPP, if_pos, if_neg, ite_true, ite_false, not_true_eq_false, not_false_eq_true, and_true, true_and, and_false, false_and, or_true, true_or, or_false, false_or, j_r_ne, j_r_eq, j_r_nj, e0, e6, e5, yc_stay_si, yc_stay hN hW, pk_sub]
  refine ⟨_, rfl, ⟨⟨?_, fun j hj => ?_⟩, ?_⟩, ?_⟩
  · simp (disch := omega) only [y_lit, y_n1, nI_add, pk_mul, j_lt, j_b1_s, j_b2_s, j_b3_s, j_b0_s, y_bo, y_bo1, y_bo0, y_i0, y_i1, Classical.not_not, nI_clamp, y_ix, y_lt, y_le, y_eq, y_nP, y_nPs, y_ltP, y_ltQ, y_ltPP, y_eqP, y_eqQ, y_eqPP, if_pos, if_neg, ite_true, ite_false, not_true_eq_false, not_false_eq_true, and_true, true_and, and_false, false_and, or_true, true_or, or_false, false_or, j_r_ne, j_r_eq, j_r_nj, e0]
  · by_cases h : j = i
    · subst h
      simp (disch := omega) only [y_lit, y_n1, nI_add, pk_mul, j_lt, j_b1_s, j_b2_s, j_b3_s, j_b0_s, y_bo, y_bo1, y_bo0, y_i0, y_i1, Classical.not_not, nI_clamp, y_ix, y_lt, y_le, y_eq, y_nP, y_nPs, y_ltP, y_ltQ, y_ltPP, y_eqP, y_eqQ, y_eqPP, if_pos, if_neg, ite_true, ite_false, not_true_eq_false, not_false_eq_true, and_true, true_and, and_false, false_and, or_true, true_or, or_false, false_or, j_r_ne, j_r_eq, j_r_nj]
      rfl
    · have q := hc.1.2 j (by omega)
      simp (disch := omega) only [y_lit, y_n1, nI_add, pk_mul, j_lt, j_b1_s, j_b2_s, j_b3_s, j_b0_s, y_bo, y_bo1, y_bo0, y_i0, y_i1, Classical.not_not, nI_clamp, y_ix, y_lt, y_le, y_eq, y_nP, y_nPs, y_ltP, y_ltQ, y_ltPP, y_eqP, y_eqQ, y_eqPP, if_pos, if_neg, ite_true, ite_false, not_true_eq_false, not_false_eq_true, and_true, true_and, and_false, false_and, or_true, true_or, or_false, false_or, j_r_ne, j_r_eq, j_r_nj]
      exact q
  · simp (disch := omega) only [y_lit, y_n1, nI_add, pk_mul, j_lt, j_b1_s, j_b2_s, j_b3_s, j_b0_s, y_bo, y_bo1, y_bo0, y_i0, y_i1, Classical.not_not, nI_clamp, y_ix, y_lt, y_le, y_eq, y_nP, y_nPs, y_ltP, y_ltQ, y_ltPP, y_eqP, y_eqQ, y_eqPP, if_pos, if_neg, ite_true, ite_false, not_true_eq_false, not_false_eq_true, and_true, true_and, and_false, false_and, or_true, true_or, or_false, false_or, j_r_ne, j_r_eq, j_r_nj]
    rfl
  · exact ((((((((y_fr.refl.si (by omega) (by omega)).si (by omega) (by omega)).si (by omega) (by omega)).si (by omega) (by omega)).si (by omega) (by omega)).si (by omega) (by omega)).si (by omega) (by omega)))
theorem yc_deal_l {b : Nat → Nat} (hW : y_W b) {st : Nat} (h5 : 0 < b 5) (hst : st < b 5) : ∀ m i n σ, i + m = 60 → m < n → y_N σ b → (i = 0 ∨ y_last b (i - 1) < b 2) → y_ci σ b i (y_dg b st) → ∃ σ', p_X4_deal_15 n (nI ((st + i) % b 5)) (nI i) σ = some σ' ∧ y_cg σ' b (y_gn b m i) (y_dg b st) ∧ y_fr 22 27 σ σ' := by
  have hb := hW.b5
  intro m
  induction m with
  | zero =>
    intro i n σ h hn hN hl hc
    obtain ⟨n, rfl⟩ := y_pos hn
    unfold p_X4_deal_15
    refine ⟨σ, ?_, hc.1, y_fr.refl⟩
    simp (disch := omega) only [y_lit, y_n1, nI_add, pk_mul, j_lt, j_b1_s, j_b2_s, j_b3_s, j_b0_s, y_bo, y_bo1, y_bo0, y_i0, y_i1, Classical.not_not, nI_clamp, y_ix, y_lt, y_le, y_eq, y_nP, y_nPs, y_ltP, y_ltQ, y_ltPP, y_eqP, y_eqQ, y_eqPP, if_pos, if_neg, ite_true, ite_false, not_true_eq_false, not_false_eq_true, and_true, true_and, and_false, false_and, or_true, true_or, or_false, false_or]
  | succ m ih =>
    intro i n σ h hn hN hl hc
    obtain ⟨n, rfl⟩ := y_pos hn
    have hm : (st + i) % b 5 < b 5 := Nat.mod_lt _ (by omega)
    have hf := y_from_bd hW hl
    unfold p_X4_deal_15
    simp (disch := omega) only [y_lit, y_n1, nI_add, pk_mul, j_lt, j_b1_s, j_b2_s, j_b3_s, j_b0_s, y_bo, y_bo1, y_bo0, y_i0, y_i1, Classical.not_not, nI_clamp, y_ix, y_lt, y_le, y_eq, y_nP, y_nPs, y_ltP, y_ltQ, y_ltPP, y_eqP, y_eqQ, y_eqPP, if_pos, if_neg, ite_true, ite_false, not_true_eq_false, not_false_eq_true, and_true, true_and, and_false, false_and, or_true, true_or, or_false, false_or, yc_has hN hW, y_rn, yc_room hN hW (by omega) hf hc]
    unfold y_gn
    by_cases c : y_last b i < b 2
    · obtain ⟨σ1, a1, a2, a3⟩ := yc_add hN hW (by omega) hf hc (x := σ.1 6 ((st + i) % b 5)) (y := σ.1 7 ((st + i) % b 5)) (z := σ.1 8 ((st + i) % b 5)) (by rw [hN.k0 hm, y_dg0]) (by rw [hN.k1 hm, y_dg1]) (by rw [hN.k2 hm, y_dg2])
      rw [if_pos ⟨by omega, c⟩, if_pos c, a1]
      have hN1 := hN.fr a3 (by omega)
      simp (disch := omega) only [y_lit, y_n1, nI_add, pk_mul, j_lt, j_b1_s, j_b2_s, j_b3_s, j_b0_s, y_bo, y_bo1, y_bo0, y_i0, y_i1, Classical.not_not, nI_clamp, y_ix, y_lt, y_le, y_eq, y_nP, y_nPs, y_ltP, y_ltQ, y_ltPP, y_eqP, y_eqQ, y_eqPP, if_pos, if_neg, ite_true, ite_false, not_true_eq_false, not_false_eq_true, and_true, true_and, and_false, false_and, or_true, true_or, or_false, false_or, hN1.d0]
      have e : (if (st + i) % b 5 + 1 < b 5 then nI ((st + i) % b 5 + 1) else nI 0) = nI ((st + (i + 1)) % b 5) := by
        rw [← Nat.add_assoc st i 1, Nat.add_mod (st + i) 1]
        by_cases q : (st + i) % b 5 + 1 < b 5
        · rw [if_pos q, Nat.mod_eq_of_lt (a := 1) (by omega), Nat.mod_eq_of_lt q]
        · rw [if_neg q]
          by_cases q1 : b 5 = 1
          · rw [q1, Nat.mod_one]
          · rw [Nat.mod_eq_of_lt (a := 1) (by omega), show (st + i) % b 5 + 1 = b 5 from by omega, Nat.mod_self]
      rw [e]
      obtain ⟨σ2, g1, g2, g3⟩ := ih (i + 1) n σ1 (by omega) (by omega) hN1 (Or.inr c) a2
      exact ⟨σ2, g1, g2, a3.trans g3⟩
    · rw [if_neg (fun z => c z.2), if_neg c]
      exact ⟨σ, by simp (disch := omega) only [y_lit, y_n1, nI_add, pk_mul, j_lt, j_b1_s, j_b2_s, j_b3_s, j_b0_s, y_bo, y_bo1, y_bo0, y_i0, y_i1, Classical.not_not, nI_clamp, y_ix, y_lt, y_le, y_eq, y_nP, y_nPs, y_ltP, y_ltQ, y_ltPP, y_eqP, y_eqQ, y_eqPP, if_pos, if_neg, ite_true, ite_false, not_true_eq_false, not_false_eq_true, and_true, true_and, and_false, false_and, or_true, true_or, or_false, false_or], hc.1, y_fr.refl⟩
theorem yc_deal {σ : j_G} {b : Nat → Nat} (hN : y_N σ b) (hW : y_W b) {st : Nat} (hst : b 5 = 0 ∨ st < b 5) : ∃ σ', f_X4_deal (nI st) σ = some σ' ∧ y_cg σ' b (y_gs b) (y_dg b st) ∧ y_fr 22 27 σ σ' := by
  have hb := hW.b5
  unfold f_X4_deal f_X4_begin
  simp only [j_lt, j_b1_s, y_lit]
  have f : y_fr 22 27 σ (j_si (j_si σ 22 0 (nI 0)) 22 6 (nI 0)) := (y_fr.refl.si (by omega) (by omega)).si (by omega) (by omega)
  have hN1 := hN.fr f (by omega)
  have hc : y_ci (j_si (j_si σ 22 0 (nI 0)) 22 6 (nI 0)) b 0 (y_dg b st) := ⟨⟨by simp (disch := omega) only [j_r_ne, j_r_eq, j_r_nj], fun i hi => absurd hi (by omega)⟩, j_r_eq⟩
  unfold y_gs
  by_cases h5 : b 5 = 0
  · rw [if_pos h5, show j_F = 4999 + 1 from rfl]
    refine ⟨_, ?_, hc.1, f⟩
    unfold p_X4_deal_15
    simp (disch := omega) only [y_lit, y_n1, nI_add, pk_mul, j_lt, j_b1_s, j_b2_s, j_b3_s, j_b0_s, y_bo, y_bo1, y_bo0, y_i0, y_i1, Classical.not_not, nI_clamp, y_ix, y_lt, y_le, y_eq, y_nP, y_nPs, y_ltP, y_ltQ, y_ltPP, y_eqP, y_eqQ, y_eqPP, if_pos, if_neg, ite_true, ite_false, not_true_eq_false, not_false_eq_true, and_true, true_and, and_false, false_and, or_true, true_or, or_false, false_or, yc_has hN1 hW, h5, y_r0, and_false]
  · rw [if_neg h5]
    obtain ⟨σ2, g1, g2, g3⟩ := yc_deal_l hW (st := st) (by omega) (by omega) 60 0 j_F _ (by omega) (y_F (by omega)) hN1 (Or.inl rfl) hc
    rw [Nat.add_zero, Nat.mod_eq_of_lt (by omega)] at g1
    rw [g1]
    exact ⟨σ2, rfl, g2, f.trans g3⟩
theorem ym_next {τ : j_G} {b : Nat → Nat} {i : Nat} {g : Nat → Nat} (hM : y_M τ b) (hi : i ≤ 60) (hc : y_mg τ b i g) : f_X12_nextTick τ = some (nI (y_from b i)) := by
  unfold f_X12_nextTick
  rw [hc.1]
  obtain _ | i := i
  · simp (disch := omega) only [y_lit, y_n1, nI_add, pk_mul, j_lt, j_b1_s, j_b2_s, j_b3_s, j_b0_s, y_bo, y_bo1, y_bo0, y_i0, y_i1, Classical.not_not, nI_clamp, y_ix, y_lt, y_le, y_eq, y_nP, y_nPs, y_ltP, y_ltQ, y_ltPP, y_eqP, y_eqQ, y_eqPP, if_pos, if_neg, ite_true, ite_false, not_true_eq_false, not_false_eq_true, and_true, true_and, and_false, false_and, or_true, true_or, or_false, false_or]
    rfl
  · have q := hc.2 i (by omega)
    simp (disch := omega) only [y_lit, y_n1, nI_add, pk_mul, j_lt, j_b1_s, j_b2_s, j_b3_s, j_b0_s, y_bo, y_bo1, y_bo0, y_i0, y_i1, Classical.not_not, nI_clamp, y_ix, y_lt, y_le, y_eq, y_nP, y_nPs, y_ltP, y_ltQ, y_ltPP, y_eqP, y_eqQ, y_eqPP, if_pos, if_neg, ite_true, ite_false, not_true_eq_false, not_false_eq_true, and_true, true_and, and_false, false_and, or_true, true_or, or_false, false_or, pk_sub, Nat.add_sub_cancel, q, hM.f]
    rfl
theorem ym_may {τ : j_G} {b : Nat → Nat} {i : Nat} {g : Nat → Nat} (hM : y_M τ b) (hW : y_W b) (hi : i ≤ 60) (hf : y_from b i ≤ 210) (h2 : 0 < b 2) (hc : y_mg τ b i g) : f_X12_mayCome τ = some (if i < 60 ∧ y_last b i < b 2 then nI 1 else nI 0) := by
  have h2 := hW.b2
  have hl := y_last_le hW i
  have hs := y_stay_bd hW (y_from b i)
  unfold f_X12_mayCome
  rw [ym_next hM hi hc, hc.1]
  simp (disch := omega) only [y_lit, y_n1, nI_add, pk_mul, j_lt, j_b1_s, j_b2_s, j_b3_s, j_b0_s, y_bo, y_bo1, y_bo0, y_i0, y_i1, Classical.not_not, nI_clamp, y_ix, y_lt, y_le, y_eq, y_nP, y_nPs, y_ltP, y_ltQ, y_ltPP, y_eqP, y_eqQ, y_eqPP, if_pos, if_neg, ite_true, ite_false, not_true_eq_false, not_false_eq_true, and_true, true_and, and_false, false_and, or_true, true_or, or_false, false_or, ym_stay hM hW, hM.f, pk_sub]
  by_cases h : i < 60
  · rw [if_pos h]
    by_cases h2 : y_last b i < b 2
    · rw [if_pos (And.intro h h2)]
      unfold y_last at h2
      simp (disch := omega) only [y_lit, y_n1, nI_add, pk_mul, j_lt, j_b1_s, j_b2_s, j_b3_s, j_b0_s, y_bo, y_bo1, y_bo0, y_i0, y_i1, Classical.not_not, nI_clamp, y_ix, y_lt, y_le, y_eq, y_nP, y_nPs, y_ltP, y_ltQ, y_ltPP, y_eqP, y_eqQ, y_eqPP, if_pos, if_neg, ite_true, ite_false, not_true_eq_false, not_false_eq_true, and_true, true_and, and_false, false_and, or_true, true_or, or_false, false_or]
    · rw [if_neg (fun z : i < 60 ∧ y_last b i < b 2 => h2 z.2)]
      unfold y_last at h2
      simp (disch := omega) only [y_lit, y_n1, nI_add, pk_mul, j_lt, j_b1_s, j_b2_s, j_b3_s, j_b0_s, y_bo, y_bo1, y_bo0, y_i0, y_i1, Classical.not_not, nI_clamp, y_ix, y_lt, y_le, y_eq, y_nP, y_nPs, y_ltP, y_ltQ, y_ltPP, y_eqP, y_eqQ, y_eqPP, if_pos, if_neg, ite_true, ite_false, not_true_eq_false, not_false_eq_true, and_true, true_and, and_false, false_and, or_true, true_or, or_false, false_or]
  · rw [if_neg h, if_neg (fun z : i < 60 ∧ y_last b i < b 2 => h z.1)]
theorem ym_come {τ : j_G} {b : Nat → Nat} {i : Nat} {g : Nat → Nat} {x y z : Int32} (hM : y_M τ b) (hW : y_W b) (hi : i < 60) (hf : y_from b i ≤ 210) (hc : y_mg τ b i g) (hx : x = nI (g (3 * i))) (hy : y = nP (g (3 * i + 1))) (hz : z = nI (g (3 * i + 2))) : ∃ τ', f_X12_come x y z τ = some τ' ∧ y_mg τ' b (i + 1) g ∧ y_fm 18 18 82 84 τ τ' ∧ τ'.2 = τ.2 := by
  have hl := y_last_le hW i
  have hs := y_stay_bd hW (y_from b i)
  have e0 := hc.1
  subst hx hy hz
  unfold f_X12_come
  rw [ym_next hM (by omega) hc]
  simp (disch := omega) only [y_lit, y_n1, nI_add, pk_mul, j_lt, j_b1_s, j_b2_s, j_b3_s, j_b0_s, y_bo, y_bo1, y_bo0, y_i0, y_i1, Classical.not_not, nI_clamp, y_ix, y_lt, y_le, y_eq, y_nP, y_nPs, y_ltP, y_ltQ, y_ltPP, y_eqP, y_eqQ, y_eqPP, if_pos, if_neg, ite_true, ite_false, not_true_eq_false, not_false_eq_true, and_true, true_and, and_false, false_and, or_true, true_or, or_false, false_or, j_r_ne, j_r_eq, j_r_nj, e0, ym_stay_si, ym_stay hM hW, pk_sub, Nat.add_zero]
  refine ⟨_, rfl, ⟨?_, fun j hj => ?_⟩, ?_, rfl⟩
  · simp (disch := omega) only [y_lit, y_n1, nI_add, pk_mul, j_lt, j_b1_s, j_b2_s, j_b3_s, j_b0_s, y_bo, y_bo1, y_bo0, y_i0, y_i1, Classical.not_not, nI_clamp, y_ix, y_lt, y_le, y_eq, y_nP, y_nPs, y_ltP, y_ltQ, y_ltPP, y_eqP, y_eqQ, y_eqPP, if_pos, if_neg, ite_true, ite_false, not_true_eq_false, not_false_eq_true, and_true, true_and, and_false, false_and, or_true, true_or, or_false, false_or, j_r_ne, j_r_eq, j_r_nj, e0]
  · by_cases h : j = i
    · subst h
      simp (disch := omega) only [y_lit, y_n1, nI_add, pk_mul, j_lt, j_b1_s, j_b2_s, j_b3_s, j_b0_s, y_bo, y_bo1, y_bo0, y_i0, y_i1, Classical.not_not, nI_clamp, y_ix, y_lt, y_le, y_eq, y_nP, y_nPs, y_ltP, y_ltQ, y_ltPP, y_eqP, y_eqQ, y_eqPP, if_pos, if_neg, ite_true, ite_false, not_true_eq_false, not_false_eq_true, and_true, true_and, and_false, false_and, or_true, true_or, or_false, false_or, j_r_ne, j_r_eq, j_r_nj]
      rfl
    · have q := hc.2 j (by omega)
      simp (disch := omega) only [y_lit, y_n1, nI_add, pk_mul, j_lt, j_b1_s, j_b2_s, j_b3_s, j_b0_s, y_bo, y_bo1, y_bo0, y_i0, y_i1, Classical.not_not, nI_clamp, y_ix, y_lt, y_le, y_eq, y_nP, y_nPs, y_ltP, y_ltQ, y_ltPP, y_eqP, y_eqQ, y_eqPP, if_pos, if_neg, ite_true, ite_false, not_true_eq_false, not_false_eq_true, and_true, true_and, and_false, false_and, or_true, true_or, or_false, false_or, j_r_ne, j_r_eq, j_r_nj]
      exact q
  · exact (((((y_fm.refl.si (by omega) (by omega) (by omega)).si (by omega) (by omega) (by omega)).si (by omega) (by omega) (by omega)).si (by omega) (by omega) (by omega)).si (by omega) (by omega) (by omega)).so (by omega) (by omega)
theorem ym_lay_l {b : Nat → Nat} (hW : y_W b) (h5 : 0 < b 5) : ∀ m i n τ, i + m = 60 → m < n → y_M τ b → (i = 0 ∨ y_last b (i - 1) < b 2) → y_mg τ b i (y_dg b (b 8)) → ∃ τ', p_X12_lay_5 n τ = some τ' ∧ y_mg τ' b (y_gn b m i) (y_dg b (b 8)) ∧ y_fm 18 18 82 84 τ τ' := by
  have hb := hW.b5
  have h8 := hW.b8
  have h9 := hW.on0 (Or.inr (Or.inr (Or.inl h5)))
  have h2 := (hW.on h9).2.2.1
  intro m
  induction m with
  | zero =>
    intro i n τ h hn hM hl hc
    obtain ⟨n, rfl⟩ := y_pos hn
    have hf := y_from_bd hW hl
    unfold p_X12_lay_5
    refine ⟨τ, ?_, hc, y_fm.refl⟩
    simp (disch := omega) only [y_lit, y_n1, nI_add, pk_mul, j_lt, j_b1_s, j_b2_s, j_b3_s, j_b0_s, y_bo, y_bo1, y_bo0, y_i0, y_i1, Classical.not_not, nI_clamp, y_ix, y_lt, y_le, y_eq, y_nP, y_nPs, y_ltP, y_ltQ, y_ltPP, y_eqP, y_eqQ, y_eqPP, if_pos, if_neg, ite_true, ite_false, not_true_eq_false, not_false_eq_true, and_true, true_and, and_false, false_and, or_true, true_or, or_false, false_or, hM.f, ym_may hM hW (by omega) hf h2 hc]
  | succ m ih =>
    intro i n τ h hn hM hl hc
    obtain ⟨n, rfl⟩ := y_pos hn
    have hm : (b 8 + i) % b 5 < b 5 := Nat.mod_lt _ (by omega)
    have hf := y_from_bd hW hl
    have hr : nI (b 8 + i) - nI ((b 8 + i) / b 5 * b 5) = nI ((b 8 + i) % b 5) := by
      rw [← pk_mul, ← pk_div (by omega) (by omega) (by omega), pk_rem (by omega) (by omega) (by omega)]
    unfold p_X12_lay_5
    simp (disch := omega) only [y_lit, y_n1, nI_add, pk_mul, j_lt, j_b1_s, j_b2_s, j_b3_s, j_b0_s, y_bo, y_bo1, y_bo0, y_i0, y_i1, Classical.not_not, nI_clamp, y_ix, y_lt, y_le, y_eq, y_nP, y_nPs, y_ltP, y_ltQ, y_ltPP, y_eqP, y_eqQ, y_eqPP, if_pos, if_neg, ite_true, ite_false, not_true_eq_false, not_false_eq_true, and_true, true_and, and_false, false_and, or_true, true_or, or_false, false_or, hM.f, ym_may hM hW (by omega) hf h2 hc]
    unfold y_gn
    by_cases c : y_last b i < b 2
    · rw [if_pos ⟨by omega, c⟩, if_pos c, hc.1]
      simp (disch := omega) only [y_lit, y_n1, nI_add, pk_mul, j_lt, j_b1_s, j_b2_s, j_b3_s, j_b0_s, y_bo, y_bo1, y_bo0, y_i0, y_i1, Classical.not_not, nI_clamp, y_ix, y_lt, y_le, y_eq, y_nP, y_nPs, y_ltP, y_ltQ, y_ltPP, y_eqP, y_eqQ, y_eqPP, if_pos, if_neg, ite_true, ite_false, not_true_eq_false, not_false_eq_true, and_true, true_and, and_false, false_and, or_true, true_or, or_false, false_or, pk_div]
      rw [hr, ym_co0 hM (by omega), ym_co1 hM (by omega), ym_co2 hM (by omega)]
      simp only [j_b1_s]
      obtain ⟨τ1, a1, a2, a3, _⟩ := ym_come hM hW (by omega) hf hc (x := nI (b (24 + 3 * ((b 8 + i) % b 5)))) (y := nP (b (25 + 3 * ((b 8 + i) % b 5)))) (z := nI (b (26 + 3 * ((b 8 + i) % b 5)))) (by rw [y_dg0]) (by rw [y_dg1]) (by rw [y_dg2])
      rw [a1]
      obtain ⟨τ2, g1, g2, g3⟩ := ih (i + 1) n τ1 (by omega) (by omega) (hM.fr a3 (by omega)) (Or.inr c) a2
      exact ⟨τ2, g1, g2, a3.trans g3⟩
    · rw [if_neg (fun z => c z.2), if_neg c]
      exact ⟨τ, by simp (disch := omega) only [y_lit, y_n1, nI_add, pk_mul, j_lt, j_b1_s, j_b2_s, j_b3_s, j_b0_s, y_bo, y_bo1, y_bo0, y_i0, y_i1, Classical.not_not, nI_clamp, y_ix, y_lt, y_le, y_eq, y_nP, y_nPs, y_ltP, y_ltQ, y_ltPP, y_eqP, y_eqQ, y_eqPP, if_pos, if_neg, ite_true, ite_false, not_true_eq_false, not_false_eq_true, and_true, true_and, and_false, false_and, or_true, true_or, or_false, false_or], hc, y_fm.refl⟩
theorem ym_lay {τ : j_G} {b : Nat → Nat} (hM : y_M τ b) (hW : y_W b) : ∃ τ', f_X12_lay τ = some τ' ∧ y_mg τ' b (y_gs b) (y_dg b (b 8)) ∧ y_fm 18 18 82 84 τ τ' := by
  have hb := hW.b5
  unfold f_X12_lay
  simp only [j_lt, y_lit]
  have f : y_fm 18 18 82 84 τ (j_si τ 75 18 (nI 0)) := y_fm.refl.so (by omega) (by omega)
  have hM1 := hM.fr f (by omega)
  have hc : y_mg (j_si τ 75 18 (nI 0)) b 0 (y_dg b (b 8)) := ⟨j_r_eq, fun i hi => absurd hi (by omega)⟩
  unfold y_gs
  by_cases h5 : b 5 = 0
  · rw [if_pos h5, show j_F = 4999 + 1 from rfl]
    refine ⟨_, ?_, hc, f⟩
    unfold p_X12_lay_5
    simp (disch := omega) only [y_lit, y_n1, nI_add, pk_mul, j_lt, j_b1_s, j_b2_s, j_b3_s, j_b0_s, y_bo, y_bo1, y_bo0, y_i0, y_i1, Classical.not_not, nI_clamp, y_ix, y_lt, y_le, y_eq, y_nP, y_nPs, y_ltP, y_ltQ, y_ltPP, y_eqP, y_eqQ, y_eqPP, if_pos, if_neg, ite_true, ite_false, not_true_eq_false, not_false_eq_true, and_true, true_and, and_false, false_and, or_true, true_or, or_false, false_or, hM1.f, h5]
  · rw [if_neg h5]
    obtain ⟨σ2, g1, g2, g3⟩ := ym_lay_l hW (by omega) 60 0 j_F _ (by omega) (y_F (by omega)) hM1 (Or.inl rfl) hc
    rw [g1]
    exact ⟨σ2, rfl, g2, f.trans g3⟩
