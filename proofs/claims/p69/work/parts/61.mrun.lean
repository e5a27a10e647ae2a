/-! ===== a run of the reference ===== -/
theorem ym_steps_si {x y v : Int32} {c j : Nat} {σ : j_G} (hc : c ≠ 76) : f_X12_stepsOf x y (j_si σ c j v) = f_X12_stepsOf x y σ := by
  unfold f_X12_stepsOf
  have e : ∀ j', (j_si σ c j v).1 76 j' = σ.1 76 j' := fun j' => j_r_ne (fun z => hc z.symm)
  simp only [e]
theorem y_mg.fr {τ τ' : j_G} {b g : Nat → Nat} {s f h lo hi : Nat} (hg : y_mg τ b s g) (hf : y_fm f h lo hi τ τ') (hl : 19 ≤ f) (hl2 : 85 ≤ lo) : y_mg τ' b s g := by
  unfold y_mg at *
  rw [(hf.2 82 (by omega) (by omega)).1, (hf.2 83 (by omega) (by omega)).1, (hf.2 84 (by omega) (by omega)).1, hf.1 18 (by omega)]
  exact hg
theorem y_mp.fr {τ τ' : j_G} {b q : Nat → Nat} {p f h lo hi : Nat} (hg : y_mp τ b p q) (hf : y_fm f h lo hi τ τ') (hl : 25 ≤ f) : y_mp τ' b p q := by
  unfold y_mp at *
  rw [hf.1 19 (by omega), hf.1 20 (by omega), hf.1 21 (by omega), hf.1 22 (by omega)]
  exact hg
section M
variable {τ : j_G} {b g q R k : Nat → Nat} {s p m i to : Nat}
theorem ym_pace (hM : y_M τ b) (hW : y_W b) (hp : p < b 6) (h0 : b (96 + 5 * p) = q 0) (h2 : b (98 + 5 * p) = q 2) (hq : y_vq b q) {t : Nat} (ht : t < 2 ^ 30) : f_X12_paceIn (nI p) (nI t) τ = some (nI (y_pc q t)) := by
  have h6 := hW.b6
  have q0 := hq.1; have q2 := hq.2.2.1
  have e0 := ym_of hM (p := p) (q := 0) (by omega) (by omega)
  have e2 := ym_of hM (p := p) (q := 2) (by omega) (by omega)
  rw [Nat.add_zero, h0] at e0
  rw [show 96 + 5 * p + 2 = 98 + 5 * p from by omega, h2] at e2
  have := Nat.div_le_self t (q 2)
  unfold f_X12_paceIn y_pc; simp (disch := omega) only [y_lit, y_n1, nI_add, pk_mul, j_lt, j_b1_s, j_b2_s, j_b3_s, j_b0_s, y_bo, y_bo1, y_bo0, y_i0, y_i1, Classical.not_not, nI_clamp, y_ix, y_lt, y_le, y_eq, y_nP, y_nPs, y_ltP, y_ltQ, y_ltPP, y_eqP, y_eqQ, y_eqPP, if_pos, if_neg, ite_true, ite_false, not_true_eq_false, not_false_eq_true, and_true, true_and, and_false, false_and, or_true, true_or, or_false, false_or, e0, e2]
  by_cases z : q 2 = 0
  · simp (disch := omega) only [z, Nat.div_zero, Nat.add_zero, y_lit, y_n1, nI_add, pk_mul, j_lt, j_b1_s, j_b2_s, j_b3_s, j_b0_s, y_bo, y_bo1, y_bo0, y_i0, y_i1, Classical.not_not, nI_clamp, y_ix, y_lt, y_le, y_eq, y_nP, y_nPs, y_ltP, y_ltQ, y_ltPP, y_eqP, y_eqQ, y_eqPP, if_pos, if_neg, ite_true, ite_false, not_true_eq_false, not_false_eq_true, and_true, true_and, and_false, false_and, or_true, true_or, or_false, false_or]
  · simp (disch := omega) only [y_lit, y_n1, nI_add, pk_mul, j_lt, j_b1_s, j_b2_s, j_b3_s, j_b0_s, y_bo, y_bo1, y_bo0, y_i0, y_i1, Classical.not_not, nI_clamp, y_ix, y_lt, y_le, y_eq, y_nP, y_nPs, y_ltP, y_ltQ, y_ltPP, y_eqP, y_eqQ, y_eqPP, if_pos, if_neg, ite_true, ite_false, not_true_eq_false, not_false_eq_true, and_true, true_and, and_false, false_and, or_true, true_or, or_false, false_or, pk_div]
theorem ym_awareOf (hg : y_mg τ b s g) (hv : y_vg b s g) (hp : y_mp τ b p q) (hq : y_vq b q) (hW : y_W b) (hi : i < s) : f_X12_awareOf (nI i) τ = some (nI (y_aw b q i)) := by
  have hs := hv.1
  have h2 := hW.b2
  have h1 := hq.2.1; have h3 := hq.2.2.2.1
  have e1 := hp.2.1; have e3 := hp.2.2.1
  have ei := (hg.2 i hi).2.2.2.1
  have li := (hv.2 i hi).2.2.2.2.2
  have le := y_last_le hW i
  unfold f_X12_awareOf y_aw
  simp (disch := omega) only [y_lit, y_n1, nI_add, pk_mul, j_lt, j_b1_s, j_b2_s, j_b3_s, j_b0_s, y_bo, y_bo1, y_bo0, y_i0, y_i1, Classical.not_not, nI_clamp, y_ix, y_lt, y_le, y_eq, y_nP, y_nPs, y_ltP, y_ltQ, y_ltPP, y_eqP, y_eqQ, y_eqPP, if_pos, if_neg, ite_true, ite_false, not_true_eq_false, not_false_eq_true, and_true, true_and, and_false, false_and, or_true, true_or, or_false, false_or, e1, e3, ei]
  by_cases z : q 3 = 0
  · simp (disch := omega) only [y_lit, y_n1, nI_add, pk_mul, j_lt, j_b1_s, j_b2_s, j_b3_s, j_b0_s, y_bo, y_bo1, y_bo0, y_i0, y_i1, Classical.not_not, nI_clamp, y_ix, y_lt, y_le, y_eq, y_nP, y_nPs, y_ltP, y_ltQ, y_ltPP, y_eqP, y_eqQ, y_eqPP, if_pos, if_neg, ite_true, ite_false, not_true_eq_false, not_false_eq_true, and_true, true_and, and_false, false_and, or_true, true_or, or_false, false_or]
  · by_cases y : i < q 3
    · simp (disch := omega) only [y_lit, y_n1, nI_add, pk_mul, j_lt, j_b1_s, j_b2_s, j_b3_s, j_b0_s, y_bo, y_bo1, y_bo0, y_i0, y_i1, Classical.not_not, nI_clamp, y_ix, y_lt, y_le, y_eq, y_nP, y_nPs, y_ltP, y_ltQ, y_ltPP, y_eqP, y_eqQ, y_eqPP, if_pos, if_neg, ite_true, ite_false, not_true_eq_false, not_false_eq_true, and_true, true_and, and_false, false_and, or_true, true_or, or_false, false_or, y_pI]
    · have ej := (hg.2 (i - q 3) (by omega)).2.2.2.1
      have lj := (hv.2 (i - q 3) (by omega)).2.2.2.2.2
      have lf := y_last_le hW (i - q 3)
      simp (disch := omega) only [y_lit, y_n1, nI_add, pk_mul, j_lt, j_b1_s, j_b2_s, j_b3_s, j_b0_s, y_bo, y_bo1, y_bo0, y_i0, y_i1, Classical.not_not, nI_clamp, y_ix, y_lt, y_le, y_eq, y_nP, y_nPs, y_ltP, y_ltQ, y_ltPP, y_eqP, y_eqQ, y_eqPP, if_pos, if_neg, ite_true, ite_false, not_true_eq_false, not_false_eq_true, and_true, true_and, and_false, false_and, or_true, true_or, or_false, false_or, pk_sub, ej, y_pI]
theorem ym_goes (hM : y_M τ b) (hW : y_W b) (h9 : 0 < b 9) (hg : y_mg τ b s g) (hv : y_vg b s g) (hp : y_mp τ b p q) (hq : y_vq b q) (hr : y_mr τ R (i + 1)) (hb : y_br b R m) (hm : m < 120) (hi : i < s) (hto : to < y_ho b) : ∃ τ', f_X12_goes (nI i) (nI to) τ = some ((if y_at b q i to R ≤ y_last b i then nI 1 else nI 0), τ') ∧ y_mr τ' (y_go b g q i to R) (i + 1) ∧ y_fm 29 33 85 88 τ τ' := by
  have hs := hv.1
  have h2 := hW.b2
  have h4 := hW.ho
  have h6 := hW.b6
  have li := (hv.2 i hi).2.2.2.2.2
  have ri1 := (hv.2 i hi).2.2.2.1
  have le := y_last_le hW i
  obtain ⟨b0, b1, b2, b3, b4, b5, b6, b7⟩ := id hb
  obtain ⟨k1, k2, k3⟩ := y_at_bd hW hq hb hto (i := i) (by omega)
  have h1 := y_aw_bd hq (i := i)
  obtain ⟨⟨r0, r1, r2, r3, r4⟩, rk, ri⟩ := id hr
  have rb := b7 i
  have gi := hg.2 i hi
  have h5 := y_ap_bd (b := b) (a := R 2) (c := to) (by omega) (by omega)
  unfold f_X12_goes
  rw [ym_awareOf hg hv hp hq hW hi, r3, r2, hp.1]
  simp (disch := omega) only [y_lit, y_n1, nI_add, pk_mul, j_lt, j_b1_s, j_b2_s, j_b3_s, j_b0_s, y_bo, y_bo1, y_bo0, y_i0, y_i1, Classical.not_not, nI_clamp, y_ix, y_lt, y_le, y_eq, y_nP, y_nPs, y_ltP, y_ltQ, y_ltPP, y_eqP, y_eqQ, y_eqPP, if_pos, if_neg, ite_true, ite_false, not_true_eq_false, not_false_eq_true, and_true, true_and, and_false, false_and, or_true, true_or, or_false, false_or, y_mxI]
  rw [ym_stepsOf hM hW h9 (by omega) (by omega)]
  simp (disch := omega) only [y_lit, y_n1, nI_add, pk_mul, j_lt, j_b1_s, j_b2_s, j_b3_s, j_b0_s, y_bo, y_bo1, y_bo0, y_i0, y_i1, Classical.not_not, nI_clamp, y_ix, y_lt, y_le, y_eq, y_nP, y_nPs, y_ltP, y_ltQ, y_ltPP, y_eqP, y_eqQ, y_eqPP, if_pos, if_neg, ite_true, ite_false, not_true_eq_false, not_false_eq_true, and_true, true_and, and_false, false_and, or_true, true_or, or_false, false_or]
  rw [ym_pace hM hW hp.2.2.2.2.1 hp.2.2.2.2.2.1 hp.2.2.2.2.2.2 hq (by omega)]
  have eth : y_mx (R 3) (y_aw b q i) + y_ap b (R 2) to * y_pc q (y_mx (R 3) (y_aw b q i)) = y_th b q (R 2) to (y_mx (R 3) (y_aw b q i)) := rfl
  simp (disch := omega) only [nI_add, pk_mul, j_lt, j_b1_s, gi, y_lt, eth, y_mxI, nI_clamp, y_ix]
  rw [show y_mx (y_th b q (R 2) to (y_mx (R 3) (y_aw b q i))) (y_from b i) = y_at b q i to R from rfl]
  unfold y_go
  generalize y_at b q i to R = t at *
  by_cases h : t ≤ y_last b i
  · simp only [if_pos h]
    have e2 := (ri i (by omega)).2
    unfold f_X12_inGame
    simp (disch := omega) only [y_lit, y_n1, nI_add, pk_mul, j_lt, j_b1_s, j_b2_s, j_b3_s, j_b0_s, y_bo, y_bo1, y_bo0, y_i0, y_i1, Classical.not_not, nI_clamp, y_ix, y_lt, y_le, y_eq, y_nP, y_nPs, y_ltP, y_ltQ, y_ltPP, y_eqP, y_eqQ, y_eqPP, if_pos, if_neg, ite_true, ite_false, not_true_eq_false, not_false_eq_true, and_true, true_and, and_false, false_and, or_true, true_or, or_false, false_or, j_r_ne, j_r_eq, j_r_nj, r0, r1, r2, r4, e2, gi]
    refine ⟨_, rfl, ⟨⟨?_, ?_, ?_, ?_, ?_⟩, fun k hk => ?_, fun j hj => ?_⟩, ?_⟩
    · unfold y_set; simp (disch := omega) only [j_r_ne, j_r_eq, j_r_nj, y_ue, y_un]
    · unfold y_set; simp (disch := omega) only [j_r_ne, j_r_eq, j_r_nj, y_ue, y_un]
    · unfold y_set; simp (disch := omega) only [j_r_ne, j_r_eq, j_r_nj, y_ue, y_un]
    · unfold y_set; simp (disch := omega) only [j_r_ne, j_r_eq, j_r_nj, y_ue, y_un]
    · unfold y_set; simp (disch := omega) only [j_r_ne, j_r_eq, j_r_nj, y_ue, y_un]
    · unfold y_set at hk ⊢
      simp (disch := omega) only [y_ue, y_un] at hk
      by_cases e : k = R 0
      · subst e; simp (disch := omega) only [j_r_ne, j_r_eq, j_r_nj, y_ue, y_un]; exact ⟨trivial, trivial⟩
      · have := rk k (by omega)
        simp (disch := omega) only [j_r_ne, j_r_eq, j_r_nj, y_ue, y_un]; exact this
    · unfold y_set
      by_cases e : j = i
      · subst e; simp (disch := omega) only [j_r_ne, j_r_eq, j_r_nj, y_ue, y_un, y_nPs]; exact ⟨trivial, trivial⟩
      · have := ri j hj
        simp (disch := omega) only [j_r_ne, j_r_eq, j_r_nj, y_ue, y_un]; exact this
    · exact (((((((((y_fm.refl.so (by omega) (by omega)).so (by omega) (by omega)).so (by omega) (by omega)).si (by omega) (by omega) (by omega)).si (by omega) (by omega) (by omega)).si (by omega) (by omega) (by omega)).si (by omega) (by omega) (by omega)).so (by omega) (by omega)).so (by omega) (by omega))
  · simp only [if_neg h]
    refine ⟨τ, ?_, hr, y_fm.refl⟩
    simp (disch := omega) only [y_lit, y_n1, nI_add, pk_mul, j_lt, j_b1_s, j_b2_s, j_b3_s, j_b0_s, y_bo, y_bo1, y_bo0, y_i0, y_i1, Classical.not_not, nI_clamp, y_ix, y_lt, y_le, y_eq, y_nP, y_nPs, y_ltP, y_ltQ, y_ltPP, y_eqP, y_eqQ, y_eqPP, if_pos, if_neg, ite_true, ite_false, not_true_eq_false, not_false_eq_true, and_true, true_and, and_false, false_and, or_true, true_or, or_false, false_or]
end M
