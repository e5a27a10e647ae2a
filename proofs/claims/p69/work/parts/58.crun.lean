/-! ===== a run of the class ===== -/
theorem yc_apart_si {x y v : Int32} {c j : Nat} {σ : j_G} (hc : c ≠ 1) : f_X2_apart x y (j_si σ c j v) = f_X2_apart x y σ := by
  unfold f_X2_apart
  rw [j_r_ne (fun z => hc z.symm)]
theorem y_at_bd {b q R : Nat → Nat} {i m : Nat} (hW : y_W b) (hq : y_vq b q) (hb : y_br b R m) {to : Nat} (hto : to < y_ho b) (hf : y_from b i ≤ 200) : y_mx (R 3) (y_aw b q i) ≤ 1000 ∧ y_th b q (R 2) to (y_mx (R 3) (y_aw b q i)) ≤ 30000 ∧ y_at b q i to R ≤ 30000 := by
  have h1 := y_aw_bd hq (i := i)
  have h2 := hb.2.2.1
  have h3 := hb.2.2.2.1
  have h4 := hW.ho
  have k1 : y_mx (R 3) (y_aw b q i) ≤ 1000 := by unfold y_mx; split <;> omega
  have k2 := y_th_bd hq (a := R 2) (c := to) (by omega) (by omega) k1
  refine ⟨k1, k2, ?_⟩
  unfold y_at
  generalize y_th b q (R 2) to (y_mx (R 3) (y_aw b q i)) = z at *
  unfold y_mx; split <;> omega
theorem y_set_br {b g R : Nat → Nat} {i to t m : Nat} (hW : y_W b) (hb : y_br b R m) (hm : m < 200) (hto : to < y_ho b) (ht : t < 200) (hr : g (3 * i + 2) ≤ 1) (hi : i < 60) : y_br b (y_set b g i to t R) (m + 1) := by
  obtain ⟨b0, b1, b2, b3, b4, b5, b6, b7⟩ := hb
  have h4 := hW.ho
  have h5 := y_ap_bd (b := b) (a := R 2) (c := to) (by omega) (by omega)
  unfold y_set
  refine ⟨?_, ?_, ?_, ?_, ?_, fun k hk => ?_, fun j => ?_, fun j => ?_⟩
  · simp (disch := omega) only [y_ue, y_un]; omega
  · simp (disch := omega) only [y_ue, y_un]; omega
  · simp (disch := omega) only [y_ue, y_un]; exact hto
  · simp (disch := omega) only [y_ue, y_un]; omega
  · simp (disch := omega) only [y_ue, y_un]; omega
  · simp (disch := omega) only [y_ue, y_un] at hk
    by_cases e : k = R 0
    · subst e; simp (disch := omega) only [y_ue, y_un]; exact ⟨ht, hto⟩
    · have := b5 k (by omega)
      simp (disch := omega) only [y_ue, y_un]; exact this
  · by_cases e : j = i
    · subst e; simp (disch := omega) only [y_ue, y_un]; omega
    · have := b6 j
      simp (disch := omega) only [y_ue, y_un]; omega
  · by_cases e : j = i
    · subst e; have := b7 j; simp (disch := omega) only [y_ue, y_un]; omega
    · have := b7 j
      simp (disch := omega) only [y_ue, y_un]; omega
section C
variable {σ : j_G} {b g q R : Nat → Nat} {s a m i to : Nat}
theorem yc_strike (hN : y_N σ b) (hW : y_W b) (h9 : 0 < b 9) (hc : y_cg σ b s g) (hv : y_vg b s g) (hp : y_cp σ a q) (ha : a < 30) (hq : y_vq b q) (hr : y_cr σ R s) (hb : y_br b R m) (hm : m < 120) (hi : i < s) (hto : to < y_ho b) : ∃ σ', f_X9_strike 30 26 a 33 34 31 32 (nI i) (nI to) σ = some ((if y_at b q i to R ≤ y_last b i then nI 1 else nI 0), σ') ∧ y_cr σ' (y_go b g q i to R) s ∧ y_fr 30 34 σ σ' ∧ σ'.1 30 4 = σ.1 30 4 := by
  have hs := hv.1
  have h2 := hW.b2
  have h4 := hW.ho
  have li := (hv.2 i hi).2.2.2.2.2
  have le := y_last_le hW i
  obtain ⟨b0, b1, b2, b3, b4, b5, b6, b7⟩ := id hb
  obtain ⟨k1, k2, k3⟩ := y_at_bd hW hq hb hto (i := i) (by omega)
  have h1 := y_aw_bd hq (i := i)
  obtain ⟨⟨r0, r1, r2, r3⟩, rk, ri⟩ := id hr
  have rb := b7 i
  unfold f_X9_strike
  rw [yc_awareOf hc hv hp hq hW hi, r0, r2, r3]
  simp (disch := omega) only [y_lit, y_n1, nI_add, pk_mul, j_lt, j_b1_s, j_b2_s, j_b3_s, j_b0_s, y_bo, y_bo1, y_bo0, y_i0, y_i1, Classical.not_not, nI_clamp, y_ix, y_lt, y_le, y_eq, y_nP, y_nPs, y_ltP, y_ltQ, y_ltPP, y_eqP, y_eqQ, y_eqPP, if_pos, if_neg, ite_true, ite_false, not_true_eq_false, not_false_eq_true, and_true, true_and, and_false, false_and, or_true, true_or, or_false, false_or, y_mxI]
  rw [yc_there hN hW h9 hp hq (by omega) (by omega) k1]
  simp (disch := omega) only [y_lit, y_n1, nI_add, pk_mul, j_lt, j_b1_s, j_b2_s, j_b3_s, j_b0_s, y_bo, y_bo1, y_bo0, y_i0, y_i1, Classical.not_not, nI_clamp, y_ix, y_lt, y_le, y_eq, y_nP, y_nPs, y_ltP, y_ltQ, y_ltPP, y_eqP, y_eqQ, y_eqPP, if_pos, if_neg, ite_true, ite_false, not_true_eq_false, not_false_eq_true, and_true, true_and, and_false, false_and, or_true, true_or, or_false, false_or]
  rw [yc_strikeG hc hv hW hi (by omega), show y_mx (y_th b q (R 2) to (y_mx (R 3) (y_aw b q i))) (y_from b i) = y_at b q i to R from rfl]
  unfold y_go
  by_cases h : y_at b q i to R ≤ y_last b i
  · simp only [if_pos h]
    generalize y_at b q i to R = t at *
    have ei := ri i hi
    simp (disch := omega) only [y_lit, y_n1, nI_add, pk_mul, j_lt, j_b1_s, j_b2_s, j_b3_s, j_b0_s, y_bo, y_bo1, y_bo0, y_i0, y_i1, Classical.not_not, nI_clamp, y_ix, y_lt, y_le, y_eq, y_nP, y_nPs, y_ltP, y_ltQ, y_ltPP, y_eqP, y_eqQ, y_eqPP, if_pos, if_neg, ite_true, ite_false, not_true_eq_false, not_false_eq_true, and_true, true_and, and_false, false_and, or_true, true_or, or_false, false_or, j_r_ne, j_r_eq, j_r_nj, r0, r1, r2, ei, yc_apart_si]
    rw [yc_apart hN hW h9 (by omega) (by omega)]
    have h5 := y_ap_bd (b := b) (a := R 2) (c := to) (by omega) (by omega)
    simp (disch := omega) only [y_lit, y_n1, nI_add, pk_mul, j_lt, j_b1_s, j_b2_s, j_b3_s, j_b0_s, y_bo, y_bo1, y_bo0, y_i0, y_i1, Classical.not_not, nI_clamp, y_ix, y_lt, y_le, y_eq, y_nP, y_nPs, y_ltP, y_ltQ, y_ltPP, y_eqP, y_eqQ, y_eqPP, if_pos, if_neg, ite_true, ite_false, not_true_eq_false, not_false_eq_true, and_true, true_and, and_false, false_and, or_true, true_or, or_false, false_or, j_r_ne, j_r_eq, j_r_nj, r1]
    refine ⟨_, rfl, ⟨⟨?_, ?_, ?_, ?_⟩, fun k hk => ?_, fun j hj => ?_⟩, ?_, ?_⟩
    · unfold y_set; simp (disch := omega) only [j_r_ne, j_r_eq, j_r_nj, y_ue, y_un]
    · unfold y_set; simp (disch := omega) only [j_r_ne, j_r_eq, j_r_nj, y_ue, y_un]
    · unfold y_set; simp (disch := omega) only [j_r_ne, j_r_eq, j_r_nj, y_ue, y_un]
    · unfold y_set; simp (disch := omega) only [j_r_ne, j_r_eq, j_r_nj, y_ue, y_un]
    · unfold y_set at hk ⊢
      simp (disch := omega) only [y_ue, y_un] at hk
      by_cases e : k = R 0
      · subst e; simp (disch := omega) only [j_r_ne, j_r_eq, j_r_nj, y_ue, y_un]; exact ⟨trivial, trivial⟩
      · have := rk k (by omega)
        simp (disch := omega) only [j_r_ne, j_r_eq, j_r_nj, y_ue, y_un]; exact this
    · unfold y_set
      by_cases e : j = i
      · subst e; simp (disch := omega) only [j_r_ne, j_r_eq, j_r_nj, y_ue, y_un, y_nPs]; exact ⟨trivial, trivial⟩
      · have := ri j hj
        simp (disch := omega) only [j_r_ne, j_r_eq, j_r_nj, y_ue, y_un]; exact this
    · exact ((((((((y_fr.refl.si (by omega) (by omega)).si (by omega) (by omega)).si (by omega) (by omega)).si (by omega) (by omega)).si (by omega) (by omega)).si (by omega) (by omega)).si (by omega) (by omega)).si (by omega) (by omega))
    · simp (disch := omega) only [j_r_ne, j_r_eq, j_r_nj]
  · simp only [if_neg h]
    refine ⟨σ, ?_, hr, y_fr.refl, rfl⟩
    simp (disch := omega) only [y_lit, y_n1, nI_add, pk_mul, j_lt, j_b1_s, j_b2_s, j_b3_s, j_b0_s, y_bo, y_bo1, y_bo0, y_i0, y_i1, Classical.not_not, nI_clamp, y_ix, y_lt, y_le, y_eq, y_nP, y_nPs, y_ltP, y_ltQ, y_ltPP, y_eqP, y_eqQ, y_eqPP, if_pos, if_neg, ite_true, ite_false, not_true_eq_false, not_false_eq_true, and_true, true_and, and_false, false_and, or_true, true_or, or_false, false_or]
end C
