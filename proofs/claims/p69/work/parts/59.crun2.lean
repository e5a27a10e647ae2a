/-! ===== for one coming, and for all ===== -/
def y_mk (hs : Int32) (k : Nat → Nat) : Prop := ∀ h, h < 12 → ((hs >>> (nI h &&& nI 31)) &&& nI 1) = nI (k h) ∧ k h ≤ 1
def y_gf (b g q k : Nat → Nat) (i : Nat) (R : Nat → Nat) : Nat → Nat :=
  if k (g (3 * i)) = 1 then
    (if 0 < g (3 * i + 1) ∧ k (g (3 * i + 1) - 1) = 1 then
      (if y_ap b (R 2) (g (3 * i)) ≤ y_ap b (R 2) (g (3 * i + 1) - 1) then y_go2 b g q i (g (3 * i)) (g (3 * i + 1) - 1) R else y_go2 b g q i (g (3 * i + 1) - 1) (g (3 * i)) R)
    else y_go b g q i (g (3 * i)) R)
  else if 0 < g (3 * i + 1) ∧ k (g (3 * i + 1) - 1) = 1 then y_go b g q i (g (3 * i + 1) - 1) R else R
def y_rl (b g q k : Nat → Nat) (red : Nat) : Nat → Nat → (Nat → Nat) → Nat → Nat
  | 0, _, R => R
  | m + 1, i, R => y_rl b g q k red m (i + 1) (if g (3 * i + 2) = 0 ∨ red = 1 then y_gf b g q k i R else R)
def y_R0 (q : Nat → Nat) : Nat → Nat := fun j => if j = 2 then q 4 else 0
def y_run (b g q k : Nat → Nat) (red s : Nat) : Nat → Nat := y_rl b g q k red s 0 (y_R0 q)
theorem y_br.up {b R : Nat → Nat} {m m' : Nat} (h : y_br b R m) (hm : m ≤ m') : y_br b R m' := by
  obtain ⟨b0, b1, b2, b3, b4, b5, b6, b7⟩ := h
  exact ⟨by omega, by omega, b2, b3, by omega, b5, b6, fun j => by have := b7 j; omega⟩
theorem y_go_br {b g q R : Nat → Nat} {s i to m : Nat} (hW : y_W b) (hv : y_vg b s g) (hb : y_br b R m) (hm : m < 120) (hi : i < s) (hto : to < y_ho b) : y_br b (y_go b g q i to R) (m + 1) := by
  have h2 := hW.b2
  have li := hv.2 i hi
  have h60 := hv.1
  unfold y_go
  split
  · exact y_set_br hW hb (by omega) hto (by omega) li.2.2.2.1 (by omega)
  · exact hb.up (by omega)
theorem y_go2_br {b g q R : Nat → Nat} {s i to th m : Nat} (hW : y_W b) (hv : y_vg b s g) (hb : y_br b R m) (hm : m + 1 < 120) (hi : i < s) (hto : to < y_ho b) (hth : th < y_ho b) : y_br b (y_go2 b g q i to th R) (m + 2) := by
  unfold y_go2
  split
  · exact y_go_br hW hv (y_go_br hW hv hb (by omega) hi hto) hm hi hth
  · exact hb.up (by omega)
theorem y_gf_br {b g q k R : Nat → Nat} {s i m : Nat} (hW : y_W b) (hv : y_vg b s g) (hb : y_br b R m) (hm : m + 1 < 120) (hi : i < s) : y_br b (y_gf b g q k i R) (m + 2) := by
  have li := hv.2 i hi
  unfold y_gf
  split
  · split
    · split
      · exact y_go2_br hW hv hb hm hi li.1 (by omega)
      · exact y_go2_br hW hv hb hm hi (by omega) li.1
    · exact (y_go_br hW hv hb (by omega) hi li.1).up (by omega)
  · split
    · exact (y_go_br hW hv hb (by omega) hi (by omega)).up (by omega)
    · exact hb.up (by omega)
theorem y_rl_br {b g q k : Nat → Nat} {s red : Nat} (hW : y_W b) (hv : y_vg b s g) : ∀ m i R, i + m ≤ s → y_br b R (2 * i) → y_br b (y_rl b g q k red m i R) (2 * (i + m)) := by
  have hs := hv.1
  intro m
  induction m with
  | zero => intro i R _ h; exact h
  | succ m ih =>
    intro i R h hb
    unfold y_rl
    rw [show i + (m + 1) = i + 1 + m from by omega]
    refine ih (i + 1) _ (by omega) ?_
    split
    · exact y_gf_br (m := 2 * i) hW hv hb (by omega) (by omega)
    · exact hb.up (by omega)
theorem y_R0_br {b q : Nat → Nat} (hq : y_vq b q) : y_br b (y_R0 q) (2 * 0) := by
  have h := hq.2.2.2.2
  refine ⟨Nat.zero_le _, Nat.zero_le _, h, Nat.zero_le _, Nat.zero_le _, fun k hk => absurd hk (by show ¬ k < 0; omega), fun j => ?_, fun j => ?_⟩
  · unfold y_R0; rw [if_neg (by omega)]; omega
  · unfold y_R0; rw [if_neg (by omega)]; omega
theorem y_run_br {b g q k : Nat → Nat} {s red : Nat} (hW : y_W b) (hv : y_vg b s g) (hq : y_vq b q) : y_br b (y_run b g q k red s) 120 := by
  have hs := hv.1
  exact (y_rl_br hW hv s 0 _ (by omega) (y_R0_br hq)).up (by omega)
section C
variable {σ : j_G} {b g q k R : Nat → Nat} {s a m i : Nat} {hs : Int32}
theorem yc_am0 (hk : y_mk hs k) {h : Nat} (hh : h < 12) : f_X9_among (nI h) hs = nP (if k h = 1 then h + 1 else 0) := by
  obtain ⟨k1, k2⟩ := hk h hh
  unfold f_X9_among
  simp (disch := omega) only [y_lit, y_n1, nI_add, pk_mul, j_lt, j_b1_s, j_b2_s, j_b3_s, j_b0_s, y_bo, y_bo1, y_bo0, y_i0, y_i1, Classical.not_not, nI_clamp, y_ix, y_lt, y_le, y_eq, y_nP, y_nPs, y_ltP, y_ltQ, y_ltPP, y_eqP, y_eqQ, y_eqPP, if_pos, if_neg, ite_true, ite_false, not_true_eq_false, not_false_eq_true, and_true, true_and, and_false, false_and, or_true, true_or, or_false, false_or]
  rw [k1]
  by_cases e : k h = 1
  · simp (disch := omega) only [y_lit, y_n1, nI_add, pk_mul, j_lt, j_b1_s, j_b2_s, j_b3_s, j_b0_s, y_bo, y_bo1, y_bo0, y_i0, y_i1, Classical.not_not, nI_clamp, y_ix, y_lt, y_le, y_eq, y_nP, y_nPs, y_ltP, y_ltQ, y_ltPP, y_eqP, y_eqQ, y_eqPP, if_pos, if_neg, ite_true, ite_false, not_true_eq_false, not_false_eq_true, and_true, true_and, and_false, false_and, or_true, true_or, or_false, false_or]
  · simp (disch := omega) only [y_lit, y_n1, nI_add, pk_mul, j_lt, j_b1_s, j_b2_s, j_b3_s, j_b0_s, y_bo, y_bo1, y_bo0, y_i0, y_i1, Classical.not_not, nI_clamp, y_ix, y_lt, y_le, y_eq, y_nP, y_nPs, y_ltP, y_ltQ, y_ltPP, y_eqP, y_eqQ, y_eqPP, if_pos, if_neg, ite_true, ite_false, not_true_eq_false, not_false_eq_true, and_true, true_and, and_false, false_and, or_true, true_or, or_false, false_or]
theorem yc_am1 (hk : y_mk hs k) {o : Nat} (ho : o ≤ 12) : f_X9_among (nP o) hs = nP (if 0 < o ∧ k (o - 1) = 1 then o else 0) := by
  unfold f_X9_among
  by_cases z : o = 0
  · subst z; simp (disch := omega) only [y_lit, y_n1, nI_add, pk_mul, j_lt, j_b1_s, j_b2_s, j_b3_s, j_b0_s, y_bo, y_bo1, y_bo0, y_i0, y_i1, Classical.not_not, nI_clamp, y_ix, y_lt, y_le, y_eq, y_nP, y_nPs, y_ltP, y_ltQ, y_ltPP, y_eqP, y_eqQ, y_eqPP, if_pos, if_neg, ite_true, ite_false, not_true_eq_false, not_false_eq_true, and_true, true_and, and_false, false_and, or_true, true_or, or_false, false_or, Nat.lt_irrefl]
  · obtain ⟨o, rfl⟩ : ∃ o', o = o' + 1 := ⟨o - 1, by omega⟩
    obtain ⟨k1, k2⟩ := hk o (by omega)
    rw [y_nPs]
    simp (disch := omega) only [y_lit, y_n1, nI_add, pk_mul, j_lt, j_b1_s, j_b2_s, j_b3_s, j_b0_s, y_bo, y_bo1, y_bo0, y_i0, y_i1, Classical.not_not, nI_clamp, y_ix, y_lt, y_le, y_eq, y_nP, y_nPs, y_ltP, y_ltQ, y_ltPP, y_eqP, y_eqQ, y_eqPP, if_pos, if_neg, ite_true, ite_false, not_true_eq_false, not_false_eq_true, and_true, true_and, and_false, false_and, or_true, true_or, or_false, false_or, Nat.add_sub_cancel]
    rw [k1]
    by_cases e : k o = 1
    · simp (disch := omega) only [y_lit, y_n1, nI_add, pk_mul, j_lt, j_b1_s, j_b2_s, j_b3_s, j_b0_s, y_bo, y_bo1, y_bo0, y_i0, y_i1, Classical.not_not, nI_clamp, y_ix, y_lt, y_le, y_eq, y_nP, y_nPs, y_ltP, y_ltQ, y_ltPP, y_eqP, y_eqQ, y_eqPP, if_pos, if_neg, ite_true, ite_false, not_true_eq_false, not_false_eq_true, and_true, true_and, and_false, false_and, or_true, true_or, or_false, false_or]
    · simp (disch := omega) only [y_lit, y_n1, nI_add, pk_mul, j_lt, j_b1_s, j_b2_s, j_b3_s, j_b0_s, y_bo, y_bo1, y_bo0, y_i0, y_i1, Classical.not_not, nI_clamp, y_ix, y_lt, y_le, y_eq, y_nP, y_nPs, y_ltP, y_ltQ, y_ltPP, y_eqP, y_eqQ, y_eqPP, if_pos, if_neg, ite_true, ite_false, not_true_eq_false, not_false_eq_true, and_true, true_and, and_false, false_and, or_true, true_or, or_false, false_or]
theorem yc_go2 {x y : Nat} (hN : y_N σ b) (hW : y_W b) (h9 : 0 < b 9) (hc : y_cg σ b s g) (hv : y_vg b s g) (hp : y_cp σ a q) (ha : a < 30) (hq : y_vq b q) (hr : y_cr σ R s) (hb : y_br b R m) (hm : m + 1 < 120) (hi : i < s) (hx : x < y_ho b) (hy : y < y_ho b) : ∃ σ', (j_b2 (f_X9_strike 30 26 a 33 34 31 32 (nI i) (nI x) σ) fun v10 σ9 =>
  if (¬ v10 = nI 0) ∧ (¬ nI y = nP 0) then (j_b2 (f_X9_strike 30 26 a 33 34 31 32 (nI i) (nI y) σ9) fun v12 σ11 =>
  some σ11) else (some σ9)) = some σ' ∧ y_cr σ' (y_go2 b g q i x y R) s ∧ y_fr 30 34 σ σ' ∧ σ'.1 30 4 = σ.1 30 4 := by
  have h4 := hW.ho
  obtain ⟨σ1, e1, e2, e3, e4⟩ := yc_strike hN hW h9 hc hv hp ha hq hr hb (by omega) hi hx
  rw [e1]
  unfold y_go2
  by_cases h : y_at b q i x R ≤ y_last b i
  · have hc1 : y_cg σ1 b s g := by
      unfold y_cg at hc ⊢
      rw [(e3 22 (by omega)).1, (e3 23 (by omega)).1, (e3 24 (by omega)).1, (e3 25 (by omega)).1, (e3 26 (by omega)).1, (e3 27 (by omega)).1]
      exact hc
    have hp1 : y_cp σ1 a q := by unfold y_cp at hp ⊢; rw [(e3 a (by omega)).1]; exact hp
    obtain ⟨σ2, f1, f2, f3, f4⟩ := yc_strike (hN.fr e3 (by omega)) hW h9 hc1 hv hp1 ha hq e2 (y_go_br hW hv hb (by omega) hi hx) hm hi hy
    simp (disch := omega) only [y_lit, y_n1, nI_add, pk_mul, j_lt, j_b1_s, j_b2_s, j_b3_s, j_b0_s, y_bo, y_bo1, y_bo0, y_i0, y_i1, Classical.not_not, nI_clamp, y_ix, y_lt, y_le, y_eq, y_nP, y_nPs, y_ltP, y_ltQ, y_ltPP, y_eqP, y_eqQ, y_eqPP, if_pos, if_neg, ite_true, ite_false, not_true_eq_false, not_false_eq_true, and_true, true_and, and_false, false_and, or_true, true_or, or_false, false_or]
    rw [f1]
    exact ⟨σ2, rfl, f2, e3.trans f3, f4.trans e4⟩
  · rw [if_neg h, if_neg h]
    refine ⟨σ1, ?_, ?_, e3, e4⟩
    · simp (disch := omega) only [y_lit, y_n1, nI_add, pk_mul, j_lt, j_b1_s, j_b2_s, j_b3_s, j_b0_s, y_bo, y_bo1, y_bo0, y_i0, y_i1, Classical.not_not, nI_clamp, y_ix, y_lt, y_le, y_eq, y_nP, y_nPs, y_ltP, y_ltQ, y_ltPP, y_eqP, y_eqQ, y_eqPP, if_pos, if_neg, ite_true, ite_false, not_true_eq_false, not_false_eq_true, and_true, true_and, and_false, false_and, or_true, true_or, or_false, false_or]
    · unfold y_go at e2; rw [if_neg h] at e2; exact e2
theorem yc_go1 {x : Nat} (hN : y_N σ b) (hW : y_W b) (h9 : 0 < b 9) (hc : y_cg σ b s g) (hv : y_vg b s g) (hp : y_cp σ a q) (ha : a < 30) (hq : y_vq b q) (hr : y_cr σ R s) (hb : y_br b R m) (hm : m + 1 < 120) (hi : i < s) (hx : x < y_ho b) : ∃ σ', (j_b2 (f_X9_strike 30 26 a 33 34 31 32 (nI i) (nI x) σ) fun v10 σ9 =>
  if (¬ v10 = nI 0) ∧ False then (j_b2 (f_X9_strike 30 26 a 33 34 31 32 (nI i) (nP 0) σ9) fun v12 σ11 =>
  some σ11) else (some σ9)) = some σ' ∧ y_cr σ' (y_go b g q i x R) s ∧ y_fr 30 34 σ σ' ∧ σ'.1 30 4 = σ.1 30 4 := by
  obtain ⟨σ1, e1, e2, e3, e4⟩ := yc_strike hN hW h9 hc hv hp ha hq hr hb (by omega) hi hx
  rw [e1]
  refine ⟨σ1, ?_, e2, e3, e4⟩
  simp (disch := omega) only [y_lit, y_n1, nI_add, pk_mul, j_lt, j_b1_s, j_b2_s, j_b3_s, j_b0_s, y_bo, y_bo1, y_bo0, y_i0, y_i1, Classical.not_not, nI_clamp, y_ix, y_lt, y_le, y_eq, y_nP, y_nPs, y_ltP, y_ltQ, y_ltPP, y_eqP, y_eqQ, y_eqPP, if_pos, if_neg, ite_true, ite_false, not_true_eq_false, not_false_eq_true, and_true, true_and, and_false, false_and, or_true, true_or, or_false, false_or]
theorem yc_goFor (hN : y_N σ b) (hW : y_W b) (h9 : 0 < b 9) (hc : y_cg σ b s g) (hv : y_vg b s g) (hp : y_cp σ a q) (ha : a < 30) (hq : y_vq b q) (hk : y_mk hs k) (hr : y_cr σ R s) (hb : y_br b R m) (hm : m + 1 < 120) (hi : i < s) : ∃ σ', f_X9_goFor 23 24 30 26 a 33 34 31 32 (nI i) hs σ = some σ' ∧ y_cr σ' (y_gf b g q k i R) s ∧ y_fr 30 34 σ σ' ∧ σ'.1 30 4 = σ.1 30 4 := by
  have h4 := hW.ho
  have h60 := hv.1
  have li := hv.2 i hi
  have ci := hc.2 i hi
  have b2 := hb.2.2.1
  unfold f_X9_goFor y_gf
  rw [y_m1, y_lit]
  simp (disch := omega) only [nI_clamp, ci.1, ci.2.1, y_ix, j_lt, hr.1.2.2.1, yc_am0 hk, yc_am1 hk]
  generalize hA : g (3 * i) = A at *
  generalize hO : g (3 * i + 1) = O at *
  by_cases c1 : k A = 1
  · by_cases c2 : 0 < O ∧ k (O - 1) = 1
    · obtain ⟨O, rfl⟩ : ∃ o', O = o' + 1 := ⟨O - 1, by omega⟩
      rw [Nat.add_sub_cancel] at c2
      simp only [if_pos c1, if_pos c2, y_nPs, Nat.add_sub_cancel]
      rw [yc_apart hN hW h9 (a := R 2) (c := O) (by omega) (by omega), yc_apart hN hW h9 (a := R 2) (c := A) (by omega) (by omega)]
      have hx := y_ap_bd (b := b) (a := R 2) (c := O) (by omega) (by omega)
      have hy := y_ap_bd (b := b) (a := R 2) (c := A) (by omega) (by omega)
      by_cases c3 : y_ap b (R 2) A ≤ y_ap b (R 2) O
      · rw [if_pos c3]
        have e1 : ¬ nI A = nP 0 := by rw [y_eqQ (by omega) (by omega)]; omega
        have e2 : ¬ nI O = nP 0 := by rw [y_eqQ (by omega) (by omega)]; omega
        have e3 : ¬ nI (y_ap b (R 2) O) < nI (y_ap b (R 2) A) := by rw [y_lt (by omega) (by omega)]; omega
        simp only [y_lit, if_pos e1, if_pos e2, j_b1_s, if_neg e3, not_true_eq_false, if_false]
        exact yc_go2 hN hW h9 hc hv hp ha hq hr hb hm hi li.1 (by omega)
      · rw [if_neg c3]
        have e1 : ¬ nI A = nP 0 := by rw [y_eqQ (by omega) (by omega)]; omega
        have e2 : ¬ nI O = nP 0 := by rw [y_eqQ (by omega) (by omega)]; omega
        have e3 : nI (y_ap b (R 2) O) < nI (y_ap b (R 2) A) := by rw [y_lt (by omega) (by omega)]; omega
        simp only [y_lit, if_pos e1, if_pos e2, j_b1_s, if_pos e3]
        have e4 : ¬ nI 1 = nI 0 := by decide
        simp only [if_pos e4, if_pos e2]
        exact yc_go2 hN hW h9 hc hv hp ha hq hr hb hm hi (by omega) li.1
    · simp only [if_pos c1, if_neg c2, y_nPs]
      have e1 : ¬ nI A = nP 0 := by rw [y_eqQ (by omega) (by omega)]; omega
      simp only [y_lit, if_pos e1, j_b1_s, not_true_eq_false, if_false]
      exact yc_go1 hN hW h9 hc hv hp ha hq hr hb hm hi li.1
  · by_cases c2 : 0 < O ∧ k (O - 1) = 1
    · obtain ⟨O, rfl⟩ : ∃ o', O = o' + 1 := ⟨O - 1, by omega⟩
      rw [Nat.add_sub_cancel] at c2
      simp only [if_neg c1, if_pos c2, y_nPs, Nat.add_sub_cancel]
      have e2 : ¬ nI O = nP 0 := by rw [y_eqQ (by omega) (by omega)]; omega
      have e4 : ¬ nI 1 = nI 0 := by decide
      simp only [y_lit, not_true_eq_false, if_false, j_b1_s, if_pos e4, if_pos e2]
      exact yc_go1 (x := O) hN hW h9 hc hv hp ha hq hr hb hm hi (by omega)
    · simp only [if_neg c1, if_neg c2]
      have e4 : ¬ nI 1 = nI 0 := by decide
      simp only [y_lit, not_true_eq_false, if_false, j_b1_s, if_pos e4]
      exact ⟨σ, rfl, hr, y_fr.refl, rfl⟩
end C
