/-! ===== for one coming, and for all: the reference ===== -/
section M
variable {b g q R k : Nat → Nat} {s p m i to : Nat} {hs : Int32}
theorem ym_his0 {τ : j_G} (hk : y_mk (τ.1 75 23) k) {h : Nat} (hh : h < 12) : f_X12_isHis (nI h) τ = if k h = 1 then nI 1 else nI 0 := by
  obtain ⟨k1, k2⟩ := hk h hh
  unfold f_X12_isHis
  simp (disch := omega) only [y_lit, y_n1, nI_add, pk_mul, j_lt, j_b1_s, j_b2_s, j_b3_s, j_b0_s, y_bo, y_bo1, y_bo0, y_i0, y_i1, Classical.not_not, nI_clamp, y_ix, y_lt, y_le, y_eq, y_nP, y_nPs, y_ltP, y_ltQ, y_ltPP, y_eqP, y_eqQ, y_eqPP, if_pos, if_neg, ite_true, ite_false, not_true_eq_false, not_false_eq_true, and_true, true_and, and_false, false_and, or_true, true_or, or_false, false_or]
  rw [k1]
  by_cases e : k h = 1
  · simp (disch := omega) only [y_lit, y_n1, nI_add, pk_mul, j_lt, j_b1_s, j_b2_s, j_b3_s, j_b0_s, y_bo, y_bo1, y_bo0, y_i0, y_i1, Classical.not_not, nI_clamp, y_ix, y_lt, y_le, y_eq, y_nP, y_nPs, y_ltP, y_ltQ, y_ltPP, y_eqP, y_eqQ, y_eqPP, if_pos, if_neg, ite_true, ite_false, not_true_eq_false, not_false_eq_true, and_true, true_and, and_false, false_and, or_true, true_or, or_false, false_or]
  · simp (disch := omega) only [y_lit, y_n1, nI_add, pk_mul, j_lt, j_b1_s, j_b2_s, j_b3_s, j_b0_s, y_bo, y_bo1, y_bo0, y_i0, y_i1, Classical.not_not, nI_clamp, y_ix, y_lt, y_le, y_eq, y_nP, y_nPs, y_ltP, y_ltQ, y_ltPP, y_eqP, y_eqQ, y_eqPP, if_pos, if_neg, ite_true, ite_false, not_true_eq_false, not_false_eq_true, and_true, true_and, and_false, false_and, or_true, true_or, or_false, false_or]
theorem ym_his1 {τ : j_G} (hk : y_mk (τ.1 75 23) k) {o : Nat} (ho : o ≤ 12) : f_X12_isHis (nP o) τ = if 0 < o ∧ k (o - 1) = 1 then nI 1 else nI 0 := by
  unfold f_X12_isHis
  by_cases z : o = 0
  · subst z; simp (disch := omega) only [y_lit, y_n1, nI_add, pk_mul, j_lt, j_b1_s, j_b2_s, j_b3_s, j_b0_s, y_bo, y_bo1, y_bo0, y_i0, y_i1, Classical.not_not, nI_clamp, y_ix, y_lt, y_le, y_eq, y_nP, y_nPs, y_ltP, y_ltQ, y_ltPP, y_eqP, y_eqQ, y_eqPP, if_pos, if_neg, ite_true, ite_false, not_true_eq_false, not_false_eq_true, and_true, true_and, and_false, false_and, or_true, true_or, or_false, false_or, Nat.lt_irrefl]
  · obtain ⟨o, rfl⟩ : ∃ o', o = o' + 1 := ⟨o - 1, by omega⟩
    obtain ⟨k1, k2⟩ := hk o (by omega)
    rw [y_nPs]
    simp (disch := omega) only [y_lit, y_n1, nI_add, pk_mul, j_lt, j_b1_s, j_b2_s, j_b3_s, j_b0_s, y_bo, y_bo1, y_bo0, y_i0, y_i1, Classical.not_not, nI_clamp, y_ix, y_lt, y_le, y_eq, y_nP, y_nPs, y_ltP, y_ltQ, y_ltPP, y_eqP, y_eqQ, y_eqPP, if_pos, if_neg, ite_true, ite_false, not_true_eq_false, not_false_eq_true, and_true, true_and, and_false, false_and, or_true, true_or, or_false, false_or, Nat.add_sub_cancel]
    rw [k1]
    by_cases e : k o = 1
    · simp (disch := omega) only [y_lit, y_n1, nI_add, pk_mul, j_lt, j_b1_s, j_b2_s, j_b3_s, j_b0_s, y_bo, y_bo1, y_bo0, y_i0, y_i1, Classical.not_not, nI_clamp, y_ix, y_lt, y_le, y_eq, y_nP, y_nPs, y_ltP, y_ltQ, y_ltPP, y_eqP, y_eqQ, y_eqPP, if_pos, if_neg, ite_true, ite_false, not_true_eq_false, not_false_eq_true, and_true, true_and, and_false, false_and, or_true, true_or, or_false, false_or]
    · simp (disch := omega) only [y_lit, y_n1, nI_add, pk_mul, j_lt, j_b1_s, j_b2_s, j_b3_s, j_b0_s, y_bo, y_bo1, y_bo0, y_i0, y_i1, Classical.not_not, nI_clamp, y_ix, y_lt, y_le, y_eq, y_nP, y_nPs, y_ltP, y_ltQ, y_ltPP, y_eqP, y_eqQ, y_eqPP, if_pos, if_neg, ite_true, ite_false, not_true_eq_false, not_false_eq_true, and_true, true_and, and_false, false_and, or_true, true_or, or_false, false_or]
theorem ym_go2 {x y : Nat} {X Y : Int32} {τ : j_G} (hM : y_M τ b) (hW : y_W b) (h9 : 0 < b 9) (hg : y_mg τ b s g) (hv : y_vg b s g) (hp : y_mp τ b p q) (hq : y_vq b q) (hr : y_mr τ R (i + 1)) (hb : y_br b R m) (hm : m + 1 < 120) (hi : i < s) (hx : x < y_ho b) (hy : y < y_ho b) (eX : X = nI x) (eY : Y = nI y) : ∃ τ', (j_b2 (f_X12_goes (nI i) X τ) fun v12 σ11 =>
  if ¬ v12 = nI 0 then (j_b2 (f_X12_goes (nI i) Y σ11) fun v15 σ14 =>
  some σ14) else (some σ11)) = some τ' ∧ y_mr τ' (y_go2 b g q i x y R) (i + 1) ∧ y_fm 29 33 85 88 τ τ' := by
  subst eX eY
  obtain ⟨τ1, e1, e2, e3⟩ := ym_goes hM hW h9 hg hv hp hq hr hb (by omega) hi hx
  rw [e1]
  unfold y_go2
  by_cases h : y_at b q i x R ≤ y_last b i
  · obtain ⟨τ2, f1, f2, f3⟩ := ym_goes (hM.fr e3 (by omega)) hW h9 (hg.fr e3 (by omega) (by omega)) hv (hp.fr e3 (by omega)) hq e2 (y_go_br hW hv hb (by omega) hi hx) hm hi hy
    simp (disch := omega) only [y_lit, y_n1, nI_add, pk_mul, j_lt, j_b1_s, j_b2_s, j_b3_s, j_b0_s, y_bo, y_bo1, y_bo0, y_i0, y_i1, Classical.not_not, nI_clamp, y_ix, y_lt, y_le, y_eq, y_nP, y_nPs, y_ltP, y_ltQ, y_ltPP, y_eqP, y_eqQ, y_eqPP, if_pos, if_neg, ite_true, ite_false, not_true_eq_false, not_false_eq_true, and_true, true_and, and_false, false_and, or_true, true_or, or_false, false_or]
    rw [f1]
    exact ⟨τ2, rfl, f2, e3.trans f3⟩
  · rw [if_neg h, if_neg h]
    refine ⟨τ1, ?_, ?_, e3⟩
    · simp (disch := omega) only [y_lit, y_n1, nI_add, pk_mul, j_lt, j_b1_s, j_b2_s, j_b3_s, j_b0_s, y_bo, y_bo1, y_bo0, y_i0, y_i1, Classical.not_not, nI_clamp, y_ix, y_lt, y_le, y_eq, y_nP, y_nPs, y_ltP, y_ltQ, y_ltPP, y_eqP, y_eqQ, y_eqPP, if_pos, if_neg, ite_true, ite_false, not_true_eq_false, not_false_eq_true, and_true, true_and, and_false, false_and, or_true, true_or, or_false, false_or]
    · unfold y_go at e2; rw [if_neg h] at e2; exact e2
theorem ym_goesFor {τ : j_G} (hM : y_M τ b) (hW : y_W b) (h9 : 0 < b 9) (hg : y_mg τ b s g) (hv : y_vg b s g) (hp : y_mp τ b p q) (hq : y_vq b q) (hk : y_mk (τ.1 75 23) k) (hr : y_mr τ R (i + 1)) (hb : y_br b R m) (hm : m + 1 < 120) (hi : i < s) : ∃ τ', f_X12_goesFor (nI i) τ = some τ' ∧ y_mr τ' (y_gf b g q k i R) (i + 1) ∧ y_fm 29 33 85 88 τ τ' := by
  have h4 := hW.ho
  have h60 := hv.1
  have li := hv.2 i hi
  have gi := hg.2 i hi
  have b2 := hb.2.2.1
  unfold f_X12_goesFor f_X12_inGame y_gf
  simp (disch := omega) only [y_lit, nI_add, pk_mul, nI_clamp, Nat.add_zero, gi.1, gi.2.1, y_ix, j_lt, j_b1_s, hr.1.2.2.1, ym_his0 hk, ym_his1 hk]
  generalize hA : g (3 * i) = A at *
  generalize hO : g (3 * i + 1) = O at *
  by_cases c1 : k A = 1
  · by_cases c2 : 0 < O ∧ k (O - 1) = 1
    · obtain ⟨O, rfl⟩ : ∃ o', O = o' + 1 := ⟨O - 1, by omega⟩
      rw [Nat.add_sub_cancel] at c2
      have e4 : ¬ nI 1 = nI 0 := by decide
      simp only [if_pos c1, if_pos c2, y_nPs, Nat.add_sub_cancel, e4, or_self, if_false]
      rw [ym_stepsOf hM hW h9 (a := R 2) (c := A) (by omega) (by omega), ym_stepsOf hM hW h9 (a := R 2) (c := O) (by omega) (by omega)]
      have hx := y_ap_bd (b := b) (a := R 2) (c := O) (by omega) (by omega)
      have hy := y_ap_bd (b := b) (a := R 2) (c := A) (by omega) (by omega)
      by_cases c3 : y_ap b (R 2) A ≤ y_ap b (R 2) O
      · simp (disch := omega) only [j_b1_s, y_lt, if_pos, if_neg, y_i0, Classical.not_not]
        exact ym_go2 (x := A) (y := O) hM hW h9 hg hv hp hq hr hb hm hi li.1 (by omega) rfl rfl
      · simp (disch := omega) only [j_b1_s, y_lt, if_pos, if_neg, y_i0, Classical.not_not]
        exact ym_go2 (x := O) (y := A) hM hW h9 hg hv hp hq hr hb hm hi (by omega) li.1 rfl rfl
    · have e4 : ¬ nI 1 = nI 0 := by decide
      simp only [if_pos c1, if_neg c2, y_nPs, e4, false_or, if_true, not_false_eq_true]
      obtain ⟨τ1, f1, f2, f3⟩ := ym_goes hM hW h9 hg hv hp hq hr hb (by omega) hi (show A < y_ho b from li.1)
      rw [f1]
      exact ⟨τ1, rfl, f2, f3⟩
  · by_cases c2 : 0 < O ∧ k (O - 1) = 1
    · obtain ⟨O, rfl⟩ : ∃ o', O = o' + 1 := ⟨O - 1, by omega⟩
      rw [Nat.add_sub_cancel] at c2
      have e4 : ¬ nI 1 = nI 0 := by decide
      simp only [if_neg c1, if_pos c2, y_nPs, Nat.add_sub_cancel, e4, true_or, if_true, not_true_eq_false, not_false_eq_true, if_false]
      obtain ⟨τ1, f1, f2, f3⟩ := ym_goes hM hW h9 hg hv hp hq hr hb (by omega) hi (show O < y_ho b by omega)
      rw [f1]
      exact ⟨τ1, rfl, f2, f3⟩
    · simp only [if_neg c1, if_neg c2, true_or, if_true, not_true_eq_false, if_false]
      exact ⟨τ, rfl, hr, y_fm.refl⟩
theorem ym_run_l {red : Nat} (hW : y_W b) (h9 : 0 < b 9) (hv : y_vg b s g) (hq : y_vq b q) (hred : red ≤ 1) : ∀ m i n τ R, i + m = s → m < n → y_M τ b → y_mg τ b s g → y_mp τ b p q → y_mk (τ.1 75 23) k → τ.1 75 24 = nI red → y_mr τ R i → (∀ j, i ≤ j → R (1001 + 2 * j) = 0 ∧ R (1000 + 2 * j) = 0) → y_br b R (2 * i) → ∃ τ', p_X12_run_30 n (nI i) τ = some τ' ∧ y_mr τ' (y_rl b g q k red m i R) s ∧ y_fm 29 33 85 88 τ τ' := by
  have h60 := hv.1
  intro m
  induction m with
  | zero =>
    intro i n τ R h hn hM hg hp hk hd hr hz hb
    obtain ⟨n, rfl⟩ := y_pos hn
    obtain rfl : i = s := by omega
    refine ⟨τ, ?_, hr, y_fm.refl⟩
    unfold p_X12_run_30; simp (disch := omega) only [y_lit, y_n1, nI_add, pk_mul, j_lt, j_b1_s, j_b2_s, j_b3_s, j_b0_s, y_bo, y_bo1, y_bo0, y_i0, y_i1, Classical.not_not, nI_clamp, y_ix, y_lt, y_le, y_eq, y_nP, y_nPs, y_ltP, y_ltQ, y_ltPP, y_eqP, y_eqQ, y_eqPP, if_pos, if_neg, ite_true, ite_false, not_true_eq_false, not_false_eq_true, and_true, true_and, and_false, false_and, or_true, true_or, or_false, false_or, hg.1]
  | succ m ih =>
    intro i n τ R h hn hM hg hp hk hd hr hz hb
    obtain ⟨n, rfl⟩ := y_pos hn
    have gi := (hg.2 i (by omega)).2.2.1
    have vi := (hv.2 i (by omega)).2.2.2.1
    have hzi := hz i (by omega)
    unfold p_X12_run_30 y_rl f_X12_inGame
    simp (disch := omega) only [y_lit, y_n1, nI_add, pk_mul, j_lt, j_b1_s, j_b2_s, j_b3_s, j_b0_s, y_bo, y_bo1, y_bo0, y_i0, y_i1, Classical.not_not, nI_clamp, y_ix, y_lt, y_le, y_eq, y_nP, y_nPs, y_ltP, y_ltQ, y_ltPP, y_eqP, y_eqQ, y_eqPP, if_pos, if_neg, ite_true, ite_false, not_true_eq_false, not_false_eq_true, and_true, true_and, and_false, false_and, or_true, true_or, or_false, false_or, j_r_ne, j_r_eq, j_r_nj, hg.1, gi, hd]
    have fr : y_fm 29 33 85 88 τ (j_si (j_si τ 85 i (nI 0)) 86 i (nP 0)) := (y_fm.refl.si (by omega) (by omega) (by omega)).si (by omega) (by omega) (by omega)
    have hr1 : y_mr (j_si (j_si τ 85 i (nI 0)) 86 i (nP 0)) R (i + 1) := by
      obtain ⟨⟨r0, r1, r2, r3, r4⟩, rk, ri⟩ := hr
      refine ⟨⟨?_, ?_, ?_, ?_, ?_⟩, fun j hj => ?_, fun j hj => ?_⟩
      · simp (disch := omega) only [j_r_ne, j_r_eq, j_r_nj]; exact r0
      · simp (disch := omega) only [j_r_ne, j_r_eq, j_r_nj]; exact r1
      · simp (disch := omega) only [j_r_ne, j_r_eq, j_r_nj]; exact r2
      · simp (disch := omega) only [j_r_ne, j_r_eq, j_r_nj]; exact r3
      · simp (disch := omega) only [j_r_ne, j_r_eq, j_r_nj]; exact r4
      · simp (disch := omega) only [j_r_ne, j_r_eq, j_r_nj]; exact rk j hj
      · by_cases e : j = i
        · subst e; simp (disch := omega) only [j_r_ne, j_r_eq, j_r_nj, hzi]; exact ⟨trivial, trivial⟩
        · have := ri j (by omega); simp (disch := omega) only [j_r_ne, j_r_eq, j_r_nj]; exact this
    generalize j_si (j_si τ 85 i (nI 0)) 86 i (nP 0) = τ1 at *
    have hM1 := hM.fr fr (by omega)
    have hg1 := hg.fr fr (by omega) (by omega)
    have hp1 := hp.fr fr (by omega)
    have hk1 : y_mk (τ1.1 75 23) k := by rw [fr.1 23 (by omega)]; exact hk
    have hd1 : τ1.1 75 24 = nI red := by rw [fr.1 24 (by omega)]; exact hd
    by_cases e : g (3 * i + 2) = 0 ∨ red = 1
    · rw [if_pos e, if_pos (by omega)]
      obtain ⟨τ2, f1, f2, f3⟩ := ym_goesFor hM1 hW h9 hg1 hv hp1 hq hk1 hr1 hb (by omega) (show i < s by omega)
      have pr := y_gf_pr (q := q) (k := k) (i := i) hW hv hb (by omega) (by omega)
      rw [f1]
      obtain ⟨τ3, g1, g2, g3⟩ := ih (i + 1) n τ2 (y_gf b g q k i R) (by omega) (by omega) (hM1.fr f3 (by omega)) (hg1.fr f3 (by omega) (by omega)) (hp1.fr f3 (by omega)) (by rw [f3.1 23 (by omega)]; exact hk1) (by rw [f3.1 24 (by omega)]; exact hd1) f2 (fun j hj => ⟨by rw [(pr.2.2 j (by omega)).1]; exact (hz j (by omega)).1, by rw [(pr.2.2 j (by omega)).2]; exact (hz j (by omega)).2⟩) (y_gf_br (m := 2 * i) hW hv hb (by omega) (by omega))
      exact ⟨τ3, g1, g2, fr.trans (f3.trans g3)⟩
    · rw [if_neg e, if_neg (by omega)]
      obtain ⟨τ3, g1, g2, g3⟩ := ih (i + 1) n τ1 R (by omega) (by omega) hM1 hg1 hp1 hk1 hd1 hr1 (fun j hj => hz j (by omega)) (hb.up (by omega))
      exact ⟨τ3, g1, g2, fr.trans g3⟩
theorem ym_run {red : Nat} {τ : j_G} (hM : y_M τ b) (hW : y_W b) (h9 : 0 < b 9) (hg : y_mg τ b s g) (hv : y_vg b s g) (hp : y_mp τ b p q) (hq : y_vq b q) (hk : y_mk (τ.1 75 23) k) (hred : red ≤ 1) (hd : τ.1 75 24 = nI red) : ∃ τ', f_X12_run τ = some τ' ∧ y_mr τ' (y_run b g q k red s) s ∧ y_fm 29 33 85 88 τ τ' := by
  have h60 := hv.1
  have e4 := hp.2.2.2.1
  unfold f_X12_run
  simp (disch := omega) only [y_lit, y_n1, nI_add, pk_mul, j_lt, j_b1_s, j_b2_s, j_b3_s, j_b0_s, y_bo, y_bo1, y_bo0, y_i0, y_i1, Classical.not_not, nI_clamp, y_ix, y_lt, y_le, y_eq, y_nP, y_nPs, y_ltP, y_ltQ, y_ltPP, y_eqP, y_eqQ, y_eqPP, if_pos, if_neg, ite_true, ite_false, not_true_eq_false, not_false_eq_true, and_true, true_and, and_false, false_and, or_true, true_or, or_false, false_or, j_r_ne, j_r_eq, j_r_nj, e4]
  have fr : y_fm 29 33 85 88 τ (j_si (j_si (j_si (j_si (j_si τ 75 29 (nI 0)) 75 30 (nI 0)) 75 33 (nI 0)) 75 32 (nI 0)) 75 31 (nI (q 4))) := ((((y_fm.refl.so (by omega) (by omega)).so (by omega) (by omega)).so (by omega) (by omega)).so (by omega) (by omega)).so (by omega) (by omega)
  have hr : y_mr (j_si (j_si (j_si (j_si (j_si τ 75 29 (nI 0)) 75 30 (nI 0)) 75 33 (nI 0)) 75 32 (nI 0)) 75 31 (nI (q 4))) (y_R0 q) 0 := by
    refine ⟨⟨?_, ?_, ?_, ?_, ?_⟩, fun j hj => absurd hj (Nat.not_lt_zero _), fun j hj => absurd hj (Nat.not_lt_zero _)⟩
    · simp (disch := omega) only [j_r_ne, j_r_eq, j_r_nj]; rfl
    · simp (disch := omega) only [j_r_ne, j_r_eq, j_r_nj]; rfl
    · simp (disch := omega) only [j_r_ne, j_r_eq, j_r_nj]; rfl
    · simp (disch := omega) only [j_r_ne, j_r_eq, j_r_nj]; rfl
    · simp (disch := omega) only [j_r_ne, j_r_eq, j_r_nj]; rfl
  generalize j_si (j_si (j_si (j_si (j_si τ 75 29 (nI 0)) 75 30 (nI 0)) 75 33 (nI 0)) 75 32 (nI 0)) 75 31 (nI (q 4)) = τ1 at *
  obtain ⟨τ2, g1, g2, g3⟩ := ym_run_l (k := k) hW h9 hv hq hred s 0 j_F τ1 (y_R0 q) (by omega) (y_F (by omega)) (hM.fr fr (by omega)) (hg.fr fr (by omega) (by omega)) (hp.fr fr (by omega)) (by rw [fr.1 23 (by omega)]; exact hk) (by rw [fr.1 24 (by omega)]; exact hd) hr (fun j _ => ⟨by unfold y_R0; rw [if_neg (by omega)], by unfold y_R0; rw [if_neg (by omega)]⟩) (y_R0_br hq)
  rw [g1]
  exact ⟨τ2, rfl, g2, fr.trans g3⟩
end M
