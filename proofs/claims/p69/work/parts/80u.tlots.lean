/-! ===== lots: both answer ===== -/
theorem y_pn (k : Nat) : nP k + (1 : Int32) = nP (k + 1) := by
  rw [y_nPs]
  unfold nP
  exact Int32.sub_add_cancel _ _
section C
variable {σ : j_G} {b : Nat → Nat}
theorem tl_at {o h : Nat} : f_X5_at (nP o) (nI h) = nI (12 * o + h) := by
  unfold f_X5_at
  rw [y_pn, y_nPs, show (12 : Int32) = nI 12 from rfl, pk_mul, nI_add, Nat.mul_comm]
theorem tl_add {a o h : Nat} {v : Int64} (ho : o ≤ 12) (hh : h < 12) : f_X5_add a (nP o) (nI h) v σ = some (j_sl σ a (12 * o + h) (σ.2 a (12 * o + h) + v)) := by
  unfold f_X5_add
  rw [tl_at]
  simp (disch := omega) only [y_lit, y_n1, nI_add, pk_mul, j_lt, j_b1_s, j_b2_s, j_b3_s, j_b0_s, y_bo, y_bo1, y_bo0, y_i0, y_i1, Classical.not_not, nI_clamp, y_ix, y_lt, y_le, y_eq, y_nP, y_nPs, y_ltP, y_ltQ, y_ltPP, y_eqP, y_eqQ, y_eqPP, if_pos, if_neg, ite_true, ite_false, not_true_eq_false, not_false_eq_true, and_true, true_and, and_false, false_and, or_true, true_or, or_false, false_or]
theorem tl_ways {o h : Nat} (ho : o ≤ 12) (hh : h < 12) : f_X5_waysTo (nP o) (nI h) σ = some (σ.2 38 (12 * o + h)) := by
  unfold f_X5_waysTo
  rw [tl_at]
  simp (disch := omega) only [y_lit, y_n1, nI_add, pk_mul, j_lt, j_b1_s, j_b2_s, j_b3_s, j_b0_s, y_bo, y_bo1, y_bo0, y_i0, y_i1, Classical.not_not, nI_clamp, y_ix, y_lt, y_le, y_eq, y_nP, y_nPs, y_ltP, y_ltQ, y_ltPP, y_eqP, y_eqQ, y_eqPP, if_pos, if_neg, ite_true, ite_false, not_true_eq_false, not_false_eq_true, and_true, true_and, and_false, false_and, or_true, true_or, or_false, false_or]
theorem tl_b2 : ∀ m i n (σ : j_G), i + m = 156 → m < n → ∃ σ', p_X5_begin_2 n (nI i) σ = some σ' ∧ y_fr 38 39 σ σ' := by
  intro m
  induction m with
  | zero =>
    intro i n σ h hn
    obtain ⟨n, rfl⟩ := y_pos hn
    refine ⟨σ, ?_, y_fr.refl⟩
    unfold p_X5_begin_2; simp (disch := omega) only [y_lit, y_n1, nI_add, pk_mul, j_lt, j_b1_s, j_b2_s, j_b3_s, j_b0_s, y_bo, y_bo1, y_bo0, y_i0, y_i1, Classical.not_not, nI_clamp, y_ix, y_lt, y_le, y_eq, y_nP, y_nPs, y_ltP, y_ltQ, y_ltPP, y_eqP, y_eqQ, y_eqPP, if_pos, if_neg, ite_true, ite_false, not_true_eq_false, not_false_eq_true, and_true, true_and, and_false, false_and, or_true, true_or, or_false, false_or]
  | succ m ih =>
    intro i n σ h hn
    obtain ⟨n, rfl⟩ := y_pos hn
    obtain ⟨σ', e1, e2⟩ := ih (i + 1) n (j_sl σ 38 i (0 : Int64)) (by omega) (by omega)
    refine ⟨σ', ?_, (y_fr.refl.sl (by omega) (by omega)).trans e2⟩
    unfold p_X5_begin_2; simp (disch := omega) only [y_lit, y_n1, nI_add, pk_mul, j_lt, j_b1_s, j_b2_s, j_b3_s, j_b0_s, y_bo, y_bo1, y_bo0, y_i0, y_i1, Classical.not_not, nI_clamp, y_ix, y_lt, y_le, y_eq, y_nP, y_nPs, y_ltP, y_ltQ, y_ltPP, y_eqP, y_eqQ, y_eqPP, if_pos, if_neg, ite_true, ite_false, not_true_eq_false, not_false_eq_true, and_true, true_and, and_false, false_and, or_true, true_or, or_false, false_or]; exact e1
theorem tl_b24 (hW : y_W b) : ∀ m i n (σ : j_G), i + m = y_ho b → m < n → y_N σ b → ∃ σ', p_X5_begin_24 n (nI i) σ = some σ' ∧ y_fr 38 39 σ σ' := by
  have ho := hW.ho
  intro m
  induction m with
  | zero =>
    intro i n σ h hn hN
    obtain ⟨n, rfl⟩ := y_pos hn
    refine ⟨σ, ?_, y_fr.refl⟩
    unfold p_X5_begin_24; simp (disch := omega) only [y_lit, y_n1, nI_add, pk_mul, j_lt, j_b1_s, j_b2_s, j_b3_s, j_b0_s, y_bo, y_bo1, y_bo0, y_i0, y_i1, Classical.not_not, nI_clamp, y_ix, y_lt, y_le, y_eq, y_nP, y_nPs, y_ltP, y_ltQ, y_ltPP, y_eqP, y_eqQ, y_eqPP, if_pos, if_neg, ite_true, ite_false, not_true_eq_false, not_false_eq_true, and_true, true_and, and_false, false_and, or_true, true_or, or_false, false_or, yc_holes hN]
  | succ m ih =>
    intro i n σ h hn hN
    obtain ⟨n, rfl⟩ := y_pos hn
    unfold p_X5_begin_24
    rw [yc_holes hN, if_pos ((y_lt (by omega) (by omega)).mpr (by omega)), yc_isShut hN hW (by omega), show nI i + (1 : Int32) = nI (i + 1) by simp (disch := omega) only [y_lit, nI_add]]
    by_cases c : y_sh b i = 1
    · rw [if_pos c, if_neg (show ¬ nI 1 = (0 : Int32) by decide), j_b1_s]
      exact ih (i + 1) n σ (by omega) (by omega) hN
    · have fr : y_fr 38 39 σ (j_sl σ 38 (12 * 0 + i) (σ.2 38 (12 * 0 + i) + (1 : Int64))) := y_fr.refl.sl (by omega) (by omega)
      obtain ⟨σ', e1, e2⟩ := ih (i + 1) n _ (by omega) (by omega) (hN.fr fr (by omega))
      rw [if_neg c, if_pos (show nI 0 = (0 : Int32) from rfl), y_m1, tl_add (by omega) (by omega), j_b1_s, j_b1_s]
      exact ⟨σ', e1, fr.trans e2⟩
theorem tl_begin (hN : y_N σ b) (hW : y_W b) : ∃ σ', f_X5_begin σ = some σ' ∧ y_fr 38 39 σ σ' := by
  have ho := hW.ho
  obtain ⟨σ1, a1, a2⟩ := tl_b2 156 0 j_F σ (by omega) (y_F (by omega))
  obtain ⟨σ2, b1, b2⟩ := tl_b24 hW (y_ho b) 0 j_F σ1 (by omega) (y_F (by omega)) (hN.fr a2 (by omega))
  refine ⟨σ2, ?_, a2.trans b2⟩
  unfold f_X5_begin
  rw [show (0 : Int32) = nI 0 from rfl, a1, j_b1_s, b1, j_b1_s]
theorem tl_gf (hW : y_W b) (h9 : 0 < b 9) {l two one k : Nat} (hl : l < 4) (h2 : two ≤ 12) (h1 : one < 12) (hk : k ≤ 12) : ∀ m i n (σ : j_G), i + m = y_ho b → m < n → y_N σ b → ∃ σ', p_X5_growFrom_16 (nI l) (nP two) (nI one) (nP k) n (nI i) σ = some σ' ∧ y_fr 38 39 σ σ' := by
  have ho := hW.ho
  intro m
  induction m with
  | zero =>
    intro i n σ h hn hN
    obtain ⟨n, rfl⟩ := y_pos hn
    refine ⟨σ, ?_, y_fr.refl⟩
    unfold p_X5_growFrom_16; simp (disch := omega) only [y_lit, y_n1, nI_add, pk_mul, j_lt, j_b1_s, j_b2_s, j_b3_s, j_b0_s, y_bo, y_bo1, y_bo0, y_i0, y_i1, Classical.not_not, nI_clamp, y_ix, y_lt, y_le, y_eq, y_nP, y_nPs, y_ltP, y_ltQ, y_ltPP, y_eqP, y_eqQ, y_eqPP, if_pos, if_neg, ite_true, ite_false, not_true_eq_false, not_false_eq_true, and_true, true_and, and_false, false_and, or_true, true_or, or_false, false_or, yc_holes hN]
  | succ m ih =>
    intro i n σ h hn hN
    obtain ⟨n, rfl⟩ := y_pos hn
    have le := y_lz_le b l i (one + 1) two
    have cl := yc_lets hN hW h9 (l := l) (h := i) (one := one + 1) (two := two) hl (by omega) (by omega) h2 (fun z => by omega) rfl (y_nPs one).symm
    unfold p_X5_growFrom_16
    rw [yc_holes hN, if_pos ((y_lt (by omega) (by omega)).mpr (by omega)), yc_isShut hN hW (by omega), show nI i + (1 : Int32) = nI (i + 1) by simp (disch := omega) only [y_lit, nI_add]]
    by_cases c : y_sh b i = 1
    · rw [if_pos c, if_neg (show ¬ nI 1 = (0 : Int32) by decide), j_b1_s]
      exact ih (i + 1) n σ (by omega) (by omega) hN
    · rw [if_neg c, if_pos (show nI 0 = (0 : Int32) from rfl), cl, j_b1_s]
      by_cases d : y_lz b l i (one + 1) two = 0
      · rw [d, if_neg (show ¬ ¬ nI 0 = (0 : Int32) from fun z => z rfl), j_b1_s]
        exact ih (i + 1) n σ (by omega) (by omega) hN
      · rw [if_pos (show ¬ nI (y_lz b l i (one + 1) two) = (0 : Int32) by rw [show (0 : Int32) = nI 0 from rfl, y_eq (by omega) (by omega)]; exact d), tl_ways h2 h1, j_b1_s, tl_add hk (by omega), j_b1_s, j_b1_s]
        have fr : y_fr 38 39 σ (j_sl σ 39 (12 * k + i) (σ.2 39 (12 * k + i) + σ.2 38 (12 * two + one))) := y_fr.refl.sl (by omega) (by omega)
        obtain ⟨σ', e1, e2⟩ := ih (i + 1) n _ (by omega) (by omega) (hN.fr fr (by omega))
        exact ⟨σ', e1, fr.trans e2⟩
theorem tl_gfrom (hN : y_N σ b) (hW : y_W b) (h9 : 0 < b 9) {l two one : Nat} (hl : l < 4) (h2 : two ≤ 12) (h1 : one < 12) : ∃ σ', f_X5_growFrom (nI l) (nP two) (nI one) σ = some σ' ∧ y_fr 38 39 σ σ' := by
  have ho := hW.ho
  unfold f_X5_growFrom
  simp only [j_lt]
  have e : (if nI l = (3 : Int32) then nI one else (-1 : Int32)) = nP (if l = 3 then one + 1 else 0) := by
    by_cases c : l = 3
    · subst c; rw [if_pos (show nI 3 = (3 : Int32) from rfl), if_pos rfl, y_nPs]
    · rw [if_neg (show ¬ nI l = (3 : Int32) by rw [show (3 : Int32) = nI 3 from rfl, y_eq (by omega) (by omega)]; exact c), if_neg c, y_m1]
  have hk : (if l = 3 then one + 1 else 0) ≤ 12 := by split <;> omega
  obtain ⟨σ1, a1, a2⟩ := tl_gf hW h9 (k := if l = 3 then one + 1 else 0) hl h2 h1 hk (y_ho b) 0 j_F σ (by omega) (y_F (by omega)) hN
  rw [e, show (0 : Int32) = nI 0 from rfl, a1, j_b1_s]
  exact ⟨σ1, rfl, a2⟩
theorem tl_g2 {l : Nat} : ∀ m i n (σ : j_G), i + m = 156 → m < n → ∃ σ', p_X5_grow_2 (nI l) n (nI i) σ = some σ' ∧ y_fr 38 39 σ σ' := by
  intro m
  induction m with
  | zero =>
    intro i n σ h hn
    obtain ⟨n, rfl⟩ := y_pos hn
    refine ⟨σ, ?_, y_fr.refl⟩
    unfold p_X5_grow_2; simp (disch := omega) only [y_lit, y_n1, nI_add, pk_mul, j_lt, j_b1_s, j_b2_s, j_b3_s, j_b0_s, y_bo, y_bo1, y_bo0, y_i0, y_i1, Classical.not_not, nI_clamp, y_ix, y_lt, y_le, y_eq, y_nP, y_nPs, y_ltP, y_ltQ, y_ltPP, y_eqP, y_eqQ, y_eqPP, if_pos, if_neg, ite_true, ite_false, not_true_eq_false, not_false_eq_true, and_true, true_and, and_false, false_and, or_true, true_or, or_false, false_or]
  | succ m ih =>
    intro i n σ h hn
    obtain ⟨n, rfl⟩ := y_pos hn
    obtain ⟨σ', e1, e2⟩ := ih (i + 1) n (j_sl σ 39 i (0 : Int64)) (by omega) (by omega)
    refine ⟨σ', ?_, (y_fr.refl.sl (by omega) (by omega)).trans e2⟩
    unfold p_X5_grow_2; simp (disch := omega) only [y_lit, y_n1, nI_add, pk_mul, j_lt, j_b1_s, j_b2_s, j_b3_s, j_b0_s, y_bo, y_bo1, y_bo0, y_i0, y_i1, Classical.not_not, nI_clamp, y_ix, y_lt, y_le, y_eq, y_nP, y_nPs, y_ltP, y_ltQ, y_ltPP, y_eqP, y_eqQ, y_eqPP, if_pos, if_neg, ite_true, ite_false, not_true_eq_false, not_false_eq_true, and_true, true_and, and_false, false_and, or_true, true_or, or_false, false_or]; exact e1
theorem tl_g35 (hW : y_W b) (h9 : 0 < b 9) {l two : Nat} (hl : l < 4) (h2 : two ≤ 12) : ∀ m i n (σ : j_G), i + m = y_ho b → m < n → y_N σ b → ∃ σ', p_X5_grow_35 (nI l) (nP two) n (nI i) σ = some σ' ∧ y_fr 38 39 σ σ' := by
  have ho := hW.ho
  intro m
  induction m with
  | zero =>
    intro i n σ h hn hN
    obtain ⟨n, rfl⟩ := y_pos hn
    refine ⟨σ, ?_, y_fr.refl⟩
    unfold p_X5_grow_35; simp (disch := omega) only [y_lit, y_n1, nI_add, pk_mul, j_lt, j_b1_s, j_b2_s, j_b3_s, j_b0_s, y_bo, y_bo1, y_bo0, y_i0, y_i1, Classical.not_not, nI_clamp, y_ix, y_lt, y_le, y_eq, y_nP, y_nPs, y_ltP, y_ltQ, y_ltPP, y_eqP, y_eqQ, y_eqPP, if_pos, if_neg, ite_true, ite_false, not_true_eq_false, not_false_eq_true, and_true, true_and, and_false, false_and, or_true, true_or, or_false, false_or, yc_holes hN]
  | succ m ih =>
    intro i n σ h hn hN
    obtain ⟨n, rfl⟩ := y_pos hn
    unfold p_X5_grow_35
    rw [yc_holes hN, if_pos ((y_lt (by omega) (by omega)).mpr (by omega)), tl_ways h2 (by omega), j_b1_s, show nI i + (1 : Int32) = nI (i + 1) by simp (disch := omega) only [y_lit, nI_add]]
    obtain ⟨σ1, a1, a2⟩ := tl_gfrom hN hW h9 (l := l) (two := two) (one := i) hl h2 (by omega)
    by_cases c : (0 : Int64) < σ.2 38 (12 * two + i)
    · obtain ⟨σ', e1, e2⟩ := ih (i + 1) n σ1 (by omega) (by omega) (hN.fr a2 (by omega))
      rw [if_pos c, a1, j_b1_s, j_b1_s]
      exact ⟨σ', e1, a2.trans e2⟩
    · rw [if_neg c, j_b1_s]
      exact ih (i + 1) n σ (by omega) (by omega) hN
theorem tl_g24 (hW : y_W b) (h9 : 0 < b 9) {l : Nat} (hl : l < 4) : ∀ m j n (σ : j_G), j + m = y_ho b + 1 → m < n → y_N σ b → ∃ σ', p_X5_grow_24 (nI l) n (nP j) σ = some σ' ∧ y_fr 38 39 σ σ' := by
  have ho := hW.ho
  intro m
  induction m with
  | zero =>
    intro j n σ h hn hN
    obtain ⟨n, rfl⟩ := y_pos hn
    refine ⟨σ, ?_, y_fr.refl⟩
    unfold p_X5_grow_24
    rw [yc_holes hN, if_neg (by rw [y_ltP (by omega) (by omega)]; omega)]
  | succ m ih =>
    intro j n σ h hn hN
    obtain ⟨n, rfl⟩ := y_pos hn
    obtain ⟨σ1, a1, a2⟩ := tl_g35 hW h9 (l := l) (two := j) hl (by omega) (y_ho b) 0 j_F σ (by omega) (y_F (by omega)) hN
    obtain ⟨σ', e1, e2⟩ := ih (j + 1) n σ1 (by omega) (by omega) (hN.fr a2 (by omega))
    refine ⟨σ', ?_, a2.trans e2⟩
    unfold p_X5_grow_24
    rw [yc_holes hN, if_pos (by rw [y_ltP (by omega) (by omega)]; omega), show (0 : Int32) = nI 0 from rfl, a1, j_b1_s, y_pn]
    exact e1
theorem tl_grow (hN : y_N σ b) (hW : y_W b) (h9 : 0 < b 9) {l : Nat} (hl : l < 4) : ∃ σ', f_X5_grow (nI l) σ = some σ' ∧ y_fr 38 39 σ σ' := by
  have ho := hW.ho
  obtain ⟨σ1, a1, a2⟩ := tl_g2 (l := l) 156 0 j_F σ (by omega) (y_F (by omega))
  obtain ⟨σ2, b1, b2⟩ := tl_g24 hW h9 hl (y_ho b + 1) 0 j_F σ1 (by omega) (y_F (by omega)) (hN.fr a2 (by omega))
  have cg : ∀ {α : Type} (o : Option α), j_cg (0 : Int32) (0 : Int32) (156 : Int32) 156 156 o = o := by
    intro α o
    have h1 : ¬ ((0 : Int32) < 0 ∨ (0 : Int32) < 0 ∨ (156 : Int32) < 0 ∨ 156 < ((0 : Int32)).toNatClampNeg + ((156 : Int32)).toNatClampNeg ∨ 156 < ((0 : Int32)).toNatClampNeg + ((156 : Int32)).toNatClampNeg) := by decide
    exact if_neg h1
  refine ⟨j_cl σ2 39 0 38 0 156, ?_, (a2.trans b2).trans (y_fr.refl.cl (by omega) (by omega))⟩
  unfold f_X5_grow
  rw [show p_X5_grow_2 (nI l) j_F (0 : Int32) σ = _ from a1, j_b1_s, y_m1, b1, j_b1_s, cg]
  rfl
theorem tl_c43 (hW : y_W b) (h9 : 0 < b 9) {l c : Nat} (hl : l < 4) (hc : c ≤ 12) : ∀ m i n (σ : j_G), i + m = c → m < n → y_N σ b → ∃ σ', p_X11_countLots_43 (nI l) (nI c) n (nI i) σ = some σ' ∧ y_fr 38 39 σ σ' := by
  intro m
  induction m with
  | zero =>
    intro i n σ h hn hN
    obtain ⟨n, rfl⟩ := y_pos hn
    refine ⟨σ, ?_, y_fr.refl⟩
    unfold p_X11_countLots_43; simp (disch := omega) only [y_lit, y_n1, nI_add, pk_mul, j_lt, j_b1_s, j_b2_s, j_b3_s, j_b0_s, y_bo, y_bo1, y_bo0, y_i0, y_i1, Classical.not_not, nI_clamp, y_ix, y_lt, y_le, y_eq, y_nP, y_nPs, y_ltP, y_ltQ, y_ltPP, y_eqP, y_eqQ, y_eqPP, if_pos, if_neg, ite_true, ite_false, not_true_eq_false, not_false_eq_true, and_true, true_and, and_false, false_and, or_true, true_or, or_false, false_or]
  | succ m ih =>
    intro i n σ h hn hN
    obtain ⟨n, rfl⟩ := y_pos hn
    obtain ⟨σ1, a1, a2⟩ := tl_grow hN hW h9 hl
    obtain ⟨σ', e1, e2⟩ := ih (i + 1) n σ1 (by omega) (by omega) (hN.fr a2 (by omega))
    refine ⟨σ', ?_, a2.trans e2⟩
    unfold p_X11_countLots_43
    rw [if_pos ((y_lt (by omega) (by omega)).mpr (by omega)), a1, j_b1_s, show nI i + (1 : Int32) = nI (i + 1) by simp (disch := omega) only [y_lit, nI_add]]
    exact e1
theorem tl_rowsTo (hN : y_N σ b) (hW : y_W b) {x : Nat} (hx : x < 12) : ∃ v, f_X5_rowsTo (nI x) σ = some v := by
  have ho := hW.ho
  have key : ∀ m j n v, j + m = y_ho b + 1 → m < n → ∃ w, p_X5_rowsTo_5 (nI x) σ n v (nP j) = some w := by
    intro m
    induction m with
    | zero =>
      intro j n v h hn
      obtain ⟨n, rfl⟩ := y_pos hn
      refine ⟨v, ?_⟩
      unfold p_X5_rowsTo_5
      rw [yc_holes hN, if_neg (by rw [y_ltP (by omega) (by omega)]; omega)]
    | succ m ih =>
      intro j n v h hn
      obtain ⟨n, rfl⟩ := y_pos hn
      obtain ⟨w, e1⟩ := ih (j + 1) n (v + σ.2 38 (12 * j + x)) (by omega) (by omega)
      refine ⟨w, ?_⟩
      unfold p_X5_rowsTo_5
      rw [yc_holes hN, if_pos (by rw [y_ltP (by omega) (by omega)]; omega), tl_ways (by omega) hx, j_b1_s, y_pn]
      exact e1
  obtain ⟨w, e⟩ := key (y_ho b + 1) 0 j_F (0 : Int64) (by omega) (y_F (by omega))
  refine ⟨w, ?_⟩
  unfold f_X5_rowsTo
  rw [y_m1, e, j_b1_s]
theorem tl_inAll (hN : y_N σ b) (hW : y_W b) : ∃ v, f_X5_rowsInAll σ = some v := by
  have ho := hW.ho
  have key : ∀ m i n v, i + m = y_ho b → m < n → ∃ w, p_X5_rowsInAll_5 σ n v (nI i) = some w := by
    intro m
    induction m with
    | zero =>
      intro i n v h hn
      obtain ⟨n, rfl⟩ := y_pos hn
      refine ⟨v, ?_⟩
      unfold p_X5_rowsInAll_5; simp (disch := omega) only [y_lit, y_n1, nI_add, pk_mul, j_lt, j_b1_s, j_b2_s, j_b3_s, j_b0_s, y_bo, y_bo1, y_bo0, y_i0, y_i1, Classical.not_not, nI_clamp, y_ix, y_lt, y_le, y_eq, y_nP, y_nPs, y_ltP, y_ltQ, y_ltPP, y_eqP, y_eqQ, y_eqPP, if_pos, if_neg, ite_true, ite_false, not_true_eq_false, not_false_eq_true, and_true, true_and, and_false, false_and, or_true, true_or, or_false, false_or, yc_holes hN]
    | succ m ih =>
      intro i n v h hn
      obtain ⟨n, rfl⟩ := y_pos hn
      obtain ⟨u, e0⟩ := tl_rowsTo hN hW (x := i) (by omega)
      obtain ⟨w, e1⟩ := ih (i + 1) n (v + u) (by omega) (by omega)
      refine ⟨w, ?_⟩
      unfold p_X5_rowsInAll_5
      rw [yc_holes hN, if_pos ((y_lt (by omega) (by omega)).mpr (by omega)), e0, j_b1_s, show nI i + (1 : Int32) = nI (i + 1) by simp (disch := omega) only [y_lit, nI_add]]
      exact e1
  obtain ⟨w, e⟩ := key (y_ho b) 0 j_F (0 : Int64) (by omega) (y_F (by omega))
  refine ⟨w, ?_⟩
  unfold f_X5_rowsInAll
  rw [show (0 : Int32) = nI 0 from rfl, e, j_b1_s]
theorem tl_even (hN : y_N σ b) (hW : y_W b) : ∃ v, f_X5_isEven σ = some v := by
  have ho := hW.ho
  have key : ∀ m i n v, i + m = y_ho b → m < n → ∃ w, p_X5_isEven_7 σ n v (nI i) = some w := by
    intro m
    induction m with
    | zero =>
      intro i n v h hn
      obtain ⟨n, rfl⟩ := y_pos hn
      refine ⟨1, ?_⟩
      unfold p_X5_isEven_7; simp (disch := omega) only [y_lit, y_n1, nI_add, pk_mul, j_lt, j_b1_s, j_b2_s, j_b3_s, j_b0_s, y_bo, y_bo1, y_bo0, y_i0, y_i1, Classical.not_not, nI_clamp, y_ix, y_lt, y_le, y_eq, y_nP, y_nPs, y_ltP, y_ltQ, y_ltPP, y_eqP, y_eqQ, y_eqPP, if_pos, if_neg, ite_true, ite_false, not_true_eq_false, not_false_eq_true, and_true, true_and, and_false, false_and, or_true, true_or, or_false, false_or, yc_holes hN]
    | succ m ih =>
      intro i n v h hn
      obtain ⟨n, rfl⟩ := y_pos hn
      obtain ⟨u, e0⟩ := tl_rowsTo hN hW (x := i) (by omega)
      obtain ⟨w, e1⟩ := ih (i + 1) n u (by omega) (by omega)
      obtain ⟨w2, e2⟩ := ih (i + 1) n v (by omega) (by omega)
      unfold p_X5_isEven_7
      simp only [j_lt]
      rw [yc_holes hN, if_pos ((y_lt (by omega) (by omega)).mpr (by omega)), yc_isShut hN hW (by omega), show nI i + (1 : Int32) = nI (i + 1) by simp (disch := omega) only [y_lit, nI_add]]
      by_cases c : y_sh b i = 1
      · rw [if_pos c, if_neg (show ¬ nI 1 = (0 : Int32) by decide)]
        exact ⟨w2, e2⟩
      · rw [if_neg c, if_pos (show nI 0 = (0 : Int32) from rfl), e0, j_b1_s]
        by_cases d : ¬ v = (-1 : Int64) ∧ ¬ u = v
        · rw [if_pos d]; exact ⟨0, rfl⟩
        · rw [if_neg d]; exact ⟨w, e1⟩
  obtain ⟨w, e⟩ := key (y_ho b) 0 j_F (-1 : Int64) (by omega) (y_F (by omega))
  exact ⟨w, e⟩
theorem tl_count (hN : y_N σ b) (hW : y_W b) (x y : Int32) : ∃ v σ', f_X11_countLots x y σ = some (v, σ') ∧ y_fr 38 39 σ σ' := by
  have F0 : nI 0 = (0 : Int32) := rfl
  unfold f_X11_countLots
  rw [yc_isTold hN hW, yc_isLaw]
  by_cases h9 : 0 < b 9
  · by_cases hx : y_rg x 4
    · by_cases hy : y < (1 : Int32) ∨ (12 : Int32) < y
      · rw [if_pos (Or.inr (Or.inr hy))]; exact ⟨_, _, rfl, y_fr.refl⟩
      · obtain ⟨l, hl, rfl⟩ := y_of _ _ hx.1 hx.2
        have hy' : 1 ≤ y.toInt ∧ y.toInt < (13 : Nat) := by
          rw [show (1 : Int32) = nI 1 from rfl, show (12 : Int32) = nI 12 from rfl, y_ltr (by omega), y_ltl (by omega)] at hy
          omega
        obtain ⟨c, hc, rfl⟩ := y_of y 13 (by omega) hy'.2
        rw [nI_toInt (by omega)] at hy'
        obtain ⟨σ1, a1, a2⟩ := tl_begin hN hW
        obtain ⟨σ2, b1, b2⟩ := tl_c43 hW h9 hl (c := c) (by omega) (c - 1) 1 j_F σ1 (by omega) (y_F (by omega)) (hN.fr a2 (by omega))
        rw [if_pos h9, if_pos hx, if_neg (fun z => by
          rcases z with z | z | z
          · exact absurd z (by decide)
          · exact absurd z (by decide)
          · exact hy z), a1, j_b1_s, show (1 : Int32) = nI 1 from rfl, b1, j_b1_s]
        exact ⟨_, _, rfl, a2.trans b2⟩
    · rw [if_neg hx, if_pos (Or.inr (Or.inl F0))]; exact ⟨_, _, rfl, y_fr.refl⟩
  · rw [if_neg h9, if_pos (Or.inl F0)]; exact ⟨_, _, rfl, y_fr.refl⟩
theorem tl_rows (hN : y_N σ b) (hW : y_W b) (x y : Int32) : ∃ v σ', f_X11_rows x y σ = some (v, σ') ∧ y_fr 38 39 σ σ' := by
  obtain ⟨v, σ1, a1, a2⟩ := tl_count hN hW x y
  obtain ⟨w, e⟩ := tl_inAll (hN.fr a2 (by omega)) hW
  unfold f_X11_rows
  rw [a1, j_b2_s]
  by_cases c : v = 0
  · rw [if_neg (fun z => z c)]; exact ⟨_, _, rfl, a2⟩
  · rw [if_pos c, e, j_b1_s]; exact ⟨_, _, rfl, a2⟩
theorem tl_ends (hN : y_N σ b) (hW : y_W b) (x y z : Int32) : ∃ v σ', f_X11_ends x y z σ = some (v, σ') ∧ y_fr 38 39 σ σ' := by
  have ho := hW.ho
  obtain ⟨v, σ1, a1, a2⟩ := tl_count hN hW x y
  unfold f_X11_ends
  rw [yc_isHole hN hW]
  by_cases h : y_rg z (y_ho b)
  · obtain ⟨u, hh, rfl⟩ := y_of _ _ h.1 h.2
    obtain ⟨w, e⟩ := tl_rowsTo (hN.fr a2 (by omega)) hW (x := u) (by omega)
    rw [if_pos ((y_rn (by omega)).mpr hh), if_pos (show ¬ nI 1 = (0 : Int32) by decide), a1, j_b2_s]
    by_cases c : v = 0
    · rw [if_neg (fun z => z c)]; exact ⟨_, _, rfl, a2⟩
    · rw [if_pos c, e, j_b1_s]; exact ⟨_, _, rfl, a2⟩
  · rw [if_neg h, if_neg (show ¬ ¬ nI 0 = (0 : Int32) from fun z => z rfl)]; exact ⟨_, _, rfl, y_fr.refl⟩
theorem tl_f45 (hW : y_W b) (h9 : 0 < b 9) {l : Nat} (hl : l < 4) : ∀ m i n (v : Int32) (σ : j_G), i + m = 13 → m < n → y_N σ b → ∃ w σ', p_X11_fair_45 (nI l) n v (nI i) σ = some (w, σ') ∧ y_fr 38 39 σ σ' := by
  intro m
  induction m with
  | zero =>
    intro i n v σ h hn hN
    obtain ⟨n, rfl⟩ := y_pos hn
    refine ⟨v, σ, ?_, y_fr.refl⟩
    unfold p_X11_fair_45
    rw [if_neg]
    rintro ⟨z, _⟩
    apply z
    rw [show (12 : Int32) = nI 12 from rfl, y_lt (by omega) (by omega)]; omega
  | succ m ih =>
    intro i n v σ h hn hN
    obtain ⟨n, rfl⟩ := y_pos hn
    unfold p_X11_fair_45
    by_cases c : (¬ (12 : Int32) < nI i) ∧ (¬ v = 0)
    · obtain ⟨σ1, a1, a2⟩ := tl_grow hN hW h9 hl
      have hN1 : y_N σ1 b := hN.fr a2 (by omega)
      obtain ⟨u, e0⟩ := tl_even hN1 hW
      obtain ⟨w, σ', e1, e2⟩ := ih (i + 1) n u σ1 (by omega) (by omega) hN1
      rw [if_pos c, a1, j_b1_s, e0, j_b1_s, show nI i + (1 : Int32) = nI (i + 1) by simp (disch := omega) only [y_lit, nI_add]]
      exact ⟨w, σ', e1, a2.trans e2⟩
    · rw [if_neg c]; exact ⟨v, σ, rfl, y_fr.refl⟩
theorem tl_fair (hN : y_N σ b) (hW : y_W b) (x : Int32) : ∃ v σ', f_X11_fair x σ = some (v, σ') ∧ y_fr 38 39 σ σ' := by
  have F0 : nI 0 = (0 : Int32) := rfl
  unfold f_X11_fair
  rw [yc_isTold hN hW, yc_isLaw]
  by_cases h9 : 0 < b 9
  · by_cases hx : y_rg x 4
    · obtain ⟨l, hl, rfl⟩ := y_of _ _ hx.1 hx.2
      obtain ⟨σ1, a1, a2⟩ := tl_begin hN hW
      have hN1 : y_N σ1 b := hN.fr a2 (by omega)
      obtain ⟨u, e0⟩ := tl_even hN1 hW
      obtain ⟨w, σ2, b1, b2⟩ := tl_f45 hW h9 hl 11 2 j_F u σ1 (by omega) (y_F (by omega)) hN1
      rw [if_pos h9, if_pos hx, if_neg (fun z => by
          rcases z with z | z
          · exact absurd z (by decide)
          · exact absurd z (by decide)), a1, j_b1_s, e0, j_b1_s, show (2 : Int32) = nI 2 from rfl, b1, j_b2_s]
      by_cases c : w = 0
      · rw [if_neg (fun z => z c)]; exact ⟨_, _, rfl, a2.trans b2⟩
      · rw [if_pos c]; exact ⟨_, _, rfl, a2.trans b2⟩
    · rw [if_neg hx, if_pos (Or.inr F0)]; exact ⟨_, _, rfl, y_fr.refl⟩
  · rw [if_neg h9, if_pos (Or.inl F0)]; exact ⟨_, _, rfl, y_fr.refl⟩
end C
