section R
variable {τ : j_G} {b : Nat → Nat}
theorem y_M.fr2 {τ τ' : j_G} (h : y_M τ b) (hf : y_fm 43 42 91 92 τ τ') : y_M τ' b := h.fr hf (by omega)
theorem tm_2 {l : Nat} {c : Int32} : ∀ m i n (τ : j_G), i + m = 169 → m < n → ∃ τ', p_X12_fillRows_2 (nI l) c n (nI i) τ = some τ' ∧ y_fm 43 42 91 92 τ τ' := by
  intro m
  induction m with
  | zero =>
    intro i n τ h hn
    obtain ⟨n, rfl⟩ := y_pos hn
    refine ⟨τ, ?_, y_fm.refl⟩
    unfold p_X12_fillRows_2; simp (disch := omega) only [y_lit, y_n1, nI_add, pk_mul, j_lt, j_b1_s, j_b2_s, j_b3_s, j_b0_s, y_bo, y_bo1, y_bo0, y_i0, y_i1, Classical.not_not, nI_clamp, y_ix, y_lt, y_le, y_eq, y_nP, y_nPs, y_ltP, y_ltQ, y_ltPP, y_eqP, y_eqQ, y_eqPP, if_pos, if_neg, ite_true, ite_false, not_true_eq_false, not_false_eq_true, and_true, true_and, and_false, false_and, or_true, true_or, or_false, false_or]
  | succ m ih =>
    intro i n τ h hn
    obtain ⟨n, rfl⟩ := y_pos hn
    obtain ⟨τ', e1, e2⟩ := ih (i + 1) n (j_sl τ 91 i (if nI i = 0 then (1 : Int64) else (0 : Int64))) (by omega) (by omega)
    refine ⟨τ', ?_, y_fm.trans (y_fm.refl.sl (by omega) (by omega) (by omega)) e2⟩
    unfold p_X12_fillRows_2
    simp only [j_lt]
    rw [if_pos (show nI i < (169 : Int32) by rw [show (169 : Int32) = nI 169 from rfl, y_lt (by omega) (by omega)]; omega), y_ix (by omega) (by omega), nI_clamp (by omega), show nI i + (1 : Int32) = nI (i + 1) by simp (disch := omega) only [y_lit, nI_add]]
    exact e1
theorem tm_42 {l i0 : Nat} {c : Int32} : ∀ m i n (τ : j_G), i + m = 169 → m < n → ∃ τ', p_X12_fillRows_42 (nI l) c (nI i0) n (nI i) τ = some τ' ∧ y_fm 43 42 91 92 τ τ' := by
  intro m
  induction m with
  | zero =>
    intro i n τ h hn
    obtain ⟨n, rfl⟩ := y_pos hn
    refine ⟨τ, ?_, y_fm.refl⟩
    unfold p_X12_fillRows_42; simp (disch := omega) only [y_lit, y_n1, nI_add, pk_mul, j_lt, j_b1_s, j_b2_s, j_b3_s, j_b0_s, y_bo, y_bo1, y_bo0, y_i0, y_i1, Classical.not_not, nI_clamp, y_ix, y_lt, y_le, y_eq, y_nP, y_nPs, y_ltP, y_ltQ, y_ltPP, y_eqP, y_eqQ, y_eqPP, if_pos, if_neg, ite_true, ite_false, not_true_eq_false, not_false_eq_true, and_true, true_and, and_false, false_and, or_true, true_or, or_false, false_or]
  | succ m ih =>
    intro i n τ h hn
    obtain ⟨n, rfl⟩ := y_pos hn
    obtain ⟨τ', e1, e2⟩ := ih (i + 1) n (j_sl (j_sl τ 92 i (τ.2 91 i)) 91 i (0 : Int64)) (by omega) (by omega)
    refine ⟨τ', ?_, y_fm.trans ((y_fm.refl.sl (by omega) (by omega) (by omega)).sl (by omega) (by omega) (by omega)) e2⟩
    unfold p_X12_fillRows_42; simp (disch := omega) only [y_lit, y_n1, nI_add, pk_mul, j_lt, j_b1_s, j_b2_s, j_b3_s, j_b0_s, y_bo, y_bo1, y_bo0, y_i0, y_i1, Classical.not_not, nI_clamp, y_ix, y_lt, y_le, y_eq, y_nP, y_nPs, y_ltP, y_ltQ, y_ltPP, y_eqP, y_eqQ, y_eqPP, if_pos, if_neg, ite_true, ite_false, not_true_eq_false, not_false_eq_true, and_true, true_and, and_false, false_and, or_true, true_or, or_false, false_or]; exact e1
theorem tm_136 (hW : y_W b) (h9 : 0 < b 9) {l i0 one two : Nat} {c : Int32} {v : Int64} (hl : l < 4) (h1 : one ≤ 12) (h2 : two ≤ 12) : ∀ m i n (τ : j_G), i + m = y_ho b → m < n → y_M τ b → ∃ τ', p_X12_fillRows_136 (nI l) c (nI i0) (nP one) (nP two) v n (nI i) τ = some τ' ∧ y_fm 43 42 91 92 τ τ' := by
  have ho := hW.ho
  intro m
  induction m with
  | zero =>
    intro i n τ h hn hM
    obtain ⟨n, rfl⟩ := y_pos hn
    refine ⟨τ, ?_, y_fm.refl⟩
    unfold p_X12_fillRows_136; simp (disch := omega) only [y_lit, y_n1, nI_add, pk_mul, j_lt, j_b1_s, j_b2_s, j_b3_s, j_b0_s, y_bo, y_bo1, y_bo0, y_i0, y_i1, Classical.not_not, nI_clamp, y_ix, y_lt, y_le, y_eq, y_nP, y_nPs, y_ltP, y_ltQ, y_ltPP, y_eqP, y_eqQ, y_eqPP, if_pos, if_neg, ite_true, ite_false, not_true_eq_false, not_false_eq_true, and_true, true_and, and_false, false_and, or_true, true_or, or_false, false_or, ym_holes hM]
  | succ m ih =>
    intro i n τ h hn hM
    obtain ⟨n, rfl⟩ := y_pos hn
    have le := y_lz_le b l i one two
    have cl := ym_lets hM hW h9 (l := l) (h := i) (one := one) (two := two) hl (by omega) h1 h2 rfl rfl
    have ei : (((13 : Int32) * (nI i + (1 : Int32))) + nP one) + (1 : Int32) = nI (13 * (i + 1) + one) := by
      rw [show nI i + (1 : Int32) = nI (i + 1) by simp (disch := omega) only [y_lit, nI_add], show (13 : Int32) = nI 13 from rfl, pk_mul, Int32.add_assoc, y_pn, y_nPs, nI_add]
    unfold p_X12_fillRows_136
    rw [ym_holes hM, j_b1_s, if_pos ((y_lt (by omega) (by omega)).mpr (by omega)), cl, j_b1_s, ei, show nI i + (1 : Int32) = nI (i + 1) by simp (disch := omega) only [y_lit, nI_add]]
    have hv : (if y_sh b i = 1 then 0 else y_lz b l i one two) ≤ 1 := by split <;> omega
    by_cases d : (if y_sh b i = 1 then 0 else y_lz b l i one two) = 0
    · rw [d, if_neg (show ¬ ¬ nI 0 = (0 : Int32) from fun z => z rfl), j_b1_s]
      exact ih (i + 1) n τ (by omega) (by omega) hM
    · rw [if_pos (show ¬ nI (if y_sh b i = 1 then 0 else y_lz b l i one two) = (0 : Int32) by rw [show (0 : Int32) = nI 0 from rfl, y_eq (by omega) (by omega)]; exact d), y_ix (by omega) (by omega), y_ix (by omega) (by omega), nI_clamp (by omega)]
      have fr : y_fm 43 42 91 92 τ (j_sl τ 91 (13 * (i + 1) + one) (τ.2 91 (13 * (i + 1) + one) + v)) := y_fm.refl.sl (by omega) (by omega) (by omega)
      obtain ⟨τ', e1, e2⟩ := ih (i + 1) n _ (by omega) (by omega) (hM.fr2 fr)
      simp only [j_lt]
      rw [j_b1_s]
      exact ⟨τ', e1, y_fm.trans fr e2⟩
theorem tm_95 (hW : y_W b) (h9 : 0 < b 9) {l i0 one : Nat} {c : Int32} (hl : l < 4) (h1 : one ≤ 12) : ∀ m j n (τ : j_G), j + m = y_ho b + 1 → m < n → y_M τ b → ∃ τ', p_X12_fillRows_95 (nI l) c (nI i0) (nP one) n (nP j) τ = some τ' ∧ y_fm 43 42 91 92 τ τ' := by
  have ho := hW.ho
  intro m
  induction m with
  | zero =>
    intro j n τ h hn hM
    obtain ⟨n, rfl⟩ := y_pos hn
    refine ⟨τ, ?_, y_fm.refl⟩
    unfold p_X12_fillRows_95
    rw [ym_holes hM, j_b1_s, if_neg (by rw [y_ltP (by omega) (by omega)]; omega)]
  | succ m ih =>
    intro j n τ h hn hM
    obtain ⟨n, rfl⟩ := y_pos hn
    have ei : (((13 : Int32) * (nP one + (1 : Int32))) + nP j) + (1 : Int32) = nI (13 * one + j) := by
      rw [y_pn, y_nPs, show (13 : Int32) = nI 13 from rfl, pk_mul, Int32.add_assoc, y_pn, y_nPs, nI_add]
    unfold p_X12_fillRows_95
    simp only [j_lt]
    rw [ym_holes hM, j_b1_s, if_pos (by rw [y_ltP (by omega) (by omega)]; omega), ei, y_ix (by omega) (by omega), nI_clamp (by omega), y_pn]
    by_cases z : τ.2 92 (13 * one + j) = (0 : Int64)
    · rw [if_pos z, j_b1_s]
      exact ih (j + 1) n τ (by omega) (by omega) hM
    · obtain ⟨τ1, a1, a2⟩ := tm_136 hW h9 (l := l) (i0 := i0) (one := one) (two := j) (c := c) (v := τ.2 92 (13 * one + j)) hl h1 (by omega) (y_ho b) 0 j_F τ (by omega) (y_F (by omega)) hM
      obtain ⟨τ', e1, e2⟩ := ih (j + 1) n τ1 (by omega) (by omega) (hM.fr2 a2)
      rw [if_neg z, show (0 : Int32) = nI 0 from rfl, a1, j_b1_s, j_b1_s]
      exact ⟨τ', e1, y_fm.trans a2 e2⟩
theorem tm_83 (hW : y_W b) (h9 : 0 < b 9) {l i0 : Nat} {c : Int32} (hl : l < 4) : ∀ m j n (τ : j_G), j + m = y_ho b + 1 → m < n → y_M τ b → ∃ τ', p_X12_fillRows_83 (nI l) c (nI i0) n (nP j) τ = some τ' ∧ y_fm 43 42 91 92 τ τ' := by
  have ho := hW.ho
  intro m
  induction m with
  | zero =>
    intro j n τ h hn hM
    obtain ⟨n, rfl⟩ := y_pos hn
    refine ⟨τ, ?_, y_fm.refl⟩
    unfold p_X12_fillRows_83
    rw [ym_holes hM, j_b1_s, if_neg (by rw [y_ltP (by omega) (by omega)]; omega)]
  | succ m ih =>
    intro j n τ h hn hM
    obtain ⟨n, rfl⟩ := y_pos hn
    obtain ⟨τ1, a1, a2⟩ := tm_95 hW h9 (l := l) (i0 := i0) (one := j) (c := c) hl (by omega) (y_ho b + 1) 0 j_F τ (by omega) (y_F (by omega)) hM
    obtain ⟨τ', e1, e2⟩ := ih (j + 1) n τ1 (by omega) (by omega) (hM.fr2 a2)
    refine ⟨τ', ?_, y_fm.trans a2 e2⟩
    unfold p_X12_fillRows_83
    rw [ym_holes hM, j_b1_s, if_pos (by rw [y_ltP (by omega) (by omega)]; omega), y_m1, a1, j_b1_s, y_pn]
    exact e1
theorem tm_34 (hW : y_W b) (h9 : 0 < b 9) {l c : Nat} (hl : l < 4) (hc : c ≤ 12) : ∀ m i n (τ : j_G), i + m = c → m < n → y_M τ b → ∃ τ', p_X12_fillRows_34 (nI l) (nI c) n (nI i) τ = some τ' ∧ y_fm 43 42 91 92 τ τ' := by
  have ho := hW.ho
  intro m
  induction m with
  | zero =>
    intro i n τ h hn hM
    obtain ⟨n, rfl⟩ := y_pos hn
    refine ⟨τ, ?_, y_fm.refl⟩
    unfold p_X12_fillRows_34; simp (disch := omega) only [y_lit, y_n1, nI_add, pk_mul, j_lt, j_b1_s, j_b2_s, j_b3_s, j_b0_s, y_bo, y_bo1, y_bo0, y_i0, y_i1, Classical.not_not, nI_clamp, y_ix, y_lt, y_le, y_eq, y_nP, y_nPs, y_ltP, y_ltQ, y_ltPP, y_eqP, y_eqQ, y_eqPP, if_pos, if_neg, ite_true, ite_false, not_true_eq_false, not_false_eq_true, and_true, true_and, and_false, false_and, or_true, true_or, or_false, false_or]
  | succ m ih =>
    intro i n τ h hn hM
    obtain ⟨n, rfl⟩ := y_pos hn
    obtain ⟨τ1, a1, a2⟩ := tm_42 (l := l) (i0 := i) (c := nI c) 169 0 j_F τ (by omega) (y_F (by omega))
    obtain ⟨τ2, b1, b2⟩ := tm_83 hW h9 (l := l) (i0 := i) (c := nI c) hl (y_ho b + 1) 0 j_F τ1 (by omega) (y_F (by omega)) (hM.fr2 a2)
    obtain ⟨τ', e1, e2⟩ := ih (i + 1) n τ2 (by omega) (by omega) ((hM.fr2 a2).fr2 b2)
    refine ⟨τ', ?_, y_fm.trans (y_fm.trans a2 b2) e2⟩
    unfold p_X12_fillRows_34
    rw [if_pos ((y_lt (by omega) (by omega)).mpr (by omega)), show (0 : Int32) = nI 0 from rfl, a1, j_b1_s, y_m1, b1, j_b1_s, show nI i + (1 : Int32) = nI (i + 1) by simp (disch := omega) only [y_lit, nI_add]]
    exact e1
theorem tm_fill (hM : y_M τ b) (hW : y_W b) (h9 : 0 < b 9) {l c : Nat} (hl : l < 4) (hc : c ≤ 12) : ∃ τ', f_X12_fillRows (nI l) (nI c) τ = some τ' ∧ y_fm 43 42 91 92 τ τ' := by
  obtain ⟨τ1, a1, a2⟩ := tm_2 (l := l) (c := nI c) 169 0 j_F τ (by omega) (y_F (by omega))
  obtain ⟨τ2, b1, b2⟩ := tm_34 hW h9 hl hc c 0 j_F τ1 (by omega) (y_F (by omega)) (hM.fr2 a2)
  refine ⟨τ2, ?_, y_fm.trans a2 b2⟩
  unfold f_X12_fillRows
  rw [show (0 : Int32) = nI 0 from rfl, a1, j_b1_s, b1, j_b1_s]
theorem tm_end {x : Nat} (hx : x < 12) : ∃ v, f_X12_endingIn (nI x) τ = some v := by
  have key : ∀ m i n v, i + m = 13 → m < n → ∃ w, p_X12_endingIn_5 (nI x) τ n v (nI i) = some w := by
    intro m
    induction m with
    | zero =>
      intro i n v h hn
      obtain ⟨n, rfl⟩ := y_pos hn
      refine ⟨v, ?_⟩
      unfold p_X12_endingIn_5; simp (disch := omega) only [y_lit, y_n1, nI_add, pk_mul, j_lt, j_b1_s, j_b2_s, j_b3_s, j_b0_s, y_bo, y_bo1, y_bo0, y_i0, y_i1, Classical.not_not, nI_clamp, y_ix, y_lt, y_le, y_eq, y_nP, y_nPs, y_ltP, y_ltQ, y_ltPP, y_eqP, y_eqQ, y_eqPP, if_pos, if_neg, ite_true, ite_false, not_true_eq_false, not_false_eq_true, and_true, true_and, and_false, false_and, or_true, true_or, or_false, false_or]
    | succ m ih =>
      intro i n v h hn
      obtain ⟨n, rfl⟩ := y_pos hn
      obtain ⟨w, e1⟩ := ih (i + 1) n (v + τ.2 91 (13 * (x + 1) + i)) (by omega) (by omega)
      refine ⟨w, ?_⟩
      unfold p_X12_endingIn_5; simp (disch := omega) only [y_lit, y_n1, nI_add, pk_mul, j_lt, j_b1_s, j_b2_s, j_b3_s, j_b0_s, y_bo, y_bo1, y_bo0, y_i0, y_i1, Classical.not_not, nI_clamp, y_ix, y_lt, y_le, y_eq, y_nP, y_nPs, y_ltP, y_ltQ, y_ltPP, y_eqP, y_eqQ, y_eqPP, if_pos, if_neg, ite_true, ite_false, not_true_eq_false, not_false_eq_true, and_true, true_and, and_false, false_and, or_true, true_or, or_false, false_or]; exact e1
  obtain ⟨w, e⟩ := key 13 0 j_F (0 : Int64) (by omega) (y_F (by omega))
  refine ⟨w, ?_⟩
  unfold f_X12_endingIn
  rw [show (0 : Int32) = nI 0 from rfl, e, j_b1_s]
theorem tm_rows (hM : y_M τ b) (hW : y_W b) (x y : Int32) : ∃ v τ', f_X12_rows x y τ = some (v, τ') ∧ y_fm 43 42 91 92 τ τ' := by
  have ho := hW.ho
  have F0 : nI 0 = (0 : Int32) := rfl
  unfold f_X12_rows
  rw [ym_isBoard hM hW, j_b1_s, ym_isLaw, show (1 : Int64) = (nI 1).toInt64 from rfl, show (12 : Int64) = (nI 12).toInt64 from rfl, y_in]
  by_cases h9 : 0 < b 9
  · by_cases hx : y_rg x 4
    · by_cases hy : ¬ y < nI 1 ∧ ¬ nI 12 < y
      · obtain ⟨l, hl, rfl⟩ := y_of _ _ hx.1 hx.2
        rw [y_ltr (by omega), y_ltl (by omega)] at hy
        obtain ⟨c, hc, rfl⟩ := y_of y 13 (by omega) (by omega)
        obtain ⟨τ1, a1, a2⟩ := tm_fill hM hW h9 hl (c := c) (by omega)
        have key : ∀ m i n v, i + m = y_ho b → m < n → ∃ w, p_X12_rows_41 τ1 n v (nI i) = some w := by
          intro m
          induction m with
          | zero =>
            intro i n v h hn
            obtain ⟨n, rfl⟩ := y_pos hn
            refine ⟨v, ?_⟩
            unfold p_X12_rows_41; simp (disch := omega) only [y_lit, y_n1, nI_add, pk_mul, j_lt, j_b1_s, j_b2_s, j_b3_s, j_b0_s, y_bo, y_bo1, y_bo0, y_i0, y_i1, Classical.not_not, nI_clamp, y_ix, y_lt, y_le, y_eq, y_nP, y_nPs, y_ltP, y_ltQ, y_ltPP, y_eqP, y_eqQ, y_eqPP, if_pos, if_neg, ite_true, ite_false, not_true_eq_false, not_false_eq_true, and_true, true_and, and_false, false_and, or_true, true_or, or_false, false_or, ym_holes (hM.fr2 a2)]
          | succ m ih =>
            intro i n v h hn
            obtain ⟨n, rfl⟩ := y_pos hn
            obtain ⟨u, e0⟩ := tm_end (τ := τ1) (x := i) (by omega)
            obtain ⟨w, e1⟩ := ih (i + 1) n (v + u) (by omega) (by omega)
            refine ⟨w, ?_⟩
            unfold p_X12_rows_41
            rw [ym_holes (hM.fr2 a2), j_b1_s, if_pos ((y_lt (by omega) (by omega)).mpr (by omega)), e0, j_b1_s, show nI i + (1 : Int32) = nI (i + 1) by simp (disch := omega) only [y_lit, nI_add]]
            exact e1
        obtain ⟨w, e⟩ := key (y_ho b) 0 j_F (0 : Int64) (by omega) (y_F (by omega))
        rw [if_pos h9, if_pos hx, if_pos (show ¬ nI c < nI 1 ∧ ¬ nI 12 < nI c by rw [y_ltr (by omega), y_ltl (by omega)]; exact hy), if_neg (fun z => by
          rcases z with z | z | z
          · exact absurd z (by decide)
          · exact absurd z (by decide)
          · exact absurd z (by decide)), a1, j_b1_s, show (0 : Int32) = nI 0 from rfl, e, j_b1_s]
        exact ⟨_, _, rfl, a2⟩
      · rw [if_neg hy, if_pos (Or.inr (Or.inr F0))]; exact ⟨_, _, rfl, y_fm.refl⟩
    · rw [if_neg hx, if_pos (Or.inr (Or.inl F0))]; exact ⟨_, _, rfl, y_fm.refl⟩
  · rw [if_neg h9, if_pos (Or.inl F0)]; exact ⟨_, _, rfl, y_fm.refl⟩
theorem tm_ends (hM : y_M τ b) (hW : y_W b) (x y z : Int32) : ∃ v τ', f_X12_ends x y z τ = some (v, τ') ∧ y_fm 43 42 91 92 τ τ' := by
  have ho := hW.ho
  have F0 : nI 0 = (0 : Int32) := rfl
  unfold f_X12_ends
  rw [ym_isHole hM hW, j_b1_s, ym_isLaw, show (1 : Int64) = (nI 1).toInt64 from rfl, show (12 : Int64) = (nI 12).toInt64 from rfl, y_in]
  by_cases hz : y_rg z (y_ho b)
  · by_cases hx : y_rg x 4
    · by_cases hy : ¬ y < nI 1 ∧ ¬ nI 12 < y
      · obtain ⟨l, hl, rfl⟩ := y_of _ _ hx.1 hx.2
        obtain ⟨h, hh, rfl⟩ := y_of _ _ hz.1 hz.2
        have h9 := hW.on0 (Or.inr (Or.inr (Or.inr (Or.inr (by omega : 0 < y_ho b)))))
        rw [y_ltr (by omega), y_ltl (by omega)] at hy
        obtain ⟨c, hc, rfl⟩ := y_of y 13 (by omega) (by omega)
        obtain ⟨τ1, a1, a2⟩ := tm_fill hM hW h9 hl (c := c) (by omega)
        obtain ⟨u, e0⟩ := tm_end (τ := τ1) (x := h) (by omega)
        rw [if_pos hz, if_pos hx, if_pos (show ¬ nI c < nI 1 ∧ ¬ nI 12 < nI c by rw [y_ltr (by omega), y_ltl (by omega)]; exact hy), if_neg (fun z => by
          rcases z with z | z | z
          · exact absurd z (by decide)
          · exact absurd z (by decide)
          · exact absurd z (by decide)), a1, j_b1_s, e0, j_b1_s]
        exact ⟨_, _, rfl, a2⟩
      · rw [if_neg hy, if_pos (Or.inr (Or.inr F0))]; exact ⟨_, _, rfl, y_fm.refl⟩
    · rw [if_neg hx, if_pos (Or.inr (Or.inl F0))]; exact ⟨_, _, rfl, y_fm.refl⟩
  · rw [if_neg hz, if_pos (Or.inl F0)]; exact ⟨_, _, rfl, y_fm.refl⟩
theorem tm_f36 (hW : y_W b) {l i0 : Nat} {K : Int32 → j_G → Option (Int32 × j_G)} (hM : y_M τ b) : ∀ m i n f, i + m = y_ho b → m < n → f ≤ 12 → p_X12_fair_36 (nI l) (nI i0) τ K n (nP f) (nI i) = some (0, τ) ∨ p_X12_fair_36 (nI l) (nI i0) τ K n (nP f) (nI i) = K (nI i0 + (1 : Int32)) τ := by
  have ho := hW.ho
  intro m
  induction m with
  | zero =>
    intro i n f h hn hf
    obtain ⟨n, rfl⟩ := y_pos hn
    right
    unfold p_X12_fair_36
    rw [ym_holes hM, j_b1_s, if_neg (by rw [y_lt (by omega) (by omega)]; omega)]
  | succ m ih =>
    intro i n f h hn hf
    obtain ⟨n, rfl⟩ := y_pos hn
    unfold p_X12_fair_36
    simp only [j_lt]
    rw [ym_holes hM, j_b1_s, if_pos ((y_lt (by omega) (by omega)).mpr (by omega)), ym_isShut hM hW (by omega), j_b1_s, show nI i + (1 : Int32) = nI (i + 1) by simp (disch := omega) only [y_lit, nI_add]]
    by_cases c : y_sh b i = 1
    · rw [if_pos c, if_pos (show ¬ nI 1 = (0 : Int32) by decide)]
      exact ih (i + 1) n f (by omega) (by omega) hf
    · have e : (if nP f = (-1 : Int32) then nI i else nP f) = nI (if f = 0 then i else f - 1) := by
        by_cases z : f = 0
        · subst z; rw [if_pos y_m1.symm, if_pos rfl]
        · rw [if_neg (by rw [y_m1, y_eqPP (by omega) (by omega)]; exact z), if_neg z, ← y_nPs]; congr 1; omega
      have hg : (if f = 0 then i else f - 1) < 12 := by split <;> omega
      obtain ⟨u1, g1⟩ := tm_end (τ := τ) (x := i) (by omega)
      obtain ⟨u2, g2⟩ := tm_end (τ := τ) (x := if f = 0 then i else f - 1) hg
      rw [if_neg c, if_neg (show ¬ ¬ nI 0 = (0 : Int32) from fun z => z rfl), e, g1, j_b1_s, g2, j_b1_s]
      by_cases d : u1 = u2
      · rw [if_neg (fun z => z d), ← y_nPs (if f = 0 then i else f - 1)]
        exact ih (i + 1) n _ (by omega) (by omega) (by omega)
      · rw [if_pos d]; left; rfl
theorem tm_f19 (hW : y_W b) (h9 : 0 < b 9) {l : Nat} (hl : l < 4) : ∀ m i n (τ : j_G), i + m = 13 → m < n → y_M τ b → ∃ w τ', p_X12_fair_19 (nI l) n (nI i) τ = some (w, τ') ∧ y_fm 43 42 91 92 τ τ' := by
  have ho := hW.ho
  intro m
  induction m with
  | zero =>
    intro i n τ h hn hM
    obtain ⟨n, rfl⟩ := y_pos hn
    refine ⟨1, τ, ?_, y_fm.refl⟩
    unfold p_X12_fair_19
    rw [if_neg]
    intro z
    apply z
    rw [show (12 : Int32) = nI 12 from rfl, y_lt (by omega) (by omega)]; omega
  | succ m ih =>
    intro i n τ h hn hM
    obtain ⟨n, rfl⟩ := y_pos hn
    obtain ⟨τ1, a1, a2⟩ := tm_fill hM hW h9 hl (c := i) (by omega)
    have hM1 : y_M τ1 b := hM.fr2 a2
    obtain ⟨w, τ', e1, e2⟩ := ih (i + 1) n τ1 (by omega) (by omega) hM1
    unfold p_X12_fair_19
    rw [if_pos (show ¬ (12 : Int32) < nI i by rw [show (12 : Int32) = nI 12 from rfl, y_lt (by omega) (by omega)]; omega), a1, j_b1_s, y_m1, show (0 : Int32) = nI 0 from rfl]
    rcases tm_f36 hW (l := l) (i0 := i) (K := fun w2 σw => p_X12_fair_19 (nI l) n w2 σw) hM1 (y_ho b) 0 j_F 0 (by omega) (y_F (by omega)) (by omega) with z | z
    · exact ⟨0, τ1, z, a2⟩
    · refine ⟨w, τ', z.trans ?_, y_fm.trans a2 e2⟩
      rw [show nI i + (1 : Int32) = nI (i + 1) by simp (disch := omega) only [y_lit, nI_add]]
      exact e1
theorem tm_fair (hM : y_M τ b) (hW : y_W b) (x : Int32) : ∃ v τ', f_X12_fair x τ = some (v, τ') ∧ y_fm 43 42 91 92 τ τ' := by
  have F0 : nI 0 = (0 : Int32) := rfl
  unfold f_X12_fair
  rw [ym_isBoard hM hW, j_b1_s, ym_isLaw]
  by_cases h9 : 0 < b 9
  · by_cases hx : y_rg x 4
    · obtain ⟨l, hl, rfl⟩ := y_of _ _ hx.1 hx.2
      rw [if_pos h9, if_pos hx, if_neg (fun z => by
          rcases z with z | z
          · exact absurd z (by decide)
          · exact absurd z (by decide))]
      exact tm_f19 hW h9 hl 12 1 j_F τ (by omega) (y_F (by omega)) hM
    · rw [if_neg hx, if_pos (Or.inr F0)]; exact ⟨_, _, rfl, y_fm.refl⟩
  · rw [if_neg h9, if_pos (Or.inl F0)]; exact ⟨_, _, rfl, y_fm.refl⟩
end R
section Z
variable {σ τ : j_G}
theorem y_donel {σ' τ' : j_G} (hR : j_Rel σ τ) (h1 : y_fr 38 39 σ σ') (h2 : y_fm 43 42 91 92 τ τ') : j_Rel σ' τ' :=
  y_done hR (h1.wide (by omega) (by omega)) (h2.wide (by omega) (by omega) (by omega) (by omega))
theorem t_rows (hR : j_Rel σ τ) (a1 a2 : Int32) : ∃ v σ1, f_X11_rows a1 a2 σ = some (v, σ1) ∧ ∃ w τ1, f_X12_rows a1 a2 τ = some (w, τ1) ∧ j_Rel σ1 τ1 := by
  obtain ⟨b, hW, hN, hM, hK⟩ := id hR
  obtain ⟨v, σ1, e1, e2⟩ := tl_rows hN hW a1 a2
  obtain ⟨w, τ1, f1, f2⟩ := tm_rows hM hW a1 a2
  exact ⟨v, σ1, e1, w, τ1, f1, y_donel hR e2 f2⟩
theorem t_ends (hR : j_Rel σ τ) (a1 a2 a3 : Int32) : ∃ v σ1, f_X11_ends a1 a2 a3 σ = some (v, σ1) ∧ ∃ w τ1, f_X12_ends a1 a2 a3 τ = some (w, τ1) ∧ j_Rel σ1 τ1 := by
  obtain ⟨b, hW, hN, hM, hK⟩ := id hR
  obtain ⟨v, σ1, e1, e2⟩ := tl_ends hN hW a1 a2 a3
  obtain ⟨w, τ1, f1, f2⟩ := tm_ends hM hW a1 a2 a3
  exact ⟨v, σ1, e1, w, τ1, f1, y_donel hR e2 f2⟩
theorem t_fair (hR : j_Rel σ τ) (a1 : Int32) : ∃ v σ1, f_X11_fair a1 σ = some (v, σ1) ∧ ∃ w τ1, f_X12_fair a1 τ = some (w, τ1) ∧ j_Rel σ1 τ1 := by
  obtain ⟨b, hW, hN, hM, hK⟩ := id hR
  obtain ⟨v, σ1, e1, e2⟩ := tl_fair hN hW a1
  obtain ⟨w, τ1, f1, f2⟩ := tm_fair hM hW a1
  exact ⟨v, σ1, e1, w, τ1, f1, y_donel hR e2 f2⟩
end Z
