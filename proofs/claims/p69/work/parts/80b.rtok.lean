/-! ===== the reference's tokens ===== -/
section M
variable {B : Nat → Int32} {n : Nat}
def y_mt (τ : j_G) (B : Nat → Int32) (n : Nat) : Prop := n ≤ 1200 ∧ τ.1 75 7 = nI n ∧ ∀ i, i < n → τ.1 79 i = B i ∧ -128 ≤ (B i).toInt ∧ (B i).toInt ≤ 127
/-- the reference holds the token behind p -/
def y_mq (τ : j_G) (B : Nat → Int32) (n p : Nat) : Prop := τ.1 75 9 = nI (y_s B n p) ∧ τ.1 75 8 = nI (y_e B n p) ∧ τ.1 75 10 = nI (y_kd B n p) ∧ (y_kd B n p = 2 → τ.1 75 11 = nI (min 99999 (y_val B n p)))
theorem y_mt.fr {τ τ' : j_G} {g : Nat} (h : y_mt τ B n) (hf : y_fm 8 g 1 0 τ τ') : y_mt τ' B n := by
  unfold y_mt at *; rw [hf.1 7 (by omega), (hf.2 79 (by omega) (by omega)).1]; exact h
theorem ym_see {τ : j_G} (h : y_mt τ B n) {i : Nat} (hi : i < n) : f_X12_see (nI i) τ = some (nI (y_t B i)) := by
  have hn := h.1
  unfold f_X12_see; simp (disch := omega) only [y_lit, y_n1, nI_add, pk_mul, j_lt, j_b1_s, j_b2_s, j_b3_s, j_b0_s, y_bo, y_bo1, y_bo0, y_i0, y_i1, Classical.not_not, nI_clamp, y_ix, y_lt, y_le, y_eq, y_nP, y_nPs, y_ltP, y_ltQ, y_ltPP, y_eqP, y_eqQ, y_eqPP, if_pos, if_neg, ite_true, ite_false, not_true_eq_false, not_false_eq_true, and_true, true_and, and_false, false_and, or_true, true_or, or_false, false_or, h.2.1, (h.2.2 i hi).1, y_byt]
  rfl
theorem ym_seeN {τ : j_G} (h : y_mt τ B n) {i : Nat} (hi : n ≤ i) (h2 : i < 5000) : f_X12_see (nI i) τ = some (nP 0) := by
  have hn := h.1
  unfold f_X12_see; simp (disch := omega) only [y_lit, y_n1, nI_add, pk_mul, j_lt, j_b1_s, j_b2_s, j_b3_s, j_b0_s, y_bo, y_bo1, y_bo0, y_i0, y_i1, Classical.not_not, nI_clamp, y_ix, y_lt, y_le, y_eq, y_nP, y_nPs, y_ltP, y_ltQ, y_ltPP, y_eqP, y_eqQ, y_eqPP, if_pos, if_neg, ite_true, ite_false, not_true_eq_false, not_false_eq_true, and_true, true_and, and_false, false_and, or_true, true_or, or_false, false_or, h.2.1]
theorem ym_inL {i : Nat} : f_X12_in (nI (y_t B i)).toInt64 (97 : Int64) (122 : Int64) = if y_cl B i = 1 then nI 1 else nI 0 := by
  have := y_t_lt B i
  simp (disch := omega) only [y_lit64, y_in, y_lt, Nat.not_lt, y_clL]
theorem ym_inD {i : Nat} : f_X12_in (nI (y_t B i)).toInt64 (48 : Int64) (57 : Int64) = if y_cl B i = 2 then nI 1 else nI 0 := by
  have := y_t_lt B i
  simp (disch := omega) only [y_lit64, y_in, y_lt, Nat.not_lt, y_clD]
theorem ym_inN {lo hi : Nat} (h1 : 0 < lo) (h : lo < 1000) (h' : hi < 1000) : f_X12_in (nP 0).toInt64 (nI lo).toInt64 (nI hi).toInt64 = nI 0 := by
  simp (disch := omega) only [y_in, y_lit, y_n1, nI_add, pk_mul, j_lt, j_b1_s, j_b2_s, j_b3_s, j_b0_s, y_bo, y_bo1, y_bo0, y_i0, y_i1, Classical.not_not, nI_clamp, y_ix, y_lt, y_le, y_eq, y_nP, y_nPs, y_ltP, y_ltQ, y_ltPP, y_eqP, y_eqQ, y_eqPP, if_pos, if_neg, ite_true, ite_false, not_true_eq_false, not_false_eq_true, and_true, true_and, and_false, false_and, or_true, true_or, or_false, false_or]
theorem ym_inL0 : f_X12_in (nP 0).toInt64 (97 : Int64) (122 : Int64) = nI 0 := by
  have := ym_inN (lo := 97) (hi := 122) (by omega) (by omega) (by omega)
  simp (disch := omega) only [y_lit64]; exact this
theorem ym_inD0 : f_X12_in (nP 0).toInt64 (48 : Int64) (57 : Int64) = nI 0 := by
  have := ym_inN (lo := 48) (hi := 57) (by omega) (by omega) (by omega)
  simp (disch := omega) only [y_lit64]; exact this
theorem ym_w0 : ∀ m p f (τ : j_G), p + m = n → m < f → y_mt τ B n → τ.1 75 8 = nI p → ∃ τ', p_X12_advance_0 f τ = some τ' ∧ τ'.1 75 8 = nI (y_wl B 0 m p) ∧ y_fm 8 8 1 0 τ τ' := by
  intro m
  induction m with
  | zero =>
    intro p f τ h hf ht h8
    obtain ⟨f, rfl⟩ := y_pos hf
    have hn := ht.1
    refine ⟨τ, ?_, h8, y_fm.refl⟩
    unfold p_X12_advance_0; simp (disch := omega) only [y_lit, y_n1, nI_add, pk_mul, j_lt, j_b1_s, j_b2_s, j_b3_s, j_b0_s, y_bo, y_bo1, y_bo0, y_i0, y_i1, Classical.not_not, nI_clamp, y_ix, y_lt, y_le, y_eq, y_nP, y_nPs, y_ltP, y_ltQ, y_ltPP, y_eqP, y_eqQ, y_eqPP, if_pos, if_neg, ite_true, ite_false, not_true_eq_false, not_false_eq_true, and_true, true_and, and_false, false_and, or_true, true_or, or_false, false_or, h8, ym_seeN ht]
  | succ m ih =>
    intro p f τ h hf ht h8
    obtain ⟨f, rfl⟩ := y_pos hf
    have hn := ht.1
    have fr : y_fm 8 8 1 0 τ (j_si τ 75 8 (nI (p + 1))) := y_fm.refl.so (by omega) (by omega)
    obtain ⟨τ', e1, e2, e3⟩ := ih (p + 1) f (j_si τ 75 8 (nI (p + 1))) (by omega) (by omega) (ht.fr fr) j_r_eq
    have tt := y_t_lt B p
    unfold p_X12_advance_0 y_wl
    by_cases c : y_cl B p = 0
    · rw [if_pos c]
      refine ⟨τ', ?_, e2, fr.trans e3⟩
      rw [h8, ym_see ht (by omega), j_b1_s]
      simp only [j_lt, j_b1_s]
      have e : nI p + 1 = nI (p + 1) := by simp (disch := omega) only [y_lit, nI_add]
      rw [e, e1]
      by_cases c1 : ¬ nI (y_t B p) = (32 : Int32)
      · rw [if_pos c1]
        rcases y_clB.mpr c with q | q
        · exact absurd q c1
        · exact if_pos q
      · rw [if_neg c1]
    · rw [if_neg c]
      refine ⟨τ, ?_, h8, y_fm.refl⟩
      rw [h8, ym_see ht (by omega), j_b1_s]
      simp only [j_lt, j_b1_s]
      rw [if_pos (show ¬ nI (y_t B p) = (32 : Int32) from fun z => c (y_clB.mp (Or.inl z))), if_neg (show ¬ nI (y_t B p) = (10 : Int32) from fun z => c (y_clB.mp (Or.inr z)))]
theorem ym_w83 : ∀ m p f (τ : j_G), p + m = n → m < f → y_mt τ B n → τ.1 75 8 = nI p → ∃ τ', p_X12_advance_83 f τ = some τ' ∧ τ'.1 75 8 = nI (y_wl B 1 m p) ∧ y_fm 8 8 1 0 τ τ' := by
  intro m
  induction m with
  | zero =>
    intro p f τ h hf ht h8
    obtain ⟨f, rfl⟩ := y_pos hf
    have hn := ht.1
    refine ⟨τ, ?_, h8, y_fm.refl⟩
    unfold p_X12_advance_83
    rw [h8, ym_seeN ht (by omega) (by omega), j_b1_s, ym_inL0, if_neg (show ¬ ¬ nI 0 = (0 : Int32) from fun z => z rfl)]
  | succ m ih =>
    intro p f τ h hf ht h8
    obtain ⟨f, rfl⟩ := y_pos hf
    have hn := ht.1
    have fr : y_fm 8 8 1 0 τ (j_si τ 75 8 (nI (p + 1))) := y_fm.refl.so (by omega) (by omega)
    obtain ⟨τ', e1, e2, e3⟩ := ih (p + 1) f (j_si τ 75 8 (nI (p + 1))) (by omega) (by omega) (ht.fr fr) j_r_eq
    unfold p_X12_advance_83 y_wl
    rw [h8, ym_see ht (by omega), j_b1_s, ym_inL]
    have e : nI p + 1 = nI (p + 1) := by simp (disch := omega) only [y_lit, nI_add]
    by_cases c : y_cl B p = 1
    · rw [if_pos c, if_pos c, if_pos (show ¬ nI 1 = (0 : Int32) from by decide), e]
      exact ⟨τ', e1, e2, fr.trans e3⟩
    · rw [if_neg c, if_neg c, if_neg (show ¬ ¬ nI 0 = (0 : Int32) from fun z => z rfl)]
      exact ⟨τ, rfl, h8, y_fm.refl⟩
theorem ym_w144 : ∀ m p v f (τ : j_G), p + m = n → m < f → v ≤ 1000000 → y_mt τ B n → τ.1 75 8 = nI p → τ.1 75 11 = nI (min 99999 v) → ∃ τ', p_X12_advance_144 f τ = some τ' ∧ τ'.1 75 8 = nI (y_wl B 2 m p) ∧ τ'.1 75 11 = nI (min 99999 (y_v B m p v)) ∧ y_fm 8 11 1 0 τ τ' ∧ τ'.1 75 9 = τ.1 75 9 := by
  intro m
  induction m with
  | zero =>
    intro p v f τ h hf hv ht h8 h11
    obtain ⟨f, rfl⟩ := y_pos hf
    have hn := ht.1
    refine ⟨τ, ?_, h8, h11, y_fm.refl, rfl⟩
    unfold p_X12_advance_144
    rw [h8, ym_seeN ht (by omega) (by omega), j_b1_s, ym_inD0, if_neg (show ¬ ¬ nI 0 = (0 : Int32) from fun z => z rfl)]
  | succ m ih =>
    intro p v f τ h hf hv ht h8 h11
    obtain ⟨f, rfl⟩ := y_pos hf
    have hn := ht.1
    unfold p_X12_advance_144 y_wl y_v
    rw [h8, ym_see ht (by omega), j_b1_s, ym_inD]
    by_cases c : y_cl B p = 2
    · rw [if_pos c, if_pos c, if_pos c, if_pos (show ¬ nI 1 = (0 : Int32) from by decide), j_b1_s]
      have tt := y_t_lt B p
      have td := y_clD.mpr c
      have mn : (if 10 * min 99999 v + y_t B p - 48 < 99999 then nI (10 * min 99999 v + y_t B p - 48) else nI 99999) = nI (min 99999 (min 1000000 (10 * v + y_t B p - 48))) := by
        split
        · congr 1; omega
        · congr 1; omega
      simp (disch := omega) only [y_lit, y_n1, nI_add, pk_mul, j_lt, j_b1_s, j_b2_s, j_b3_s, j_b0_s, y_bo, y_bo1, y_bo0, y_i0, y_i1, Classical.not_not, nI_clamp, y_ix, y_lt, y_le, y_eq, y_nP, y_nPs, y_ltP, y_ltQ, y_ltPP, y_eqP, y_eqQ, y_eqPP, if_pos, if_neg, ite_true, ite_false, not_true_eq_false, not_false_eq_true, and_true, true_and, and_false, false_and, or_true, true_or, or_false, false_or, j_r_ne, j_r_eq, j_r_nj, h8, h11, pk_sub]
      rw [mn]
      have fr : y_fm 8 11 1 0 τ (j_si (j_si τ 75 11 (nI (min 99999 (min 1000000 (10 * v + y_t B p - 48))))) 75 8 (nI (p + 1))) := (y_fm.refl.so (by omega) (by omega)).so (by omega) (by omega)
      obtain ⟨τ', e1, e2, e3, e4, e5⟩ := ih (p + 1) (min 1000000 (10 * v + y_t B p - 48)) f _ (by omega) (by omega) (by omega) (ht.fr fr) j_r_eq (by rw [j_r_nj (by omega), j_r_eq])
      exact ⟨τ', e1, e2, e3, fr.trans e4, by rw [e5, j_r_nj (by omega), j_r_nj (by omega)]⟩
    · rw [if_neg c, if_neg c, if_neg c, if_neg (show ¬ ¬ nI 0 = (0 : Int32) from fun z => z rfl)]
      exact ⟨τ, rfl, h8, h11, y_fm.refl, rfl⟩
theorem ym_adv {τ : j_G} (ht : y_mt τ B n) {p : Nat} (hp : p ≤ n) (h8 : τ.1 75 8 = nI p) : ∃ τ', f_X12_advance τ = some τ' ∧ y_mq τ' B n p ∧ y_fm 8 11 1 0 τ τ' := by
  have hn := ht.1
  have sb := y_s_bd (B := B) hp
  unfold f_X12_advance
  simp only [j_lt]
  obtain ⟨τ1, a1, a2, a3⟩ := ym_w0 (n - p) p j_F τ (by omega) (y_F (by omega)) ht h8
  have es : y_wl B 0 (n - p) p = y_s B n p := rfl
  rw [es] at a2
  rw [a1, j_b1_s, a2]
  have f2 : y_fm 8 11 1 0 τ (j_si τ1 75 9 (nI (y_s B n p))) := (a3.wide (by omega) (by omega) (by omega) (by omega)).so (by omega) (by omega)
  have h28 : (j_si τ1 75 9 (nI (y_s B n p))).1 75 8 = nI (y_s B n p) := by rw [j_r_nj (by omega), a2]
  have h29 : (j_si τ1 75 9 (nI (y_s B n p))).1 75 9 = nI (y_s B n p) := j_r_eq
  generalize j_si τ1 75 9 (nI (y_s B n p)) = τ2 at *
  have t2 := ht.fr f2
  rw [h28]
  unfold y_mq y_kd y_e y_val y_kd
  by_cases c : n ≤ y_s B n p
  · rw [if_pos c, if_pos c, ym_seeN t2 c (by omega), j_b1_s, if_pos (show nP 0 = (-1 : Int32) from y_m1.symm)]
    refine ⟨_, rfl, ⟨?_, ?_, ?_, fun z => absurd z (by omega)⟩, f2.so (by omega) (by omega)⟩
    · rw [j_r_nj (by omega), h29]
    · rw [j_r_nj (by omega), h28]
    · rw [j_r_eq]; rfl
  · rw [if_neg c, if_neg c, ym_see t2 (by omega), j_b1_s, ym_inL, ym_inD]
    have tt := y_t_lt B (y_s B n p)
    rw [if_neg (show ¬ nI (y_t B (y_s B n p)) = (-1 : Int32) by rw [y_m1, y_eqQ (by omega) (by omega)]; omega)]
    by_cases c1 : y_cl B (y_s B n p) = 1
    · obtain ⟨τ3, b1, b2, b3⟩ := ym_w83 (n - y_s B n p) (y_s B n p) j_F τ2 (by omega) (y_F (by omega)) t2 h28
      rw [if_pos c1, if_pos (show ¬ nI 1 = (0 : Int32) from by decide), b1]
      refine ⟨_, rfl, ⟨?_, ?_, ?_, fun z => absurd z (by omega)⟩, (f2.trans (b3.wide (by omega) (by omega) (by omega) (by omega))).so (by omega) (by omega)⟩
      · rw [j_r_nj (by omega), b3.1 9 (by omega), h29]
      · rw [j_r_nj (by omega), b2, if_pos c1]
      · rw [j_r_eq, c1]; rfl
    · rw [if_neg c1, if_neg (show ¬ ¬ nI 0 = (0 : Int32) from fun z => z rfl)]
      by_cases c2 : y_cl B (y_s B n p) = 2
      · have fr : y_fm 8 11 1 0 τ (j_si τ2 75 11 (0 : Int32)) := f2.so (by omega) (by omega)
        obtain ⟨τ3, b1, b2, b2', b3, b4⟩ := ym_w144 (n - y_s B n p) (y_s B n p) 0 j_F (j_si τ2 75 11 (0 : Int32)) (by omega) (y_F (by omega)) (by omega) (ht.fr fr) (by rw [j_r_nj (by omega), h28]) (by rw [j_r_eq]; rfl)
        rw [if_pos c2, if_pos (show ¬ nI 1 = (0 : Int32) from by decide), b1]
        refine ⟨_, rfl, ⟨?_, ?_, ?_, fun _ => ?_⟩, (fr.trans b3).so (by omega) (by omega)⟩
        · rw [j_r_nj (by omega), b4, j_r_nj (by omega), h29]
        · rw [j_r_nj (by omega), b2, if_neg c1, if_pos c2]
        · rw [j_r_eq, c2]; rfl
        · rw [j_r_nj (by omega), b2', if_pos c2]
      · rw [if_neg c2, if_neg (show ¬ ¬ nI 0 = (0 : Int32) from fun z => z rfl)]
        have c4 := y_cl_c B (y_s B n p)
        have c0 := y_s_ne (B := B) hp (by omega)
        have c59 := y_clS (B := B) (i := y_s B n p)
        refine ⟨_, rfl, ⟨?_, ?_, ?_, fun z => absurd z c2⟩, (f2.so (by omega) (by omega)).so (by omega) (by omega)⟩
        · rw [j_r_nj (by omega), j_r_nj (by omega), h29]
        · rw [j_r_eq, j_r_nj (by omega), h28, if_neg c1, if_neg c2]; exact nI_1 _
        · rw [j_r_nj (by omega), j_r_eq]
          by_cases c3 : y_cl B (y_s B n p) = 3
          · rw [c59.mpr c3, c3]; rfl
          · have e4 : y_cl B (y_s B n p) = 4 := by omega
            rw [if_neg (show ¬ nI (y_t B (y_s B n p)) = (59 : Int32) by rw [show (59 : Int32) = nI 59 from rfl, y_eq (by omega) (by omega)]; omega), e4]; rfl
end M
