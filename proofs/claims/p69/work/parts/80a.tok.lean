/-! ===== the tokens of a tape: B its bytes, n how many; a token behind p: its start, its kind (0 the end, 1 a word, 2 a number, 3 ;, 4 none), its end, its value ===== -/
def y_t (B : Nat → Int32) (i : Nat) : Nat := (B i).toBitVec.toNat % 256
def y_cl (B : Nat → Int32) (i : Nat) : Nat := if y_t B i = 32 ∨ y_t B i = 10 then 0 else if 97 ≤ y_t B i ∧ y_t B i ≤ 122 then 1 else if 48 ≤ y_t B i ∧ y_t B i ≤ 57 then 2 else if y_t B i = 59 then 3 else 4
def y_wl (B : Nat → Int32) (k : Nat) : Nat → Nat → Nat
  | 0, p => p
  | m + 1, p => if y_cl B p = k then y_wl B k m (p + 1) else p
def y_s (B : Nat → Int32) (n p : Nat) : Nat := y_wl B 0 (n - p) p
def y_kd (B : Nat → Int32) (n p : Nat) : Nat := if n ≤ y_s B n p then 0 else y_cl B (y_s B n p)
def y_e (B : Nat → Int32) (n p : Nat) : Nat := if n ≤ y_s B n p then y_s B n p else if y_cl B (y_s B n p) = 1 then y_wl B 1 (n - y_s B n p) (y_s B n p) else if y_cl B (y_s B n p) = 2 then y_wl B 2 (n - y_s B n p) (y_s B n p) else y_s B n p + 1
def y_v (B : Nat → Int32) : Nat → Nat → Nat → Nat
  | 0, _, v => v
  | m + 1, p, v => if y_cl B p = 2 then y_v B m (p + 1) (min 1000000 (10 * v + y_t B p - 48)) else v
def y_val (B : Nat → Int32) (n p : Nat) : Nat := if y_kd B n p = 2 then y_v B (n - y_s B n p) (y_s B n p) 0 else 0
theorem y_t_lt (B : Nat → Int32) (i : Nat) : y_t B i < 256 := Nat.mod_lt _ (by omega)
theorem y_wl_bd {B : Nat → Int32} {k : Nat} : ∀ m p, p ≤ y_wl B k m p ∧ y_wl B k m p ≤ p + m := by
  intro m
  induction m with
  | zero => intro p; exact ⟨Nat.le_refl _, Nat.le_refl _⟩
  | succ m ih => intro p; unfold y_wl; have := ih (p + 1); split <;> omega
theorem y_wl_no {B : Nat → Int32} {k : Nat} : ∀ m p, y_wl B k m p < p + m → y_cl B (y_wl B k m p) ≠ k := by
  intro m
  induction m with
  | zero => intro p h; unfold y_wl at h; omega
  | succ m ih =>
    intro p h
    unfold y_wl at h ⊢
    by_cases c : y_cl B p = k
    · rw [if_pos c] at h ⊢; exact ih (p + 1) (by omega)
    · rw [if_neg c]; exact c
theorem y_wl_in {B : Nat → Int32} {k : Nat} : ∀ m p j, p ≤ j → j < y_wl B k m p → y_cl B j = k := by
  intro m
  induction m with
  | zero => intro p j h1 h2; unfold y_wl at h2; omega
  | succ m ih =>
    intro p j h1 h2
    unfold y_wl at h2
    by_cases c : y_cl B p = k
    · rw [if_pos c] at h2
      by_cases e : j = p
      · subst e; exact c
      · exact ih (p + 1) j (by omega) h2
    · rw [if_neg c] at h2; omega
theorem y_s_bd {B : Nat → Int32} {n p : Nat} (h : p ≤ n) : p ≤ y_s B n p ∧ y_s B n p ≤ n := by
  have := y_wl_bd (B := B) (k := 0) (n - p) p
  unfold y_s; omega
theorem y_cl_c (B : Nat → Int32) (i : Nat) : y_cl B i ≤ 4 := by
  unfold y_cl
  repeat' split
  all_goals omega
theorem y_s_ne {B : Nat → Int32} {n p : Nat} (h : p ≤ n) (hs : y_s B n p < n) : y_cl B (y_s B n p) ≠ 0 := y_wl_no (n - p) p (by unfold y_s at hs; omega)
theorem y_e_bd {B : Nat → Int32} {n p : Nat} (h : p ≤ n) : y_s B n p ≤ y_e B n p ∧ y_e B n p ≤ n ∧ (y_s B n p < n → y_s B n p < y_e B n p) := by
  have s := y_s_bd (B := B) h
  unfold y_e
  by_cases c : n ≤ y_s B n p
  · rw [if_pos c]; omega
  · rw [if_neg c]
    generalize y_s B n p = q at *
    obtain ⟨m, hm⟩ : ∃ m, n - q = m + 1 := ⟨n - q - 1, by omega⟩
    by_cases c1 : y_cl B q = 1
    · rw [if_pos c1, hm]
      unfold y_wl; rw [if_pos c1]
      have := y_wl_bd (B := B) (k := 1) m (q + 1); omega
    · rw [if_neg c1]
      by_cases c2 : y_cl B q = 2
      · rw [if_pos c2, hm]
        unfold y_wl; rw [if_pos c2]
        have := y_wl_bd (B := B) (k := 2) m (q + 1); omega
      · rw [if_neg c2]; omega
theorem y_v_le {B : Nat → Int32} : ∀ m p v, v ≤ 1000000 → y_v B m p v ≤ 1000000 := by
  intro m
  induction m with
  | zero => intro p v h; exact h
  | succ m ih => intro p v h; unfold y_v; split; exact ih _ _ (by omega); exact h
theorem y_val_le (B : Nat → Int32) (n p : Nat) : y_val B n p ≤ 1000000 := by
  unfold y_val; split
  · exact y_v_le _ _ _ (by omega)
  · omega
theorem y_byt (x : Int32) : x &&& nI 255 = nI (x.toBitVec.toNat % 256) := by
  rw [show nI 255 = (255 : Int32) from rfl, pk_and x 8 (by decide)]
/-- what a sign is -/
theorem y_clB {B : Nat → Int32} {i : Nat} : (nI (y_t B i) = nI 32 ∨ nI (y_t B i) = nI 10) ↔ y_cl B i = 0 := by
  have := y_t_lt B i
  rw [y_eq (by omega) (by omega), y_eq (by omega) (by omega)]
  unfold y_cl
  generalize y_t B i = x
  by_cases c : x = 32 ∨ x = 10
  · rw [if_pos c]; exact ⟨fun _ => rfl, fun _ => c⟩
  · rw [if_neg c]
    refine ⟨fun z => absurd z c, fun z => ?_⟩
    revert z
    repeat' split
    all_goals omega
theorem y_clL {B : Nat → Int32} {i : Nat} : (97 ≤ y_t B i ∧ y_t B i ≤ 122) ↔ y_cl B i = 1 := by
  unfold y_cl
  generalize y_t B i = x
  constructor
  · intro h
    rw [if_neg (by omega), if_pos h]
  · intro z
    revert z
    repeat' split
    all_goals omega
theorem y_clD {B : Nat → Int32} {i : Nat} : (48 ≤ y_t B i ∧ y_t B i ≤ 57) ↔ y_cl B i = 2 := by
  unfold y_cl
  generalize y_t B i = x
  constructor
  · intro h
    rw [if_neg (by omega), if_neg (by omega), if_pos h]
  · intro z
    revert z
    repeat' split
    all_goals omega
theorem y_clS {B : Nat → Int32} {i : Nat} : y_t B i = 59 ↔ y_cl B i = 3 := by
  unfold y_cl
  generalize y_t B i = x
  constructor
  · intro h
    rw [if_neg (by omega), if_neg (by omega), if_neg (by omega), if_pos h]
  · intro z
    revert z
    repeat' split
    all_goals omega
section C
variable {B : Nat → Int32} {n : Nat}
/-- the class's tape -/
def y_ct (σ : j_G) (B : Nat → Int32) (n : Nat) : Prop := n ≤ 1200 ∧ σ.1 19 0 = nI n ∧ ∀ i, i < n → σ.1 20 i = B i
def y_cf10 (σ σ' : j_G) : Prop := (∀ c, c ≠ 10 → σ'.1 c = σ.1 c) ∧ σ'.2 = σ.2 ∧ σ'.1 10 1 = σ.1 10 1 ∧ σ'.1 10 2 = σ.1 10 2
theorem y_cf10.refl {σ : j_G} : y_cf10 σ σ := ⟨fun _ _ => rfl, rfl, rfl, rfl⟩
theorem y_cf10.trans {σ σ' σ'' : j_G} (h : y_cf10 σ σ') (h' : y_cf10 σ' σ'') : y_cf10 σ σ'' := ⟨fun c hc => (h'.1 c hc).trans (h.1 c hc), h'.2.1.trans h.2.1, h'.2.2.1.trans h.2.2.1, h'.2.2.2.trans h.2.2.2⟩
theorem y_cf10.si {σ σ' : j_G} {j : Nat} {v : Int32} (h : y_cf10 σ σ') (h1 : j ≠ 1) (h2 : j ≠ 2) : y_cf10 σ (j_si σ' 10 j v) :=
  ⟨fun c hc => (funext fun j' => j_r_ne hc).trans (h.1 c hc), h.2.1, (j_r_nj (fun z => h1 z.symm)).trans h.2.2.1, (j_r_nj (fun z => h2 z.symm)).trans h.2.2.2⟩
theorem y_ct.fr {σ σ' : j_G} (h : y_ct σ B n) (hf : y_cf10 σ σ') : y_ct σ' B n := by
  unfold y_ct at *; rw [hf.1 19 (by omega), hf.1 20 (by omega)]; exact h
theorem yc_at {σ : j_G} (h : y_ct σ B n) {i : Nat} (hi : i < n) : f_X10_at (nI i) σ = some (nI (y_t B i)) := by
  have hn := h.1
  unfold f_X10_at; simp (disch := omega) only [y_lit, y_n1, nI_add, pk_mul, j_lt, j_b1_s, j_b2_s, j_b3_s, j_b0_s, y_bo, y_bo1, y_bo0, y_i0, y_i1, Classical.not_not, nI_clamp, y_ix, y_lt, y_le, y_eq, y_nP, y_nPs, y_ltP, y_ltQ, y_ltPP, y_eqP, y_eqQ, y_eqPP, if_pos, if_neg, ite_true, ite_false, not_true_eq_false, not_false_eq_true, and_true, true_and, and_false, false_and, or_true, true_or, or_false, false_or, h.2.1, h.2.2, y_byt]
  rfl
theorem yc_atN {σ : j_G} (h : y_ct σ B n) {i : Nat} (hi : n ≤ i) (h2 : i < 5000) : f_X10_at (nI i) σ = some (nP 0) := by
  have hn := h.1
  unfold f_X10_at; simp (disch := omega) only [y_lit, y_n1, nI_add, pk_mul, j_lt, j_b1_s, j_b2_s, j_b3_s, j_b0_s, y_bo, y_bo1, y_bo0, y_i0, y_i1, Classical.not_not, nI_clamp, y_ix, y_lt, y_le, y_eq, y_nP, y_nPs, y_ltP, y_ltQ, y_ltPP, y_eqP, y_eqQ, y_eqPP, if_pos, if_neg, ite_true, ite_false, not_true_eq_false, not_false_eq_true, and_true, true_and, and_false, false_and, or_true, true_or, or_false, false_or, h.2.1]
theorem yc_bl {i : Nat} : f_X7_isBlank (nI (y_t B i)) = if y_cl B i = 0 then nI 1 else nI 0 := by
  unfold f_X7_isBlank; simp only [y_lit]
  by_cases c : y_cl B i = 0
  · rw [if_pos c, if_pos (y_clB.mpr c)]
  · rw [if_neg c, if_neg (fun z => c (y_clB.mp z))]
theorem yc_le {i : Nat} : f_X7_isLetter (nI (y_t B i)) = if y_cl B i = 1 then nI 1 else nI 0 := by
  have := y_t_lt B i
  unfold f_X7_isLetter; simp (disch := omega) only [y_lit, y_lt, Nat.not_lt, y_clL]
theorem yc_di {i : Nat} : f_X7_isDigit (nI (y_t B i)) = if y_cl B i = 2 then nI 1 else nI 0 := by
  have := y_t_lt B i
  unfold f_X7_isDigit; simp (disch := omega) only [y_lit, y_lt, Nat.not_lt, y_clD]
theorem yc_w8 : ∀ m p f (σ : j_G), p + m = n → m < f → y_ct σ B n → σ.1 10 6 = nI p → ∃ σ', p_X7_step_8 f σ = some σ' ∧ σ'.1 10 6 = nI (y_wl B 0 m p) ∧ y_cf10 σ σ' ∧ σ'.1 10 7 = σ.1 10 7 := by
  intro m
  induction m with
  | zero =>
    intro p f σ h hf ht h6
    obtain ⟨f, rfl⟩ := y_pos hf
    have hn := ht.1
    refine ⟨σ, ?_, h6, y_cf10.refl, rfl⟩
    unfold p_X7_step_8; simp (disch := omega) only [y_lit, y_n1, nI_add, pk_mul, j_lt, j_b1_s, j_b2_s, j_b3_s, j_b0_s, y_bo, y_bo1, y_bo0, y_i0, y_i1, Classical.not_not, nI_clamp, y_ix, y_lt, y_le, y_eq, y_nP, y_nPs, y_ltP, y_ltQ, y_ltPP, y_eqP, y_eqQ, y_eqPP, if_pos, if_neg, ite_true, ite_false, not_true_eq_false, not_false_eq_true, and_true, true_and, and_false, false_and, or_true, true_or, or_false, false_or, h6, ht.2.1]
  | succ m ih =>
    intro p f σ h hf ht h6
    obtain ⟨f, rfl⟩ := y_pos hf
    have hn := ht.1
    unfold p_X7_step_8 y_wl
    simp (disch := omega) only [y_lit, y_n1, nI_add, pk_mul, j_lt, j_b1_s, j_b2_s, j_b3_s, j_b0_s, y_bo, y_bo1, y_bo0, y_i0, y_i1, Classical.not_not, nI_clamp, y_ix, y_lt, y_le, y_eq, y_nP, y_nPs, y_ltP, y_ltQ, y_ltPP, y_eqP, y_eqQ, y_eqPP, if_pos, if_neg, ite_true, ite_false, not_true_eq_false, not_false_eq_true, and_true, true_and, and_false, false_and, or_true, true_or, or_false, false_or, h6, ht.2.1, yc_at ht, yc_bl]
    by_cases c : y_cl B p = 0
    · rw [if_pos c, if_pos c]
      have fr : y_cf10 σ (j_si σ 10 6 (nI (p + 1))) := y_cf10.refl.si (by omega) (by omega)
      obtain ⟨σ', e1, e2, e3, e4⟩ := ih (p + 1) f (j_si σ 10 6 (nI (p + 1))) (by omega) (by omega) (ht.fr fr) j_r_eq
      exact ⟨σ', e1, e2, fr.trans e3, by rw [e4, j_r_nj (by omega)]⟩
    · rw [if_neg c, if_neg c]
      exact ⟨σ, rfl, h6, y_cf10.refl, rfl⟩
theorem yc_w102 : ∀ m p f (σ : j_G), p + m = n → m < f → y_ct σ B n → σ.1 10 7 = nI p → ∃ σ', p_X7_step_102 f σ = some σ' ∧ σ'.1 10 7 = nI (y_wl B 1 m p) ∧ y_cf10 σ σ' ∧ σ'.1 10 6 = σ.1 10 6 ∧ σ'.1 10 5 = σ.1 10 5 ∧ σ'.1 10 8 = σ.1 10 8 := by
  intro m
  induction m with
  | zero =>
    intro p f σ h hf ht h6
    obtain ⟨f, rfl⟩ := y_pos hf
    have hn := ht.1
    refine ⟨σ, ?_, h6, y_cf10.refl, rfl, rfl, rfl⟩
    unfold p_X7_step_102; simp (disch := omega) only [y_lit, y_n1, nI_add, pk_mul, j_lt, j_b1_s, j_b2_s, j_b3_s, j_b0_s, y_bo, y_bo1, y_bo0, y_i0, y_i1, Classical.not_not, nI_clamp, y_ix, y_lt, y_le, y_eq, y_nP, y_nPs, y_ltP, y_ltQ, y_ltPP, y_eqP, y_eqQ, y_eqPP, if_pos, if_neg, ite_true, ite_false, not_true_eq_false, not_false_eq_true, and_true, true_and, and_false, false_and, or_true, true_or, or_false, false_or, h6, ht.2.1]
  | succ m ih =>
    intro p f σ h hf ht h6
    obtain ⟨f, rfl⟩ := y_pos hf
    have hn := ht.1
    unfold p_X7_step_102 y_wl
    simp (disch := omega) only [y_lit, y_n1, nI_add, pk_mul, j_lt, j_b1_s, j_b2_s, j_b3_s, j_b0_s, y_bo, y_bo1, y_bo0, y_i0, y_i1, Classical.not_not, nI_clamp, y_ix, y_lt, y_le, y_eq, y_nP, y_nPs, y_ltP, y_ltQ, y_ltPP, y_eqP, y_eqQ, y_eqPP, if_pos, if_neg, ite_true, ite_false, not_true_eq_false, not_false_eq_true, and_true, true_and, and_false, false_and, or_true, true_or, or_false, false_or, h6, ht.2.1, yc_at ht, yc_le]
    by_cases c : y_cl B p = 1
    · rw [if_pos c, if_pos c]
      have fr : y_cf10 σ (j_si σ 10 7 (nI (p + 1))) := y_cf10.refl.si (by omega) (by omega)
      obtain ⟨σ', e1, e2, e3, e4, e5, e6⟩ := ih (p + 1) f (j_si σ 10 7 (nI (p + 1))) (by omega) (by omega) (ht.fr fr) j_r_eq
      exact ⟨σ', e1, e2, fr.trans e3, by rw [e4, j_r_nj (by omega)], by rw [e5, j_r_nj (by omega)], by rw [e6, j_r_nj (by omega)]⟩
    · rw [if_neg c, if_neg c]
      exact ⟨σ, rfl, h6, y_cf10.refl, rfl, rfl, rfl⟩
theorem yc_w158 : ∀ m p v f (σ : j_G), p + m = n → m < f → v ≤ 1000000 → y_ct σ B n → σ.1 10 7 = nI p → σ.1 10 8 = nI v → ∃ σ', p_X7_step_158 f σ = some σ' ∧ σ'.1 10 7 = nI (y_wl B 2 m p) ∧ σ'.1 10 8 = nI (y_v B m p v) ∧ y_cf10 σ σ' ∧ σ'.1 10 6 = σ.1 10 6 ∧ σ'.1 10 5 = σ.1 10 5 := by
  intro m
  induction m with
  | zero =>
    intro p v f σ h hf hv ht h6 h8
    obtain ⟨f, rfl⟩ := y_pos hf
    have hn := ht.1
    refine ⟨σ, ?_, h6, h8, y_cf10.refl, rfl, rfl⟩
    unfold p_X7_step_158; simp (disch := omega) only [y_lit, y_n1, nI_add, pk_mul, j_lt, j_b1_s, j_b2_s, j_b3_s, j_b0_s, y_bo, y_bo1, y_bo0, y_i0, y_i1, Classical.not_not, nI_clamp, y_ix, y_lt, y_le, y_eq, y_nP, y_nPs, y_ltP, y_ltQ, y_ltPP, y_eqP, y_eqQ, y_eqPP, if_pos, if_neg, ite_true, ite_false, not_true_eq_false, not_false_eq_true, and_true, true_and, and_false, false_and, or_true, true_or, or_false, false_or, h6, ht.2.1]
  | succ m ih =>
    intro p v f σ h hf hv ht h6 h8
    obtain ⟨f, rfl⟩ := y_pos hf
    have hn := ht.1
    unfold p_X7_step_158 y_wl y_v
    simp (disch := omega) only [y_lit, y_n1, nI_add, pk_mul, j_lt, j_b1_s, j_b2_s, j_b3_s, j_b0_s, y_bo, y_bo1, y_bo0, y_i0, y_i1, Classical.not_not, nI_clamp, y_ix, y_lt, y_le, y_eq, y_nP, y_nPs, y_ltP, y_ltQ, y_ltPP, y_eqP, y_eqQ, y_eqPP, if_pos, if_neg, ite_true, ite_false, not_true_eq_false, not_false_eq_true, and_true, true_and, and_false, false_and, or_true, true_or, or_false, false_or, h6, ht.2.1, yc_at ht, yc_di]
    by_cases c : y_cl B p = 2
    · rw [if_pos c, if_pos c, if_pos c]
      have tt := y_t_lt B p
      have td := y_clD.mpr c
      have mn : (if 10 * v + y_t B p - 48 < 1000000 then nI (10 * v + y_t B p - 48) else nI 1000000) = nI (min 1000000 (10 * v + y_t B p - 48)) := by
        split
        · congr 1; omega
        · congr 1; omega
      simp (disch := omega) only [y_lit, y_n1, nI_add, pk_mul, j_lt, j_b1_s, j_b2_s, j_b3_s, j_b0_s, y_bo, y_bo1, y_bo0, y_i0, y_i1, Classical.not_not, nI_clamp, y_ix, y_lt, y_le, y_eq, y_nP, y_nPs, y_ltP, y_ltQ, y_ltPP, y_eqP, y_eqQ, y_eqPP, if_pos, if_neg, ite_true, ite_false, not_true_eq_false, not_false_eq_true, and_true, true_and, and_false, false_and, or_true, true_or, or_false, false_or, j_r_ne, j_r_eq, j_r_nj, h6, h8, pk_sub]
      rw [mn]
      have fr : y_cf10 σ (j_si (j_si σ 10 8 (nI (min 1000000 (10 * v + y_t B p - 48)))) 10 7 (nI (p + 1))) := (y_cf10.refl.si (by omega) (by omega)).si (by omega) (by omega)
      obtain ⟨σ', e1, e2, e3, e4, e5, e6⟩ := ih (p + 1) (min 1000000 (10 * v + y_t B p - 48)) f _ (by omega) (by omega) (by omega) (ht.fr fr) j_r_eq (by rw [j_r_nj (by omega), j_r_eq])
      refine ⟨σ', e1, e2, e3, fr.trans e4, by rw [e5, j_r_nj (by omega), j_r_nj (by omega)], by rw [e6, j_r_nj (by omega), j_r_nj (by omega)]⟩
    · rw [if_neg c, if_neg c, if_neg c]
      exact ⟨σ, rfl, h6, h8, y_cf10.refl, rfl, rfl⟩
def y_srt (k : Nat) : Nat := if k = 4 then 0 else k + 1
/-- the class holds the token behind p -/
def y_ck (σ : j_G) (B : Nat → Int32) (n p : Nat) : Prop := σ.1 10 5 = nI (y_srt (y_kd B n p)) ∧ σ.1 10 6 = nI (y_s B n p) ∧ σ.1 10 7 = nI (y_e B n p) ∧ σ.1 10 8 = nI (y_val B n p)
theorem yc_step {σ : j_G} (ht : y_ct σ B n) {p : Nat} (hp : p ≤ n) (h7 : σ.1 10 7 = nI p) : ∃ σ', f_X7_step σ = some σ' ∧ y_ck σ' B n p ∧ y_cf10 σ σ' := by
  have hn := ht.1
  have sb := y_s_bd (B := B) hp
  unfold f_X7_step
  simp only [j_lt]
  have f0 : y_cf10 σ (j_si σ 10 6 (σ.1 10 7)) := y_cf10.refl.si (by omega) (by omega)
  obtain ⟨σ1, a1, a2, a3, a4⟩ := yc_w8 (n - p) p j_F (j_si σ 10 6 (σ.1 10 7)) (by omega) (y_F (by omega)) (ht.fr f0) (by rw [j_r_eq, h7])
  rw [a1, j_b1_s, a2]
  have f1 := f0.trans a3
  have es : y_wl B 0 (n - p) p = y_s B n p := rfl
  rw [es]
  have f2 : y_cf10 σ (j_si (j_si σ1 10 7 (nI (y_s B n p))) 10 8 (0 : Int32)) := (f1.si (by omega) (by omega)).si (by omega) (by omega)
  have h26 : (j_si (j_si σ1 10 7 (nI (y_s B n p))) 10 8 (0 : Int32)).1 10 6 = nI (y_s B n p) := by simp (disch := omega) only [j_r_ne, j_r_eq, j_r_nj]; rw [a2]; rfl
  have h27 : (j_si (j_si σ1 10 7 (nI (y_s B n p))) 10 8 (0 : Int32)).1 10 7 = nI (y_s B n p) := by simp (disch := omega) only [j_r_ne, j_r_eq, j_r_nj]
  have h28 : (j_si (j_si σ1 10 7 (nI (y_s B n p))) 10 8 (0 : Int32)).1 10 8 = nI 0 := by simp (disch := omega) only [j_r_ne, j_r_eq, j_r_nj]; rfl
  generalize j_si (j_si σ1 10 7 (nI (y_s B n p))) 10 8 (0 : Int32) = σ2 at *
  have t2 := ht.fr f2
  rw [h26]
  unfold y_ck y_kd y_e y_val y_kd
  by_cases c : n ≤ y_s B n p
  · rw [if_pos c, if_pos c, yc_atN t2 c (by omega), j_b1_s, y_m1, if_pos rfl]
    refine ⟨_, rfl, ⟨?_, ?_, ?_, ?_⟩, f2.si (by omega) (by omega)⟩
    · rw [j_r_eq]; rfl
    · simp (disch := omega) only [j_r_ne, j_r_eq, j_r_nj]; exact h26
    · simp (disch := omega) only [j_r_ne, j_r_eq, j_r_nj]; exact h27
    · simp (disch := omega) only [j_r_ne, j_r_eq, j_r_nj]; exact h28
  · rw [if_neg c, if_neg c, yc_at t2 (by omega), j_b1_s, yc_le, yc_di]
    have nn := y_s_ne (B := B) hp (by omega)
    have tt := y_t_lt B (y_s B n p)
    rw [if_neg (show ¬ nI (y_t B (y_s B n p)) = (-1 : Int32) by rw [y_m1, y_eqQ (by omega) (by omega)]; omega)]
    by_cases c1 : y_cl B (y_s B n p) = 1
    · have fr : y_cf10 σ (j_si σ2 10 5 (2 : Int32)) := f2.si (by omega) (by omega)
      obtain ⟨σ3, b1, b2, b3, b4, b5, b6⟩ := yc_w102 (n - y_s B n p) (y_s B n p) j_F (j_si σ2 10 5 (2 : Int32)) (by omega) (y_F (by omega)) (ht.fr fr) (by simp (disch := omega) only [j_r_ne, j_r_eq, j_r_nj]; exact h27)
      rw [if_pos c1, if_pos (show ¬ nI 1 = (0 : Int32) from by decide), b1]
      refine ⟨σ3, rfl, ⟨?_, ?_, ?_, ?_⟩, fr.trans b3⟩
      · rw [b5, j_r_eq, c1]; rfl
      · rw [b4, j_r_nj (by omega), h26]
      · rw [b2, if_pos c1]
      · rw [b6, j_r_nj (by omega), h28, if_neg (by omega)]
    · rw [if_neg c1, if_neg (show ¬ ¬ nI 0 = (0 : Int32) from fun z => z rfl)]
      by_cases c2 : y_cl B (y_s B n p) = 2
      · have fr : y_cf10 σ (j_si σ2 10 5 (3 : Int32)) := f2.si (by omega) (by omega)
        obtain ⟨σ3, b1, b2, b2', b3, b4, b5⟩ := yc_w158 (n - y_s B n p) (y_s B n p) 0 j_F (j_si σ2 10 5 (3 : Int32)) (by omega) (y_F (by omega)) (by omega) (ht.fr fr) (by simp (disch := omega) only [j_r_ne, j_r_eq, j_r_nj]; exact h27) (by simp (disch := omega) only [j_r_ne, j_r_eq, j_r_nj]; exact h28)
        rw [if_pos c2, if_pos (show ¬ nI 1 = (0 : Int32) from by decide), b1]
        refine ⟨σ3, rfl, ⟨?_, ?_, ?_, ?_⟩, fr.trans b3⟩
        · rw [b5, j_r_eq, c2]; rfl
        · rw [b4, j_r_nj (by omega), h26]
        · rw [b2, if_neg c1, if_pos c2]
        · rw [b2', if_pos c2]
      · rw [if_neg c2, if_neg (show ¬ ¬ nI 0 = (0 : Int32) from fun z => z rfl)]
        have c4 := y_cl_c B (y_s B n p)
        have c59 := y_clS (B := B) (i := y_s B n p)
        refine ⟨_, rfl, ⟨?_, ?_, ?_, ?_⟩, (f2.si (by omega) (by omega)).si (by omega) (by omega)⟩
        · rw [j_r_nj (by omega), j_r_eq]
          by_cases c3 : y_cl B (y_s B n p) = 3
          · rw [c59.mpr c3, c3]; rfl
          · have e4 : y_cl B (y_s B n p) = 4 := by omega
            rw [if_neg (show ¬ nI (y_t B (y_s B n p)) = (59 : Int32) by rw [show (59 : Int32) = nI 59 from rfl, y_eq (by omega) (by omega)]; omega), e4]; rfl
        · simp (disch := omega) only [j_r_ne, j_r_eq, j_r_nj]; exact h26
        · rw [j_r_eq, j_r_nj (by omega), h27, if_neg c1, if_neg c2]; exact nI_1 _
        · rw [j_r_nj (by omega), j_r_nj (by omega), h28, if_neg c2]
end C
