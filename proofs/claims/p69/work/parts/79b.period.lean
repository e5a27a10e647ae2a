/-! ===== periods, luck, fits, place, next ===== -/
def y_ip (e : Nat → Nat) (p : Nat) : Nat → Nat → Nat
  | 0, _ => 1
  | m + 1, i => if e i = e (i - p) then y_ip e p m (i + 1) else 0
def y_lp (e : Nat → Nat) (n : Nat) : Nat → Nat → Nat
  | 0, _ => 0
  | m + 1, p => if y_ip e p (n - p) p = 0 then y_lp e n m (p + 1) else p + 1
theorem y_ip_le {e : Nat → Nat} {p : Nat} : ∀ m i, y_ip e p m i ≤ 1 := by
  intro m
  induction m with
  | zero => intro i; exact Nat.le_refl _
  | succ m ih => intro i; unfold y_ip; split; exact ih _; omega
theorem y_lp_le {e : Nat → Nat} {n : Nat} : ∀ m p, y_lp e n m p = 0 ∨ (p < y_lp e n m p ∧ y_lp e n m p ≤ p + m) := by
  intro m
  induction m with
  | zero => intro p; exact Or.inl rfl
  | succ m ih =>
    intro p; unfold y_lp; split
    · have := ih (p + 1); omega
    · omega
def y_gt (b e : Nat → Nat) (k : Nat) : Nat → Nat → Nat
  | 0, _ => 1
  | m + 1, i => if e i = y_rd b (k + i) then y_gt b e k m (i + 1) else 0
theorem y_gt_le {b e : Nat → Nat} {k : Nat} : ∀ m i, y_gt b e k m i ≤ 1 := by
  intro m
  induction m with
  | zero => intro i; exact Nat.le_refl _
  | succ m ih => intro i; unfold y_gt; split; exact ih _; omega
section C
variable {σ τ : j_G} {b e : Nat → Nat} {s c d n : Nat}
theorem y_hd.s4 (h : y_hd σ τ s c d n e) : s < 4 := by have := h.1; unfold y_sc at this; omega
theorem ym_numH (h : y_hd σ τ s c d n e) {i : Nat} (hi : i < n) : f_X12_numberAt (nI s) (nI i) τ = some (lN (e i)) := by
  have s4 := h.s4
  have hn := h.2.1
  unfold f_X12_numberAt; simp (disch := omega) only [y_lit, y_n1, nI_add, pk_mul, j_lt, j_b1_s, j_b2_s, j_b3_s, j_b0_s, y_bo, y_bo1, y_bo0, y_i0, y_i1, Classical.not_not, nI_clamp, y_ix, y_lt, y_le, y_eq, y_nP, y_nPs, y_ltP, y_ltQ, y_ltPP, y_eqP, y_eqQ, y_eqPP, if_pos, if_neg, ite_true, ite_false, not_true_eq_false, not_false_eq_true, and_true, true_and, and_false, false_and, or_true, true_or, or_false, false_or]
  rw [(h.2.2.2.2 i hi).2.2]
theorem yc_isPeriod (h : y_hd σ τ s c d n e) {p : Nat} (hp : 0 < p) (hpn : p ≤ n) : f_X8_isPeriod c d (nI p) σ = some (nI (y_ip e p (n - p) p)) := by
  have hn := h.2.1
  have key : ∀ m i f, i + m = n → m < f → p ≤ i → p_X8_isPeriod_2 c d (nI p) σ f (nI i) = some (nI (y_ip e p m i)) := by
    intro m
    induction m with
    | zero =>
      intro i f hh hf hi
      obtain ⟨f, rfl⟩ := y_pos hf
      unfold p_X8_isPeriod_2 y_ip; simp (disch := omega) only [y_lit, y_n1, nI_add, pk_mul, j_lt, j_b1_s, j_b2_s, j_b3_s, j_b0_s, y_bo, y_bo1, y_bo0, y_i0, y_i1, Classical.not_not, nI_clamp, y_ix, y_lt, y_le, y_eq, y_nP, y_nPs, y_ltP, y_ltQ, y_ltPP, y_eqP, y_eqQ, y_eqPP, if_pos, if_neg, ite_true, ite_false, not_true_eq_false, not_false_eq_true, and_true, true_and, and_false, false_and, or_true, true_or, or_false, false_or, h.2.2.1]
    | succ m ih =>
      intro i f hh hf hi
      obtain ⟨f, rfl⟩ := y_pos hf
      have e1 := h.2.2.2.2 i (by omega)
      have e2 := h.2.2.2.2 (i - p) (by omega)
      unfold p_X8_isPeriod_2 y_ip; simp (disch := omega) only [y_lit, y_n1, nI_add, pk_mul, j_lt, j_b1_s, j_b2_s, j_b3_s, j_b0_s, y_bo, y_bo1, y_bo0, y_i0, y_i1, Classical.not_not, nI_clamp, y_ix, y_lt, y_le, y_eq, y_nP, y_nPs, y_ltP, y_ltQ, y_ltPP, y_eqP, y_eqQ, y_eqPP, if_pos, if_neg, ite_true, ite_false, not_true_eq_false, not_false_eq_true, and_true, true_and, and_false, false_and, or_true, true_or, or_false, false_or, h.2.2.1, pk_sub, e1.2.1, e2.2.1, pk_lEQ]
      by_cases q : e i = e (i - p)
      · simp (disch := omega) only [y_lit, y_n1, nI_add, pk_mul, j_lt, j_b1_s, j_b2_s, j_b3_s, j_b0_s, y_bo, y_bo1, y_bo0, y_i0, y_i1, Classical.not_not, nI_clamp, y_ix, y_lt, y_le, y_eq, y_nP, y_nPs, y_ltP, y_ltQ, y_ltPP, y_eqP, y_eqQ, y_eqPP, if_pos, if_neg, ite_true, ite_false, not_true_eq_false, not_false_eq_true, and_true, true_and, and_false, false_and, or_true, true_or, or_false, false_or]; exact ih (i + 1) f (by omega) (by omega) (by omega)
      · simp (disch := omega) only [y_lit, y_n1, nI_add, pk_mul, j_lt, j_b1_s, j_b2_s, j_b3_s, j_b0_s, y_bo, y_bo1, y_bo0, y_i0, y_i1, Classical.not_not, nI_clamp, y_ix, y_lt, y_le, y_eq, y_nP, y_nPs, y_ltP, y_ltQ, y_ltPP, y_eqP, y_eqQ, y_eqPP, if_pos, if_neg, ite_true, ite_false, not_true_eq_false, not_false_eq_true, and_true, true_and, and_false, false_and, or_true, true_or, or_false, false_or]
  unfold f_X8_isPeriod
  exact key (n - p) p j_F (by omega) (y_F (by omega)) (by omega)
theorem ym_isPeriod (h : y_hd σ τ s c d n e) {p : Nat} (hp : 0 < p) (hpn : p ≤ n) : f_X12_isPeriod (nI s) (nI p) τ = some (nI (y_ip e p (n - p) p)) := by
  have hn := h.2.1
  have s4 := h.s4
  have key : ∀ m i f, i + m = n → m < f → p ≤ i → p_X12_isPeriod_2 (nI s) (nI p) τ f (nI i) = some (nI (y_ip e p m i)) := by
    intro m
    induction m with
    | zero =>
      intro i f hh hf hi
      obtain ⟨f, rfl⟩ := y_pos hf
      unfold p_X12_isPeriod_2 y_ip; simp (disch := omega) only [y_lit, y_n1, nI_add, pk_mul, j_lt, j_b1_s, j_b2_s, j_b3_s, j_b0_s, y_bo, y_bo1, y_bo0, y_i0, y_i1, Classical.not_not, nI_clamp, y_ix, y_lt, y_le, y_eq, y_nP, y_nPs, y_ltP, y_ltQ, y_ltPP, y_eqP, y_eqQ, y_eqPP, if_pos, if_neg, ite_true, ite_false, not_true_eq_false, not_false_eq_true, and_true, true_and, and_false, false_and, or_true, true_or, or_false, false_or, h.2.2.2.1]
    | succ m ih =>
      intro i f hh hf hi
      obtain ⟨f, rfl⟩ := y_pos hf
      have e1 := h.2.2.2.2 i (by omega)
      have e2 := h.2.2.2.2 (i - p) (by omega)
      unfold p_X12_isPeriod_2 y_ip; simp (disch := omega) only [y_lit, y_n1, nI_add, pk_mul, j_lt, j_b1_s, j_b2_s, j_b3_s, j_b0_s, y_bo, y_bo1, y_bo0, y_i0, y_i1, Classical.not_not, nI_clamp, y_ix, y_lt, y_le, y_eq, y_nP, y_nPs, y_ltP, y_ltQ, y_ltPP, y_eqP, y_eqQ, y_eqPP, if_pos, if_neg, ite_true, ite_false, not_true_eq_false, not_false_eq_true, and_true, true_and, and_false, false_and, or_true, true_or, or_false, false_or, h.2.2.2.1, pk_sub, ym_numH h, pk_lEQ]
      by_cases q : e i = e (i - p)
      · simp (disch := omega) only [y_lit, y_n1, nI_add, pk_mul, j_lt, j_b1_s, j_b2_s, j_b3_s, j_b0_s, y_bo, y_bo1, y_bo0, y_i0, y_i1, Classical.not_not, nI_clamp, y_ix, y_lt, y_le, y_eq, y_nP, y_nPs, y_ltP, y_ltQ, y_ltPP, y_eqP, y_eqQ, y_eqPP, if_pos, if_neg, ite_true, ite_false, not_true_eq_false, not_false_eq_true, and_true, true_and, and_false, false_and, or_true, true_or, or_false, false_or]; exact ih (i + 1) f (by omega) (by omega) (by omega)
      · simp (disch := omega) only [y_lit, y_n1, nI_add, pk_mul, j_lt, j_b1_s, j_b2_s, j_b3_s, j_b0_s, y_bo, y_bo1, y_bo0, y_i0, y_i1, Classical.not_not, nI_clamp, y_ix, y_lt, y_le, y_eq, y_nP, y_nPs, y_ltP, y_ltQ, y_ltPP, y_eqP, y_eqQ, y_eqPP, if_pos, if_neg, ite_true, ite_false, not_true_eq_false, not_false_eq_true, and_true, true_and, and_false, false_and, or_true, true_or, or_false, false_or]
  unfold f_X12_isPeriod
  exact key (n - p) p j_F (by omega) (y_F (by omega)) (by omega)
theorem yc_lp (h : y_hd σ τ s c d n e) : f_X8_leastPeriod c d σ = some (nP (y_lp e n (n - 1) 1)) := by
  have hn := h.2.1
  have key : ∀ m p f, (p + m = n ∨ (m = 0 ∧ n ≤ p)) → m < f → 0 < p → p < 100 → p_X8_leastPeriod_2 c d σ f (nI p) = some (nP (y_lp e n m p)) := by
    intro m
    induction m with
    | zero =>
      intro p f hh hf hp hp2
      obtain ⟨f, rfl⟩ := y_pos hf
      unfold p_X8_leastPeriod_2 y_lp; simp (disch := omega) only [y_lit, y_n1, nI_add, pk_mul, j_lt, j_b1_s, j_b2_s, j_b3_s, j_b0_s, y_bo, y_bo1, y_bo0, y_i0, y_i1, Classical.not_not, nI_clamp, y_ix, y_lt, y_le, y_eq, y_nP, y_nPs, y_ltP, y_ltQ, y_ltPP, y_eqP, y_eqQ, y_eqPP, if_pos, if_neg, ite_true, ite_false, not_true_eq_false, not_false_eq_true, and_true, true_and, and_false, false_and, or_true, true_or, or_false, false_or, h.2.2.1]
    | succ m ih =>
      intro p f hh hf hp hp2
      obtain ⟨f, rfl⟩ := y_pos hf
      have le := y_ip_le (e := e) (p := p) (n - p) p
      unfold p_X8_leastPeriod_2 y_lp; simp (disch := omega) only [y_lit, y_n1, nI_add, pk_mul, j_lt, j_b1_s, j_b2_s, j_b3_s, j_b0_s, y_bo, y_bo1, y_bo0, y_i0, y_i1, Classical.not_not, nI_clamp, y_ix, y_lt, y_le, y_eq, y_nP, y_nPs, y_ltP, y_ltQ, y_ltPP, y_eqP, y_eqQ, y_eqPP, if_pos, if_neg, ite_true, ite_false, not_true_eq_false, not_false_eq_true, and_true, true_and, and_false, false_and, or_true, true_or, or_false, false_or, h.2.2.1, yc_isPeriod h]
      by_cases q : y_ip e p (n - p) p = 0
      · simp (disch := omega) only [y_lit, y_n1, nI_add, pk_mul, j_lt, j_b1_s, j_b2_s, j_b3_s, j_b0_s, y_bo, y_bo1, y_bo0, y_i0, y_i1, Classical.not_not, nI_clamp, y_ix, y_lt, y_le, y_eq, y_nP, y_nPs, y_ltP, y_ltQ, y_ltPP, y_eqP, y_eqQ, y_eqPP, if_pos, if_neg, ite_true, ite_false, not_true_eq_false, not_false_eq_true, and_true, true_and, and_false, false_and, or_true, true_or, or_false, false_or]; exact ih (p + 1) f (by omega) (by omega) (by omega) (by omega)
      · simp (disch := omega) only [y_lit, y_n1, nI_add, pk_mul, j_lt, j_b1_s, j_b2_s, j_b3_s, j_b0_s, y_bo, y_bo1, y_bo0, y_i0, y_i1, Classical.not_not, nI_clamp, y_ix, y_lt, y_le, y_eq, y_nP, y_nPs, y_ltP, y_ltQ, y_ltPP, y_eqP, y_eqQ, y_eqPP, if_pos, if_neg, ite_true, ite_false, not_true_eq_false, not_false_eq_true, and_true, true_and, and_false, false_and, or_true, true_or, or_false, false_or]
  unfold f_X8_leastPeriod
  rw [show (1 : Int32) = nI 1 from rfl]
  exact key (n - 1) 1 j_F (by omega) (y_F (by omega)) (by omega) (by omega)
theorem ym_lp (h : y_hd σ τ s c d n e) : f_X12_leastPeriod (nI s) τ = some (nP (y_lp e n (n - 1) 1)) := by
  have hn := h.2.1
  have s4 := h.s4
  have key : ∀ m p f, (p + m = n ∨ (m = 0 ∧ n ≤ p)) → m < f → 0 < p → p < 100 → p_X12_leastPeriod_2 (nI s) τ f (nI p) = some (nP (y_lp e n m p)) := by
    intro m
    induction m with
    | zero =>
      intro p f hh hf hp hp2
      obtain ⟨f, rfl⟩ := y_pos hf
      unfold p_X12_leastPeriod_2 y_lp; simp (disch := omega) only [y_lit, y_n1, nI_add, pk_mul, j_lt, j_b1_s, j_b2_s, j_b3_s, j_b0_s, y_bo, y_bo1, y_bo0, y_i0, y_i1, Classical.not_not, nI_clamp, y_ix, y_lt, y_le, y_eq, y_nP, y_nPs, y_ltP, y_ltQ, y_ltPP, y_eqP, y_eqQ, y_eqPP, if_pos, if_neg, ite_true, ite_false, not_true_eq_false, not_false_eq_true, and_true, true_and, and_false, false_and, or_true, true_or, or_false, false_or, h.2.2.2.1]
    | succ m ih =>
      intro p f hh hf hp hp2
      obtain ⟨f, rfl⟩ := y_pos hf
      have le := y_ip_le (e := e) (p := p) (n - p) p
      unfold p_X12_leastPeriod_2 y_lp; simp (disch := omega) only [y_lit, y_n1, nI_add, pk_mul, j_lt, j_b1_s, j_b2_s, j_b3_s, j_b0_s, y_bo, y_bo1, y_bo0, y_i0, y_i1, Classical.not_not, nI_clamp, y_ix, y_lt, y_le, y_eq, y_nP, y_nPs, y_ltP, y_ltQ, y_ltPP, y_eqP, y_eqQ, y_eqPP, if_pos, if_neg, ite_true, ite_false, not_true_eq_false, not_false_eq_true, and_true, true_and, and_false, false_and, or_true, true_or, or_false, false_or, h.2.2.2.1, ym_isPeriod h]
      by_cases q : y_ip e p (n - p) p = 0
      · simp (disch := omega) only [y_lit, y_n1, nI_add, pk_mul, j_lt, j_b1_s, j_b2_s, j_b3_s, j_b0_s, y_bo, y_bo1, y_bo0, y_i0, y_i1, Classical.not_not, nI_clamp, y_ix, y_lt, y_le, y_eq, y_nP, y_nPs, y_ltP, y_ltQ, y_ltPP, y_eqP, y_eqQ, y_eqPP, if_pos, if_neg, ite_true, ite_false, not_true_eq_false, not_false_eq_true, and_true, true_and, and_false, false_and, or_true, true_or, or_false, false_or]; exact ih (p + 1) f (by omega) (by omega) (by omega) (by omega)
      · simp (disch := omega) only [y_lit, y_n1, nI_add, pk_mul, j_lt, j_b1_s, j_b2_s, j_b3_s, j_b0_s, y_bo, y_bo1, y_bo0, y_i0, y_i1, Classical.not_not, nI_clamp, y_ix, y_lt, y_le, y_eq, y_nP, y_nPs, y_ltP, y_ltQ, y_ltPP, y_eqP, y_eqQ, y_eqPP, if_pos, if_neg, ite_true, ite_false, not_true_eq_false, not_false_eq_true, and_true, true_and, and_false, false_and, or_true, true_or, or_false, false_or]
  unfold f_X12_leastPeriod
  rw [show (1 : Int32) = nI 1 from rfl]
  exact key (n - 1) 1 j_F (by omega) (y_F (by omega)) (by omega) (by omega)
theorem yc_pall (h : y_hd σ τ s c d n e) : f_X8_periodsInAll c d σ = some (nI (y_su (fun p => y_ip e p (n - p) p) (n - 1) 1 0)) := by
  have hn := h.2.1
  have key : ∀ m p f v, (p + m = n ∨ (m = 0 ∧ n ≤ p)) → m < f → 0 < p → p < 100 → p_X8_periodsInAll_4 c d σ f (nI v) (nI p) = some (nI (y_su (fun p => y_ip e p (n - p) p) m p v)) := by
    intro m
    induction m with
    | zero =>
      intro p f v hh hf hp hp2
      obtain ⟨f, rfl⟩ := y_pos hf
      unfold p_X8_periodsInAll_4 y_su; simp (disch := omega) only [y_lit, y_n1, nI_add, pk_mul, j_lt, j_b1_s, j_b2_s, j_b3_s, j_b0_s, y_bo, y_bo1, y_bo0, y_i0, y_i1, Classical.not_not, nI_clamp, y_ix, y_lt, y_le, y_eq, y_nP, y_nPs, y_ltP, y_ltQ, y_ltPP, y_eqP, y_eqQ, y_eqPP, if_pos, if_neg, ite_true, ite_false, not_true_eq_false, not_false_eq_true, and_true, true_and, and_false, false_and, or_true, true_or, or_false, false_or, h.2.2.1]
    | succ m ih =>
      intro p f v hh hf hp hp2
      obtain ⟨f, rfl⟩ := y_pos hf
      have le := y_ip_le (e := e) (p := p) (n - p) p
      unfold p_X8_periodsInAll_4 y_su; simp (disch := omega) only [y_lit, y_n1, nI_add, pk_mul, j_lt, j_b1_s, j_b2_s, j_b3_s, j_b0_s, y_bo, y_bo1, y_bo0, y_i0, y_i1, Classical.not_not, nI_clamp, y_ix, y_lt, y_le, y_eq, y_nP, y_nPs, y_ltP, y_ltQ, y_ltPP, y_eqP, y_eqQ, y_eqPP, if_pos, if_neg, ite_true, ite_false, not_true_eq_false, not_false_eq_true, and_true, true_and, and_false, false_and, or_true, true_or, or_false, false_or, h.2.2.1, yc_isPeriod h]
      by_cases q : y_ip e p (n - p) p = 0
      · simp (disch := omega) only [y_lit, y_n1, nI_add, pk_mul, j_lt, j_b1_s, j_b2_s, j_b3_s, j_b0_s, y_bo, y_bo1, y_bo0, y_i0, y_i1, Classical.not_not, nI_clamp, y_ix, y_lt, y_le, y_eq, y_nP, y_nPs, y_ltP, y_ltQ, y_ltPP, y_eqP, y_eqQ, y_eqPP, if_pos, if_neg, ite_true, ite_false, not_true_eq_false, not_false_eq_true, and_true, true_and, and_false, false_and, or_true, true_or, or_false, false_or, q]; exact ih (p + 1) f _ (by omega) (by omega) (by omega) (by omega)
      · have q1 : y_ip e p (n - p) p = 1 := by omega
        simp (disch := omega) only [y_lit, y_n1, nI_add, pk_mul, j_lt, j_b1_s, j_b2_s, j_b3_s, j_b0_s, y_bo, y_bo1, y_bo0, y_i0, y_i1, Classical.not_not, nI_clamp, y_ix, y_lt, y_le, y_eq, y_nP, y_nPs, y_ltP, y_ltQ, y_ltPP, y_eqP, y_eqQ, y_eqPP, if_pos, if_neg, ite_true, ite_false, not_true_eq_false, not_false_eq_true, and_true, true_and, and_false, false_and, or_true, true_or, or_false, false_or, q1]; exact ih (p + 1) f _ (by omega) (by omega) (by omega) (by omega)
  unfold f_X8_periodsInAll
  rw [show (1 : Int32) = nI 1 from rfl, show (0 : Int32) = nI 0 from rfl, key (n - 1) 1 j_F 0 (by omega) (y_F (by omega)) (by omega) (by omega)]
  rfl
theorem ym_pall (h : y_hd σ τ s c d n e) : p_X12_periods_17 (nI s) τ j_F (nI 0) (nI 1) = some (nI (y_su (fun p => y_ip e p (n - p) p) (n - 1) 1 0)) := by
  have hn := h.2.1
  have s4 := h.s4
  have key : ∀ m p f v, (p + m = n ∨ (m = 0 ∧ n ≤ p)) → m < f → 0 < p → p < 100 → p_X12_periods_17 (nI s) τ f (nI v) (nI p) = some (nI (y_su (fun p => y_ip e p (n - p) p) m p v)) := by
    intro m
    induction m with
    | zero =>
      intro p f v hh hf hp hp2
      obtain ⟨f, rfl⟩ := y_pos hf
      unfold p_X12_periods_17 y_su; simp (disch := omega) only [y_lit, y_n1, nI_add, pk_mul, j_lt, j_b1_s, j_b2_s, j_b3_s, j_b0_s, y_bo, y_bo1, y_bo0, y_i0, y_i1, Classical.not_not, nI_clamp, y_ix, y_lt, y_le, y_eq, y_nP, y_nPs, y_ltP, y_ltQ, y_ltPP, y_eqP, y_eqQ, y_eqPP, if_pos, if_neg, ite_true, ite_false, not_true_eq_false, not_false_eq_true, and_true, true_and, and_false, false_and, or_true, true_or, or_false, false_or, h.2.2.2.1]
    | succ m ih =>
      intro p f v hh hf hp hp2
      obtain ⟨f, rfl⟩ := y_pos hf
      have le := y_ip_le (e := e) (p := p) (n - p) p
      unfold p_X12_periods_17 y_su; simp (disch := omega) only [y_lit, y_n1, nI_add, pk_mul, j_lt, j_b1_s, j_b2_s, j_b3_s, j_b0_s, y_bo, y_bo1, y_bo0, y_i0, y_i1, Classical.not_not, nI_clamp, y_ix, y_lt, y_le, y_eq, y_nP, y_nPs, y_ltP, y_ltQ, y_ltPP, y_eqP, y_eqQ, y_eqPP, if_pos, if_neg, ite_true, ite_false, not_true_eq_false, not_false_eq_true, and_true, true_and, and_false, false_and, or_true, true_or, or_false, false_or, h.2.2.2.1, ym_isPeriod h]
      by_cases q : y_ip e p (n - p) p = 0
      · simp (disch := omega) only [y_lit, y_n1, nI_add, pk_mul, j_lt, j_b1_s, j_b2_s, j_b3_s, j_b0_s, y_bo, y_bo1, y_bo0, y_i0, y_i1, Classical.not_not, nI_clamp, y_ix, y_lt, y_le, y_eq, y_nP, y_nPs, y_ltP, y_ltQ, y_ltPP, y_eqP, y_eqQ, y_eqPP, if_pos, if_neg, ite_true, ite_false, not_true_eq_false, not_false_eq_true, and_true, true_and, and_false, false_and, or_true, true_or, or_false, false_or, q]; exact ih (p + 1) f _ (by omega) (by omega) (by omega) (by omega)
      · have q1 : y_ip e p (n - p) p = 1 := by omega
        simp (disch := omega) only [y_lit, y_n1, nI_add, pk_mul, j_lt, j_b1_s, j_b2_s, j_b3_s, j_b0_s, y_bo, y_bo1, y_bo0, y_i0, y_i1, Classical.not_not, nI_clamp, y_ix, y_lt, y_le, y_eq, y_nP, y_nPs, y_ltP, y_ltQ, y_ltPP, y_eqP, y_eqQ, y_eqPP, if_pos, if_neg, ite_true, ite_false, not_true_eq_false, not_false_eq_true, and_true, true_and, and_false, false_and, or_true, true_or, or_false, false_or, q1]; exact ih (p + 1) f _ (by omega) (by omega) (by omega) (by omega)
  exact key (n - 1) 1 j_F 0 (by omega) (y_F (by omega)) (by omega) (by omega)
theorem yc_goesSo (h : y_hd σ τ s c d n e) (hN : y_N σ b) (hW : y_W b) (h5 : 0 < b 5) {k : Nat} (hk : k < 100) : f_X3_goesSo c d (nI k) σ = some (nI (y_gt b e k n 0)) := by
  have hn := h.2.1
  have h4 := hW.ho
  have key : ∀ m i f, i + m = n → m < f → p_X3_goesSo_2 c d (nI k) σ f (nI i) = some (nI (y_gt b e k m i)) := by
    intro m
    induction m with
    | zero =>
      intro i f hh hf
      obtain ⟨f, rfl⟩ := y_pos hf
      unfold p_X3_goesSo_2 y_gt; simp (disch := omega) only [y_lit, y_n1, nI_add, pk_mul, j_lt, j_b1_s, j_b2_s, j_b3_s, j_b0_s, y_bo, y_bo1, y_bo0, y_i0, y_i1, Classical.not_not, nI_clamp, y_ix, y_lt, y_le, y_eq, y_nP, y_nPs, y_ltP, y_ltQ, y_ltPP, y_eqP, y_eqQ, y_eqPP, if_pos, if_neg, ite_true, ite_false, not_true_eq_false, not_false_eq_true, and_true, true_and, and_false, false_and, or_true, true_or, or_false, false_or, h.2.2.1]
    | succ m ih =>
      intro i f hh hf
      obtain ⟨f, rfl⟩ := y_pos hf
      have e1 := h.2.2.2.2 i (by omega)
      have r1 := y_rd_lt hW h5 (k + i)
      unfold p_X3_goesSo_2 y_gt; simp (disch := omega) only [y_lit, y_n1, nI_add, pk_mul, j_lt, j_b1_s, j_b2_s, j_b3_s, j_b0_s, y_bo, y_bo1, y_bo0, y_i0, y_i1, Classical.not_not, nI_clamp, y_ix, y_lt, y_le, y_eq, y_nP, y_nPs, y_ltP, y_ltQ, y_ltPP, y_eqP, y_eqQ, y_eqPP, if_pos, if_neg, ite_true, ite_false, not_true_eq_false, not_false_eq_true, and_true, true_and, and_false, false_and, or_true, true_or, or_false, false_or, h.2.2.1, yc_round hN hW h5, e1.2.1, nI_l, pk_lEQ]
      by_cases q : e i = y_rd b (k + i)
      · simp (disch := omega) only [y_lit, y_n1, nI_add, pk_mul, j_lt, j_b1_s, j_b2_s, j_b3_s, j_b0_s, y_bo, y_bo1, y_bo0, y_i0, y_i1, Classical.not_not, nI_clamp, y_ix, y_lt, y_le, y_eq, y_nP, y_nPs, y_ltP, y_ltQ, y_ltPP, y_eqP, y_eqQ, y_eqPP, if_pos, if_neg, ite_true, ite_false, not_true_eq_false, not_false_eq_true, and_true, true_and, and_false, false_and, or_true, true_or, or_false, false_or]; exact ih (i + 1) f (by omega) (by omega)
      · simp (disch := omega) only [y_lit, y_n1, nI_add, pk_mul, j_lt, j_b1_s, j_b2_s, j_b3_s, j_b0_s, y_bo, y_bo1, y_bo0, y_i0, y_i1, Classical.not_not, nI_clamp, y_ix, y_lt, y_le, y_eq, y_nP, y_nPs, y_ltP, y_ltQ, y_ltPP, y_eqP, y_eqQ, y_eqPP, if_pos, if_neg, ite_true, ite_false, not_true_eq_false, not_false_eq_true, and_true, true_and, and_false, false_and, or_true, true_or, or_false, false_or]
  unfold f_X3_goesSo
  exact key n 0 j_F (by omega) (y_F (by omega))
theorem ym_fitsFrom (h : y_hd σ τ s c d n e) (hM : y_M τ b) (hW : y_W b) (h5 : 0 < b 5) {k : Nat} (hk : k < 100) : f_X12_fitsFrom (nI s) (nI k) τ = some (nI (y_gt b e k n 0)) := by
  have hn := h.2.1
  have h4 := hW.ho
  have s4 := h.s4
  have key : ∀ m i f, i + m = n → m < f → p_X12_fitsFrom_2 (nI s) (nI k) τ f (nI i) = some (nI (y_gt b e k m i)) := by
    intro m
    induction m with
    | zero =>
      intro i f hh hf
      obtain ⟨f, rfl⟩ := y_pos hf
      unfold p_X12_fitsFrom_2 y_gt; simp (disch := omega) only [y_lit, y_n1, nI_add, pk_mul, j_lt, j_b1_s, j_b2_s, j_b3_s, j_b0_s, y_bo, y_bo1, y_bo0, y_i0, y_i1, Classical.not_not, nI_clamp, y_ix, y_lt, y_le, y_eq, y_nP, y_nPs, y_ltP, y_ltQ, y_ltPP, y_eqP, y_eqQ, y_eqPP, if_pos, if_neg, ite_true, ite_false, not_true_eq_false, not_false_eq_true, and_true, true_and, and_false, false_and, or_true, true_or, or_false, false_or, h.2.2.2.1]
    | succ m ih =>
      intro i f hh hf
      obtain ⟨f, rfl⟩ := y_pos hf
      have e1 := h.2.2.2.2 i (by omega)
      have r1 := y_rd_lt hW h5 (k + i)
      unfold p_X12_fitsFrom_2 y_gt; simp (disch := omega) only [y_lit, y_n1, nI_add, pk_mul, j_lt, j_b1_s, j_b2_s, j_b3_s, j_b0_s, y_bo, y_bo1, y_bo0, y_i0, y_i1, Classical.not_not, nI_clamp, y_ix, y_lt, y_le, y_eq, y_nP, y_nPs, y_ltP, y_ltQ, y_ltPP, y_eqP, y_eqQ, y_eqPP, if_pos, if_neg, ite_true, ite_false, not_true_eq_false, not_false_eq_true, and_true, true_and, and_false, false_and, or_true, true_or, or_false, false_or, h.2.2.2.1, ym_holeAt hM hW h5, ym_numH h, nI_l, pk_lEQ]
      by_cases q : e i = y_rd b (k + i)
      · simp (disch := omega) only [y_lit, y_n1, nI_add, pk_mul, j_lt, j_b1_s, j_b2_s, j_b3_s, j_b0_s, y_bo, y_bo1, y_bo0, y_i0, y_i1, Classical.not_not, nI_clamp, y_ix, y_lt, y_le, y_eq, y_nP, y_nPs, y_ltP, y_ltQ, y_ltPP, y_eqP, y_eqQ, y_eqPP, if_pos, if_neg, ite_true, ite_false, not_true_eq_false, not_false_eq_true, and_true, true_and, and_false, false_and, or_true, true_or, or_false, false_or]; exact ih (i + 1) f (by omega) (by omega)
      · simp (disch := omega) only [y_lit, y_n1, nI_add, pk_mul, j_lt, j_b1_s, j_b2_s, j_b3_s, j_b0_s, y_bo, y_bo1, y_bo0, y_i0, y_i1, Classical.not_not, nI_clamp, y_ix, y_lt, y_le, y_eq, y_nP, y_nPs, y_ltP, y_ltQ, y_ltPP, y_eqP, y_eqQ, y_eqPP, if_pos, if_neg, ite_true, ite_false, not_true_eq_false, not_false_eq_true, and_true, true_and, and_false, false_and, or_true, true_or, or_false, false_or]
  unfold f_X12_fitsFrom
  exact key n 0 j_F (by omega) (y_F (by omega))
end C
section Z
variable {σ τ : j_G}
theorem z_period (hR : j_Rel σ τ) (a1 : Int32) : ∃ v, f_X11_period a1 σ = some v ∧ f_X12_period a1 τ = some v := by
  obtain ⟨b, hW, hN, hM, hK⟩ := id hR
  rcases y_why hW hN hM hK a1 with ⟨k, k1, k2, k3, k4⟩ | ⟨k3, k4, h9, s, c, d, n, e, rfl, h, he⟩
  · refine ⟨k, ?_, ?_⟩
    · unfold f_X11_period; rw [k3, j_b1_s, if_neg k2]
    · unfold f_X12_period; rw [k4, j_b1_s, if_pos k1]
  · refine ⟨nP (y_lp e n (n - 1) 1), ?_, ?_⟩
    · have q := yc_lp h
      unfold f_X11_period
      rcases h.1 with ⟨rfl, rfl, rfl⟩ | ⟨rfl, rfl, rfl⟩ | ⟨rfl, rfl, rfl⟩ | ⟨rfl, rfl, rfl⟩
      · simp (disch := omega) only [y_lit, y_n1, nI_add, pk_mul, j_lt, j_b1_s, j_b2_s, j_b3_s, j_b0_s, y_bo, y_bo1, y_bo0, y_i0, y_i1, Classical.not_not, nI_clamp, y_ix, y_lt, y_le, y_eq, y_nP, y_nPs, y_ltP, y_ltQ, y_ltPP, y_eqP, y_eqQ, y_eqPP, if_pos, if_neg, ite_true, ite_false, not_true_eq_false, not_false_eq_true, and_true, true_and, and_false, false_and, or_true, true_or, or_false, false_or, k3, q]
      · simp (disch := omega) only [y_lit, y_n1, nI_add, pk_mul, j_lt, j_b1_s, j_b2_s, j_b3_s, j_b0_s, y_bo, y_bo1, y_bo0, y_i0, y_i1, Classical.not_not, nI_clamp, y_ix, y_lt, y_le, y_eq, y_nP, y_nPs, y_ltP, y_ltQ, y_ltPP, y_eqP, y_eqQ, y_eqPP, if_pos, if_neg, ite_true, ite_false, not_true_eq_false, not_false_eq_true, and_true, true_and, and_false, false_and, or_true, true_or, or_false, false_or, k3, q]
      · simp (disch := omega) only [y_lit, y_n1, nI_add, pk_mul, j_lt, j_b1_s, j_b2_s, j_b3_s, j_b0_s, y_bo, y_bo1, y_bo0, y_i0, y_i1, Classical.not_not, nI_clamp, y_ix, y_lt, y_le, y_eq, y_nP, y_nPs, y_ltP, y_ltQ, y_ltPP, y_eqP, y_eqQ, y_eqPP, if_pos, if_neg, ite_true, ite_false, not_true_eq_false, not_false_eq_true, and_true, true_and, and_false, false_and, or_true, true_or, or_false, false_or, k3, q]
      · simp (disch := omega) only [y_lit, y_n1, nI_add, pk_mul, j_lt, j_b1_s, j_b2_s, j_b3_s, j_b0_s, y_bo, y_bo1, y_bo0, y_i0, y_i1, Classical.not_not, nI_clamp, y_ix, y_lt, y_le, y_eq, y_nP, y_nPs, y_ltP, y_ltQ, y_ltPP, y_eqP, y_eqQ, y_eqPP, if_pos, if_neg, ite_true, ite_false, not_true_eq_false, not_false_eq_true, and_true, true_and, and_false, false_and, or_true, true_or, or_false, false_or, k3, q]
    · unfold f_X12_period; simp (disch := omega) only [y_lit, y_n1, nI_add, pk_mul, j_lt, j_b1_s, j_b2_s, j_b3_s, j_b0_s, y_bo, y_bo1, y_bo0, y_i0, y_i1, Classical.not_not, nI_clamp, y_ix, y_lt, y_le, y_eq, y_nP, y_nPs, y_ltP, y_ltQ, y_ltPP, y_eqP, y_eqQ, y_eqPP, if_pos, if_neg, ite_true, ite_false, not_true_eq_false, not_false_eq_true, and_true, true_and, and_false, false_and, or_true, true_or, or_false, false_or, k4, ym_lp h]
theorem z_periods (hR : j_Rel σ τ) (a1 : Int32) : ∃ v, f_X11_periods a1 σ = some v ∧ f_X12_periods a1 τ = some v := by
  obtain ⟨b, hW, hN, hM, hK⟩ := id hR
  rcases y_why hW hN hM hK a1 with ⟨k, k1, k2, k3, k4⟩ | ⟨k3, k4, h9, s, c, d, n, e, rfl, h, he⟩
  · refine ⟨k, ?_, ?_⟩
    · unfold f_X11_periods; rw [k3, j_b1_s, if_neg k2]
    · unfold f_X12_periods; rw [k4, j_b1_s, if_pos k1]
  · refine ⟨nI (y_su (fun p => y_ip e p (n - p) p) (n - 1) 1 0), ?_, ?_⟩
    · have q := yc_pall h
      unfold f_X11_periods
      rcases h.1 with ⟨rfl, rfl, rfl⟩ | ⟨rfl, rfl, rfl⟩ | ⟨rfl, rfl, rfl⟩ | ⟨rfl, rfl, rfl⟩
      · simp (disch := omega) only [y_lit, y_n1, nI_add, pk_mul, j_lt, j_b1_s, j_b2_s, j_b3_s, j_b0_s, y_bo, y_bo1, y_bo0, y_i0, y_i1, Classical.not_not, nI_clamp, y_ix, y_lt, y_le, y_eq, y_nP, y_nPs, y_ltP, y_ltQ, y_ltPP, y_eqP, y_eqQ, y_eqPP, if_pos, if_neg, ite_true, ite_false, not_true_eq_false, not_false_eq_true, and_true, true_and, and_false, false_and, or_true, true_or, or_false, false_or, k3, q]
      · simp (disch := omega) only [y_lit, y_n1, nI_add, pk_mul, j_lt, j_b1_s, j_b2_s, j_b3_s, j_b0_s, y_bo, y_bo1, y_bo0, y_i0, y_i1, Classical.not_not, nI_clamp, y_ix, y_lt, y_le, y_eq, y_nP, y_nPs, y_ltP, y_ltQ, y_ltPP, y_eqP, y_eqQ, y_eqPP, if_pos, if_neg, ite_true, ite_false, not_true_eq_false, not_false_eq_true, and_true, true_and, and_false, false_and, or_true, true_or, or_false, false_or, k3, q]
      · simp (disch := omega) only [y_lit, y_n1, nI_add, pk_mul, j_lt, j_b1_s, j_b2_s, j_b3_s, j_b0_s, y_bo, y_bo1, y_bo0, y_i0, y_i1, Classical.not_not, nI_clamp, y_ix, y_lt, y_le, y_eq, y_nP, y_nPs, y_ltP, y_ltQ, y_ltPP, y_eqP, y_eqQ, y_eqPP, if_pos, if_neg, ite_true, ite_false, not_true_eq_false, not_false_eq_true, and_true, true_and, and_false, false_and, or_true, true_or, or_false, false_or, k3, q]
      · simp (disch := omega) only [y_lit, y_n1, nI_add, pk_mul, j_lt, j_b1_s, j_b2_s, j_b3_s, j_b0_s, y_bo, y_bo1, y_bo0, y_i0, y_i1, Classical.not_not, nI_clamp, y_ix, y_lt, y_le, y_eq, y_nP, y_nPs, y_ltP, y_ltQ, y_ltPP, y_eqP, y_eqQ, y_eqPP, if_pos, if_neg, ite_true, ite_false, not_true_eq_false, not_false_eq_true, and_true, true_and, and_false, false_and, or_true, true_or, or_false, false_or, k3, q]
    · unfold f_X12_periods; simp (disch := omega) only [y_lit, y_n1, nI_add, pk_mul, j_lt, j_b1_s, j_b2_s, j_b3_s, j_b0_s, y_bo, y_bo1, y_bo0, y_i0, y_i1, Classical.not_not, nI_clamp, y_ix, y_lt, y_le, y_eq, y_nP, y_nPs, y_ltP, y_ltQ, y_ltPP, y_eqP, y_eqQ, y_eqPP, if_pos, if_neg, ite_true, ite_false, not_true_eq_false, not_false_eq_true, and_true, true_and, and_false, false_and, or_true, true_or, or_false, false_or, k4, ym_pall h]
theorem z_luck (hR : j_Rel σ τ) (a1 : Int32) : ∃ v, f_X11_luck a1 σ = some v ∧ f_X12_luck a1 τ = some v := by
  obtain ⟨b, hW, hN, hM, hK⟩ := id hR
  rcases y_why hW hN hM hK a1 with ⟨k, k1, k2, k3, k4⟩ | ⟨k3, k4, h9, s, c, d, n, e, rfl, h, he⟩
  · refine ⟨k, ?_, ?_⟩
    · unfold f_X11_luck; rw [k3, j_b1_s, if_pos k2]
    · unfold f_X12_luck; rw [k4, j_b1_s, if_pos k1]
  · have hn := h.2.1
    have s4 := h.s4
    have q := yc_lp h
    have qm := ym_lp h
    have ol := y_op_le hW
    have ll := y_lp_le (e := e) (n := n) (n - 1) 1
    by_cases z : y_lp e n (n - 1) 1 = 0
    · rw [z] at q qm
      refine ⟨-1, ?_, ?_⟩
      · unfold f_X11_luck
        rcases h.1 with ⟨rfl, rfl, rfl⟩ | ⟨rfl, rfl, rfl⟩ | ⟨rfl, rfl, rfl⟩ | ⟨rfl, rfl, rfl⟩
        · simp (disch := omega) only [y_lit, y_n1, nI_add, pk_mul, j_lt, j_b1_s, j_b2_s, j_b3_s, j_b0_s, y_bo, y_bo1, y_bo0, y_i0, y_i1, Classical.not_not, nI_clamp, y_ix, y_lt, y_le, y_eq, y_nP, y_nPs, y_ltP, y_ltQ, y_ltPP, y_eqP, y_eqQ, y_eqPP, if_pos, if_neg, ite_true, ite_false, not_true_eq_false, not_false_eq_true, and_true, true_and, and_false, false_and, or_true, true_or, or_false, false_or, k3, q]
        · simp (disch := omega) only [y_lit, y_n1, nI_add, pk_mul, j_lt, j_b1_s, j_b2_s, j_b3_s, j_b0_s, y_bo, y_bo1, y_bo0, y_i0, y_i1, Classical.not_not, nI_clamp, y_ix, y_lt, y_le, y_eq, y_nP, y_nPs, y_ltP, y_ltQ, y_ltPP, y_eqP, y_eqQ, y_eqPP, if_pos, if_neg, ite_true, ite_false, not_true_eq_false, not_false_eq_true, and_true, true_and, and_false, false_and, or_true, true_or, or_false, false_or, k3, q]
        · simp (disch := omega) only [y_lit, y_n1, nI_add, pk_mul, j_lt, j_b1_s, j_b2_s, j_b3_s, j_b0_s, y_bo, y_bo1, y_bo0, y_i0, y_i1, Classical.not_not, nI_clamp, y_ix, y_lt, y_le, y_eq, y_nP, y_nPs, y_ltP, y_ltQ, y_ltPP, y_eqP, y_eqQ, y_eqPP, if_pos, if_neg, ite_true, ite_false, not_true_eq_false, not_false_eq_true, and_true, true_and, and_false, false_and, or_true, true_or, or_false, false_or, k3, q]
        · simp (disch := omega) only [y_lit, y_n1, nI_add, pk_mul, j_lt, j_b1_s, j_b2_s, j_b3_s, j_b0_s, y_bo, y_bo1, y_bo0, y_i0, y_i1, Classical.not_not, nI_clamp, y_ix, y_lt, y_le, y_eq, y_nP, y_nPs, y_ltP, y_ltQ, y_ltPP, y_eqP, y_eqQ, y_eqPP, if_pos, if_neg, ite_true, ite_false, not_true_eq_false, not_false_eq_true, and_true, true_and, and_false, false_and, or_true, true_or, or_false, false_or, k3, q]
      · unfold f_X12_luck; simp (disch := omega) only [y_lit, y_n1, nI_add, pk_mul, j_lt, j_b1_s, j_b2_s, j_b3_s, j_b0_s, y_bo, y_bo1, y_bo0, y_i0, y_i1, Classical.not_not, nI_clamp, y_ix, y_lt, y_le, y_eq, y_nP, y_nPs, y_ltP, y_ltQ, y_ltPP, y_eqP, y_eqQ, y_eqPP, if_pos, if_neg, ite_true, ite_false, not_true_eq_false, not_false_eq_true, and_true, true_and, and_false, false_and, or_true, true_or, or_false, false_or, k4, qm]
    · obtain ⟨p, hp⟩ : ∃ p, y_lp e n (n - 1) 1 = p + 1 := ⟨y_lp e n (n - 1) 1 - 1, by omega⟩
      rw [hp, y_nPs] at q qm
      have both : ∀ m i f pw, i + m = n → m < f → pw ≤ 1000000000 → ∃ w, w < 2 ^ 62 ∧ p_X11_luck_44 c (nI (y_op b)) σ (f + 1) (lN pw) (nI i) = some (lN w) ∧ p_X12_luck_31 (nI s) τ (f + 1) (lN pw) (nI i) = some (if lN 1000000000 < lN w then nP 0 else (lN w).toInt32) := by
        intro m
        induction m with
        | zero =>
          intro i f pw hh hf hpw
          refine ⟨pw, by omega, ?_, ?_⟩
          · unfold p_X11_luck_44; simp (disch := omega) only [y_lit, y_n1, nI_add, pk_mul, j_lt, j_b1_s, j_b2_s, j_b3_s, j_b0_s, y_bo, y_bo1, y_bo0, y_i0, y_i1, Classical.not_not, nI_clamp, y_ix, y_lt, y_le, y_eq, y_nP, y_nPs, y_ltP, y_ltQ, y_ltPP, y_eqP, y_eqQ, y_eqPP, if_pos, if_neg, ite_true, ite_false, not_true_eq_false, not_false_eq_true, and_true, true_and, and_false, false_and, or_true, true_or, or_false, false_or, h.2.2.1]
          · have : ¬ lN 1000000000 < lN pw := by rw [pk_lLT (by omega) (by omega)]; omega
            rw [if_neg this]
            unfold p_X12_luck_31; simp (disch := omega) only [y_lit, y_n1, nI_add, pk_mul, j_lt, j_b1_s, j_b2_s, j_b3_s, j_b0_s, y_bo, y_bo1, y_bo0, y_i0, y_i1, Classical.not_not, nI_clamp, y_ix, y_lt, y_le, y_eq, y_nP, y_nPs, y_ltP, y_ltQ, y_ltPP, y_eqP, y_eqQ, y_eqPP, if_pos, if_neg, ite_true, ite_false, not_true_eq_false, not_false_eq_true, and_true, true_and, and_false, false_and, or_true, true_or, or_false, false_or, h.2.2.2.1]
        | succ m ih =>
          intro i f pw hh hf hpw
          obtain ⟨f, rfl⟩ := y_pos hf
          have mle : pw * y_op b ≤ 1000000000 * 12 := Nat.mul_le_mul hpw ol
          have hlt : nI i < nI n := (y_lt (by omega) (by omega)).mpr (by omega)
          have n0 : ¬ lN 1000000000 < lN pw := by rw [pk_lLT (by omega) (by omega)]; omega
          have c1 : p_X11_luck_44 c (nI (y_op b)) σ (f + 1 + 1) (lN pw) (nI i) = p_X11_luck_44 c (nI (y_op b)) σ (f + 1) (lN (pw * y_op b)) (nI (i + 1)) := by
            rw [p_X11_luck_44, h.2.2.1, y_litL, if_pos ⟨hlt, n0⟩, nI_l (by omega), show (1 : Int32) = nI 1 from rfl, nI_add]
            simp only [j_lt]
            rw [lN_mul]
          have c2 : p_X12_luck_31 (nI s) τ (f + 1 + 1) (lN pw) (nI i) = if lN 1000000000 < lN (pw * y_op b) then some (nP 0) else p_X12_luck_31 (nI s) τ (f + 1) (lN (pw * y_op b)) (nI (i + 1)) := by
            rw [p_X12_luck_31, y_ix (by omega) (by omega), nI_clamp (by omega), h.2.2.2.1, if_pos hlt, ym_open hM hW, j_b1_s, nI_l (by omega), show (1 : Int32) = nI 1 from rfl, nI_add, lN_mul]
            rfl
          rw [c1, c2]
          by_cases y : pw * y_op b ≤ 1000000000
          · have n1 : ¬ lN 1000000000 < lN (pw * y_op b) := by rw [pk_lLT (by omega) (by omega)]; omega
            rw [if_neg n1]
            exact ih (i + 1) f (pw * y_op b) (by omega) (by omega) y
          · have n1 : lN 1000000000 < lN (pw * y_op b) := by rw [pk_lLT (by omega) (by omega)]; omega
            rw [if_pos n1]
            refine ⟨pw * y_op b, by omega, ?_, ?_⟩
            · rw [p_X11_luck_44, h.2.2.1, y_litL, if_neg (fun z => z.2 n1)]
            · rw [if_pos n1]
      obtain ⟨w, hw, w1, w2⟩ := both (n - p) p 4999 1 (by omega) (by omega) (by omega)
      have w1' : p_X11_luck_44 c (nI (y_op b)) σ j_F (1 : Int64) (nI p) = some (lN w) := w1
      have w2' : p_X12_luck_31 (nI s) τ j_F (1 : Int64) (nI p) = some (if lN 1000000000 < lN w then nP 0 else (lN w).toInt32) := w2
      refine ⟨if lN 1000000000 < lN w then nP 0 else (lN w).toInt32, ?_, ?_⟩
      · have np : ¬ nI p = nP 0 := by rw [y_eqQ (by omega) (by omega)]; omega
        have fin : (if (1000000000 : Int64) < lN w then some (-1) else some (lN w).toInt32) = some (if lN 1000000000 < lN w then nP 0 else (lN w).toInt32) := by
          rw [y_m1, y_litL]
          split <;> rfl
        have o := yc_open hN hW
        unfold f_X11_luck
        rcases h.1 with ⟨rfl, rfl, rfl⟩ | ⟨rfl, rfl, rfl⟩ | ⟨rfl, rfl, rfl⟩ | ⟨rfl, rfl, rfl⟩
        · rw [k3, j_b1_s, if_neg (fun z => z rfl), if_pos (show nI 0 = (0 : Int32) from rfl), q, j_b1_s, y_m1, if_neg np, o]
          simp only [j_lt]; rw [w1', j_b1_s, ← y_m1]; exact fin
        · rw [k3, j_b1_s, if_neg (fun z => z rfl), if_neg (by decide), if_pos (show nI 1 = (1 : Int32) from rfl), q, j_b1_s, y_m1, if_neg np, o]
          simp only [j_lt]; rw [w1', j_b1_s, ← y_m1]; exact fin
        · rw [k3, j_b1_s, if_neg (fun z => z rfl), if_neg (by decide), if_neg (by decide), if_pos (show nI 2 = (2 : Int32) from rfl), q, j_b1_s, y_m1, if_neg np, o]
          simp only [j_lt]; rw [w1', j_b1_s, ← y_m1]; exact fin
        · rw [k3, j_b1_s, if_neg (fun z => z rfl), if_neg (by decide), if_neg (by decide), if_neg (by decide), if_pos (show nI 3 = (3 : Int32) from rfl), q, j_b1_s, y_m1, if_neg np, o]
          simp only [j_lt]; rw [w1', j_b1_s, ← y_m1]; exact fin
      · have np : ¬ nI p = nP 0 := by rw [y_eqQ (by omega) (by omega)]; omega
        unfold f_X12_luck
        rw [k4, j_b1_s, if_neg (by decide), qm, j_b1_s, y_m1, if_neg np]
        exact w2'
end Z
