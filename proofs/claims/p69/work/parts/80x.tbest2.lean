section R
variable {τ : j_G} {b g : Nat → Nat} {s : Nat}
theorem tn_steps (hM : y_M τ b) (hW : y_W b) (h9 : 0 < b 9) (x y : Int32) : ∃ v, f_X12_stepsOf x y τ = some v := by
  have h0 := hW.on h9
  have b0 := hW.b0
  have nz : ¬ nI (b 0) = (0 : Int32) := by rw [show (0 : Int32) = nI 0 from rfl, y_eq (by omega) (by omega)]; omega
  have i0 : ∀ (o : Option Int32), j_ix (0 : Int32) 116 o = o := fun o => y_ix (k := 0) (by omega) (by omega)
  unfold f_X12_stepsOf
  rw [show ((0 : Int32)).toNatClampNeg = 0 from rfl, hM.f (j := 0) (by omega)]
  simp only [i0]
  rw [if_neg nz, if_neg nz, if_neg nz, if_neg nz]
  exact ⟨_, rfl⟩
theorem tn_of {p q : Nat} (hp : p < 4) (hq : q < 5) : f_X12_of (nI p) (nI q) τ = some (τ.1 76 (96 + 5 * p + q)) := by
  unfold f_X12_of; simp (disch := omega) only [y_lit, y_n1, nI_add, pk_mul, j_lt, j_b1_s, j_b2_s, j_b3_s, j_b0_s, y_bo, y_bo1, y_bo0, y_i0, y_i1, Classical.not_not, nI_clamp, y_ix, y_lt, y_le, y_eq, y_nP, y_nPs, y_ltP, y_ltQ, y_ltPP, y_eqP, y_eqQ, y_eqPP, if_pos, if_neg, ite_true, ite_false, not_true_eq_false, not_false_eq_true, and_true, true_and, and_false, false_and, or_true, true_or, or_false, false_or]
theorem tn_pace {p : Nat} (hp : p < 4) (t : Int32) : ∃ v, f_X12_paceIn (nI p) t τ = some v := by
  unfold f_X12_paceIn
  rw [show f_X12_of (nI p) (0 : Int32) τ = _ from tn_of hp (q := 0) (by omega), j_b1_s, show f_X12_of (nI p) (2 : Int32) τ = _ from tn_of hp (q := 2) (by omega), j_b1_s]
  by_cases c : τ.1 76 (96 + 5 * p + 2) = 0
  · rw [if_pos c]; exact ⟨_, rfl⟩
  · rw [if_neg c, j_b1_s, if_neg c]; exact ⟨_, rfl⟩
theorem tn_behind (hM : y_M τ b) (hW : y_W b) (h9 : 0 < b 9) {p i : Nat} (hp : p < 4) (h19 : τ.1 75 19 = nI p) (hi : i < 60) (x t y : Int32) : ∃ v, f_X12_behind (nI i) x t y τ = some v := by
  unfold f_X12_behind
  simp only [j_lt]
  by_cases c : t = (1000000 : Int32)
  · rw [if_pos c]; exact ⟨_, rfl⟩
  · obtain ⟨u, e1⟩ := tn_steps hM hW h9 x y
    obtain ⟨w, e2⟩ := tn_pace (τ := τ) hp t
    rw [if_neg c, y_ix hi (by omega), e1, j_b1_s, h19, e2, j_b1_s, y_ix hi (by omega)]
    generalize (if τ.1 83 (nI i).toNatClampNeg < t + u * w then t + u * w else τ.1 83 (nI i).toNatClampNeg) = z
    by_cases d : τ.1 84 (nI i).toNatClampNeg < z
    · rw [if_pos d]; exact ⟨_, rfl⟩
    · rw [if_neg d]; exact ⟨_, rfl⟩
theorem tn_cell {h k : Nat} : f_X12_cell (nI h) (nI k) = nI (121 * h + k) := by
  unfold f_X12_cell; rw [show (121 : Int32) = nI 121 from rfl, pk_mul, nI_add]
theorem tn_sooner {h k : Nat} (hh : h < 12) (hk : k < 121) (t : Int32) : ∃ τ', f_X12_sooner (nI h) (nI k) t τ = some τ' ∧ y_fm 43 42 89 90 τ τ' := by
  unfold f_X12_sooner
  rw [tn_cell, y_ix (by omega) (by omega), y_ix (by omega) (by omega)]
  exact ⟨_, rfl, y_fm.refl.si (by omega) (by omega) (by omega)⟩
theorem y_M.fr3 {τ τ' : j_G} (h : y_M τ b) (hf : y_fm 43 42 89 90 τ τ') : y_M τ' b := h.fr hf (by omega)
theorem tn_15 (hW : y_W b) (h9 : 0 < b 9) {p i x h : Nat} {o : Nat} (hp : p < 4) (hi : i < 60) (hx : x < 12) (hh : h < 12) (ho : o ≤ 12) : ∀ m k n (τ : j_G), k + m = 119 → m < n → y_M τ b → τ.1 75 19 = nI p → ∃ τ', p_X12_mayHit_15 (nI i) (nI x) (nP o) (nI h) n (nI k) τ = some τ' ∧ y_fm 43 42 89 90 τ τ' := by
  intro m
  induction m with
  | zero =>
    intro k n τ hk hn hM h19
    obtain ⟨n, rfl⟩ := y_pos hn
    refine ⟨τ, ?_, y_fm.refl⟩
    unfold p_X12_mayHit_15
    rw [if_neg (show ¬ nI k + (2 : Int32) < (121 : Int32) by rw [show (2 : Int32) = nI 2 from rfl, show (121 : Int32) = nI 121 from rfl, nI_add, y_lt (by omega) (by omega)]; omega)]
  | succ m ih =>
    intro k n τ hk hn hM h19
    obtain ⟨n, rfl⟩ := y_pos hn
    obtain ⟨v1, e1⟩ := tn_behind hM hW h9 hp h19 hi (nI h) (τ.1 90 (121 * h + k)) (nI x)
    obtain ⟨τ2, e2, f2⟩ := tn_sooner (τ := τ) hx (k := k + 1) (by omega) v1
    have hM2 : y_M τ2 b := hM.fr3 f2
    have h192 : τ2.1 75 19 = nI p := by rw [f2.1 19 (by omega)]; exact h19
    have e12 : nI k + (1 : Int32) = nI (k + 1) := by simp (disch := omega) only [y_lit, nI_add]
    have e22 : nI k + (2 : Int32) = nI (k + 2) := by simp (disch := omega) only [y_lit, nI_add]
    unfold p_X12_mayHit_15
    rw [e22, if_pos (show nI (k + 2) < (121 : Int32) by rw [show (121 : Int32) = nI 121 from rfl, y_lt (by omega) (by omega)]; omega), tn_cell, y_ix (by omega) (by omega), nI_clamp (by omega), e1, j_b1_s, e12, e2, j_b1_s]
    by_cases c : ¬ nP o = (-1 : Int32)
    · obtain ⟨q, rfl⟩ : ∃ q, o = q + 1 := ⟨o - 1, by
        have : o ≠ 0 := fun z => c (by rw [z]; exact y_m1.symm)
        omega⟩
      rw [y_nPs] at c ⊢
      obtain ⟨v4, e4⟩ := tn_behind hM2 hW h9 hp h192 hi (nI x) v1 (nI q)
      obtain ⟨τ5, e5, f5⟩ := tn_sooner (τ := τ2) (h := q) (by omega) (k := k + 2) (by omega) v4
      obtain ⟨τ', g1, g2⟩ := ih (k + 1) n τ5 (by omega) (by omega) (hM2.fr3 f5) (by rw [f5.1 19 (by omega)]; exact h192)
      rw [y_nPs] at g1
      rw [if_pos c, e4, j_b1_s, e5, j_b1_s, j_b1_s]
      exact ⟨τ', g1, y_fm.trans (y_fm.trans f2 f5) g2⟩
    · obtain ⟨τ', g1, g2⟩ := ih (k + 1) n τ2 (by omega) (by omega) hM2 h192
      rw [if_neg c, j_b1_s]
      exact ⟨τ', g1, y_fm.trans f2 g2⟩
theorem tn_3 (hW : y_W b) (h9 : 0 < b 9) {p i x : Nat} {o : Nat} (hp : p < 4) (hi : i < 60) (hx : x < 12) (ho : o ≤ 12) : ∀ m k n (τ : j_G), k + m = y_ho b → m < n → y_M τ b → τ.1 75 19 = nI p → ∃ τ', p_X12_mayHit_3 (nI i) (nI x) (nP o) n (nI k) τ = some τ' ∧ y_fm 43 42 89 90 τ τ' := by
  have hh := hW.ho
  intro m
  induction m with
  | zero =>
    intro k n τ hk hn hM h19
    obtain ⟨n, rfl⟩ := y_pos hn
    refine ⟨τ, ?_, y_fm.refl⟩
    unfold p_X12_mayHit_3
    rw [ym_holes hM, j_b1_s, if_neg (by rw [y_lt (by omega) (by omega)]; omega)]
  | succ m ih =>
    intro k n τ hk hn hM h19
    obtain ⟨n, rfl⟩ := y_pos hn
    obtain ⟨τ1, a1, a2⟩ := tn_15 hW h9 (h := k) hp hi hx (by omega) ho 119 0 j_F τ (by omega) (y_F (by omega)) hM h19
    obtain ⟨τ', g1, g2⟩ := ih (k + 1) n τ1 (by omega) (by omega) (hM.fr3 a2) (by rw [a2.1 19 (by omega)]; exact h19)
    refine ⟨τ', ?_, y_fm.trans a2 g2⟩
    unfold p_X12_mayHit_3
    rw [ym_holes hM, j_b1_s, if_pos ((y_lt (by omega) (by omega)).mpr (by omega)), show (0 : Int32) = nI 0 from rfl, a1, j_b1_s, show nI k + (1 : Int32) = nI (k + 1) by simp (disch := omega) only [y_lit, nI_add]]
    exact g1
theorem tn_mayHit (hM : y_M τ b) (hW : y_W b) (h9 : 0 < b 9) {p i x o : Nat} (hp : p < 4) (hi : i < 60) (hx : x < 12) (ho : o ≤ 12) (h19 : τ.1 75 19 = nI p) : ∃ τ', f_X12_mayHit (nI i) (nI x) (nP o) τ = some τ' ∧ y_fm 43 42 89 90 τ τ' := by
  have hh := hW.ho
  obtain ⟨τ1, a1, a2⟩ := tn_3 hW h9 hp hi hx ho (y_ho b) 0 j_F τ (by omega) (y_F (by omega)) hM h19
  refine ⟨τ1, ?_, a2⟩
  unfold f_X12_mayHit
  rw [show (0 : Int32) = nI 0 from rfl, a1, j_b1_s]
theorem tn_11 {c d : Int32} : ∀ m i n (τ : j_G), i + m = 1452 → m < n → ∃ τ', p_X12_bestOf_11 c d n (nI i) τ = some τ' ∧ y_fm 43 42 89 90 τ τ' := by
  intro m
  induction m with
  | zero =>
    intro i n τ h hn
    obtain ⟨n, rfl⟩ := y_pos hn
    refine ⟨τ, ?_, y_fm.refl⟩
    unfold p_X12_bestOf_11; simp (disch := omega) only [y_lit, y_n1, nI_add, pk_mul, j_lt, j_b1_s, j_b2_s, j_b3_s, j_b0_s, y_bo, y_bo1, y_bo0, y_i0, y_i1, Classical.not_not, nI_clamp, y_ix, y_lt, y_le, y_eq, y_nP, y_nPs, y_ltP, y_ltQ, y_ltPP, y_eqP, y_eqQ, y_eqPP, if_pos, if_neg, ite_true, ite_false, not_true_eq_false, not_false_eq_true, and_true, true_and, and_false, false_and, or_true, true_or, or_false, false_or]
  | succ m ih =>
    intro i n τ h hn
    obtain ⟨n, rfl⟩ := y_pos hn
    obtain ⟨τ', e1, e2⟩ := ih (i + 1) n (j_si τ 89 i (1000000 : Int32)) (by omega) (by omega)
    refine ⟨τ', ?_, y_fm.trans (y_fm.refl.si (by omega) (by omega) (by omega)) e2⟩
    unfold p_X12_bestOf_11
    rw [if_pos (show nI i < (1452 : Int32) by rw [show (1452 : Int32) = nI 1452 from rfl, y_lt (by omega) (by omega)]; omega), y_ix (by omega) (by omega), nI_clamp (by omega), show nI i + (1 : Int32) = nI (i + 1) by simp (disch := omega) only [y_lit, nI_add]]
    exact e1
theorem tn_82 {c d : Int32} : ∀ m i n (τ : j_G), i + m = 1452 → m < n → ∃ τ', p_X12_bestOf_82 c d n (nI i) τ = some τ' ∧ y_fm 43 42 89 90 τ τ' := by
  intro m
  induction m with
  | zero =>
    intro i n τ h hn
    obtain ⟨n, rfl⟩ := y_pos hn
    refine ⟨τ, ?_, y_fm.refl⟩
    unfold p_X12_bestOf_82; simp (disch := omega) only [y_lit, y_n1, nI_add, pk_mul, j_lt, j_b1_s, j_b2_s, j_b3_s, j_b0_s, y_bo, y_bo1, y_bo0, y_i0, y_i1, Classical.not_not, nI_clamp, y_ix, y_lt, y_le, y_eq, y_nP, y_nPs, y_ltP, y_ltQ, y_ltPP, y_eqP, y_eqQ, y_eqPP, if_pos, if_neg, ite_true, ite_false, not_true_eq_false, not_false_eq_true, and_true, true_and, and_false, false_and, or_true, true_or, or_false, false_or]
  | succ m ih =>
    intro i n τ h hn
    obtain ⟨n, rfl⟩ := y_pos hn
    obtain ⟨τ', e1, e2⟩ := ih (i + 1) n (j_si τ 90 i (τ.1 89 i)) (by omega) (by omega)
    refine ⟨τ', ?_, y_fm.trans (y_fm.refl.si (by omega) (by omega) (by omega)) e2⟩
    unfold p_X12_bestOf_82
    rw [if_pos (show nI i < (1452 : Int32) by rw [show (1452 : Int32) = nI 1452 from rfl, y_lt (by omega) (by omega)]; omega), y_ix (by omega) (by omega), y_ix (by omega) (by omega), nI_clamp (by omega), show nI i + (1 : Int32) = nI (i + 1) by simp (disch := omega) only [y_lit, nI_add]]
    exact e1
theorem tn_ing {i q : Nat} (hi : i < 60) (hq : q < 3) : f_X12_inGame (nI i) (nI q) τ = some (τ.1 82 (3 * i + q)) := by
  unfold f_X12_inGame; simp (disch := omega) only [y_lit, y_n1, nI_add, pk_mul, j_lt, j_b1_s, j_b2_s, j_b3_s, j_b0_s, y_bo, y_bo1, y_bo0, y_i0, y_i1, Classical.not_not, nI_clamp, y_ix, y_lt, y_le, y_eq, y_nP, y_nPs, y_ltP, y_ltQ, y_ltPP, y_eqP, y_eqQ, y_eqPP, if_pos, if_neg, ite_true, ite_false, not_true_eq_false, not_false_eq_true, and_true, true_and, and_false, false_and, or_true, true_or, or_false, false_or]
theorem y_mg.fr3 {τ' : j_G} (h : y_mg τ b s g) (hf : y_fm 43 42 89 90 τ τ') : y_mg τ' b s g := h.fr hf (by omega) (by omega)
theorem tn_53 (hW : y_W b) (h9 : 0 < b 9) (hv : y_vg b s g) {p : Nat} {c : Int32} (hp : p < 4) : ∀ m i n (τ : j_G), i + m = s → m < n → y_M τ b → y_mg τ b s g → τ.1 75 19 = nI p → ∃ τ', p_X12_bestOf_53 c n (nI i) τ = some τ' ∧ y_fm 43 42 89 90 τ τ' := by
  have hs := hv.1
  have hh := hW.ho
  intro m
  induction m with
  | zero =>
    intro i n τ h hn hM hg h19
    obtain ⟨n, rfl⟩ := y_pos hn
    refine ⟨τ, ?_, y_fm.refl⟩
    unfold p_X12_bestOf_53
    rw [hg.1, if_neg (fun z => by have := z.1; rw [y_lt (by omega) (by omega)] at this; omega)]
  | succ m ih =>
    intro i n τ h hn hM hg h19
    obtain ⟨n, rfl⟩ := y_pos hn
    obtain ⟨g0, g1, g2, g3, g4⟩ := hg.2 i (by omega)
    obtain ⟨w0, w1, w2, w3, w4, w5⟩ := hv.2 i (by omega)
    have z0 : (0 : Int32) = nI 0 := rfl
    have z1 : (1 : Int32) = nI 1 := rfl
    have z2 : (2 : Int32) = nI 2 := rfl
    unfold p_X12_bestOf_53
    by_cases d : nI i < τ.1 75 18 ∧ nI i < c
    · rw [if_pos d, show f_X12_inGame (nI i) (2 : Int32) τ = _ from tn_ing (i := i) (q := 2) (by omega) (by omega), j_b1_s, show nI i + (1 : Int32) = nI (i + 1) by simp (disch := omega) only [y_lit, nI_add]]
      by_cases r : τ.1 82 (3 * i + 2) = (1 : Int32)
      · rw [if_pos r, j_b1_s]
        exact ih (i + 1) n τ (by omega) (by omega) hM hg h19
      · obtain ⟨τ3, a1, a2⟩ := tn_82 (c := c) (d := nI i) 1452 0 j_F τ (by omega) (y_F (by omega))
        have hM3 : y_M τ3 b := hM.fr3 a2
        have hg3 : y_mg τ3 b s g := hg.fr3 a2
        obtain ⟨p0, p1, p2, p3, p4⟩ := hg3.2 i (by omega)
        have h193 : τ3.1 75 19 = nI p := by rw [a2.1 19 (by omega)]; exact h19
        obtain ⟨τ6, c1, c2⟩ := tn_mayHit hM3 hW h9 hp (i := i) (x := g (3 * i)) (o := g (3 * i + 1)) (by omega) (by omega) (by omega) h193
        have hM6 : y_M τ6 b := hM3.fr3 c2
        have hg6 : y_mg τ6 b s g := hg3.fr3 c2
        obtain ⟨q0, q1, q2, q3, q4⟩ := hg6.2 i (by omega)
        have h196 : τ6.1 75 19 = nI p := by rw [c2.1 19 (by omega)]; exact h193
        have i30 : f_X12_inGame (nI i) (0 : Int32) τ3 = some (nI (g (3 * i))) := by rw [z0, tn_ing (by omega) (by omega), Nat.add_zero, p0]
        have i31 : f_X12_inGame (nI i) (1 : Int32) τ3 = some (nP (g (3 * i + 1))) := by rw [z1, tn_ing (by omega) (by omega), p1]
        have i60 : f_X12_inGame (nI i) (0 : Int32) τ6 = some (nI (g (3 * i))) := by rw [z0, tn_ing (by omega) (by omega), Nat.add_zero, q0]
        have i61 : f_X12_inGame (nI i) (1 : Int32) τ6 = some (nP (g (3 * i + 1))) := by rw [z1, tn_ing (by omega) (by omega), q1]
        rw [if_neg r, show p_X12_bestOf_82 c (nI i) j_F (0 : Int32) τ = _ from a1, j_b1_s, i30, j_b1_s, i31, j_b1_s, c1, j_b1_s, i61, j_b1_s]
        by_cases e : ¬ nP (g (3 * i + 1)) = (-1 : Int32)
        · obtain ⟨q, hq⟩ : ∃ q, g (3 * i + 1) = q + 1 := ⟨g (3 * i + 1) - 1, by
            have : g (3 * i + 1) ≠ 0 := fun z => e (by rw [z]; exact y_m1.symm)
            omega⟩
          have c10 := tn_mayHit hM6 hW h9 hp (i := i) (x := q) (o := g (3 * i) + 1) (by omega) (by omega) (by omega) h196
          rw [y_nPs] at c10
          obtain ⟨τ10, d1, d2⟩ := c10
          obtain ⟨τ', k1, k2⟩ := ih (i + 1) n τ10 (by omega) (by omega) (hM6.fr3 d2) (hg6.fr3 d2) (by rw [d2.1 19 (by omega)]; exact h196)
          rw [if_pos e, j_b1_s, i60, j_b1_s, hq, y_nPs, d1, j_b1_s, j_b1_s]
          exact ⟨τ', k1, y_fm.trans (y_fm.trans (y_fm.trans a2 c2) d2) k2⟩
        · obtain ⟨τ', k1, k2⟩ := ih (i + 1) n τ6 (by omega) (by omega) hM6 hg6 h196
          rw [if_neg e, j_b1_s]
          exact ⟨τ', k1, y_fm.trans (y_fm.trans a2 c2) k2⟩
    · rw [if_neg d]; exact ⟨τ, rfl, y_fm.refl⟩
theorem tn_179 {h : Nat} (hh : h < 12) : ∀ m k n (v : Int32), k + m = 121 → m < n → ∃ w, p_X12_bestOf_179 (nI h) τ n v (nI k) = some w := by
  intro m
  induction m with
  | zero =>
    intro k n v hk hn
    obtain ⟨n, rfl⟩ := y_pos hn
    refine ⟨v, ?_⟩
    unfold p_X12_bestOf_179; simp (disch := omega) only [y_lit, y_n1, nI_add, pk_mul, j_lt, j_b1_s, j_b2_s, j_b3_s, j_b0_s, y_bo, y_bo1, y_bo0, y_i0, y_i1, Classical.not_not, nI_clamp, y_ix, y_lt, y_le, y_eq, y_nP, y_nPs, y_ltP, y_ltQ, y_ltPP, y_eqP, y_eqQ, y_eqPP, if_pos, if_neg, ite_true, ite_false, not_true_eq_false, not_false_eq_true, and_true, true_and, and_false, false_and, or_true, true_or, or_false, false_or]
  | succ m ih =>
    intro k n v hk hn
    obtain ⟨n, rfl⟩ := y_pos hn
    unfold p_X12_bestOf_179
    simp only [j_lt]
    rw [if_pos (show nI k < (121 : Int32) by rw [show (121 : Int32) = nI 121 from rfl, y_lt (by omega) (by omega)]; omega), tn_cell, y_ix (by omega) (by omega), show nI k + (1 : Int32) = nI (k + 1) by simp (disch := omega) only [y_lit, nI_add]]
    exact ih (k + 1) n _ (by omega) (by omega)
theorem tn_167 (hM : y_M τ b) (hW : y_W b) : ∀ m k n (v : Int32), k + m = y_ho b → m < n → ∃ w, p_X12_bestOf_167 τ n v (nI k) = some w := by
  have hh := hW.ho
  intro m
  induction m with
  | zero =>
    intro k n v hk hn
    obtain ⟨n, rfl⟩ := y_pos hn
    refine ⟨v, ?_⟩
    unfold p_X12_bestOf_167
    rw [ym_holes hM, j_b1_s, if_neg (by rw [y_lt (by omega) (by omega)]; omega)]
  | succ m ih =>
    intro k n v hk hn
    obtain ⟨n, rfl⟩ := y_pos hn
    obtain ⟨u, e⟩ := tn_179 (τ := τ) (h := k) (by omega) 121 0 j_F v (by omega) (y_F (by omega))
    obtain ⟨w, e2⟩ := ih (k + 1) n u (by omega) (by omega)
    refine ⟨w, ?_⟩
    unfold p_X12_bestOf_167
    rw [ym_holes hM, j_b1_s, if_pos ((y_lt (by omega) (by omega)).mpr (by omega)), show (0 : Int32) = nI 0 from rfl, e, j_b1_s, show nI k + (1 : Int32) = nI (k + 1) by simp (disch := omega) only [y_lit, nI_add]]
    exact e2
theorem tn_bestOf (hM : y_M τ b) (hW : y_W b) {p : Nat} (hp : p < b 6) (y : Int32) : ∃ v τ', f_X12_bestOf (nI p) y τ = some (v, τ') ∧ y_fm 18 42 80 93 τ τ' := by
  have hh := hW.ho
  have b6 := hW.b6
  have pl := hW.pl hp
  have h9 := hW.on0 (Or.inr (Or.inr (Or.inr (Or.inl (by omega : 0 < b 6)))))
  obtain ⟨τ1, a1, ⟨a2, a2'⟩, a3⟩ := ym_laid hM hW
  have f12 : y_fm 19 19 1 0 τ1 (j_si τ1 75 19 (nI p)) := y_fm.refl.so (by omega) (by omega)
  obtain ⟨τ3, c1, c2⟩ := tn_11 (c := nI p) (d := y) 1452 0 j_F (j_si τ1 75 19 (nI p)) (by omega) (y_F (by omega))
  have M2 : y_M (j_si τ1 75 19 (nI p)) b := by
    unfold y_M; rw [(f12.2 76 (by omega) (by omega)).1]; exact a2
  have M3 : y_M τ3 b := M2.fr3 c2
  have G2 : y_mg (j_si τ1 75 19 (nI p)) b (y_gs b) (y_dg b (b 8)) := by
    unfold y_mg at *
    rw [f12.1 18 (by omega), (f12.2 82 (by omega) (by omega)).1, (f12.2 83 (by omega) (by omega)).1, (f12.2 84 (by omega) (by omega)).1]
    exact a2'
  have G3 : y_mg τ3 b (y_gs b) (y_dg b (b 8)) := G2.fr3 c2
  have e4 : f_X12_of (nI p) (4 : Int32) τ3 = some (nI (b (96 + 5 * p + 4))) := by
    rw [show (4 : Int32) = nI 4 from rfl, tn_of (by omega) (by omega), M3.p (by omega) (by omega)]
  have w4 : b (96 + 5 * p + 4) < 12 := by
    have := pl.2.2.2.2.2
    rw [show 100 + 5 * p = 96 + 5 * p + 4 by omega] at this
    omega
  have f5 : y_fm 43 42 89 90 τ3 (j_si τ3 89 (121 * b (96 + 5 * p + 4) + 0) (0 : Int32)) := y_fm.refl.si (by omega) (by omega) (by omega)
  obtain ⟨τ6, d1, d2⟩ := tn_53 (c := y) hW h9 (y_dg_vg hW _) (p := p) (by omega) (y_gs b) 0 j_F _ (by omega) (y_F (by have := y_gs_le (b := b); omega)) (M3.fr3 f5) (G3.fr3 f5) (by rw [f5.1 19 (by omega), c2.1 19 (by omega), j_r_eq])
  obtain ⟨w, e7⟩ := tn_167 ((M3.fr3 f5).fr3 d2) hW (y_ho b) 0 j_F (0 : Int32) (by omega) (y_F (by omega))
  refine ⟨w, τ6, ?_, y_fm.trans a3 (y_fm.trans (y_fm.refl.so (by omega) (by omega) : y_fm 18 42 80 93 τ1 (j_si τ1 75 19 (nI p))) ((y_fm.trans c2 (y_fm.trans f5 d2)).wide (by omega) (by omega) (by omega) (by omega)))⟩
  unfold f_X12_bestOf
  simp only [j_lt]
  rw [a1, j_b1_s, show p_X12_bestOf_11 (nI p) y j_F (0 : Int32) (j_si τ1 75 19 (nI p)) = _ from c1, j_b1_s, e4, j_b1_s, show f_X12_cell (nI (b (96 + 5 * p + 4))) (0 : Int32) = _ from tn_cell (k := 0), y_ix (by omega) (by omega), nI_clamp (by omega), show p_X12_bestOf_53 y j_F (0 : Int32) (j_si τ3 89 (121 * b (96 + 5 * p + 4) + 0) (0 : Int32)) = _ from d1, j_b1_s, show p_X12_bestOf_167 τ6 j_F (0 : Int32) (0 : Int32) = _ from e7, j_b1_s]
theorem tn_best (hM : y_M τ b) (hW : y_W b) (x : Int32) : ∃ v τ', f_X12_best x τ = some (v, τ') ∧ y_fm 18 42 80 93 τ τ' := by
  unfold f_X12_best
  rw [ym_isPlayer hM hW, j_b1_s]
  by_cases hx : y_rg x (b 6)
  · obtain ⟨p, hp, rfl⟩ := y_of _ _ hx.1 hx.2
    obtain ⟨v, τ1, e1, e2⟩ := tn_bestOf hM hW hp 60
    rw [if_pos hx, if_pos (show ¬ nI 1 = (0 : Int32) by decide), e1, j_b2_s]
    exact ⟨_, _, rfl, e2⟩
  · rw [if_neg hx, if_neg (show ¬ ¬ nI 0 = (0 : Int32) from fun z => z rfl)]; exact ⟨_, _, rfl, y_fm.refl⟩
theorem tn_ahead (hM : y_M τ b) (hW : y_W b) (x y : Int32) : ∃ v τ', f_X12_ahead x y τ = some (v, τ') ∧ y_fm 18 42 80 93 τ τ' := by
  unfold f_X12_ahead
  rw [ym_isPlayer hM hW, j_b1_s]
  by_cases hx : y_rg x (b 6)
  · obtain ⟨p, hp, rfl⟩ := y_of _ _ hx.1 hx.2
    obtain ⟨v, τ1, e1, e2⟩ := tn_bestOf hM hW hp y
    rw [if_pos hx]
    by_cases c : (¬ nI 1 = (0 : Int32)) ∧ (¬ (f_X12_in y.toInt64 (0 : Int64) (60 : Int64)) = 0)
    · rw [if_pos c, e1, j_b2_s]; exact ⟨_, _, rfl, e2⟩
    · rw [if_neg c]; exact ⟨_, _, rfl, y_fm.refl⟩
  · rw [if_neg hx, if_neg (fun z => z.1 rfl)]; exact ⟨_, _, rfl, y_fm.refl⟩
end R
section Z
variable {σ τ : j_G}
theorem t_best (hR : j_Rel σ τ) (a1 : Int32) : ∃ v σ1, f_X11_best a1 σ = some (v, σ1) ∧ ∃ w τ1, f_X12_best a1 τ = some (w, τ1) ∧ j_Rel σ1 τ1 := by
  obtain ⟨b, hW, hN, hM, hK⟩ := id hR
  obtain ⟨v, σ1, e1, e2⟩ := tb_best hN hW a1
  obtain ⟨w, τ1, f1, f2⟩ := tn_best hM hW a1
  exact ⟨v, σ1, e1, w, τ1, f1, y_done hR e2 f2⟩
theorem t_ahead (hR : j_Rel σ τ) (a1 a2 : Int32) : ∃ v σ1, f_X11_ahead a1 a2 σ = some (v, σ1) ∧ ∃ w τ1, f_X12_ahead a1 a2 τ = some (w, τ1) ∧ j_Rel σ1 τ1 := by
  obtain ⟨b, hW, hN, hM, hK⟩ := id hR
  obtain ⟨v, σ1, e1, e2⟩ := tb_ahead hN hW a1 a2
  obtain ⟨w, τ1, f1, f2⟩ := tn_ahead hM hW a1 a2
  exact ⟨v, σ1, e1, w, τ1, f1, y_done hR e2 f2⟩
end Z
