/-! ===== the class applies a line ===== -/
def y_ft2 (σ σ' : j_G) : Prop := (∀ c, c < 10 ∨ 18 < c → c ≠ 21 → σ'.1 c = σ.1 c) ∧ (σ'.1 10 = σ.1 10) ∧ σ'.2 = σ.2
section A
variable {σ : j_G} {b : Nat → Nat}
theorem y_ft2.refl : y_ft2 σ σ := ⟨fun _ _ _ => rfl, rfl, rfl⟩
theorem y_ft2.si {σ' : j_G} {c j : Nat} {v : Int32} (h : y_ft2 σ σ') (hc : 11 ≤ c ∧ c ≤ 18) : y_ft2 σ (j_si σ' c j v) :=
  ⟨fun c' a a' => (funext fun j' => j_r_ne (by omega)).trans (h.1 c' a a'), (funext fun j' => j_r_ne (by omega)).trans h.2.1, h.2.2⟩
theorem y_ft2.trans {σ' σ'' : j_G} (h : y_ft2 σ σ') (h' : y_ft2 σ' σ'') : y_ft2 σ σ'' := ⟨fun c a d => (h'.1 c a d).trans (h.1 c a d), h'.2.1.trans h.2.1, h'.2.2.trans h.2.2⟩
theorem y_T.l9 (h : y_T σ b) (h0 : 0 < b 9) : y_T (j_si σ 11 1 (nI (b 9 + 1))) (y_l9 b) := by
  obtain ⟨⟨f1, f2, f3, f4, f5, f6, f7, f10, d0, d1⟩, f8, s, t, c⟩ := h
  unfold y_T y_cb y_l9
  refine ⟨?_, ?_, ?_, ?_, ?_⟩
  · simp (disch := omega) only [j_r_ne, j_r_eq, j_r_nj, y_ue, y_un]
    exact ⟨trivial, f2, f3, f4, f5, f6, f7, f10, d0, d1⟩
  · simp (disch := omega) only [j_r_ne, j_r_eq, j_r_nj, y_ue, y_un]; exact fun _ => f8 h0
  · simp (disch := omega) only [j_r_ne, j_r_eq, j_r_nj, y_ue, y_un]; exact s
  · intro p q hp hq
    simp (disch := omega) only [y_ue, y_un] at hp
    have := t p q hp hq
    simp (disch := omega) only [j_r_ne, j_r_eq, j_r_nj, y_ue, y_un]; exact this
  · simp (disch := omega) only [j_r_ne, j_r_eq, j_r_nj, y_ue, y_un]; exact c
theorem y_T.tk (h : y_T σ b) {v w : Nat} : y_T (j_si (j_si σ 11 8 (nI v)) 11 9 (nI w)) (y_u (y_u b 10 v) 11 w) := by
  obtain ⟨⟨f1, f2, f3, f4, f5, f6, f7, f10, d0, d1⟩, f8, s, t, c⟩ := h
  unfold y_T y_cb
  refine ⟨?_, ?_, ?_, ?_, ?_⟩
  · simp (disch := omega) only [j_r_ne, j_r_eq, j_r_nj, y_ue, y_un]
    exact ⟨f1, f2, f3, f4, f5, f6, f7, f10, d0, d1⟩
  · simp (disch := omega) only [j_r_ne, j_r_eq, j_r_nj, y_ue, y_un]; exact fun _ => ⟨trivial, trivial⟩
  · simp (disch := omega) only [j_r_ne, j_r_eq, j_r_nj, y_ue, y_un]; exact s
  · intro p q hp hq
    simp (disch := omega) only [y_ue, y_un] at hp
    have := t p q hp hq
    simp (disch := omega) only [j_r_ne, j_r_eq, j_r_nj, y_ue, y_un]; exact this
  · simp (disch := omega) only [j_r_ne, j_r_eq, j_r_nj, y_ue, y_un]; exact c
theorem y_T.s7 (h : y_T σ b) {v : Nat} : y_T (j_si σ 11 6 (nI v)) (y_u b 7 v) := by
  obtain ⟨⟨f1, f2, f3, f4, f5, f6, f7, f10, d0, d1⟩, f8, s, t, c⟩ := h
  unfold y_T y_cb
  refine ⟨?_, ?_, ?_, ?_, ?_⟩
  · simp (disch := omega) only [j_r_ne, j_r_eq, j_r_nj, y_ue, y_un]
    exact ⟨f1, f2, f3, f4, f5, trivial, f7, f10, d0, d1⟩
  · simp (disch := omega) only [j_r_ne, j_r_eq, j_r_nj, y_ue, y_un]; exact f8
  · simp (disch := omega) only [j_r_ne, j_r_eq, j_r_nj, y_ue, y_un]; exact s
  · intro p q hp hq
    simp (disch := omega) only [y_ue, y_un] at hp
    have := t p q hp hq
    simp (disch := omega) only [j_r_ne, j_r_eq, j_r_nj, y_ue, y_un]; exact this
  · simp (disch := omega) only [j_r_ne, j_r_eq, j_r_nj, y_ue, y_un]; exact c
/-- a board -/
theorem y_T.bb (h : y_T σ b) (hW : y_W b) (h9 : b 9 = 0) (t8 : σ.1 11 8 = nI 1) (t9 : σ.1 11 9 = nI 100) {v0 v1 v2 v3 : Nat} : y_T (j_si (j_si (j_si (j_si (j_si σ 11 2 (nI v0)) 11 3 (nI v1)) 11 4 (nI v2)) 11 5 (nI v3)) 11 1 (nI (b 9 + 1))) (y_l9 (y_bb b v0 v1 v2 v3)) := by
  obtain ⟨o0, o1, o2, o3, o4, o5, o6⟩ := hW.off h9
  obtain ⟨⟨f1, f2, f3, f4, f5, f6, f7, f10, d0, d1⟩, f8, s, t, c⟩ := h
  unfold y_T y_cb y_l9 y_bb
  refine ⟨?_, ?_, ?_, ?_, ?_⟩
  · simp (disch := omega) only [j_r_ne, j_r_eq, j_r_nj, y_ue, y_un]
    exact ⟨trivial, trivial, trivial, trivial, trivial, f6, f7, f10, d0, d1⟩
  · simp (disch := omega) only [j_r_ne, j_r_eq, j_r_nj, y_ue, y_un]; exact fun _ => ⟨t8, t9⟩
  · intro k hk; simp (disch := omega) only [y_un, o4] at hk; omega
  · intro p q hp hq; simp (disch := omega) only [y_un, o6] at hp; omega
  · intro k hk; simp (disch := omega) only [y_un, o5] at hk; omega
/-- a coming -/
theorem y_T.ac (h : y_T σ b) (hW : y_W b) (h5' : b 5 < 24) {v w r : Nat} : y_T (j_si (j_si (j_si (j_si σ 16 (b 5) (nI v)) 17 (b 5) (nP w)) 18 (b 5) (nI r)) 15 0 (nI (b 5 + 1))) (y_ac b v w r) := by
  have b4 := hW.b4; have b6 := hW.b6
  obtain ⟨⟨f1, f2, f3, f4, f5, f6, f7, f10, d0, d1⟩, f8, s, t, c⟩ := h
  unfold y_T y_cb y_ac
  refine ⟨?_, ?_, fun k hk => ?_, fun p q hp hq => ?_, fun k hk => ?_⟩
  · simp (disch := omega) only [j_r_ne, j_r_eq, j_r_nj, y_ue, y_un]
    exact ⟨f1, f2, f3, f4, f5, f6, f7, f10, trivial, d1⟩
  · simp (disch := omega) only [j_r_ne, j_r_eq, j_r_nj, y_ue, y_un]; exact f8
  · simp (disch := omega) only [y_un] at hk
    simp (disch := omega) only [j_r_ne, j_r_eq, j_r_nj, y_ue, y_un]; exact s k hk
  · simp (disch := omega) only [y_ue, y_un] at hp
    have := t p q hp hq
    simp (disch := omega) only [j_r_ne, j_r_eq, j_r_nj, y_ue, y_un]; exact this
  · simp (disch := omega) only [y_ue] at hk
    by_cases e : k = b 5
    · subst e
      simp (disch := omega) only [j_r_ne, j_r_eq, y_ue, y_un]; exact ⟨trivial, trivial, trivial⟩
    · simp (disch := omega) only [j_r_ne, j_r_nj, y_un]; exact c k (by omega)
theorem yc_addC {σ : j_G} (h : y_T σ b) (h5' : b 5 < 24) {v w r : Int32} : f_X3_add v w r σ = some (j_si (j_si (j_si (j_si σ 16 (b 5) v) 17 (b 5) w) 18 (b 5) r) 15 0 (nI (b 5 + 1))) := by
  have d0 := h.d0
  unfold f_X3_add
  simp (disch := omega) only [y_lit, y_n1, nI_add, pk_mul, j_lt, j_b1_s, j_b2_s, j_b3_s, j_b0_s, y_bo, y_bo1, y_bo0, y_i0, y_i1, Classical.not_not, nI_clamp, y_ix, y_lt, y_le, y_eq, y_nP, y_nPs, y_ltP, y_ltQ, y_ltPP, y_eqP, y_eqQ, y_eqPP, if_pos, if_neg, ite_true, ite_false, not_true_eq_false, not_false_eq_true, and_true, true_and, and_false, false_and, or_true, true_or, or_false, false_or, j_r_ne, j_r_eq, j_r_nj, d0]
/-- a player -/
theorem y_T.pb (h : y_T σ b) (hW : y_W b) (h6' : b 6 < 4) {v0 v1 v2 v3 v4 : Nat} : y_T (j_si (j_si (j_si (j_si (j_si (j_si σ 14 (5 * b 6) (nI v0)) 14 (5 * b 6 + 1) (nI v1)) 14 (5 * b 6 + 2) (nI v2)) 14 (5 * b 6 + 3) (nI v3)) 14 (5 * b 6 + 4) (nI v4)) 11 7 (nI (b 6 + 1))) (y_pb b v0 v1 v2 v3 v4) := by
  have b4 := hW.b4; have b5 := hW.b5
  obtain ⟨⟨f1, f2, f3, f4, f5, f6, f7, f10, d0, d1⟩, f8, s, t, c⟩ := h
  unfold y_T y_cb y_pb
  refine ⟨?_, ?_, fun k hk => ?_, fun p q hp hq => ?_, fun k hk => ?_⟩
  · simp (disch := omega) only [j_r_ne, j_r_eq, j_r_nj, y_ue, y_un]
    exact ⟨f1, f2, f3, f4, f5, f6, trivial, f10, d0, d1⟩
  · simp (disch := omega) only [j_r_ne, j_r_eq, j_r_nj, y_ue, y_un]; exact f8
  · simp (disch := omega) only [y_un] at hk
    simp (disch := omega) only [j_r_ne, j_r_eq, j_r_nj, y_ue, y_un]; exact s k hk
  · simp (disch := omega) only [y_ue] at hp
    by_cases e : p = b 6
    · subst e
      obtain rfl | rfl | rfl | rfl | rfl : q = 0 ∨ q = 1 ∨ q = 2 ∨ q = 3 ∨ q = 4 := by omega
      · simp (disch := omega) only [j_r_ne, j_r_eq, j_r_nj, y_ue, y_un, Nat.add_zero]
      · rw [show 96 + 5 * b 6 + 1 = 97 + 5 * b 6 by omega]; simp (disch := omega) only [j_r_ne, j_r_eq, j_r_nj, y_ue, y_un]
      · rw [show 96 + 5 * b 6 + 2 = 98 + 5 * b 6 by omega]; simp (disch := omega) only [j_r_ne, j_r_eq, j_r_nj, y_ue, y_un]
      · rw [show 96 + 5 * b 6 + 3 = 99 + 5 * b 6 by omega]; simp (disch := omega) only [j_r_ne, j_r_eq, j_r_nj, y_ue, y_un]
      · rw [show 96 + 5 * b 6 + 4 = 100 + 5 * b 6 by omega]; simp (disch := omega) only [j_r_ne, j_r_eq, j_r_nj, y_ue, y_un]
    · have := t p q (by omega) hq
      simp (disch := omega) only [j_r_ne, j_r_nj, y_un]; exact this
  · simp (disch := omega) only [y_un] at hk
    simp (disch := omega) only [j_r_ne, j_r_nj, y_un]; exact c k (by omega)
theorem yc_addP (h : y_T σ b) (h6' : b 6 < 4) {v0 v1 v2 v3 v4 : Int32} (g0 : σ.1 21 0 = v0) (g1 : σ.1 21 1 = v1) (g2 : σ.1 21 2 = v2) (g3 : σ.1 21 3 = v3) (g4 : σ.1 21 4 = v4) : f_X7_addPlayer σ = some (j_si (j_si (j_si (j_si (j_si (j_si σ 14 (5 * b 6) v0) 14 (5 * b 6 + 1) v1) 14 (5 * b 6 + 2) v2) 14 (5 * b 6 + 3) v3) 14 (5 * b 6 + 4) v4) 11 7 (nI (b 6 + 1))) := by
  have f7 := h.f7
  have step : ∀ q f (σ' : j_G), q < 5 → σ'.1 11 7 = nI (b 6) → p_X7_addPlayer_2 (f + 1) (nI q) σ' = p_X7_addPlayer_2 f (nI (q + 1)) (j_si σ' 14 (5 * b 6 + q) (σ'.1 21 q)) := by
    intro q f σ' hq e
    rw [p_X7_addPlayer_2.eq_def]
    unfold f_X2_setTrait
    simp (disch := omega) only [y_lit, y_n1, nI_add, pk_mul, j_lt, j_b1_s, j_b2_s, j_b3_s, j_b0_s, y_bo, y_bo1, y_bo0, y_i0, y_i1, Classical.not_not, nI_clamp, y_ix, y_lt, y_le, y_eq, y_nP, y_nPs, y_ltP, y_ltQ, y_ltPP, y_eqP, y_eqQ, y_eqPP, if_pos, if_neg, ite_true, ite_false, not_true_eq_false, not_false_eq_true, and_true, true_and, and_false, false_and, or_true, true_or, or_false, false_or, e, Nat.mul_comm (b 6) 5]
  have last : ∀ f (σ' : j_G), p_X7_addPlayer_2 (f + 1) (nI 5) σ' = some σ' := by
    intro f σ'
    unfold p_X7_addPlayer_2
    simp (disch := omega) only [y_lit, y_n1, nI_add, pk_mul, j_lt, j_b1_s, j_b2_s, j_b3_s, j_b0_s, y_bo, y_bo1, y_bo0, y_i0, y_i1, Classical.not_not, nI_clamp, y_ix, y_lt, y_le, y_eq, y_nP, y_nPs, y_ltP, y_ltQ, y_ltPP, y_eqP, y_eqQ, y_eqPP, if_pos, if_neg, ite_true, ite_false, not_true_eq_false, not_false_eq_true, and_true, true_and, and_false, false_and, or_true, true_or, or_false, false_or]
  unfold f_X7_addPlayer
  obtain ⟨f, hf⟩ : ∃ f, j_F = f + 1 + 1 + 1 + 1 + 1 + 1 := ⟨_, rfl⟩
  rw [hf, show (0 : Int32) = nI 0 from rfl, step 0 _ _ (by omega) f7, step 1 _ _ (by omega) (by simp (disch := omega) only [j_r_ne, j_r_eq, j_r_nj]; exact f7), step 2 _ _ (by omega) (by simp (disch := omega) only [j_r_ne, j_r_eq, j_r_nj]; exact f7), step 3 _ _ (by omega) (by simp (disch := omega) only [j_r_ne, j_r_eq, j_r_nj]; exact f7), step 4 _ _ (by omega) (by simp (disch := omega) only [j_r_ne, j_r_eq, j_r_nj]; exact f7), last, j_b1_s]
  simp (disch := omega) only [y_lit, y_n1, nI_add, pk_mul, j_lt, j_b1_s, j_b2_s, j_b3_s, j_b0_s, y_bo, y_bo1, y_bo0, y_i0, y_i1, Classical.not_not, nI_clamp, y_ix, y_lt, y_le, y_eq, y_nP, y_nPs, y_ltP, y_ltQ, y_ltPP, y_eqP, y_eqQ, y_eqPP, if_pos, if_neg, ite_true, ite_false, not_true_eq_false, not_false_eq_true, and_true, true_and, and_false, false_and, or_true, true_or, or_false, false_or, j_r_ne, j_r_eq, j_r_nj, f7, g0, g1, g2, g3, g4, Nat.add_zero]
/-- a stay -/
theorem yc_sset (h : y_T σ b) (hW : y_W b) {l t : Nat} (ht : t ≤ 1000000) : ∀ m k f, k + m = b 4 → m < f → (y_hi b t m k < b 4 ∨ b 4 < 6) → p_X2_setStay_2 (nI l) (nI t) σ f (nI k) = some (if y_hi b t m k < b 4 then j_si σ 13 (y_hi b t m k) (nI l) else j_si (j_si (j_si σ 12 (b 4) (nI t)) 13 (b 4) (nI l)) 11 10 (nI (b 4 + 1))) := by
  have b4 := hW.b4
  have b2 := hW.b2
  have f10 := h.f10
  intro m
  induction m with
  | zero =>
    intro k f hk hf h4'
    obtain ⟨f, rfl⟩ := y_pos hf
    unfold p_X2_setStay_2 y_hi
    unfold y_hi at h4'
    have b46 : b 4 < 6 := by omega
    simp (disch := omega) only [y_lit, y_n1, nI_add, pk_mul, j_lt, j_b1_s, j_b2_s, j_b3_s, j_b0_s, y_bo, y_bo1, y_bo0, y_i0, y_i1, Classical.not_not, nI_clamp, y_ix, y_lt, y_le, y_eq, y_nP, y_nPs, y_ltP, y_ltQ, y_ltPP, y_eqP, y_eqQ, y_eqPP, if_pos, if_neg, ite_true, ite_false, not_true_eq_false, not_false_eq_true, and_true, true_and, and_false, false_and, or_true, true_or, or_false, false_or, j_r_ne, j_r_eq, j_r_nj, f10]
  | succ m ih =>
    intro k f hk hf h4'
    obtain ⟨f, rfl⟩ := y_pos hf
    have st := hW.st (k := k) (by omega)
    unfold p_X2_setStay_2 y_hi
    unfold y_hi at h4'
    simp (disch := omega) only [y_lit, y_n1, nI_add, pk_mul, j_lt, j_b1_s, j_b2_s, j_b3_s, j_b0_s, y_bo, y_bo1, y_bo0, y_i0, y_i1, Classical.not_not, nI_clamp, y_ix, y_lt, y_le, y_eq, y_nP, y_nPs, y_ltP, y_ltQ, y_ltPP, y_eqP, y_eqQ, y_eqPP, if_pos, if_neg, ite_true, ite_false, not_true_eq_false, not_false_eq_true, and_true, true_and, and_false, false_and, or_true, true_or, or_false, false_or, f10, h.s1]
    by_cases c : b (12 + 2 * k) = t
    · rw [if_pos c, if_pos c, if_pos (by omega)]
    · rw [if_neg c] at h4'
      rw [if_neg c, if_neg c]
      exact ih (k + 1) f (by omega) (by omega) h4'
theorem y_T.sb (h : y_T σ b) (hW : y_W b) {l t : Nat} (ht : t ≤ 1000000) (h4' : y_hi b t (b 4) 0 < b 4 ∨ b 4 < 6) :
    ∃ σ', f_X2_setStay (nI l) (nI t) σ = some σ' ∧ y_T σ' (y_sb b l t) ∧ y_ft2 σ σ' := by
  have b4 := hW.b4
  obtain ⟨s1, s2, s3, s4, _⟩ := y_hi_sp (b := b) (v := t) (b 4) 0
  have key := yc_sset h hW (l := l) ht (b 4) 0 j_F (by omega) (y_F (by omega)) h4'
  obtain ⟨⟨f1, f2, f3, f4, f5, f6, f7, f10, d0, d1⟩, f8, s, tt, c⟩ := h
  unfold f_X2_setStay
  rw [show (0 : Int32) = nI 0 from rfl, key]
  unfold y_sb
  generalize y_hi b t (b 4) 0 = i at *
  refine ⟨_, rfl, ?_, ?_⟩
  · unfold y_T y_cb
    by_cases e : i < b 4
    · rw [if_pos e, if_pos e]
      refine ⟨?_, ?_, fun k hk => ?_, fun p q hp hq => ?_, fun k hk => ?_⟩
      · simp (disch := omega) only [j_r_ne, j_r_eq, j_r_nj, y_ue, y_un]
        exact ⟨f1, f2, f3, f4, f5, f6, f7, f10, d0, d1⟩
      · simp (disch := omega) only [j_r_ne, y_un]; exact f8
      · simp (disch := omega) only [y_ue] at hk
        have q := s k hk
        by_cases e2 : k = i
        · subst e2
          simp (disch := omega) only [j_r_ne, j_r_eq, y_ue, y_un]
          exact ⟨by rw [q.1, s4 (by omega)], trivial⟩
        · simp (disch := omega) only [j_r_ne, j_r_nj, y_un]; exact q
      · simp (disch := omega) only [y_un] at hp
        have := tt p q hp hq
        have b6 := hW.b6
        simp (disch := omega) only [j_r_ne, y_un]; exact this
      · simp (disch := omega) only [y_un] at hk
        have b5 := hW.b5
        simp (disch := omega) only [j_r_ne, y_un]; exact c k hk
    · rw [if_neg e, if_neg e]
      have ei : i = b 4 := by omega
      subst ei
      refine ⟨?_, ?_, fun k hk => ?_, fun p q hp hq => ?_, fun k hk => ?_⟩
      · simp (disch := omega) only [j_r_ne, j_r_eq, j_r_nj, y_ue, y_un]
        exact ⟨f1, f2, f3, f4, f5, f6, f7, trivial, d0, d1⟩
      · simp (disch := omega) only [j_r_ne, j_r_nj, y_un]; exact f8
      · simp (disch := omega) only [y_ue] at hk
        by_cases e2 : k = b 4
        · subst e2
          simp (disch := omega) only [j_r_ne, j_r_eq, y_ue, y_un]
          exact ⟨trivial, trivial⟩
        · have q := s k (by omega)
          simp (disch := omega) only [j_r_ne, j_r_nj, y_un]; exact q
      · simp (disch := omega) only [y_un] at hp
        have := tt p q hp hq
        have b6 := hW.b6
        simp (disch := omega) only [j_r_ne, y_un]; exact this
      · simp (disch := omega) only [y_un] at hk
        have b5 := hW.b5
        simp (disch := omega) only [j_r_ne, y_un]; exact c k hk
  · by_cases e : i < b 4
    · rw [if_pos e]; exact y_ft2.refl.si (by omega)
    · rw [if_neg e]; exact ((y_ft2.refl.si (by omega)).si (by omega)).si (by omega)
end A
