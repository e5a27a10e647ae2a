/-! ===== image, back ===== -/
section C
variable {σ : j_G} {b : Nat → Nat}
theorem yc_copy {c c1 c2 c3 c4 c5 c6 c7 e e1 e2 e3 e4 e5 e6 e7 : Nat} (hW : y_W b) (h : y_cb σ c c1 c2 c3 c4 c5 c6 c7 b) (hc : c1 = c + 1 ∧ c2 = c + 2 ∧ c3 = c + 3 ∧ c4 = c + 4 ∧ c5 = c + 5 ∧ c6 = c + 6 ∧ c7 = c + 7) (he : e1 = e + 1 ∧ e2 = e + 2 ∧ e3 = e + 3 ∧ e4 = e + 4 ∧ e5 = e + 5 ∧ e6 = e + 6 ∧ e7 = e + 7) (hd : c + 7 < e ∨ e + 7 < c) : ∃ σ', f_X2_copy c e c1 e1 c2 e2 c3 e3 c4 e4 c5 e5 c6 e6 c7 e7 σ = some σ' ∧ y_cb σ' e e1 e2 e3 e4 e5 e6 e7 b ∧ (∀ x, x < e ∨ e + 7 < x → σ'.1 x = σ.1 x) ∧ σ'.2 = σ.2 ∧ σ'.1 e 0 = σ.1 e 0 := by
  have b4 := hW.b4; have b5 := hW.b5; have b6 := hW.b6
  have cg : ∀ {α : Type} (n : Nat) (o : Option α), n < 100 → j_cg (nI 0) (nI 0) (nI n) n n o = o := by
    intro α n o hn
    unfold j_cg
    rw [nI_clamp (by omega), nI_clamp (by omega), if_neg]
    simp only [y_lit]
    rw [y_lt (by omega) (by omega), y_lt (by omega) (by omega)]
    omega
  have cg6 : ∀ {α : Type} (o : Option α), j_cg (0 : Int32) (0 : Int32) (6 : Int32) 6 6 o = o := fun o => cg 6 o (by omega)
  have cg20 : ∀ {α : Type} (o : Option α), j_cg (0 : Int32) (0 : Int32) (20 : Int32) 20 20 o = o := fun o => cg 20 o (by omega)
  have cg24 : ∀ {α : Type} (o : Option α), j_cg (0 : Int32) (0 : Int32) (24 : Int32) 24 24 o = o := fun o => cg 24 o (by omega)
  obtain ⟨rfl, rfl, rfl, rfl, rfl, rfl, rfl⟩ := hc
  obtain ⟨rfl, rfl, rfl, rfl, rfl, rfl, rfl⟩ := he
  obtain ⟨⟨f1, f2, f3, f4, f5, f6, f7, f10, d0, d1⟩, f8, s, t, k⟩ := h
  unfold f_X2_copy f_X3_copy
  simp only [j_lt, cg6, cg20, cg24, j_b1_s]
  refine ⟨_, rfl, ⟨⟨?_, ?_, ?_, ?_, ?_, ?_, ?_, ?_, ?_, ?_⟩, fun h9 => ⟨?_, ?_⟩, fun j hj => ⟨?_, ?_⟩, fun p q hp hq => ?_, fun j hj => ⟨?_, ?_, ?_⟩⟩, fun x hx => ?_, rfl, ?_⟩
  · simp (disch := omega) only [j_c_ne, j_r_ne, j_r_eq, j_r_nj]; exact f1
  · simp (disch := omega) only [j_c_ne, j_r_ne, j_r_eq, j_r_nj]; exact f2
  · simp (disch := omega) only [j_c_ne, j_r_ne, j_r_eq, j_r_nj]; exact f3
  · simp (disch := omega) only [j_c_ne, j_r_ne, j_r_eq, j_r_nj]; exact f4
  · simp (disch := omega) only [j_c_ne, j_r_ne, j_r_eq, j_r_nj]; exact f5
  · simp (disch := omega) only [j_c_ne, j_r_ne, j_r_eq, j_r_nj]; exact f6
  · simp (disch := omega) only [j_c_ne, j_r_ne, j_r_eq, j_r_nj]; exact f7
  · simp (disch := omega) only [j_c_ne, j_r_ne, j_r_eq, j_r_nj]; exact f10
  · simp (disch := omega) only [j_c_ne, j_r_ne, j_r_eq, j_r_nj]; exact d0
  · simp (disch := omega) only [j_c_ne, j_r_ne, j_r_eq, j_r_nj]; exact d1
  · simp (disch := omega) only [j_c_ne, j_r_ne, j_r_eq, j_r_nj]; exact (f8 h9).1
  · simp (disch := omega) only [j_c_ne, j_r_ne, j_r_eq, j_r_nj]; exact (f8 h9).2
  · simp (disch := omega) only [j_c_ne, j_r_ne, j_c_eq, y_lit, nI_clamp, pk_cpy_in, Nat.zero_add, Nat.sub_zero]; exact (s j hj).1
  · simp (disch := omega) only [j_c_ne, j_r_ne, j_c_eq, y_lit, nI_clamp, pk_cpy_in, Nat.zero_add, Nat.sub_zero]; exact (s j hj).2
  · simp (disch := omega) only [j_c_ne, j_r_ne, j_c_eq, y_lit, nI_clamp, pk_cpy_in, Nat.zero_add, Nat.sub_zero]; exact t p q hp hq
  · simp (disch := omega) only [j_c_ne, j_r_ne, j_c_eq, y_lit, nI_clamp, pk_cpy_in, Nat.zero_add, Nat.sub_zero]; exact (k j hj).1
  · simp (disch := omega) only [j_c_ne, j_r_ne, j_c_eq, y_lit, nI_clamp, pk_cpy_in, Nat.zero_add, Nat.sub_zero]; exact (k j hj).2.1
  · simp (disch := omega) only [j_c_ne, j_r_ne, j_c_eq, y_lit, nI_clamp, pk_cpy_in, Nat.zero_add, Nat.sub_zero]; exact (k j hj).2.2
  · funext j; simp (disch := omega) only [j_c_ne, j_r_ne]
  · simp (disch := omega) only [j_c_ne, j_r_ne, j_r_nj]
end C
theorem ym_save {k : Nat} (hk : k < 3) : ∀ (m i n : Nat) (τ : j_G), i + m = 116 → m < n → ∃ τ', p_X12_image_17 (nI k) n (nI i) τ = some τ' ∧ τ'.2 = τ.2 ∧ (∀ x, x ≠ 77 → τ'.1 x = τ.1 x) ∧ (∀ j, j < 116 * k + i ∨ 116 * k + 116 ≤ j → τ'.1 77 j = τ.1 77 j) ∧ ∀ j, i ≤ j → j < 116 → τ'.1 77 (116 * k + j) = τ.1 76 j := by
  intro m
  induction m with
  | zero =>
    intro i n τ h hn
    obtain ⟨n, rfl⟩ := y_pos hn
    refine ⟨τ, ?_, rfl, fun _ _ => rfl, fun _ _ => rfl, fun j a c => by omega⟩
    unfold p_X12_image_17; simp (disch := omega) only [y_lit, y_n1, nI_add, pk_mul, j_lt, j_b1_s, j_b2_s, j_b3_s, j_b0_s, y_bo, y_bo1, y_bo0, y_i0, y_i1, Classical.not_not, nI_clamp, y_ix, y_lt, y_le, y_eq, y_nP, y_nPs, y_ltP, y_ltQ, y_ltPP, y_eqP, y_eqQ, y_eqPP, if_pos, if_neg, ite_true, ite_false, not_true_eq_false, not_false_eq_true, and_true, true_and, and_false, false_and, or_true, true_or, or_false, false_or]
  | succ m ih =>
    intro i n τ h hn
    obtain ⟨n, rfl⟩ := y_pos hn
    obtain ⟨τ', e1, e2, e3, e4, e5⟩ := ih (i + 1) n (j_si τ 77 (116 * k + i) (τ.1 76 i)) (by omega) (by omega)
    refine ⟨τ', ?_, e2, fun x hx => ?_, fun j hj => ?_, fun j a c => ?_⟩
    · unfold p_X12_image_17; simp (disch := omega) only [y_lit, y_n1, nI_add, pk_mul, j_lt, j_b1_s, j_b2_s, j_b3_s, j_b0_s, y_bo, y_bo1, y_bo0, y_i0, y_i1, Classical.not_not, nI_clamp, y_ix, y_lt, y_le, y_eq, y_nP, y_nPs, y_ltP, y_ltQ, y_ltPP, y_eqP, y_eqQ, y_eqPP, if_pos, if_neg, ite_true, ite_false, not_true_eq_false, not_false_eq_true, and_true, true_and, and_false, false_and, or_true, true_or, or_false, false_or]; exact e1
    · rw [e3 x hx]; funext j; exact j_r_ne hx
    · rw [e4 j (by omega), j_r_nj (by omega)]
    · by_cases e : j = i
      · subst e; rw [e4 _ (by omega), j_r_eq]
      · rw [e5 j (by omega) c, j_r_ne (by omega)]
theorem ym_load {k : Nat} (hk : k < 3) : ∀ (m i n : Nat) (τ : j_G), i + m = 116 → m < n → ∃ τ', p_X12_back_29 (nI k) n (nI i) τ = some τ' ∧ τ'.2 = τ.2 ∧ (∀ x, x ≠ 76 → τ'.1 x = τ.1 x) ∧ (∀ j, j < i → τ'.1 76 j = τ.1 76 j) ∧ ∀ j, i ≤ j → j < 116 → τ'.1 76 j = τ.1 77 (116 * k + j) := by
  intro m
  induction m with
  | zero =>
    intro i n τ h hn
    obtain ⟨n, rfl⟩ := y_pos hn
    refine ⟨τ, ?_, rfl, fun _ _ => rfl, fun _ _ => rfl, fun j a c => by omega⟩
    unfold p_X12_back_29; simp (disch := omega) only [y_lit, y_n1, nI_add, pk_mul, j_lt, j_b1_s, j_b2_s, j_b3_s, j_b0_s, y_bo, y_bo1, y_bo0, y_i0, y_i1, Classical.not_not, nI_clamp, y_ix, y_lt, y_le, y_eq, y_nP, y_nPs, y_ltP, y_ltQ, y_ltPP, y_eqP, y_eqQ, y_eqPP, if_pos, if_neg, ite_true, ite_false, not_true_eq_false, not_false_eq_true, and_true, true_and, and_false, false_and, or_true, true_or, or_false, false_or]
  | succ m ih =>
    intro i n τ h hn
    obtain ⟨n, rfl⟩ := y_pos hn
    obtain ⟨τ', e1, e2, e3, e4, e5⟩ := ih (i + 1) n (j_si τ 76 i (τ.1 77 (116 * k + i))) (by omega) (by omega)
    refine ⟨τ', ?_, e2, fun x hx => ?_, fun j hj => ?_, fun j a c => ?_⟩
    · unfold p_X12_back_29; simp (disch := omega) only [y_lit, y_n1, nI_add, pk_mul, j_lt, j_b1_s, j_b2_s, j_b3_s, j_b0_s, y_bo, y_bo1, y_bo0, y_i0, y_i1, Classical.not_not, nI_clamp, y_ix, y_lt, y_le, y_eq, y_nP, y_nPs, y_ltP, y_ltQ, y_ltPP, y_eqP, y_eqQ, y_eqPP, if_pos, if_neg, ite_true, ite_false, not_true_eq_false, not_false_eq_true, and_true, true_and, and_false, false_and, or_true, true_or, or_false, false_or]; exact e1
    · rw [e3 x hx]; funext j; exact j_r_ne hx
    · rw [e4 j (by omega), j_r_nj (by omega)]
    · by_cases e : j = i
      · subst e; rw [e4 _ (by omega), j_r_eq]
      · rw [e5 j (by omega) c, j_r_ne (by omega)]
theorem y_im.fr2 {σ τ σ' τ' : j_G} {k c c1 c2 c3 c4 c5 c6 c7 : Nat} (h : y_im σ τ k c c1 c2 c3 c4 c5 c6 c7) (e : ∀ x, x = c ∨ x = c1 ∨ x = c2 ∨ x = c3 ∨ x = c4 ∨ x = c5 ∨ x = c6 ∨ x = c7 → σ'.1 x = σ.1 x) (e1 : ∀ j, j < 116 → τ'.1 77 (116 * k + j) = τ.1 77 (116 * k + j)) (e2 : τ'.1 78 k = τ.1 78 k) : y_im σ' τ' k c c1 c2 c3 c4 c5 c6 c7 := by
  rcases h with ⟨h1, h2⟩ | ⟨h1, h2, b, hW, hc, hm⟩
  · exact Or.inl ⟨by rw [e c (by omega)]; exact h1, by rw [e2]; exact h2⟩
  · refine Or.inr ⟨by rw [e c (by omega)]; exact h1, by rw [e2]; exact h2, b, hW, ?_, fun j hj => ?_⟩
    · unfold y_cb at *
      rw [e c (by omega), e c1 (by omega), e c2 (by omega), e c3 (by omega), e c4 (by omega), e c5 (by omega), e c6 (by omega), e c7 (by omega)]
      exact hc
    · show τ'.1 77 (116 * k + j) = _
      rw [e1 j hj]; exact hm j hj
section Z
variable {σ τ : j_G}
theorem z_image (hR : j_Rel σ τ) (a1 : Int32) : ∃ v σ1 τ1, f_X11_image a1 σ = some (v, σ1) ∧ f_X12_image a1 τ = some (v, τ1) ∧ j_Rel σ1 τ1 := by
  obtain ⟨b, hW, hN, hM, hK⟩ := id hR
  by_cases h : y_rg a1 3
  · obtain ⟨k, hk, rfl⟩ := y_of _ _ h.1 h.2
    obtain ⟨τ1, g1, g2, g3, g4, g5⟩ := ym_save hk 116 0 j_F τ (by omega) (y_F (by omega))
    have hm : f_X12_image (nI k) τ = some (0, j_si τ1 78 k (nI 1)) := by
      have e1 : vp_nar .boolean (1 : Int32) = nI 1 := rfl
      have n3 : ¬ f_X12_in (nI k).toInt64 (0 : Int64) (2 : Int64) = 0 := by
        have : f_X12_in (nI k).toInt64 (0 : Int64) (2 : Int64) = nI 1 := by simp (disch := omega) only [y_lit, y_n1, nI_add, pk_mul, j_lt, j_b1_s, j_b2_s, j_b3_s, j_b0_s, y_bo, y_bo1, y_bo0, y_i0, y_i1, Classical.not_not, nI_clamp, y_ix, y_lt, y_le, y_eq, y_nP, y_nPs, y_ltP, y_ltQ, y_ltPP, y_eqP, y_eqQ, y_eqPP, if_pos, if_neg, ite_true, ite_false, not_true_eq_false, not_false_eq_true, and_true, true_and, and_false, false_and, or_true, true_or, or_false, false_or, y_lit64, y_in]
        rw [this]; decide
      unfold f_X12_image
      rw [if_neg n3, show (0 : Int32) = nI 0 from rfl, g1, j_b1_s, y_ix (by omega) (by omega), nI_clamp (by omega), e1]
      rfl
    obtain ⟨⟨i0, i1, i2⟩, ⟨s0, s1, s2, s3⟩, ht, hf⟩ := id hK
    have fin : ∀ e e1 e2 e3 e4 e5 e6 e7 (σ1 : j_G), e = 43 + 8 * k → e1 = e + 1 ∧ e2 = e + 2 ∧ e3 = e + 3 ∧ e4 = e + 4 ∧ e5 = e + 5 ∧ e6 = e + 6 ∧ e7 = e + 7 → y_cb σ1 e e1 e2 e3 e4 e5 e6 e7 b → (∀ x, x < e ∨ e + 7 < x → σ1.1 x = σ.1 x) → σ1.2 = σ.2 → y_im (j_si σ1 e 0 (nI 1)) (j_si τ1 78 k (nI 1)) k e e1 e2 e3 e4 e5 e6 e7 ∧ j_Rel (j_si σ1 e 0 (nI 1)) (j_si τ1 78 k (nI 1)) := by
      intro e e1 e2 e3 e4 e5 e6 e7 σ1 he hee hcb hx h2
      obtain ⟨q1, q2, q3, q4, q5, q6, q7⟩ := hee
      have im : y_im (j_si σ1 e 0 (nI 1)) (j_si τ1 78 k (nI 1)) k e e1 e2 e3 e4 e5 e6 e7 := by
        refine Or.inr ⟨j_r_eq, j_r_eq, b, hW, ?_, fun j hj => ?_⟩
        · obtain ⟨⟨f1, f2, f3, f4, f5, f6, f7, f10, d0, d1⟩, f8, s, t, kk⟩ := hcb
          unfold y_cb
          refine ⟨?_, ?_, ?_, ?_, ?_⟩
          · simp (disch := omega) only [j_r_ne, j_r_nj]; exact ⟨f1, f2, f3, f4, f5, f6, f7, f10, d0, d1⟩
          · simp (disch := omega) only [j_r_ne, j_r_nj]; exact f8
          · simp (disch := omega) only [j_r_ne, j_r_nj]; exact s
          · simp (disch := omega) only [j_r_ne, j_r_nj]; exact t
          · simp (disch := omega) only [j_r_ne, j_r_nj]; exact kk
        · show (j_si τ1 78 k (nI 1)).1 77 (116 * k + j) = _
          rw [j_r_ne (by omega), g5 j (by omega) hj]; exact hM j hj
      have ox : ∀ x, x < e ∨ e + 7 < x → (j_si σ1 e 0 (nI 1)).1 x = σ.1 x := fun x hxx => by
        rw [← hx x hxx]; funext j; exact j_r_ne (by omega)
      have o2 : (j_si σ1 e 0 (nI 1)).2 = σ.2 := h2
      have t1 : ∀ x, x ≠ 77 → x ≠ 78 → (j_si τ1 78 k (nI 1)).1 x = τ.1 x := fun x a c => by
        rw [← g3 x a]; funext j; exact j_r_ne c
      have t2 : (j_si τ1 78 k (nI 1)).2 = τ.2 := g2
      have t7 : ∀ k', k' ≠ k → ∀ j, j < 116 → (j_si τ1 78 k (nI 1)).1 77 (116 * k' + j) = τ.1 77 (116 * k' + j) := fun k' hkk j hj => by
        rw [j_r_ne (by omega)]
        refine g4 _ ?_
        rcases Nat.lt_or_gt_of_ne hkk with q | q
        · left; have : 116 * k' + 116 ≤ 116 * k := by omega
          omega
        · right; omega
      have t8 : ∀ k', k' ≠ k → (j_si τ1 78 k (nI 1)).1 78 k' = τ.1 78 k' := fun k' hkk => by
        rw [j_r_nj hkk, g3 78 (by omega)]
      refine ⟨im, b, hW, ?_, ?_, ⟨⟨?_, ?_, ?_⟩, ⟨?_, ?_, ?_, ?_⟩, ?_, ?_⟩⟩
      · unfold y_N y_cb at *
        rw [ox 1 (by omega), ox 2 (by omega), ox 3 (by omega), ox 4 (by omega), ox 5 (by omega), ox 6 (by omega), ox 7 (by omega), ox 8 (by omega)]
        exact hN
      · unfold y_M; rw [t1 76 (by omega) (by omega)]; exact hM
      · by_cases c : k = 0
        · subst c
          obtain rfl : e = 43 := by omega
          subst q1 q2 q3 q4 q5 q6 q7; exact im
        · exact i0.fr2 (fun x hxx => ox x (by omega)) (t7 0 (by omega)) (t8 0 (by omega))
      · by_cases c : k = 1
        · subst c
          obtain rfl : e = 51 := by omega
          subst q1 q2 q3 q4 q5 q6 q7; exact im
        · exact i1.fr2 (fun x hxx => ox x (by omega)) (t7 1 (by omega)) (t8 1 (by omega))
      · by_cases c : k = 2
        · subst c
          obtain rfl : e = 59 := by omega
          subst q1 q2 q3 q4 q5 q6 q7; exact im
        · exact i2.fr2 (fun x hxx => ox x (by omega)) (t7 2 (by omega)) (t8 2 (by omega))
      · exact s0.fr (ox 67 (by omega)) (by rw [o2]) (t1 94 (by omega) (by omega)) (t1 95 (by omega) (by omega)) (by rw [t2])
      · exact s1.fr (ox 69 (by omega)) (by rw [o2]) (t1 94 (by omega) (by omega)) (t1 95 (by omega) (by omega)) (by rw [t2])
      · exact s2.fr (ox 71 (by omega)) (by rw [o2]) (t1 94 (by omega) (by omega)) (t1 95 (by omega) (by omega)) (by rw [t2])
      · exact s3.fr (ox 73 (by omega)) (by rw [o2]) (t1 94 (by omega) (by omega)) (t1 95 (by omega) (by omega)) (by rw [t2])
      · unfold y_tp at *
        rw [ox 19 (by omega), ox 20 (by omega), t1 75 (by omega) (by omega), t1 79 (by omega) (by omega)]
        exact ht
      · unfold y_ft at *
        rw [ox 10 (by omega), t1 75 (by omega) (by omega)]
        exact hf
    obtain rfl | rfl | rfl : k = 0 ∨ k = 1 ∨ k = 2 := by omega
    · obtain ⟨σ1, e1, e2, e3, e4, _⟩ := yc_copy (e := 43) hW hN ⟨rfl, rfl, rfl, rfl, rfl, rfl, rfl⟩ ⟨rfl, rfl, rfl, rfl, rfl, rfl, rfl⟩ (by omega)
      refine ⟨0, j_si σ1 43 0 (nI 1), j_si τ1 78 0 (nI 1), ?_, hm, (fin 43 44 45 46 47 48 49 50 σ1 rfl ⟨rfl, rfl, rfl, rfl, rfl, rfl, rfl⟩ e2 e3 e4).2⟩
      unfold f_X11_image
      rw [if_neg (by decide), if_pos (by decide), e1]; rfl
    · obtain ⟨σ1, e1, e2, e3, e4, _⟩ := yc_copy (e := 51) hW hN ⟨rfl, rfl, rfl, rfl, rfl, rfl, rfl⟩ ⟨rfl, rfl, rfl, rfl, rfl, rfl, rfl⟩ (by omega)
      refine ⟨0, j_si σ1 51 0 (nI 1), j_si τ1 78 1 (nI 1), ?_, hm, (fin 51 52 53 54 55 56 57 58 σ1 rfl ⟨rfl, rfl, rfl, rfl, rfl, rfl, rfl⟩ e2 e3 e4).2⟩
      unfold f_X11_image
      rw [if_neg (by decide), if_neg (by decide), if_pos (by decide), e1]; rfl
    · obtain ⟨σ1, e1, e2, e3, e4, _⟩ := yc_copy (e := 59) hW hN ⟨rfl, rfl, rfl, rfl, rfl, rfl, rfl⟩ ⟨rfl, rfl, rfl, rfl, rfl, rfl, rfl⟩ (by omega)
      refine ⟨0, j_si σ1 59 0 (nI 1), j_si τ1 78 2 (nI 1), ?_, hm, (fin 59 60 61 62 63 64 65 66 σ1 rfl ⟨rfl, rfl, rfl, rfl, rfl, rfl, rfl⟩ e2 e3 e4).2⟩
      unfold f_X11_image
      rw [if_neg (by decide), if_neg (by decide), if_neg (by decide), if_pos (by decide), e1]; rfl
  · refine ⟨-2, σ, τ, ?_, ?_, hR⟩
    · unfold f_X11_image; simp (disch := omega) only [y_lit, y_n1, nI_add, pk_mul, j_lt, j_b1_s, j_b2_s, j_b3_s, j_b0_s, y_bo, y_bo1, y_bo0, y_i0, y_i1, Classical.not_not, nI_clamp, y_ix, y_lt, y_le, y_eq, y_nP, y_nPs, y_ltP, y_ltQ, y_ltPP, y_eqP, y_eqQ, y_eqPP, if_pos, if_neg, ite_true, ite_false, not_true_eq_false, not_false_eq_true, and_true, true_and, and_false, false_and, or_true, true_or, or_false, false_or, y_c4, h]
    · unfold f_X12_image; simp (disch := omega) only [y_lit, y_n1, nI_add, pk_mul, j_lt, j_b1_s, j_b2_s, j_b3_s, j_b0_s, y_bo, y_bo1, y_bo0, y_i0, y_i1, Classical.not_not, nI_clamp, y_ix, y_lt, y_le, y_eq, y_nP, y_nPs, y_ltP, y_ltQ, y_ltPP, y_eqP, y_eqQ, y_eqPP, if_pos, if_neg, ite_true, ite_false, not_true_eq_false, not_false_eq_true, and_true, true_and, and_false, false_and, or_true, true_or, or_false, false_or, y_lit64, y_in, y_c3, h]
theorem z_back (hR : j_Rel σ τ) (a1 : Int32) : ∃ v σ1 τ1, f_X11_back a1 σ = some (v, σ1) ∧ f_X12_back a1 τ = some (v, τ1) ∧ j_Rel σ1 τ1 := by
  obtain ⟨b, hW, hN, hM, hK⟩ := id hR
  by_cases h : y_rg a1 3
  · obtain ⟨k, hk, rfl⟩ := y_of _ _ h.1 h.2
    have n3 : ¬ f_X12_in (nI k).toInt64 (0 : Int64) (2 : Int64) = 0 := by
      have : f_X12_in (nI k).toInt64 (0 : Int64) (2 : Int64) = nI 1 := by simp (disch := omega) only [y_lit, y_n1, nI_add, pk_mul, j_lt, j_b1_s, j_b2_s, j_b3_s, j_b0_s, y_bo, y_bo1, y_bo0, y_i0, y_i1, Classical.not_not, nI_clamp, y_ix, y_lt, y_le, y_eq, y_nP, y_nPs, y_ltP, y_ltQ, y_ltPP, y_eqP, y_eqQ, y_eqPP, if_pos, if_neg, ite_true, ite_false, not_true_eq_false, not_false_eq_true, and_true, true_and, and_false, false_and, or_true, true_or, or_false, false_or, y_lit64, y_in]
      rw [this]; decide
    obtain ⟨⟨i0, i1, i2⟩, ⟨s0, s1, s2, s3⟩, ht, hf⟩ := id hK
    have no : τ.1 78 k = nI 0 → f_X12_back (nI k) τ = some (-6, τ) := by
      intro e
      unfold f_X12_back
      rw [if_neg n3, y_ix (by omega) (by omega), nI_clamp (by omega), e, if_pos (show nI 0 = (0 : Int32) from rfl)]
    obtain ⟨τ1, g1, g2, g3, g4, g5⟩ := ym_load hk 116 0 j_F τ (by omega) (y_F (by omega))
    have yes : τ.1 78 k = nI 1 → f_X12_back (nI k) τ = some (0, τ1) := by
      intro e
      unfold f_X12_back
      rw [if_neg n3, y_ix (by omega) (by omega), nI_clamp (by omega), e, if_neg (by decide), show (0 : Int32) = nI 0 from rfl, g1]; rfl
    have fin : ∀ b' σ1, y_W b' → y_N σ1 b' → (∀ x, x < 1 ∨ 1 + 7 < x → σ1.1 x = σ.1 x) → σ1.2 = σ.2 → y_mb (fun j => τ.1 77 (116 * k + j)) b' → j_Rel σ1 τ1 := by
      intro b' σ1 hW' hN' ox o2 hmb
      refine ⟨b', hW', hN', fun j hj => ?_, hK.fr2 (fun c hc => ⟨ox c (by omega), by rw [o2]⟩) ⟨fun j hj => by rw [g3 75 (by omega)], fun c hc => ⟨g3 c (by omega), by rw [g2]⟩⟩⟩
      rw [g5 j (by omega) hj]; exact hmb j hj
    obtain rfl | rfl | rfl : k = 0 ∨ k = 1 ∨ k = 2 := by omega
    · rcases i0 with ⟨j1, j2⟩ | ⟨j1, j2, b', hW', hc', hm'⟩
      · refine ⟨-6, σ, τ, ?_, no j2, hR⟩
        unfold f_X11_back
        rw [if_neg (by decide), if_pos (by decide), j1, if_pos (by decide)]
      · obtain ⟨σ1, e1, e2, e3, e4, _⟩ := yc_copy (e := 1) hW' hc' ⟨rfl, rfl, rfl, rfl, rfl, rfl, rfl⟩ ⟨rfl, rfl, rfl, rfl, rfl, rfl, rfl⟩ (by omega)
        refine ⟨0, σ1, τ1, ?_, yes j2, fin b' σ1 hW' e2 e3 e4 hm'⟩
        unfold f_X11_back
        rw [if_neg (by decide), if_pos (by decide), j1, if_neg (by decide), e1]; rfl
    · rcases i1 with ⟨j1, j2⟩ | ⟨j1, j2, b', hW', hc', hm'⟩
      · refine ⟨-6, σ, τ, ?_, no j2, hR⟩
        unfold f_X11_back
        rw [if_neg (by decide), if_neg (by decide), if_pos (by decide), j1, if_pos (by decide)]
      · obtain ⟨σ1, e1, e2, e3, e4, _⟩ := yc_copy (e := 1) hW' hc' ⟨rfl, rfl, rfl, rfl, rfl, rfl, rfl⟩ ⟨rfl, rfl, rfl, rfl, rfl, rfl, rfl⟩ (by omega)
        refine ⟨0, σ1, τ1, ?_, yes j2, fin b' σ1 hW' e2 e3 e4 hm'⟩
        unfold f_X11_back
        rw [if_neg (by decide), if_neg (by decide), if_pos (by decide), j1, if_neg (by decide), e1]; rfl
    · rcases i2 with ⟨j1, j2⟩ | ⟨j1, j2, b', hW', hc', hm'⟩
      · refine ⟨-6, σ, τ, ?_, no j2, hR⟩
        unfold f_X11_back
        rw [if_neg (by decide), if_neg (by decide), if_neg (by decide), if_pos (by decide), j1, if_pos (by decide)]
      · obtain ⟨σ1, e1, e2, e3, e4, _⟩ := yc_copy (e := 1) hW' hc' ⟨rfl, rfl, rfl, rfl, rfl, rfl, rfl⟩ ⟨rfl, rfl, rfl, rfl, rfl, rfl, rfl⟩ (by omega)
        refine ⟨0, σ1, τ1, ?_, yes j2, fin b' σ1 hW' e2 e3 e4 hm'⟩
        unfold f_X11_back
        rw [if_neg (by decide), if_neg (by decide), if_neg (by decide), if_pos (by decide), j1, if_neg (by decide), e1]; rfl
  · refine ⟨-2, σ, τ, ?_, ?_, hR⟩
    · unfold f_X11_back; simp (disch := omega) only [y_lit, y_n1, nI_add, pk_mul, j_lt, j_b1_s, j_b2_s, j_b3_s, j_b0_s, y_bo, y_bo1, y_bo0, y_i0, y_i1, Classical.not_not, nI_clamp, y_ix, y_lt, y_le, y_eq, y_nP, y_nPs, y_ltP, y_ltQ, y_ltPP, y_eqP, y_eqQ, y_eqPP, if_pos, if_neg, ite_true, ite_false, not_true_eq_false, not_false_eq_true, and_true, true_and, and_false, false_and, or_true, true_or, or_false, false_or, y_c4, h]
    · unfold f_X12_back; simp (disch := omega) only [y_lit, y_n1, nI_add, pk_mul, j_lt, j_b1_s, j_b2_s, j_b3_s, j_b0_s, y_bo, y_bo1, y_bo0, y_i0, y_i1, Classical.not_not, nI_clamp, y_ix, y_lt, y_le, y_eq, y_nP, y_nPs, y_ltP, y_ltQ, y_ltPP, y_eqP, y_eqQ, y_eqPP, if_pos, if_neg, ite_true, ite_false, not_true_eq_false, not_false_eq_true, and_true, true_and, and_false, false_and, or_true, true_or, or_false, false_or, y_lit64, y_in, y_c3, h]
end Z
