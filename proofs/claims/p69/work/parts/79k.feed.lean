/-! ===== end, feed, paste ===== -/
/-- the tapes alike -/
theorem y_tape {σ τ σ' τ' : j_G} (hR : j_Rel σ τ) (h1 : ∀ x, x ≠ 19 → x ≠ 20 → σ'.1 x = σ.1 x) (h2 : σ'.2 = σ.2) (h3 : ∀ j, j ≠ 5 → τ'.1 75 j = τ.1 75 j) (h4 : ∀ x, x ≠ 75 → x ≠ 79 → x ≠ 80 → τ'.1 x = τ.1 x) (h5 : τ'.2 = τ.2) (ht : y_tp σ' τ') : j_Rel σ' τ' := by
  obtain ⟨b, hW, hN, hM, ⟨⟨i0, i1, i2⟩, ⟨s0, s1, s2, s3⟩, _, hf⟩⟩ := hR
  have e77 := h4 77 (by omega) (by omega) (by omega)
  have e78 := h4 78 (by omega) (by omega) (by omega)
  have e94 := h4 94 (by omega) (by omega) (by omega)
  have e95 := h4 95 (by omega) (by omega) (by omega)
  refine ⟨b, hW, ?_, ?_, ⟨⟨i0.fr (fun x hx => h1 x (by omega) (by omega)) e77 e78, i1.fr (fun x hx => h1 x (by omega) (by omega)) e77 e78, i2.fr (fun x hx => h1 x (by omega) (by omega)) e77 e78⟩, ⟨s0.fr (h1 67 (by omega) (by omega)) (by rw [h2]) e94 e95 (by rw [h5]), s1.fr (h1 69 (by omega) (by omega)) (by rw [h2]) e94 e95 (by rw [h5]), s2.fr (h1 71 (by omega) (by omega)) (by rw [h2]) e94 e95 (by rw [h5]), s3.fr (h1 73 (by omega) (by omega)) (by rw [h2]) e94 e95 (by rw [h5])⟩, ht, ?_⟩⟩
  · unfold y_N y_cb at *
    rw [h1 1 (by omega) (by omega), h1 2 (by omega) (by omega), h1 3 (by omega) (by omega), h1 4 (by omega) (by omega), h1 5 (by omega) (by omega), h1 6 (by omega) (by omega), h1 7 (by omega) (by omega), h1 8 (by omega) (by omega)]
    exact hN
  · unfold y_M; rw [h4 76 (by omega) (by omega) (by omega)]; exact hM
  · unfold y_ft at *
    rw [h1 10 (by omega) (by omega), h3 12 (by omega), h3 13 (by omega)]
    exact hf
/-- a byte of a number -/
def y_by (x : Int32) (m : Nat) : Int32 := vp_nar .byte (x >>> (nI (24 - 8 * m) &&& nI 31)).toInt8.toInt32
theorem y_by_bd (x : Int32) (m : Nat) : -128 ≤ (y_by x m).toInt ∧ (y_by x m).toInt ≤ 127 := by
  unfold y_by
  rw [vp_nar_byte, Int8.toInt_toInt32]
  exact ⟨Int8.le_toInt _, Int8.toInt_le _⟩
section F
theorem yc_put1 (x : Int32) : ∀ (m i n t : Nat) (σ : j_G), i + m = 4 → m < n → σ.1 19 0 = nI t → t + m ≤ 1200 → ∃ σ', p_X10_put_3 x n (nI 24 - nI (8 * i)) σ = some σ' ∧ σ'.1 19 0 = nI (t + m) ∧ (∀ c, c ≠ 19 → c ≠ 20 → σ'.1 c = σ.1 c) ∧ σ'.2 = σ.2 ∧ (∀ j, j < t ∨ t + m ≤ j → σ'.1 20 j = σ.1 20 j) ∧ ∀ j, j < m → σ'.1 20 (t + j) = y_by x (i + j) := by
  intro m
  induction m with
  | zero =>
    intro i n t σ h hn h0 ht
    obtain ⟨n, rfl⟩ := y_pos hn
    obtain rfl : i = 4 := by omega
    refine ⟨σ, ?_, h0, fun _ _ _ => rfl, rfl, fun _ _ => rfl, fun j hj => by omega⟩
    unfold p_X10_put_3
    exact if_neg (fun z => z.1 (by decide))
  | succ m ih =>
    intro i n t σ h hn h0 ht
    obtain ⟨n, rfl⟩ := y_pos hn
    obtain ⟨σ', e1, e2, e3, e4, e5, e6⟩ := ih (i + 1) n (t + 1) (j_si (j_si σ 20 t (y_by x i)) 19 0 (nI (t + 1))) (by omega) (by omega) j_r_eq (by omega)
    have sh : nI 24 - nI (8 * i) = nI (24 - 8 * i) := pk_sub (by omega)
    have nx : nI (24 - 8 * i) + (-8 : Int32) = nI 24 - nI (8 * (i + 1)) := by
      rw [← sh, show 8 * (i + 1) = 8 * i + 8 from by omega, ← y_subsub, Int32.sub_eq_add_neg (nI 24 - nI (8 * i))]
      rfl
    refine ⟨σ', ?_, by rw [e2]; congr 1; omega, fun c h1 h2 => ?_, e4, fun j hj => ?_, fun j hj => ?_⟩
    · rw [sh, p_X10_put_3, h0, show (1200 : Int32) = nI 1200 from rfl, if_pos ⟨nI_pos (by omega), (y_lt (by omega) (by omega)).mpr (by omega)⟩, y_ix (by omega) (by omega), nI_clamp (by omega)]
      simp only [j_lt]
      rw [j_r_ne (by omega), h0, show (1 : Int32) = nI 1 from rfl, nI_add, nx]
      exact e1
    · rw [e3 c h1 h2]; funext j; rw [j_r_ne h1, j_r_ne h2]
    · rw [e5 j (by omega), j_r_ne (by omega), j_r_nj (by omega)]
    · obtain _ | j := j
      · rw [Nat.add_zero, Nat.add_zero, e5 t (by omega), j_r_ne (by omega), j_r_eq]
      · have := e6 j (by omega)
        rw [show t + (j + 1) = t + 1 + j from by omega, this, show i + 1 + j = i + (j + 1) from by omega]
theorem yc_put (x : Int32) (t : Nat) (σ : j_G) (h0 : σ.1 19 0 = nI t) (ht : t + 4 ≤ 1200) : ∃ σ', f_X10_put x σ = some σ' ∧ σ'.1 19 0 = nI (t + 4) ∧ (∀ c, c ≠ 19 → c ≠ 20 → σ'.1 c = σ.1 c) ∧ σ'.2 = σ.2 ∧ (∀ j, j < t ∨ t + 4 ≤ j → σ'.1 20 j = σ.1 20 j) ∧ ∀ j, j < 4 → σ'.1 20 (t + j) = y_by x j := by
  obtain ⟨σ', e1, e2, e3, e4, e5, e6⟩ := yc_put1 x 4 0 j_F t σ (by omega) (y_F (by omega)) h0 ht
  refine ⟨σ', ?_, e2, e3, e4, e5, fun j hj => by rw [e6 j hj, Nat.zero_add]⟩
  unfold f_X10_put
  rw [show nI 24 - nI (8 * 0) = (24 : Int32) from by decide] at e1
  rw [e1]; rfl
theorem ym_put (f : Nat → Int32) (t : Nat) (ht : t + 20 ≤ 1200) : ∀ (m i n : Nat) (τ : j_G), i + m = 20 → m < n → τ.1 75 5 = nI t → (∀ q, q < 5 → τ.1 80 q = f q) → ∃ τ', p_X12_feed_55 n (nI i) τ = some τ' ∧ (∀ c, c ≠ 79 → τ'.1 c = τ.1 c) ∧ τ'.2 = τ.2 ∧ (∀ j, j < t + i ∨ t + 20 ≤ j → τ'.1 79 j = τ.1 79 j) ∧ ∀ j, i ≤ j → j < 20 → τ'.1 79 (t + j) = y_by (f (j / 4)) (j % 4) := by
  intro m
  induction m with
  | zero =>
    intro i n τ h hn h0 hf
    obtain ⟨n, rfl⟩ := y_pos hn
    refine ⟨τ, ?_, fun _ _ => rfl, rfl, fun _ _ => rfl, fun j a c => by omega⟩
    unfold p_X12_feed_55; simp (disch := omega) only [y_lit, y_n1, nI_add, pk_mul, j_lt, j_b1_s, j_b2_s, j_b3_s, j_b0_s, y_bo, y_bo1, y_bo0, y_i0, y_i1, Classical.not_not, nI_clamp, y_ix, y_lt, y_le, y_eq, y_nP, y_nPs, y_ltP, y_ltQ, y_ltPP, y_eqP, y_eqQ, y_eqPP, if_pos, if_neg, ite_true, ite_false, not_true_eq_false, not_false_eq_true, and_true, true_and, and_false, false_and, or_true, true_or, or_false, false_or]
  | succ m ih =>
    intro i n τ h hn h0 hf
    obtain ⟨n, rfl⟩ := y_pos hn
    have hby : vp_nar .byte ((τ.1 80 (i / 4)) >>> ((nI 24 - nI (8 * (i % 4))) &&& nI 31)).toInt8.toInt32 = y_by (f (i / 4)) (i % 4) := by
      rw [hf _ (by omega), pk_sub (by omega)]; rfl
    have em : nI i - nI (i / 4 * 4) = nI (i % 4) := by
      rw [← pk_mul, ← pk_div (by omega) (by omega) (by omega), pk_rem (by omega) (by omega) (by omega)]
    obtain ⟨τ', e1, e2, e3, e4, e5⟩ := ih (i + 1) n (j_si τ 79 (t + i) (y_by (f (i / 4)) (i % 4))) (by omega) (by omega) (by simp (disch := omega) only [j_r_ne, j_r_eq, j_r_nj]; exact h0) (fun q hq => by simp (disch := omega) only [j_r_ne, j_r_eq, j_r_nj]; exact hf q hq)
    refine ⟨τ', ?_, fun c hc => ?_, e3, fun j hj => ?_, fun j a c => ?_⟩
    · unfold p_X12_feed_55
      simp (disch := omega) only [y_lit, y_n1, nI_add, pk_mul, j_lt, j_b1_s, j_b2_s, j_b3_s, j_b0_s, y_bo, y_bo1, y_bo0, y_i0, y_i1, Classical.not_not, nI_clamp, y_ix, y_lt, y_le, y_eq, y_nP, y_nPs, y_ltP, y_ltQ, y_ltPP, y_eqP, y_eqQ, y_eqPP, if_pos, if_neg, ite_true, ite_false, not_true_eq_false, not_false_eq_true, and_true, true_and, and_false, false_and, or_true, true_or, or_false, false_or, h0, pk_div]
      rw [em]
      simp (disch := omega) only [pk_mul]
      rw [hby]
      exact e1
    · rw [e2 c hc]; funext j; exact j_r_ne hc
    · rw [e4 j (by omega), j_r_nj (by omega)]
    · by_cases e : j = i
      · subst e; rw [e4 _ (by omega), j_r_eq]
      · exact e5 j (by omega) c
end F
section Z
variable {σ τ : j_G}
theorem z_end (hR : j_Rel σ τ) (a1 : Int32) : ∃ v σ1 τ1, f_X11_end a1 σ = some (v, σ1) ∧ f_X12_end a1 τ = some (v, τ1) ∧ j_Rel σ1 τ1 := by
  obtain ⟨b, hW, hN, hM, hK⟩ := id hR
  obtain ⟨n, hn, t1, t2, t3⟩ := hK.2.2.1
  by_cases h : y_rg a1 (n + 1)
  · obtain ⟨k, hk, rfl⟩ := y_of _ _ h.1 h.2
    refine ⟨nI k, j_si σ 19 0 (nI k), j_si τ 75 5 (nI k), ?_, ?_, y_tape hR (fun x a c => funext fun j => j_r_ne a) rfl (fun j hj => j_r_nj hj) (fun x a c d => funext fun j => j_r_ne a) rfl ⟨k, by omega, j_r_eq, j_r_eq, fun i hi => ?_⟩⟩
    · unfold f_X11_end; rw [t1]; simp (disch := omega) only [y_lit, y_n1, nI_add, pk_mul, j_lt, j_b1_s, j_b2_s, j_b3_s, j_b0_s, y_bo, y_bo1, y_bo0, y_i0, y_i1, Classical.not_not, nI_clamp, y_ix, y_lt, y_le, y_eq, y_nP, y_nPs, y_ltP, y_ltQ, y_ltPP, y_eqP, y_eqQ, y_eqPP, if_pos, if_neg, ite_true, ite_false, not_true_eq_false, not_false_eq_true, and_true, true_and, and_false, false_and, or_true, true_or, or_false, false_or, y_c5, h]
    · unfold f_X12_end; rw [t2]; simp (disch := omega) only [y_lit, y_n1, nI_add, pk_mul, j_lt, j_b1_s, j_b2_s, j_b3_s, j_b0_s, y_bo, y_bo1, y_bo0, y_i0, y_i1, Classical.not_not, nI_clamp, y_ix, y_lt, y_le, y_eq, y_nP, y_nPs, y_ltP, y_ltQ, y_ltPP, y_eqP, y_eqQ, y_eqPP, if_pos, if_neg, ite_true, ite_false, not_true_eq_false, not_false_eq_true, and_true, true_and, and_false, false_and, or_true, true_or, or_false, false_or, y_lit64, y_in, y_c3, h]
    · rw [j_r_ne (by omega), j_r_ne (by omega)]; exact t3 i (by omega)
  · refine ⟨-1, σ, τ, ?_, ?_, hR⟩
    · unfold f_X11_end; rw [t1]; simp (disch := omega) only [y_lit, y_n1, nI_add, pk_mul, j_lt, j_b1_s, j_b2_s, j_b3_s, j_b0_s, y_bo, y_bo1, y_bo0, y_i0, y_i1, Classical.not_not, nI_clamp, y_ix, y_lt, y_le, y_eq, y_nP, y_nPs, y_ltP, y_ltQ, y_ltPP, y_eqP, y_eqQ, y_eqPP, if_pos, if_neg, ite_true, ite_false, not_true_eq_false, not_false_eq_true, and_true, true_and, and_false, false_and, or_true, true_or, or_false, false_or, y_c5, h]
    · unfold f_X12_end; rw [t2]; simp (disch := omega) only [y_lit, y_n1, nI_add, pk_mul, j_lt, j_b1_s, j_b2_s, j_b3_s, j_b0_s, y_bo, y_bo1, y_bo0, y_i0, y_i1, Classical.not_not, nI_clamp, y_ix, y_lt, y_le, y_eq, y_nP, y_nPs, y_ltP, y_ltQ, y_ltPP, y_eqP, y_eqQ, y_eqPP, if_pos, if_neg, ite_true, ite_false, not_true_eq_false, not_false_eq_true, and_true, true_and, and_false, false_and, or_true, true_or, or_false, false_or, y_lit64, y_in, y_c3, h]
theorem z_feed (hR : j_Rel σ τ) (a1 a2 a3 a4 a5 : Int32) : ∃ v σ1 τ1, f_X11_feed a1 a2 a3 a4 a5 σ = some (v, σ1) ∧ f_X12_feed a1 a2 a3 a4 a5 τ = some (v, τ1) ∧ j_Rel σ1 τ1 := by
  obtain ⟨b, hW, hN, hM, hK⟩ := id hR
  obtain ⟨t, hn, t1, t2, t3⟩ := hK.2.2.1
  by_cases h : t + 20 ≤ 1200
  · obtain ⟨σ1, a1', b1, c1, d1, p1, q1⟩ := yc_put a1 t σ t1 (by omega)
    obtain ⟨σ2, a2', b2, c2, d2, p2, q2⟩ := yc_put a2 _ σ1 b1 (by omega)
    obtain ⟨σ3, a3', b3, c3, d3, p3, q3⟩ := yc_put a3 _ σ2 b2 (by omega)
    obtain ⟨σ4, a4', b4, c4, d4, p4, q4⟩ := yc_put a4 _ σ3 b3 (by omega)
    obtain ⟨σ5, a5', b5, c5, d5, p5, q5⟩ := yc_put a5 _ σ4 b4 (by omega)
    have bytes : ∀ j, j < 20 → σ5.1 20 (t + j) = y_by ((fun q => if q = 0 then a1 else if q = 1 then a2 else if q = 2 then a3 else if q = 3 then a4 else a5) (j / 4)) (j % 4) := by
      intro j hj
      show σ5.1 20 (t + j) = y_by (if j / 4 = 0 then a1 else if j / 4 = 1 then a2 else if j / 4 = 2 then a3 else if j / 4 = 3 then a4 else a5) (j % 4)
      have w : j / 4 = 0 ∨ j / 4 = 1 ∨ j / 4 = 2 ∨ j / 4 = 3 ∨ j / 4 = 4 := by omega
      rcases w with w | w | w | w | w
      · rw [w, if_pos rfl, p5 _ (by omega), p4 _ (by omega), p3 _ (by omega), p2 _ (by omega), show t + j = t + j % 4 from by omega, q1 _ (by omega)]
      · rw [w, if_neg (by omega), if_pos rfl, p5 _ (by omega), p4 _ (by omega), p3 _ (by omega), show t + j = t + 4 + j % 4 from by omega, q2 _ (by omega)]
      · rw [w, if_neg (by omega), if_neg (by omega), if_pos rfl, p5 _ (by omega), p4 _ (by omega), show t + j = t + 4 + 4 + j % 4 from by omega, q3 _ (by omega)]
      · rw [w, if_neg (by omega), if_neg (by omega), if_neg (by omega), if_pos rfl, p5 _ (by omega), show t + j = t + 4 + 4 + 4 + j % 4 from by omega, q4 _ (by omega)]
      · rw [w, if_neg (by omega), if_neg (by omega), if_neg (by omega), if_neg (by omega), show t + j = t + 4 + 4 + 4 + 4 + j % 4 from by omega, q5 _ (by omega)]
    obtain ⟨τ1, g1, g2, g3, g4, g5⟩ := ym_put (fun q => if q = 0 then a1 else if q = 1 then a2 else if q = 2 then a3 else if q = 3 then a4 else a5) t h 20 0 j_F (j_si (j_si (j_si (j_si (j_si τ 80 0 a1) 80 1 a2) 80 2 a3) 80 3 a4) 80 4 a5) (by omega) (y_F (by omega)) (by simp (disch := omega) only [j_r_ne, j_r_eq, j_r_nj]; exact t2) (fun q hq => by
      obtain rfl | rfl | rfl | rfl | rfl : q = 0 ∨ q = 1 ∨ q = 2 ∨ q = 3 ∨ q = 4 := by omega
      · simp (disch := omega) only [j_r_ne, j_r_eq, j_r_nj]; rfl
      · simp (disch := omega) only [j_r_ne, j_r_eq, j_r_nj]; rfl
      · simp (disch := omega) only [j_r_ne, j_r_eq, j_r_nj]; rfl
      · simp (disch := omega) only [j_r_ne, j_r_eq, j_r_nj]; rfl
      · simp (disch := omega) only [j_r_ne, j_r_eq, j_r_nj]; rfl)
    have e5 : τ1.1 75 5 = nI t := by rw [g2 75 (by omega)]; simp (disch := omega) only [j_r_ne, j_r_eq, j_r_nj]; exact t2
    refine ⟨nI (t + 20), σ5, j_si τ1 75 5 (nI (t + 20)), ?_, ?_, y_tape hR (fun x a c => ?_) ?_ (fun j hj => ?_) (fun x a c d => ?_) ?_ ⟨t + 20, h, ?_, j_r_eq, fun i hi => ?_⟩⟩
    · have nl : ¬ nI 1200 < nI (t + 20) := by rw [y_lt (by omega) (by omega)]; omega
      unfold f_X11_feed
      rw [t1, show (20 : Int32) = nI 20 from rfl, show (1200 : Int32) = nI 1200 from rfl, nI_add, if_neg nl]
      rw [a1', j_b1_s, a2', j_b1_s, a3', j_b1_s, a4', j_b1_s, a5', j_b1_s, b5]
    · have nl : ¬ nI 1200 < nI (t + 20) := by rw [y_lt (by omega) (by omega)]; omega
      unfold f_X12_feed
      rw [t2, show (20 : Int32) = nI 20 from rfl, show (1200 : Int32) = nI 1200 from rfl, nI_add, if_neg nl]
      simp only [j_lt]
      rw [j_ixp (by decide), j_ixp (by decide), j_ixp (by decide), j_ixp (by decide), j_ixp (by decide), show (0 : Int32).toNatClampNeg = 0 from by decide, show (1 : Int32).toNatClampNeg = 1 from by decide, show (2 : Int32).toNatClampNeg = 2 from by decide, show (3 : Int32).toNatClampNeg = 3 from by decide, show (4 : Int32).toNatClampNeg = 4 from by decide, show (0 : Int32) = nI 0 from rfl, g1, j_b1_s, e5, nI_add, j_r_eq]
    · rw [c5 x a c, c4 x a c, c3 x a c, c2 x a c, c1 x a c]
    · rw [d5, d4, d3, d2, d1]
    · rw [j_r_nj hj, g2 75 (by omega)]; simp (disch := omega) only [j_r_ne, j_r_eq, j_r_nj]
    · have : (j_si τ1 75 5 (nI (t + 20))).1 x = τ1.1 x := funext fun j => j_r_ne a
      rw [this, g2 x c]; funext j; simp (disch := omega) only [j_r_ne, j_r_eq, j_r_nj]
    · show τ1.2 = τ.2; rw [g3]; rfl
    · rw [b5]
    · rw [j_r_ne (by omega)]
      by_cases c : i < t
      · rw [p5 i (by omega), p4 i (by omega), p3 i (by omega), p2 i (by omega), p1 i (by omega), g4 i (by omega)]
        simp (disch := omega) only [j_r_ne, j_r_eq, j_r_nj]
        exact t3 i c
      · obtain ⟨j, rfl⟩ : ∃ j, i = t + j := ⟨i - t, by omega⟩
        rw [bytes j (by omega), g5 j (by omega) (by omega)]
        exact ⟨rfl, y_by_bd _ _⟩
  · refine ⟨-1, σ, τ, ?_, ?_, hR⟩
    · have nl : nI 1200 < nI (t + 20) := by rw [y_lt (by omega) (by omega)]; omega
      unfold f_X11_feed
      rw [t1, show (20 : Int32) = nI 20 from rfl, show (1200 : Int32) = nI 1200 from rfl, nI_add, if_pos nl]
    · have nl : nI 1200 < nI (t + 20) := by rw [y_lt (by omega) (by omega)]; omega
      unfold f_X12_feed
      rw [t2, show (20 : Int32) = nI 20 from rfl, show (1200 : Int32) = nI 1200 from rfl, nI_add, if_pos nl]
end Z
