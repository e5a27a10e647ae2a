/-! ===== count, row, write, paste ===== -/
/-- one slot's cells may be others -/
def y_ks (σ σ' τ τ' : j_G) (s c d : Nat) : Prop := (∀ x, x ≠ c → σ'.1 x = σ.1 x) ∧ (∀ x, x ≠ d → σ'.2 x = σ.2 x) ∧ (∀ x, x ≠ 94 → x ≠ 95 → τ'.1 x = τ.1 x) ∧ (∀ x, x ≠ 96 → x ≠ 97 → τ'.2 x = τ.2 x) ∧ (∀ j, j ≠ s → τ'.1 94 j = τ.1 94 j ∧ τ'.1 95 j = τ.1 95 j) ∧ ∀ j, j < 60 * s ∨ 60 * s + 60 ≤ j → τ'.2 96 j = τ.2 96 j
theorem y_sl.fr2 {σ τ σ' τ' : j_G} {s c d : Nat} (h : y_sl σ τ s c d) (e : σ'.1 c = σ.1 c) (e' : σ'.2 d = σ.2 d) (e1 : τ'.1 94 s = τ.1 94 s) (e2 : τ'.1 95 s = τ.1 95 s) (e3 : ∀ j, 60 * s ≤ j → j < 60 * s + 60 → τ'.2 96 j = τ.2 96 j) : y_sl σ' τ' s c d := by
  rcases h with ⟨h1, h2⟩ | ⟨n, w, h1, h2, h3, h4, h5, h6, h7⟩
  · exact Or.inl ⟨by rw [e]; exact h1, by rw [e1]; exact h2⟩
  · refine Or.inr ⟨n, w, h1, h2, by rw [e]; exact h3, by rw [e1]; exact h4, by rw [e]; exact h5, by rw [e2]; exact h6, fun i hi => ?_⟩
    rw [e', e3 _ (by omega) (by omega)]; exact h7 i hi
theorem y_K.slots {σ τ σ' τ' : j_G} {s c d : Nat} (h : y_K σ τ) (hc : y_sc s c d) (k : y_ks σ σ' τ τ' s c d) (hl : y_sl σ' τ' s c d) : y_K σ' τ' := by
  obtain ⟨⟨i0, i1, i2⟩, ⟨s0, s1, s2, s3⟩, ht, hf⟩ := h
  obtain ⟨k1, k2, k3, k4, k5, k6⟩ := k
  have hcc : 67 ≤ c ∧ c ≤ 73 := by unfold y_sc at hc; omega
  have e77 := k3 77 (by omega) (by omega)
  have e78 := k3 78 (by omega) (by omega)
  refine ⟨⟨i0.fr (fun x hx => k1 x (by omega)) e77 e78, i1.fr (fun x hx => k1 x (by omega)) e77 e78, i2.fr (fun x hx => k1 x (by omega)) e77 e78⟩, ⟨?_, ?_, ?_, ?_⟩, ?_, ?_⟩
  · by_cases e : s = 0
    · obtain ⟨rfl, rfl, rfl⟩ : s = 0 ∧ c = 67 ∧ d = 68 := by unfold y_sc at hc; omega
      exact hl
    · exact s0.fr2 (k1 67 (by unfold y_sc at hc; omega)) (k2 68 (by unfold y_sc at hc; omega)) (k5 0 (by omega)).1 (k5 0 (by omega)).2 (fun j a b => k6 j (by omega))
  · by_cases e : s = 1
    · obtain ⟨rfl, rfl, rfl⟩ : s = 1 ∧ c = 69 ∧ d = 70 := by unfold y_sc at hc; omega
      exact hl
    · exact s1.fr2 (k1 69 (by unfold y_sc at hc; omega)) (k2 70 (by unfold y_sc at hc; omega)) (k5 1 (by omega)).1 (k5 1 (by omega)).2 (fun j a b => k6 j (by omega))
  · by_cases e : s = 2
    · obtain ⟨rfl, rfl, rfl⟩ : s = 2 ∧ c = 71 ∧ d = 72 := by unfold y_sc at hc; omega
      exact hl
    · exact s2.fr2 (k1 71 (by unfold y_sc at hc; omega)) (k2 72 (by unfold y_sc at hc; omega)) (k5 2 (by omega)).1 (k5 2 (by omega)).2 (fun j a b => k6 j (by omega))
  · by_cases e : s = 3
    · obtain ⟨rfl, rfl, rfl⟩ : s = 3 ∧ c = 73 ∧ d = 74 := by unfold y_sc at hc; omega
      exact hl
    · exact s3.fr2 (k1 73 (by unfold y_sc at hc; omega)) (k2 74 (by unfold y_sc at hc; omega)) (k5 3 (by omega)).1 (k5 3 (by omega)).2 (fun j a b => k6 j (by omega))
  · unfold y_tp at *
    rw [k1 19 (by omega), k1 20 (by omega), k3 75 (by omega) (by omega), k3 79 (by omega) (by omega)]
    exact ht
  · unfold y_ft at *
    rw [k1 10 (by omega), k3 75 (by omega) (by omega)]
    exact hf
theorem y_slots {σ τ σ' τ' : j_G} {s c d : Nat} (hR : j_Rel σ τ) (hc : y_sc s c d) (k : y_ks σ σ' τ τ' s c d) (hl : y_sl σ' τ' s c d) : j_Rel σ' τ' := by
  obtain ⟨b, hW, hN, hM, hK⟩ := hR
  have hcc : 67 ≤ c ∧ c ≤ 73 := by unfold y_sc at hc; omega
  refine ⟨b, hW, ?_, ?_, hK.slots hc k hl⟩
  · unfold y_N y_cb at *
    rw [k.1 1 (by omega), k.1 2 (by omega), k.1 3 (by omega), k.1 4 (by omega), k.1 5 (by omega), k.1 6 (by omega), k.1 7 (by omega), k.1 8 (by omega)]
    exact hN
  · unfold y_M; rw [k.2.2.1 76 (by omega) (by omega)]; exact hM
section Z
variable {σ τ : j_G}
theorem z_count (hR : j_Rel σ τ) (a1 : Int32) : ∃ v, f_X11_count a1 σ = some v ∧ f_X12_count a1 τ = some v := by
  obtain ⟨b, hW, hN, hM, hK⟩ := id hR
  obtain ⟨n, hn, t1, t2, t3⟩ := hK.2.2.1
  have mk : ∀ s, s < 4 → ∃ c v, v ≤ 1 ∧ (∃ d, y_sc s c d) ∧ f_X8_isMade c σ = nI v ∧ (if τ.1 94 s = nP 0 then nI 0 else nI 1) = nI v := by
    intro s hs
    obtain ⟨c, d, hc, hk⟩ := hK.slot s hs
    rcases hk with ⟨k1, k2⟩ | ⟨m, w, hr⟩
    · refine ⟨c, 0, by omega, ⟨d, hc⟩, ?_, ?_⟩
      · unfold f_X8_isMade; simp (disch := omega) only [y_lit, y_n1, nI_add, pk_mul, j_lt, j_b1_s, j_b2_s, j_b3_s, j_b0_s, y_bo, y_bo1, y_bo0, y_i0, y_i1, Classical.not_not, nI_clamp, y_ix, y_lt, y_le, y_eq, y_nP, y_nPs, y_ltP, y_ltQ, y_ltPP, y_eqP, y_eqQ, y_eqPP, if_pos, if_neg, ite_true, ite_false, not_true_eq_false, not_false_eq_true, and_true, true_and, and_false, false_and, or_true, true_or, or_false, false_or, k1]
      · rw [k2, if_pos rfl]
    · obtain ⟨_, h1, h2, h3, h4, _⟩ := hr
      refine ⟨c, 1, by omega, ⟨d, hc⟩, ?_, ?_⟩
      · unfold f_X8_isMade; simp (disch := omega) only [y_lit, y_n1, nI_add, pk_mul, j_lt, j_b1_s, j_b2_s, j_b3_s, j_b0_s, y_bo, y_bo1, y_bo0, y_i0, y_i1, Classical.not_not, nI_clamp, y_ix, y_lt, y_le, y_eq, y_nP, y_nPs, y_ltP, y_ltQ, y_ltPP, y_eqP, y_eqQ, y_eqPP, if_pos, if_neg, ite_true, ite_false, not_true_eq_false, not_false_eq_true, and_true, true_and, and_false, false_and, or_true, true_or, or_false, false_or, h3]
      · rw [h4, if_neg (by rw [y_eqQ (by omega) (by omega)]; omega)]
  obtain ⟨c0, v0, l0, ⟨d0, q0⟩, x0, y0⟩ := mk 0 (by omega)
  obtain ⟨c1, v1, l1, ⟨d1, q1⟩, x1, y1⟩ := mk 1 (by omega)
  obtain ⟨c2, v2, l2, ⟨d2, q2⟩, x2, y2⟩ := mk 2 (by omega)
  obtain ⟨c3, v3, l3, ⟨d3, q3⟩, x3, y3⟩ := mk 3 (by omega)
  obtain rfl : c0 = 67 := by unfold y_sc at q0; omega
  obtain rfl : c1 = 69 := by unfold y_sc at q1; omega
  obtain rfl : c2 = 71 := by unfold y_sc at q2; omega
  obtain rfl : c3 = 73 := by unfold y_sc at q3; omega
  have st : ∀ v a, v ≤ 1 → (if ¬ nI v = nI 0 then nI a + nI 1 else nI a) = nI (a + v) := by
    intro v a hv
    by_cases z : v = 0
    · subst z; rw [if_neg (fun q => q rfl)]; rfl
    · obtain rfl : v = 1 := by omega
      rw [if_pos (by decide), nI_add]
  have rk : f_X11_rowsKept σ = some (nI (0 + v0 + v1 + v2 + v3)) := by
    have s0 : ∀ n a, p_X11_rowsKept_4 σ (n + 1) (nI a) (nI 0) = p_X11_rowsKept_4 σ n (nI (a + v0)) (nI 1) := by
      intro n a
      rw [← st v0 a l0, p_X11_rowsKept_4]; simp (disch := omega) only [y_lit, y_n1, nI_add, pk_mul, j_lt, j_b1_s, j_b2_s, j_b3_s, j_b0_s, y_bo, y_bo1, y_bo0, y_i0, y_i1, Classical.not_not, nI_clamp, y_ix, y_lt, y_le, y_eq, y_nP, y_nPs, y_ltP, y_ltQ, y_ltPP, y_eqP, y_eqQ, y_eqPP, if_pos, if_neg, ite_true, ite_false, not_true_eq_false, not_false_eq_true, and_true, true_and, and_false, false_and, or_true, true_or, or_false, false_or, x0]
    have s1 : ∀ n a, p_X11_rowsKept_4 σ (n + 1) (nI a) (nI 1) = p_X11_rowsKept_4 σ n (nI (a + v1)) (nI 2) := by
      intro n a
      rw [← st v1 a l1, p_X11_rowsKept_4]; simp (disch := omega) only [y_lit, y_n1, nI_add, pk_mul, j_lt, j_b1_s, j_b2_s, j_b3_s, j_b0_s, y_bo, y_bo1, y_bo0, y_i0, y_i1, Classical.not_not, nI_clamp, y_ix, y_lt, y_le, y_eq, y_nP, y_nPs, y_ltP, y_ltQ, y_ltPP, y_eqP, y_eqQ, y_eqPP, if_pos, if_neg, ite_true, ite_false, not_true_eq_false, not_false_eq_true, and_true, true_and, and_false, false_and, or_true, true_or, or_false, false_or, x1]
    have s2 : ∀ n a, p_X11_rowsKept_4 σ (n + 1) (nI a) (nI 2) = p_X11_rowsKept_4 σ n (nI (a + v2)) (nI 3) := by
      intro n a
      rw [← st v2 a l2, p_X11_rowsKept_4]; simp (disch := omega) only [y_lit, y_n1, nI_add, pk_mul, j_lt, j_b1_s, j_b2_s, j_b3_s, j_b0_s, y_bo, y_bo1, y_bo0, y_i0, y_i1, Classical.not_not, nI_clamp, y_ix, y_lt, y_le, y_eq, y_nP, y_nPs, y_ltP, y_ltQ, y_ltPP, y_eqP, y_eqQ, y_eqPP, if_pos, if_neg, ite_true, ite_false, not_true_eq_false, not_false_eq_true, and_true, true_and, and_false, false_and, or_true, true_or, or_false, false_or, x2]
    have s3 : ∀ n a, p_X11_rowsKept_4 σ (n + 1) (nI a) (nI 3) = p_X11_rowsKept_4 σ n (nI (a + v3)) (nI 4) := by
      intro n a
      rw [← st v3 a l3, p_X11_rowsKept_4]; simp (disch := omega) only [y_lit, y_n1, nI_add, pk_mul, j_lt, j_b1_s, j_b2_s, j_b3_s, j_b0_s, y_bo, y_bo1, y_bo0, y_i0, y_i1, Classical.not_not, nI_clamp, y_ix, y_lt, y_le, y_eq, y_nP, y_nPs, y_ltP, y_ltQ, y_ltPP, y_eqP, y_eqQ, y_eqPP, if_pos, if_neg, ite_true, ite_false, not_true_eq_false, not_false_eq_true, and_true, true_and, and_false, false_and, or_true, true_or, or_false, false_or, x3]
    have s4 : ∀ n a, p_X11_rowsKept_4 σ (n + 1) (nI a) (nI 4) = some (nI a) := by
      intro n a
      rw [p_X11_rowsKept_4]; simp (disch := omega) only [y_lit, y_n1, nI_add, pk_mul, j_lt, j_b1_s, j_b2_s, j_b3_s, j_b0_s, y_bo, y_bo1, y_bo0, y_i0, y_i1, Classical.not_not, nI_clamp, y_ix, y_lt, y_le, y_eq, y_nP, y_nPs, y_ltP, y_ltQ, y_ltPP, y_eqP, y_eqQ, y_eqPP, if_pos, if_neg, ite_true, ite_false, not_true_eq_false, not_false_eq_true, and_true, true_and, and_false, false_and, or_true, true_or, or_false, false_or]
    unfold f_X11_rowsKept
    rw [show j_F = 4995 + 1 + 1 + 1 + 1 + 1 from rfl, show (0 : Int32) = nI 0 from rfl, s0, s1, s2, s3, s4, j_b1_s]
  have mm : p_X12_count_134 τ j_F (nI 0) (nI 0) = some (nI (0 + v0 + v1 + v2 + v3)) := by
    rw [show j_F = 4995 + 1 + 1 + 1 + 1 + 1 from rfl]
    have stp : ∀ n a i v, i < 4 → (if τ.1 94 i = nP 0 then nI 0 else nI 1) = nI v → p_X12_count_134 τ (n + 1) (nI a) (nI i) = p_X12_count_134 τ n (nI (a + v)) (nI (i + 1)) := by
      intro n a i v hi hv
      rw [p_X12_count_134, show (4 : Int32) = nI 4 from rfl, if_pos ((y_lt (by omega) (by omega)).mpr hi), y_ix (by omega) (by omega), nI_clamp (by omega), y_m1, show (0 : Int32) = nI 0 from rfl, show (1 : Int32) = nI 1 from rfl]
      simp only [j_lt]
      rw [hv, nI_add, nI_add]
    rw [stp _ _ _ _ (by omega) y0, stp _ _ _ _ (by omega) y1, stp _ _ _ _ (by omega) y2, stp _ _ _ _ (by omega) y3]
    rw [p_X12_count_134, if_neg (by decide)]
  unfold f_X11_count f_X12_count
  rw [rk]
  have ee : ∀ j, j < 24 → j_ix (nI j) 116 (some (τ.1 76 (nI j).toNatClampNeg)) = some (nI (b j)) := fun j hj => by
    rw [y_ix (by omega) (by omega), nI_clamp (by omega), hM.f hj]
  have r0 : j_ix (0 : Int32) 116 (some (τ.1 76 ((0 : Int32)).toNatClampNeg)) = some (nI (b 0)) := ee 0 (by omega)
  have r1 : j_ix (1 : Int32) 116 (some (τ.1 76 ((1 : Int32)).toNatClampNeg)) = some (nI (b 1)) := ee 1 (by omega)
  have r2 : j_ix (2 : Int32) 116 (some (τ.1 76 ((2 : Int32)).toNatClampNeg)) = some (nI (b 2)) := ee 2 (by omega)
  have r3 : j_ix (3 : Int32) 116 (some (τ.1 76 ((3 : Int32)).toNatClampNeg)) = some (nI (b 3)) := ee 3 (by omega)
  have r5 : j_ix (5 : Int32) 116 (some (τ.1 76 ((5 : Int32)).toNatClampNeg)) = some (nI (b 5)) := ee 5 (by omega)
  have r6 : j_ix (6 : Int32) 116 (some (τ.1 76 ((6 : Int32)).toNatClampNeg)) = some (nI (b 6)) := ee 6 (by omega)
  have r7 : j_ix (7 : Int32) 116 (some (τ.1 76 ((7 : Int32)).toNatClampNeg)) = some (nI (b 7)) := ee 7 (by omega)
  have r8 : j_ix (8 : Int32) 116 (some (τ.1 76 ((8 : Int32)).toNatClampNeg)) = some (nI (b 8)) := ee 8 (by omega)
  have r9 : j_ix (9 : Int32) 116 (some (τ.1 76 ((9 : Int32)).toNatClampNeg)) = some (nI (b 9)) := ee 9 (by omega)
  have mm' : p_X12_count_134 τ j_F (0 : Int32) (0 : Int32) = some (nI (0 + v0 + v1 + v2 + v3)) := by rw [show (0 : Int32) = nI 0 from rfl]; exact mm
  rw [r0, r1, r2, r3, r5, r6, r7, r8, r9, mm', hN.f2, hN.f3, hN.f4, hN.f5, hN.f7, hN.f6, hN.d0, hN.d1, hN.f1, t1, t2]
  have go : ∀ (p : Prop) [Decidable p] (A B : Option Int32), (∃ v, A = some v) → (∃ v, B = some v) → ∃ v, (if p then A else B) = some v := by
    intro p _ A B hA hB
    by_cases h : p
    · rw [if_pos h]; exact hA
    · rw [if_neg h]; exact hB
  refine (fun (E : Option Int32) (h : ∃ v, E = some v) => (⟨h.choose, h.choose_spec, h.choose_spec⟩ : ∃ v, E = some v ∧ E = some v)) _ ?_
  refine go _ _ _ ⟨_, rfl⟩ ?_
  refine go _ _ _ ⟨_, rfl⟩ ?_
  refine go _ _ _ ⟨_, rfl⟩ ?_
  refine go _ _ _ ⟨_, rfl⟩ ?_
  refine go _ _ _ ⟨_, rfl⟩ ?_
  refine go _ _ _ ⟨_, rfl⟩ ?_
  refine go _ _ _ ⟨_, rfl⟩ ?_
  refine go _ _ _ ⟨_, rfl⟩ ?_
  refine go _ _ _ ⟨_, rfl⟩ ?_
  refine go _ _ _ ⟨_, rfl⟩ ?_
  exact go _ _ _ ⟨_, rfl⟩ ⟨_, rfl⟩
end Z
section R
theorem yc_zero {d : Nat} : ∀ (m i n : Nat) (σ : j_G), i + m = 60 → m < n → ∃ σ', p_X8_make_23 d n (nI i) σ = some σ' ∧ σ'.1 = σ.1 ∧ (∀ x, x ≠ d → σ'.2 x = σ.2 x) ∧ (∀ j, j < i → σ'.2 d j = σ.2 d j) ∧ ∀ j, i ≤ j → j < 60 → σ'.2 d j = 0 := by
  intro m
  induction m with
  | zero =>
    intro i n σ h hn
    obtain ⟨n, rfl⟩ := y_pos hn
    refine ⟨σ, ?_, rfl, fun _ _ => rfl, fun _ _ => rfl, fun j a c => by omega⟩
    unfold p_X8_make_23; simp (disch := omega) only [y_lit, y_n1, nI_add, pk_mul, j_lt, j_b1_s, j_b2_s, j_b3_s, j_b0_s, y_bo, y_bo1, y_bo0, y_i0, y_i1, Classical.not_not, nI_clamp, y_ix, y_lt, y_le, y_eq, y_nP, y_nPs, y_ltP, y_ltQ, y_ltPP, y_eqP, y_eqQ, y_eqPP, if_pos, if_neg, ite_true, ite_false, not_true_eq_false, not_false_eq_true, and_true, true_and, and_false, false_and, or_true, true_or, or_false, false_or]
  | succ m ih =>
    intro i n σ h hn
    obtain ⟨n, rfl⟩ := y_pos hn
    obtain ⟨σ', e1, e2, e3, e4, e5⟩ := ih (i + 1) n (j_sl σ d i 0) (by omega) (by omega)
    refine ⟨σ', ?_, e2, fun x hx => ?_, fun j hj => ?_, fun j a c => ?_⟩
    · unfold p_X8_make_23; simp (disch := omega) only [y_lit, y_n1, nI_add, pk_mul, j_lt, j_b1_s, j_b2_s, j_b3_s, j_b0_s, y_bo, y_bo1, y_bo0, y_i0, y_i1, Classical.not_not, nI_clamp, y_ix, y_lt, y_le, y_eq, y_nP, y_nPs, y_ltP, y_ltQ, y_ltPP, y_eqP, y_eqQ, y_eqPP, if_pos, if_neg, ite_true, ite_false, not_true_eq_false, not_false_eq_true, and_true, true_and, and_false, false_and, or_true, true_or, or_false, false_or]; exact e1
    · rw [e3 x hx]; funext j; exact j_l_ne hx
    · rw [e4 j (by omega), j_l_nj (by omega)]
    · by_cases e : j = i
      · subst e; rw [e4 j (by omega), j_l_eq]
      · exact e5 j (by omega) c
theorem ym_zero {s : Nat} (hs : s < 4) : ∀ (m i n : Nat) (τ : j_G), i + m = 60 → m < n → ∃ τ', p_X12_row_52 (nI s) n (nI i) τ = some τ' ∧ τ'.1 = τ.1 ∧ (∀ x, x ≠ 96 → τ'.2 x = τ.2 x) ∧ (∀ j, j < 60 * s + i ∨ 60 * s + 60 ≤ j → τ'.2 96 j = τ.2 96 j) ∧ ∀ j, i ≤ j → j < 60 → τ'.2 96 (60 * s + j) = 0 := by
  intro m
  induction m with
  | zero =>
    intro i n τ h hn
    obtain ⟨n, rfl⟩ := y_pos hn
    refine ⟨τ, ?_, rfl, fun _ _ => rfl, fun _ _ => rfl, fun j a c => by omega⟩
    unfold p_X12_row_52; simp (disch := omega) only [y_lit, y_n1, nI_add, pk_mul, j_lt, j_b1_s, j_b2_s, j_b3_s, j_b0_s, y_bo, y_bo1, y_bo0, y_i0, y_i1, Classical.not_not, nI_clamp, y_ix, y_lt, y_le, y_eq, y_nP, y_nPs, y_ltP, y_ltQ, y_ltPP, y_eqP, y_eqQ, y_eqPP, if_pos, if_neg, ite_true, ite_false, not_true_eq_false, not_false_eq_true, and_true, true_and, and_false, false_and, or_true, true_or, or_false, false_or]
  | succ m ih =>
    intro i n τ h hn
    obtain ⟨n, rfl⟩ := y_pos hn
    obtain ⟨τ', e1, e2, e3, e4, e5⟩ := ih (i + 1) n (j_sl τ 96 (60 * s + i) 0) (by omega) (by omega)
    refine ⟨τ', ?_, e2, fun x hx => ?_, fun j hj => ?_, fun j a c => ?_⟩
    · unfold p_X12_row_52; simp (disch := omega) only [y_lit, y_n1, nI_add, pk_mul, j_lt, j_b1_s, j_b2_s, j_b3_s, j_b0_s, y_bo, y_bo1, y_bo0, y_i0, y_i1, Classical.not_not, nI_clamp, y_ix, y_lt, y_le, y_eq, y_nP, y_nPs, y_ltP, y_ltQ, y_ltPP, y_eqP, y_eqQ, y_eqPP, if_pos, if_neg, ite_true, ite_false, not_true_eq_false, not_false_eq_true, and_true, true_and, and_false, false_and, or_true, true_or, or_false, false_or]; exact e1
    · rw [e3 x hx]; funext j; exact j_l_ne hx
    · rw [e4 j (by omega), j_l_nj (by omega)]
    · by_cases e : j = i
      · subst e; rw [e4 _ (by omega), j_l_eq]
      · exact e5 j (by omega) c
variable {σ τ : j_G}
theorem z_row (hR : j_Rel σ τ) (a1 a2 a3 : Int32) : ∃ v σ1 τ1, f_X11_row a1 a2 a3 σ = some (v, σ1) ∧ f_X12_row a1 a2 a3 τ = some (v, τ1) ∧ j_Rel σ1 τ1 := by
  have c60 : ∀ x : Int32, nI 60 < x ↔ 60 < x.toInt := fun x => by rw [j_ltI, nI_toInt (by omega)]; rfl
  have c0 : ∀ x : Int32, x < nI 0 ↔ x.toInt < 0 := fun x => by rw [j_ltI, nI_toInt (by omega)]; rfl
  have c3 : ∀ x : Int32, (¬ x < nI 0 ∧ ¬ nI 3 < x) ↔ y_rg x 4 := fun x => y_c3 (by omega)
  have c3' : ∀ x : Int32, ∀ P : Prop, (x < nI 0 ∨ nI 3 < x ∨ P) ↔ (¬ y_rg x 4 ∨ P) := fun x P => by
    rw [← or_assoc, y_c5 (by omega)]
  by_cases h : y_rg a1 4
  · by_cases h2 : y_rg a2 4
    · by_cases h3 : 60 < a3.toInt
      · refine ⟨-2, σ, τ, ?_, ?_, hR⟩
        · unfold f_X11_row; simp (disch := omega) only [y_lit, y_n1, nI_add, pk_mul, j_lt, j_b1_s, j_b2_s, j_b3_s, j_b0_s, y_bo, y_bo1, y_bo0, y_i0, y_i1, Classical.not_not, nI_clamp, y_ix, y_lt, y_le, y_eq, y_nP, y_nPs, y_ltP, y_ltQ, y_ltPP, y_eqP, y_eqQ, y_eqPP, if_pos, if_neg, ite_true, ite_false, not_true_eq_false, not_false_eq_true, and_true, true_and, and_false, false_and, or_true, true_or, or_false, false_or, yc_isSlot, c3', h, h2, c60 a3, h3]
        · unfold f_X12_row; simp (disch := omega) only [y_lit, y_n1, nI_add, pk_mul, j_lt, j_b1_s, j_b2_s, j_b3_s, j_b0_s, y_bo, y_bo1, y_bo0, y_i0, y_i1, Classical.not_not, nI_clamp, y_ix, y_lt, y_le, y_eq, y_nP, y_nPs, y_ltP, y_ltQ, y_ltPP, y_eqP, y_eqQ, y_eqPP, if_pos, if_neg, ite_true, ite_false, not_true_eq_false, not_false_eq_true, and_true, true_and, and_false, false_and, or_true, true_or, or_false, false_or, ym_isSlot, y_lit64, y_in, c3, h, h2, c60 a3, h3]
      · by_cases h4 : a3.toInt < 0
        · refine ⟨-3, σ, τ, ?_, ?_, hR⟩
          · unfold f_X11_row; simp (disch := omega) only [y_lit, y_n1, nI_add, pk_mul, j_lt, j_b1_s, j_b2_s, j_b3_s, j_b0_s, y_bo, y_bo1, y_bo0, y_i0, y_i1, Classical.not_not, nI_clamp, y_ix, y_lt, y_le, y_eq, y_nP, y_nPs, y_ltP, y_ltQ, y_ltPP, y_eqP, y_eqQ, y_eqPP, if_pos, if_neg, ite_true, ite_false, not_true_eq_false, not_false_eq_true, and_true, true_and, and_false, false_and, or_true, true_or, or_false, false_or, yc_isSlot, c3', y_c5, h, h2, c60 a3, h3, c0 a3, h4]
          · unfold f_X12_row; simp (disch := omega) only [y_lit, y_n1, nI_add, pk_mul, j_lt, j_b1_s, j_b2_s, j_b3_s, j_b0_s, y_bo, y_bo1, y_bo0, y_i0, y_i1, Classical.not_not, nI_clamp, y_ix, y_lt, y_le, y_eq, y_nP, y_nPs, y_ltP, y_ltQ, y_ltPP, y_eqP, y_eqQ, y_eqPP, if_pos, if_neg, ite_true, ite_false, not_true_eq_false, not_false_eq_true, and_true, true_and, and_false, false_and, or_true, true_or, or_false, false_or, ym_isSlot, y_lit64, y_in, c3, h, h2, c60 a3, h3, c0 a3, h4]
        · obtain ⟨s, hs, rfl⟩ := y_of _ _ h.1 h.2
          obtain ⟨w, hw, rfl⟩ := y_of _ _ h2.1 h2.2
          obtain ⟨n, hn, rfl⟩ := y_of a3 61 (by omega) (by omega)
          obtain ⟨b, hW, hN, hM, hK⟩ := id hR
          obtain ⟨c, d, hc, _⟩ := hK.slot s hs
          have hcd : c ≠ d := by unfold y_sc at hc; omega
          obtain ⟨σ1, e1, e2, e3, e4, e5⟩ := yc_zero (d := d) 60 0 j_F (j_si (j_si σ c 1 (nI w)) c 0 (nI n)) (by omega) (y_F (by omega))
          obtain ⟨τ1, f1, f2, f3, f4, f5⟩ := ym_zero hs 60 0 j_F (j_si (j_si τ 94 s (nI n)) 95 s (nI w)) (by omega) (y_F (by omega))
          refine ⟨0, σ1, τ1, ?_, ?_, y_slots hR hc ⟨fun x hx => ?_, fun x hx => ?_, fun x h1 h2 => ?_, fun x h1 h2 => ?_, fun j hj => ?_, fun j hj => ?_⟩ (Or.inr ⟨n, w, by omega, by omega, ?_, ?_, ?_, ?_, fun i hi => ?_⟩)⟩
          · unfold f_X11_row f_X8_make
            rcases hc with ⟨rfl, rfl, rfl⟩ | ⟨rfl, rfl, rfl⟩ | ⟨rfl, rfl, rfl⟩ | ⟨rfl, rfl, rfl⟩
            · simp (disch := omega) only [y_lit, y_n1, nI_add, pk_mul, j_lt, j_b1_s, j_b2_s, j_b3_s, j_b0_s, y_bo, y_bo1, y_bo0, y_i0, y_i1, Classical.not_not, nI_clamp, y_ix, y_lt, y_le, y_eq, y_nP, y_nPs, y_ltP, y_ltQ, y_ltPP, y_eqP, y_eqQ, y_eqPP, if_pos, if_neg, ite_true, ite_false, not_true_eq_false, not_false_eq_true, and_true, true_and, and_false, false_and, or_true, true_or, or_false, false_or, yc_isSlot, y_rn, e1]
            · simp (disch := omega) only [y_lit, y_n1, nI_add, pk_mul, j_lt, j_b1_s, j_b2_s, j_b3_s, j_b0_s, y_bo, y_bo1, y_bo0, y_i0, y_i1, Classical.not_not, nI_clamp, y_ix, y_lt, y_le, y_eq, y_nP, y_nPs, y_ltP, y_ltQ, y_ltPP, y_eqP, y_eqQ, y_eqPP, if_pos, if_neg, ite_true, ite_false, not_true_eq_false, not_false_eq_true, and_true, true_and, and_false, false_and, or_true, true_or, or_false, false_or, yc_isSlot, y_rn, e1]
            · simp (disch := omega) only [y_lit, y_n1, nI_add, pk_mul, j_lt, j_b1_s, j_b2_s, j_b3_s, j_b0_s, y_bo, y_bo1, y_bo0, y_i0, y_i1, Classical.not_not, nI_clamp, y_ix, y_lt, y_le, y_eq, y_nP, y_nPs, y_ltP, y_ltQ, y_ltPP, y_eqP, y_eqQ, y_eqPP, if_pos, if_neg, ite_true, ite_false, not_true_eq_false, not_false_eq_true, and_true, true_and, and_false, false_and, or_true, true_or, or_false, false_or, yc_isSlot, y_rn, e1]
            · simp (disch := omega) only [y_lit, y_n1, nI_add, pk_mul, j_lt, j_b1_s, j_b2_s, j_b3_s, j_b0_s, y_bo, y_bo1, y_bo0, y_i0, y_i1, Classical.not_not, nI_clamp, y_ix, y_lt, y_le, y_eq, y_nP, y_nPs, y_ltP, y_ltQ, y_ltPP, y_eqP, y_eqQ, y_eqPP, if_pos, if_neg, ite_true, ite_false, not_true_eq_false, not_false_eq_true, and_true, true_and, and_false, false_and, or_true, true_or, or_false, false_or, yc_isSlot, y_rn, e1]
          · unfold f_X12_row; simp (disch := omega) only [y_lit, y_n1, nI_add, pk_mul, j_lt, j_b1_s, j_b2_s, j_b3_s, j_b0_s, y_bo, y_bo1, y_bo0, y_i0, y_i1, Classical.not_not, nI_clamp, y_ix, y_lt, y_le, y_eq, y_nP, y_nPs, y_ltP, y_ltQ, y_ltPP, y_eqP, y_eqQ, y_eqPP, if_pos, if_neg, ite_true, ite_false, not_true_eq_false, not_false_eq_true, and_true, true_and, and_false, false_and, or_true, true_or, or_false, false_or, ym_isSlot, y_rn, y_lit64, y_in, f1]
          · rw [e2]; funext j; rw [j_r_ne hx, j_r_ne hx]
          · rw [e3 x hx]; rfl
          · rw [f2]; funext j; rw [j_r_ne h2, j_r_ne h1]
          · rw [f3 x h1]; rfl
          · rw [f2]; exact ⟨by rw [j_r_ne (by omega), j_r_nj hj], by rw [j_r_nj hj, j_r_ne (by omega)]⟩
          · rw [f4 j (by omega)]; rfl
          · rw [e2, j_r_eq]
          · rw [f2, j_r_ne (by omega), j_r_eq]
          · rw [e2, j_r_nj (by omega), j_r_eq]
          · rw [f2, j_r_eq]
          · rw [e5 i (by omega) (by omega), f5 i (by omega) (by omega)]
    · refine ⟨-2, σ, τ, ?_, ?_, hR⟩
      · unfold f_X11_row; simp (disch := omega) only [y_lit, y_n1, nI_add, pk_mul, j_lt, j_b1_s, j_b2_s, j_b3_s, j_b0_s, y_bo, y_bo1, y_bo0, y_i0, y_i1, Classical.not_not, nI_clamp, y_ix, y_lt, y_le, y_eq, y_nP, y_nPs, y_ltP, y_ltQ, y_ltPP, y_eqP, y_eqQ, y_eqPP, if_pos, if_neg, ite_true, ite_false, not_true_eq_false, not_false_eq_true, and_true, true_and, and_false, false_and, or_true, true_or, or_false, false_or, yc_isSlot, c3', h2]
      · unfold f_X12_row; simp (disch := omega) only [y_lit, y_n1, nI_add, pk_mul, j_lt, j_b1_s, j_b2_s, j_b3_s, j_b0_s, y_bo, y_bo1, y_bo0, y_i0, y_i1, Classical.not_not, nI_clamp, y_ix, y_lt, y_le, y_eq, y_nP, y_nPs, y_ltP, y_ltQ, y_ltPP, y_eqP, y_eqQ, y_eqPP, if_pos, if_neg, ite_true, ite_false, not_true_eq_false, not_false_eq_true, and_true, true_and, and_false, false_and, or_true, true_or, or_false, false_or, ym_isSlot, y_lit64, y_in, c3, h2]
  · refine ⟨-2, σ, τ, ?_, ?_, hR⟩
    · unfold f_X11_row; simp (disch := omega) only [y_lit, y_n1, nI_add, pk_mul, j_lt, j_b1_s, j_b2_s, j_b3_s, j_b0_s, y_bo, y_bo1, y_bo0, y_i0, y_i1, Classical.not_not, nI_clamp, y_ix, y_lt, y_le, y_eq, y_nP, y_nPs, y_ltP, y_ltQ, y_ltPP, y_eqP, y_eqQ, y_eqPP, if_pos, if_neg, ite_true, ite_false, not_true_eq_false, not_false_eq_true, and_true, true_and, and_false, false_and, or_true, true_or, or_false, false_or, yc_isSlot, h]
    · unfold f_X12_row; simp (disch := omega) only [y_lit, y_n1, nI_add, pk_mul, j_lt, j_b1_s, j_b2_s, j_b3_s, j_b0_s, y_bo, y_bo1, y_bo0, y_i0, y_i1, Classical.not_not, nI_clamp, y_ix, y_lt, y_le, y_eq, y_nP, y_nPs, y_ltP, y_ltQ, y_ltPP, y_eqP, y_eqQ, y_eqPP, if_pos, if_neg, ite_true, ite_false, not_true_eq_false, not_false_eq_true, and_true, true_and, and_false, false_and, or_true, true_or, or_false, false_or, ym_isSlot, h]
end R
