/-! ===== what was heard ===== -/
def y_sc (s c d : Nat) : Prop := (s = 0 ∧ c = 67 ∧ d = 68) ∨ (s = 1 ∧ c = 69 ∧ d = 70) ∨ (s = 2 ∧ c = 71 ∧ d = 72) ∨ (s = 3 ∧ c = 73 ∧ d = 74)
/-- a slot's row of n numbers of a width -/
def y_ro (σ τ : j_G) (s c d n w : Nat) : Prop := y_sc s c d ∧ n ≤ 60 ∧ w ≤ 3 ∧ σ.1 c 0 = nI n ∧ τ.1 94 s = nI n ∧ σ.1 c 1 = nI w ∧ τ.1 95 s = nI w ∧ ∀ i, i < n → σ.2 d i = τ.2 96 (60 * s + i)
/-- a slot's row of numbers that are told by e -/
def y_hd (σ τ : j_G) (s c d n : Nat) (e : Nat → Nat) : Prop := y_sc s c d ∧ n ≤ 60 ∧ σ.1 c 0 = nI n ∧ τ.1 94 s = nI n ∧ ∀ i, i < n → e i < 1000 ∧ σ.2 d i = lN (e i) ∧ τ.2 96 (60 * s + i) = lN (e i)
theorem y_K.slot {σ τ : j_G} (h : y_K σ τ) (s : Nat) (hs : s < 4) : ∃ c d, y_sc s c d ∧ ((σ.1 c 0 = nP 0 ∧ τ.1 94 s = nP 0) ∨ ∃ n w, y_ro σ τ s c d n w) := by
  have q := h.2.1
  have go : ∀ c d, y_sc s c d → y_sl σ τ s c d → ∃ c d, y_sc s c d ∧ ((σ.1 c 0 = nP 0 ∧ τ.1 94 s = nP 0) ∨ ∃ n w, y_ro σ τ s c d n w) := by
    intro c d hc hl
    refine ⟨c, d, hc, ?_⟩
    rcases hl with hl | ⟨n, w, h1, h2, h3, h4, h5, h6, h7⟩
    · exact Or.inl hl
    · exact Or.inr ⟨n, w, hc, h1, h2, h3, h4, h5, h6, h7⟩
  obtain rfl | rfl | rfl | rfl : s = 0 ∨ s = 1 ∨ s = 2 ∨ s = 3 := by omega
  · exact go 67 68 (Or.inl ⟨rfl, rfl, rfl⟩) q.1
  · exact go 69 70 (Or.inr (Or.inl ⟨rfl, rfl, rfl⟩)) q.2.1
  · exact go 71 72 (Or.inr (Or.inr (Or.inl ⟨rfl, rfl, rfl⟩))) q.2.2.1
  · exact go 73 74 (Or.inr (Or.inr (Or.inr ⟨rfl, rfl, rfl⟩))) q.2.2.2
/-- a number that may be looked at -/
abbrev y_nb (x : Int64) (n : Nat) : Prop := 0 ≤ x.toInt ∧ x.toInt < n
theorem y_nbe {x : Int64} {n : Nat} (h : y_nb x n) : ∃ k, k < n ∧ x = lN k := by
  have h0 : ¬ x < 0 := by
    rw [Int64.lt_iff_toInt_lt, show (0 : Int64).toInt = 0 from by decide]
    have := h.1; omega
  obtain ⟨k, hk, rfl⟩ := pk_lOf h0
  have := h.2
  rw [pk_lT hk] at this
  exact ⟨k, by omega, rfl⟩
theorem y_nbN {k n : Nat} (hk : k < 2 ^ 62) : y_nb (lN k) n ↔ k < n := by
  unfold y_nb; rw [pk_lT (by omega)]; omega
theorem y_nb1 {x : Int64} {n : Nat} (hn : n < 2 ^ 31) : (¬ x < (0 : Int64) ∧ ¬ ¬ x < (nI n).toInt64) ↔ y_nb x n := by
  rw [Int64.lt_iff_toInt_lt, Int64.lt_iff_toInt_lt, show (0 : Int64).toInt = 0 from by decide, j_l64, nI_toInt hn]
  unfold y_nb; omega
theorem y_nb2 {x : Int64} {n : Nat} (hn : n < 2 ^ 31) : f_X12_in x (0 : Int64) (nP n).toInt64 = if 0 ≤ x.toInt ∧ x.toInt < n then nI 1 else nI 0 := by
  unfold f_X12_in
  simp only [Int64.lt_iff_toInt_lt, show (0 : Int64).toInt = 0 from by decide, j_l64, y_nPt hn]
  by_cases h : 0 ≤ x.toInt ∧ x.toInt < n
  · rw [if_pos h, if_pos (by omega)]; rfl
  · rw [if_neg h, if_neg (by omega)]; rfl
section C
variable {σ τ : j_G} {b : Nat → Nat} {s c d n w : Nat}
theorem yc_isSlot {x : Int32} : f_X11_isSlot x = if y_rg x 4 then nI 1 else nI 0 := by
  unfold f_X11_isSlot; simp only [y_lit]; simp (disch := omega) only [y_c1]
theorem ym_isSlot {x : Int32} : f_X12_isSlot x = if y_rg x 4 then nI 1 else nI 0 := by
  unfold f_X12_isSlot; simp (disch := omega) only [y_lit, y_n1, nI_add, pk_mul, j_lt, j_b1_s, j_b2_s, j_b3_s, j_b0_s, y_bo, y_bo1, y_bo0, y_i0, y_i1, Classical.not_not, nI_clamp, y_ix, y_lt, y_le, y_eq, y_nP, y_nPs, y_ltP, y_ltQ, y_ltPP, y_eqP, y_eqQ, y_eqPP, if_pos, if_neg, ite_true, ite_false, not_true_eq_false, not_false_eq_true, and_true, true_and, and_false, false_and, or_true, true_or, or_false, false_or, y_lit64, y_in, y_c3]
theorem ym_isHoleL (hM : y_M τ b) (hW : y_W b) (x : Int64) : f_X12_isHole x τ = some (if 0 ≤ x.toInt ∧ x.toInt < y_ho b then nI 1 else nI 0) := by
  have := hW.ho
  unfold f_X12_isHole; rw [ym_holes hM, j_b1_s, show (1 : Int32) = nI 1 from rfl, y_nP, y_nb2 (by omega), y_bo]
theorem ym_isTickL (hM : y_M τ b) (hW : y_W b) (x : Int64) : f_X12_isTick x τ = some (if 0 ≤ x.toInt ∧ x.toInt < b 2 then nI 1 else nI 0) := by
  have := hW.b2
  have e2 := hM.f (j := 2) (by omega)
  unfold f_X12_isTick; rw [show (2 : Int32) = nI 2 from rfl, y_ix (by omega) (by omega), nI_clamp (by omega), e2, show (1 : Int32) = nI 1 from rfl, y_nP, y_nb2 (by omega), y_bo]
theorem ym_num (hr : y_ro σ τ s c d n w) {i : Nat} (hi : i < n) : f_X12_numberAt (nI s) (nI i) τ = some (σ.2 d i) := by
  obtain ⟨hs, hn, hw, h1, h2, h3, h4, h5⟩ := hr
  have s4 : s < 4 := by unfold y_sc at hs; omega
  unfold f_X12_numberAt; simp (disch := omega) only [y_lit, y_n1, nI_add, pk_mul, j_lt, j_b1_s, j_b2_s, j_b3_s, j_b0_s, y_bo, y_bo1, y_bo0, y_i0, y_i1, Classical.not_not, nI_clamp, y_ix, y_lt, y_le, y_eq, y_nP, y_nPs, y_ltP, y_ltQ, y_ltPP, y_eqP, y_eqQ, y_eqPP, if_pos, if_neg, ite_true, ite_false, not_true_eq_false, not_false_eq_true, and_true, true_and, and_false, false_and, or_true, true_or, or_false, false_or]
  rw [h5 i hi]
/-- both look whether all are holes -/
theorem y_below (hr : y_ro σ τ s c d n w) (hN : y_N σ b) (hM : y_M τ b) (hW : y_W b) : (f_X8_isBelow c d (nI (y_ho b)) (nI (y_ho b)) σ = some (nI 0) ∧ p_X12_asksHeard_32 (nI s) τ j_F (nI 0) = some (-2)) ∨ (f_X8_isBelow c d (nI (y_ho b)) (nI (y_ho b)) σ = some (nI 1) ∧ p_X12_asksHeard_32 (nI s) τ j_F (nI 0) = some (nI 0) ∧ ∃ e, y_hd σ τ s c d n e ∧ ∀ i, i < n → e i < y_ho b) := by
  have h4 := hW.ho
  obtain ⟨hs, hn, hw, h1, h2, h3, h4', h5⟩ := id hr
  have s4 : s < 4 := by unfold y_sc at hs; omega
  have key : ∀ m i f, i + m = n → m < f → (p_X8_isBelow_2 c d (nI (y_ho b)) (nI (y_ho b)) σ f (nI i) = some (nI 0) ∧ p_X12_asksHeard_32 (nI s) τ f (nI i) = some (-2)) ∨ (p_X8_isBelow_2 c d (nI (y_ho b)) (nI (y_ho b)) σ f (nI i) = some (nI 1) ∧ p_X12_asksHeard_32 (nI s) τ f (nI i) = some (nI 0) ∧ ∀ j, i ≤ j → j < n → y_nb (σ.2 d j) (y_ho b)) := by
    intro m
    induction m with
    | zero =>
      intro i f h hf
      obtain ⟨f, rfl⟩ := y_pos hf
      refine Or.inr ⟨?_, ?_, fun j _ _ => by omega⟩
      · unfold p_X8_isBelow_2; simp (disch := omega) only [y_lit, y_n1, nI_add, pk_mul, j_lt, j_b1_s, j_b2_s, j_b3_s, j_b0_s, y_bo, y_bo1, y_bo0, y_i0, y_i1, Classical.not_not, nI_clamp, y_ix, y_lt, y_le, y_eq, y_nP, y_nPs, y_ltP, y_ltQ, y_ltPP, y_eqP, y_eqQ, y_eqPP, if_pos, if_neg, ite_true, ite_false, not_true_eq_false, not_false_eq_true, and_true, true_and, and_false, false_and, or_true, true_or, or_false, false_or, h1]
      · unfold p_X12_asksHeard_32; simp (disch := omega) only [y_lit, y_n1, nI_add, pk_mul, j_lt, j_b1_s, j_b2_s, j_b3_s, j_b0_s, y_bo, y_bo1, y_bo0, y_i0, y_i1, Classical.not_not, nI_clamp, y_ix, y_lt, y_le, y_eq, y_nP, y_nPs, y_ltP, y_ltQ, y_ltPP, y_eqP, y_eqQ, y_eqPP, if_pos, if_neg, ite_true, ite_false, not_true_eq_false, not_false_eq_true, and_true, true_and, and_false, false_and, or_true, true_or, or_false, false_or, h2]
    | succ m ih =>
      intro i f h hf
      obtain ⟨f, rfl⟩ := y_pos hf
      have num := ym_num hr (i := i) (by omega)
      have hlt : nI i < nI n := (y_lt (by omega) (by omega)).mpr (by omega)
      have e1 : p_X8_isBelow_2 c d (nI (y_ho b)) (nI (y_ho b)) σ (f + 1) (nI i) = if ¬ σ.2 d i < (0 : Int64) then (if ¬ σ.2 d i < (nI (y_ho b)).toInt64 then some (nI 0) else p_X8_isBelow_2 c d (nI (y_ho b)) (nI (y_ho b)) σ f (nI (i + 1))) else some (nI 0) := by
        rw [p_X8_isBelow_2, h1, if_pos hlt, if_neg (by decide)]
        simp only [j_lt, ite_self]
        rw [y_ix (by omega) (by omega), y_ix (by omega) (by omega), nI_clamp (by omega), show (1 : Int32) = nI 1 from rfl, nI_add]
        rfl
      have e2 : p_X12_asksHeard_32 (nI s) τ (f + 1) (nI i) = if (if 0 ≤ (σ.2 d i).toInt ∧ (σ.2 d i).toInt < y_ho b then nI 1 else nI 0) = nI 0 then some (-2) else p_X12_asksHeard_32 (nI s) τ f (nI (i + 1)) := by
        rw [p_X12_asksHeard_32, y_ix (by omega) (by omega), nI_clamp (by omega), h2, if_pos hlt, num, j_b1_s, ym_isHoleL hM hW, j_b1_s, show (1 : Int32) = nI 1 from rfl, nI_add]
        rfl
      rw [e1, e2]
      have q := y_nb1 (x := σ.2 d i) (n := y_ho b) (by omega)
      by_cases z : y_nb (σ.2 d i) (y_ho b)
      · have z' := q.mpr z
        rw [if_pos z'.1, if_neg z'.2, if_pos (show 0 ≤ (σ.2 d i).toInt ∧ (σ.2 d i).toInt < y_ho b from z), if_neg (show ¬ nI 1 = nI 0 from by decide)]
        rcases ih (i + 1) f (by omega) (by omega) with k | ⟨k1, k2, k3⟩
        · exact Or.inl k
        · refine Or.inr ⟨k1, k2, fun j h1 h2 => ?_⟩
          by_cases e : j = i
          · subst e; exact z
          · exact k3 j (by omega) h2
      · rw [if_neg (show ¬ (0 ≤ (σ.2 d i).toInt ∧ (σ.2 d i).toInt < y_ho b) from z), if_pos rfl]
        refine Or.inl ⟨?_, rfl⟩
        by_cases z1 : ¬ σ.2 d i < (0 : Int64)
        · rw [if_pos z1, if_pos (fun z2 => z (q.mp ⟨z1, fun z3 => z3 z2⟩))]
        · rw [if_neg z1]
  rcases key n 0 j_F (by omega) (y_F (by omega)) with k | ⟨k1, k2, k3⟩
  · exact Or.inl k
  · refine Or.inr ⟨k1, k2, fun i => (σ.2 d i).toInt.toNat, ⟨hs, hn, h1, h2, fun i hi => ?_⟩, fun i hi => ?_⟩
    · obtain ⟨k, hk, e⟩ := y_nbe (k3 i (by omega) hi)
      have e' : (σ.2 d i).toInt.toNat = k := by rw [e, pk_lT (by omega)]; rfl
      refine ⟨by show (σ.2 d i).toInt.toNat < 1000; omega, ?_, ?_⟩
      · show _ = lN (σ.2 d i).toInt.toNat; rw [e', e]
      · show _ = lN (σ.2 d i).toInt.toNat; rw [← h5 i hi, e', e]
    · obtain ⟨k, hk, e⟩ := y_nbe (k3 i (by omega) hi)
      have e' : (σ.2 d i).toInt.toNat = k := by rw [e, pk_lT (by omega)]; rfl
      show (σ.2 d i).toInt.toNat < _; omega
end C
/-- is it a row of holes -/
theorem y_why {σ τ : j_G} {b : Nat → Nat} (hW : y_W b) (hN : y_N σ b) (hM : y_M τ b) (hK : y_K σ τ) (a1 : Int32) : (∃ k : Int32, k < 0 ∧ ¬ k = 0 ∧ f_X11_whyUnheard a1 σ = some k ∧ f_X12_asksHeard a1 τ = some k) ∨ (f_X11_whyUnheard a1 σ = some (nI 0) ∧ f_X12_asksHeard a1 τ = some (nI 0) ∧ 0 < b 9 ∧ ∃ s c d n e, a1 = nI s ∧ y_hd σ τ s c d n e ∧ ∀ i, i < n → e i < y_ho b) := by
  have h4 := hW.ho
  by_cases h : y_rg a1 4
  · by_cases h9 : 0 < b 9
    · obtain ⟨s, hs, rfl⟩ := y_of _ _ h.1 h.2
      obtain ⟨c, d, hc, hk⟩ := hK.slot s hs
      rcases hk with ⟨k1, k2⟩ | ⟨n, w, hr⟩
      · refine Or.inl ⟨-6, by decide, by decide, ?_, ?_⟩
        · unfold f_X11_whyUnheard f_X8_isMade
          rcases hc with ⟨rfl, rfl, rfl⟩ | ⟨rfl, rfl, rfl⟩ | ⟨rfl, rfl, rfl⟩ | ⟨rfl, rfl, rfl⟩
          · simp (disch := omega) only [y_lit, y_n1, nI_add, pk_mul, j_lt, j_b1_s, j_b2_s, j_b3_s, j_b0_s, y_bo, y_bo1, y_bo0, y_i0, y_i1, Classical.not_not, nI_clamp, y_ix, y_lt, y_le, y_eq, y_nP, y_nPs, y_ltP, y_ltQ, y_ltPP, y_eqP, y_eqQ, y_eqPP, if_pos, if_neg, ite_true, ite_false, not_true_eq_false, not_false_eq_true, and_true, true_and, and_false, false_and, or_true, true_or, or_false, false_or, yc_isSlot, y_rn, yc_isTold hN hW, k1]
          · simp (disch := omega) only [y_lit, y_n1, nI_add, pk_mul, j_lt, j_b1_s, j_b2_s, j_b3_s, j_b0_s, y_bo, y_bo1, y_bo0, y_i0, y_i1, Classical.not_not, nI_clamp, y_ix, y_lt, y_le, y_eq, y_nP, y_nPs, y_ltP, y_ltQ, y_ltPP, y_eqP, y_eqQ, y_eqPP, if_pos, if_neg, ite_true, ite_false, not_true_eq_false, not_false_eq_true, and_true, true_and, and_false, false_and, or_true, true_or, or_false, false_or, yc_isSlot, y_rn, yc_isTold hN hW, k1]
          · simp (disch := omega) only [y_lit, y_n1, nI_add, pk_mul, j_lt, j_b1_s, j_b2_s, j_b3_s, j_b0_s, y_bo, y_bo1, y_bo0, y_i0, y_i1, Classical.not_not, nI_clamp, y_ix, y_lt, y_le, y_eq, y_nP, y_nPs, y_ltP, y_ltQ, y_ltPP, y_eqP, y_eqQ, y_eqPP, if_pos, if_neg, ite_true, ite_false, not_true_eq_false, not_false_eq_true, and_true, true_and, and_false, false_and, or_true, true_or, or_false, false_or, yc_isSlot, y_rn, yc_isTold hN hW, k1]
          · simp (disch := omega) only [y_lit, y_n1, nI_add, pk_mul, j_lt, j_b1_s, j_b2_s, j_b3_s, j_b0_s, y_bo, y_bo1, y_bo0, y_i0, y_i1, Classical.not_not, nI_clamp, y_ix, y_lt, y_le, y_eq, y_nP, y_nPs, y_ltP, y_ltQ, y_ltPP, y_eqP, y_eqQ, y_eqPP, if_pos, if_neg, ite_true, ite_false, not_true_eq_false, not_false_eq_true, and_true, true_and, and_false, false_and, or_true, true_or, or_false, false_or, yc_isSlot, y_rn, yc_isTold hN hW, k1]
        · unfold f_X12_asksHeard; simp (disch := omega) only [y_lit, y_n1, nI_add, pk_mul, j_lt, j_b1_s, j_b2_s, j_b3_s, j_b0_s, y_bo, y_bo1, y_bo0, y_i0, y_i1, Classical.not_not, nI_clamp, y_ix, y_lt, y_le, y_eq, y_nP, y_nPs, y_ltP, y_ltQ, y_ltPP, y_eqP, y_eqQ, y_eqPP, if_pos, if_neg, ite_true, ite_false, not_true_eq_false, not_false_eq_true, and_true, true_and, and_false, false_and, or_true, true_or, or_false, false_or, ym_isSlot, y_rn, ym_isBoard hM hW, k2]
      · obtain ⟨_, hn, hw, r1, r2, r3, r4, r5⟩ := id hr
        have cw : f_X11_whyUnheard (nI s) σ = j_b1 (f_X8_isBelow c d (nI (y_ho b)) (nI (y_ho b)) σ) (fun v1 => if ¬ v1 = nI 0 then some (nI 0) else some (-2)) := by
          unfold f_X11_whyUnheard f_X8_isMade
          rcases hc with ⟨rfl, rfl, rfl⟩ | ⟨rfl, rfl, rfl⟩ | ⟨rfl, rfl, rfl⟩ | ⟨rfl, rfl, rfl⟩
          · simp (disch := omega) only [y_lit, y_n1, nI_add, pk_mul, j_lt, j_b1_s, j_b2_s, j_b3_s, j_b0_s, y_bo, y_bo1, y_bo0, y_i0, y_i1, Classical.not_not, nI_clamp, y_ix, y_lt, y_le, y_eq, y_nP, y_nPs, y_ltP, y_ltQ, y_ltPP, y_eqP, y_eqQ, y_eqPP, if_pos, if_neg, ite_true, ite_false, not_true_eq_false, not_false_eq_true, and_true, true_and, and_false, false_and, or_true, true_or, or_false, false_or, yc_isSlot, y_rn, yc_isTold hN hW, r1, yc_holes hN]
          · simp (disch := omega) only [y_lit, y_n1, nI_add, pk_mul, j_lt, j_b1_s, j_b2_s, j_b3_s, j_b0_s, y_bo, y_bo1, y_bo0, y_i0, y_i1, Classical.not_not, nI_clamp, y_ix, y_lt, y_le, y_eq, y_nP, y_nPs, y_ltP, y_ltQ, y_ltPP, y_eqP, y_eqQ, y_eqPP, if_pos, if_neg, ite_true, ite_false, not_true_eq_false, not_false_eq_true, and_true, true_and, and_false, false_and, or_true, true_or, or_false, false_or, yc_isSlot, y_rn, yc_isTold hN hW, r1, yc_holes hN]
          · simp (disch := omega) only [y_lit, y_n1, nI_add, pk_mul, j_lt, j_b1_s, j_b2_s, j_b3_s, j_b0_s, y_bo, y_bo1, y_bo0, y_i0, y_i1, Classical.not_not, nI_clamp, y_ix, y_lt, y_le, y_eq, y_nP, y_nPs, y_ltP, y_ltQ, y_ltPP, y_eqP, y_eqQ, y_eqPP, if_pos, if_neg, ite_true, ite_false, not_true_eq_false, not_false_eq_true, and_true, true_and, and_false, false_and, or_true, true_or, or_false, false_or, yc_isSlot, y_rn, yc_isTold hN hW, r1, yc_holes hN]
          · simp (disch := omega) only [y_lit, y_n1, nI_add, pk_mul, j_lt, j_b1_s, j_b2_s, j_b3_s, j_b0_s, y_bo, y_bo1, y_bo0, y_i0, y_i1, Classical.not_not, nI_clamp, y_ix, y_lt, y_le, y_eq, y_nP, y_nPs, y_ltP, y_ltQ, y_ltPP, y_eqP, y_eqQ, y_eqPP, if_pos, if_neg, ite_true, ite_false, not_true_eq_false, not_false_eq_true, and_true, true_and, and_false, false_and, or_true, true_or, or_false, false_or, yc_isSlot, y_rn, yc_isTold hN hW, r1, yc_holes hN]
        have mw : f_X12_asksHeard (nI s) τ = p_X12_asksHeard_32 (nI s) τ j_F (nI 0) := by
          unfold f_X12_asksHeard; simp (disch := omega) only [y_lit, y_n1, nI_add, pk_mul, j_lt, j_b1_s, j_b2_s, j_b3_s, j_b0_s, y_bo, y_bo1, y_bo0, y_i0, y_i1, Classical.not_not, nI_clamp, y_ix, y_lt, y_le, y_eq, y_nP, y_nPs, y_ltP, y_ltQ, y_ltPP, y_eqP, y_eqQ, y_eqPP, if_pos, if_neg, ite_true, ite_false, not_true_eq_false, not_false_eq_true, and_true, true_and, and_false, false_and, or_true, true_or, or_false, false_or, ym_isSlot, y_rn, ym_isBoard hM hW, r2]
        rcases y_below hr hN hM hW with ⟨q1, q2⟩ | ⟨q1, q2, e, q3, q4⟩
        · refine Or.inl ⟨-2, by decide, by decide, ?_, ?_⟩
          · rw [cw, q1]; rfl
          · rw [mw, q2]
        · refine Or.inr ⟨?_, ?_, h9, s, c, d, n, e, rfl, q3, q4⟩
          · rw [cw, q1]; rfl
          · rw [mw, q2]
    · refine Or.inl ⟨-2, by decide, by decide, ?_, ?_⟩
      · unfold f_X11_whyUnheard; simp (disch := omega) only [y_lit, y_n1, nI_add, pk_mul, j_lt, j_b1_s, j_b2_s, j_b3_s, j_b0_s, y_bo, y_bo1, y_bo0, y_i0, y_i1, Classical.not_not, nI_clamp, y_ix, y_lt, y_le, y_eq, y_nP, y_nPs, y_ltP, y_ltQ, y_ltPP, y_eqP, y_eqQ, y_eqPP, if_pos, if_neg, ite_true, ite_false, not_true_eq_false, not_false_eq_true, and_true, true_and, and_false, false_and, or_true, true_or, or_false, false_or, yc_isSlot, yc_isTold hN hW]
      · unfold f_X12_asksHeard; simp (disch := omega) only [y_lit, y_n1, nI_add, pk_mul, j_lt, j_b1_s, j_b2_s, j_b3_s, j_b0_s, y_bo, y_bo1, y_bo0, y_i0, y_i1, Classical.not_not, nI_clamp, y_ix, y_lt, y_le, y_eq, y_nP, y_nPs, y_ltP, y_ltQ, y_ltPP, y_eqP, y_eqQ, y_eqPP, if_pos, if_neg, ite_true, ite_false, not_true_eq_false, not_false_eq_true, and_true, true_and, and_false, false_and, or_true, true_or, or_false, false_or, ym_isSlot, h, ym_isBoard hM hW]
  · refine Or.inl ⟨-2, by decide, by decide, ?_, ?_⟩
    · unfold f_X11_whyUnheard; simp (disch := omega) only [y_lit, y_n1, nI_add, pk_mul, j_lt, j_b1_s, j_b2_s, j_b3_s, j_b0_s, y_bo, y_bo1, y_bo0, y_i0, y_i1, Classical.not_not, nI_clamp, y_ix, y_lt, y_le, y_eq, y_nP, y_nPs, y_ltP, y_ltQ, y_ltPP, y_eqP, y_eqQ, y_eqPP, if_pos, if_neg, ite_true, ite_false, not_true_eq_false, not_false_eq_true, and_true, true_and, and_false, false_and, or_true, true_or, or_false, false_or, yc_isSlot, h]
    · unfold f_X12_asksHeard; simp (disch := omega) only [y_lit, y_n1, nI_add, pk_mul, j_lt, j_b1_s, j_b2_s, j_b3_s, j_b0_s, y_bo, y_bo1, y_bo0, y_i0, y_i1, Classical.not_not, nI_clamp, y_ix, y_lt, y_le, y_eq, y_nP, y_nPs, y_ltP, y_ltQ, y_ltPP, y_eqP, y_eqQ, y_eqPP, if_pos, if_neg, ite_true, ite_false, not_true_eq_false, not_false_eq_true, and_true, true_and, and_false, false_and, or_true, true_or, or_false, false_or, ym_isSlot, h]
