/-! ===== turn, paint, shut, train ===== -/
theorem y_flip1 (S C : BitVec 32) (h : S &&& C = 0#32) : S ^^^ C = (S &&& ~~~C) ||| C ∧ S &&& ~~~C = S := by
  have hb : ∀ (i : Nat) (hi : i < 32), (S[i] && C[i]) = false := fun i hi => by
    have := congrArg (fun z : BitVec 32 => z[i]) h
    simpa using this
  constructor
  · apply BitVec.eq_of_getElem_eq
    intro i hi
    have := hb i hi
    simp only [BitVec.getElem_xor, BitVec.getElem_or, BitVec.getElem_and, BitVec.getElem_not]
    cases h1 : S[i] <;> cases h2 : C[i] <;> simp_all
  · apply BitVec.eq_of_getElem_eq
    intro i hi
    have := hb i hi
    simp only [BitVec.getElem_and, BitVec.getElem_not]
    cases h1 : S[i] <;> cases h2 : C[i] <;> simp_all
theorem y_flip2 (S C : BitVec 32) (h : S &&& C = C) : S ^^^ C = S &&& ~~~C ∧ (S &&& ~~~C) ||| C = S := by
  have hb : ∀ (i : Nat) (hi : i < 32), (S[i] && C[i]) = C[i] := fun i hi => by
    have := congrArg (fun z : BitVec 32 => z[i]) h
    simpa using this
  constructor
  · apply BitVec.eq_of_getElem_eq
    intro i hi
    have := hb i hi
    simp only [BitVec.getElem_xor, BitVec.getElem_and, BitVec.getElem_not]
    cases h1 : S[i] <;> cases h2 : C[i] <;> simp_all
  · apply BitVec.eq_of_getElem_eq
    intro i hi
    have := hb i hi
    simp only [BitVec.getElem_or, BitVec.getElem_and, BitVec.getElem_not]
    cases h1 : S[i] <;> cases h2 : C[i] <;> simp_all
theorem y_xor {a c : Nat} : nI a ^^^ nI c = nI (a ^^^ c) := by
  apply Int32.toBitVec_inj.mp
  show BitVec.ofNat 32 a ^^^ BitVec.ofNat 32 c = BitVec.ofNat 32 (a ^^^ c)
  rw [BitVec.ofNat_xor]
theorem y_tb {s x : Nat} : s / 2 ^ x % 2 = 1 ↔ s.testBit x = true := by
  rw [Nat.testBit_eq_decide_div_mod_eq, decide_eq_true_iff]
theorem y_tb0 {s x : Nat} (h : s / 2 ^ x % 2 = 0) : s.testBit x = false := by
  cases hb : s.testBit x with
  | false => rfl
  | true => have := y_tb.mpr hb; omega
theorem y_tb2 {s x : Nat} : s / 2 ^ x % 2 = (s.testBit x).toNat := by
  cases hb : s.testBit x with
  | true => exact y_tb.mpr hb
  | false =>
    have : ¬ s / 2 ^ x % 2 = 1 := fun z => by rw [y_tb.mp z] at hb; cases hb
    show _ = 0; omega
theorem y_and0 {s x : Nat} (h : s / 2 ^ x % 2 = 0) : s &&& 2 ^ x = 0 := by
  apply Nat.eq_of_testBit_eq
  intro i
  rw [Nat.testBit_and, Nat.testBit_two_pow, Nat.zero_testBit]
  by_cases e : x = i
  · subst e; rw [y_tb0 h]; rfl
  · rw [decide_eq_false e, Bool.and_false]
theorem y_and1 {s x : Nat} (h : s / 2 ^ x % 2 = 1) : s &&& 2 ^ x = 2 ^ x := by
  apply Nat.eq_of_testBit_eq
  intro i
  rw [Nat.testBit_and, Nat.testBit_two_pow]
  by_cases e : x = i
  · subst e; rw [y_tb.mp h]; rfl
  · rw [decide_eq_false e, Bool.and_false]
theorem y_nPx (C : Int32) : (C ^^^ nP 0).toBitVec = ~~~ C.toBitVec := by
  show C.toBitVec ^^^ BitVec.allOnes 32 = _
  rw [BitVec.xor_allOnes]
/-- the new bits of a hole shut or not -/
def y_shn (s x w : Nat) : Nat := if s / 2 ^ x % 2 = w then s else s ^^^ 2 ^ x
theorem ym_shn {s x w : Nat} (hx : x < 12) (hw : w < 2) : (nI s &&& (nI (2 ^ x) ^^^ nP 0)) ||| (nI w <<< (nI x &&& nI 31)) = nI (y_shn s x w) := by
  have h2 : s / 2 ^ x % 2 < 2 := Nat.mod_lt _ (by omega)
  obtain rfl | rfl : w = 0 ∨ w = 1 := by omega
  · have e0 : nI 0 <<< (nI x &&& nI 31) = nI 0 := by
      rw [y_an (by omega), pk_shlN _ x (y_sm x (by omega)) (by omega), Nat.zero_mul]
    rw [e0]
    unfold y_shn
    by_cases c : s / 2 ^ x % 2 = 0
    · rw [if_pos c]
      have q := (y_flip1 (BitVec.ofNat 32 s) (BitVec.ofNat 32 (2 ^ x)) (by rw [← BitVec.ofNat_and, y_and0 c])).2
      apply Int32.toBitVec_inj.mp
      show (BitVec.ofNat 32 s &&& (nI (2 ^ x) ^^^ nP 0).toBitVec) ||| 0#32 = BitVec.ofNat 32 s
      rw [y_nPx, BitVec.or_zero]
      exact q
    · rw [if_neg c]
      have c1 : s / 2 ^ x % 2 = 1 := by omega
      have q := (y_flip2 (BitVec.ofNat 32 s) (BitVec.ofNat 32 (2 ^ x)) (by rw [← BitVec.ofNat_and, y_and1 c1])).1
      apply Int32.toBitVec_inj.mp
      show (BitVec.ofNat 32 s &&& (nI (2 ^ x) ^^^ nP 0).toBitVec) ||| 0#32 = BitVec.ofNat 32 (s ^^^ 2 ^ x)
      rw [y_nPx, BitVec.or_zero, BitVec.ofNat_xor]
      exact q.symm
  · rw [y_shl (by omega)]
    unfold y_shn
    by_cases c : s / 2 ^ x % 2 = 1
    · rw [if_pos c]
      have q := (y_flip2 (BitVec.ofNat 32 s) (BitVec.ofNat 32 (2 ^ x)) (by rw [← BitVec.ofNat_and, y_and1 c])).2
      apply Int32.toBitVec_inj.mp
      show (BitVec.ofNat 32 s &&& (nI (2 ^ x) ^^^ nP 0).toBitVec) ||| BitVec.ofNat 32 (2 ^ x) = BitVec.ofNat 32 s
      rw [y_nPx]
      exact q
    · rw [if_neg c]
      have c0 : s / 2 ^ x % 2 = 0 := by omega
      have q := (y_flip1 (BitVec.ofNat 32 s) (BitVec.ofNat 32 (2 ^ x)) (by rw [← BitVec.ofNat_and, y_and0 c0])).1
      apply Int32.toBitVec_inj.mp
      show (BitVec.ofNat 32 s &&& (nI (2 ^ x) ^^^ nP 0).toBitVec) ||| BitVec.ofNat 32 (2 ^ x) = BitVec.ofNat 32 (s ^^^ 2 ^ x)
      rw [y_nPx, BitVec.ofNat_xor]
      exact q.symm
theorem y_shn_o {s x w j : Nat} (h : j ≠ x) : y_shn s x w / 2 ^ j % 2 = s / 2 ^ j % 2 := by
  unfold y_shn
  split
  · rfl
  · rw [y_tb2, y_tb2, Nat.testBit_xor, Nat.testBit_two_pow_of_ne (fun z => h z.symm), Bool.xor_false]
theorem y_shn_lt {s x w n : Nat} (hs : s < 2 ^ n) (hx : x < n) : y_shn s x w < 2 ^ n := by
  unfold y_shn
  split
  · exact hs
  · exact Nat.xor_lt_two_pow hs (Nat.pow_lt_pow_right (by omega) hx)
theorem y_su_0 {f : Nat → Nat} : ∀ m i, y_su f m i 0 = 0 → ∀ j, i ≤ j → j < i + m → f j = 0 := by
  intro m
  induction m with
  | zero => intro i _ j h1 h2; omega
  | succ m ih =>
    intro i h j h1 h2
    rw [y_su_s] at h
    by_cases e : j = i
    · subst e; omega
    · exact ih (i + 1) (by omega) j (by omega) (by omega)
theorem y_oft0 {b : Nat → Nat} {x : Nat} (h : y_oft b x = 0) {k : Nat} (hk : k < b 5) : b (24 + 3 * k) ≠ x ∧ b (25 + 3 * k) ≠ x + 1 := by
  have q := y_su_0 (b 5) 0 h k (by omega) (by omega)
  unfold y_of1 at q
  by_cases c : b (24 + 3 * k) = x ∨ b (25 + 3 * k) = x + 1
  · rw [if_pos c] at q; omega
  · omega
theorem y_W.set7 {b : Nat → Nat} {x w : Nat} (h : y_W b) (hx : x < y_ho b) (ho : y_oft b x = 0) : y_W (y_u b 7 (y_shn (b 7) x w)) := by
  have b5 := h.b5; have b4 := h.b4
  obtain ⟨⟨a0, a1, a2, a3, a4, a5, a6, a7, a9⟩, h2, h3, h4, h5, h6, h7, h8, h9⟩ := h
  have nw := y_shn_lt (w := w) a7 hx
  unfold y_W y_ho at *
  refine ⟨?_, ?_, ?_, ?_, ?_, fun j hj => ?_, fun j l hj hl => ?_, fun j hj => ?_, fun j hj => ?_⟩
  · simp (disch := omega) only [y_ue, y_un]; exact ⟨a0, a1, a2, a3, a4, a5, a6, nw, a9⟩
  · simp (disch := omega) only [y_un]; exact h2
  · simp (disch := omega) only [y_un]; exact h3
  · simp (disch := omega) only [y_un]; exact h4
  · simp (disch := omega) only [y_un]; exact h5
  · simp (disch := omega) only [y_un] at hj; simp (disch := omega) only [y_un]; exact h6 j hj
  · simp (disch := omega) only [y_un] at hl; simp (disch := omega) only [y_un]; exact h7 j l hj hl
  · simp (disch := omega) only [y_un] at hj
    have q := h8 j hj
    have o := y_oft0 ho hj
    simp (disch := omega) only [y_ue, y_un]
    refine ⟨q.1, q.2.1, q.2.2.1, q.2.2.2.1, q.2.2.2.2.1, ?_, fun z => ?_⟩
    · rw [y_shn_o o.1]; exact q.2.2.2.2.2.1
    · rw [y_shn_o (by omega)]; exact q.2.2.2.2.2.2 z
  · simp (disch := omega) only [y_un] at hj; simp (disch := omega) only [y_un]; exact h9 j hj
theorem y_N.set7 {σ : j_G} {b : Nat → Nat} {k : Nat} (h : y_N σ b) : y_N (j_si σ 1 6 (nI k)) (y_u b 7 k) := by
  obtain ⟨⟨f1, f2, f3, f4, f5, f6, f7, f10, d0, d1⟩, f8, s, t, c⟩ := h
  unfold y_N y_cb
  refine ⟨?_, ?_, ?_, ?_, ?_⟩
  · simp (disch := omega) only [j_r_ne, j_r_eq, j_r_nj, y_ue, y_un]
    exact ⟨f1, f2, f3, f4, f5, trivial, f7, f10, d0, d1⟩
  · simp (disch := omega) only [j_r_ne, j_r_eq, j_r_nj, y_ue, y_un]; exact f8
  · simp (disch := omega) only [j_r_ne, j_r_eq, j_r_nj, y_ue, y_un]; exact s
  · intro p q hp hq
    simp (disch := omega) only [y_ue, y_un] at hp
    have := t p q hp hq
    simp (disch := omega) only [j_r_ne, j_r_eq, j_r_nj, y_ue, y_un]; exact this
  · simp (disch := omega) only [j_r_ne, j_r_eq, j_r_nj, y_ue, y_un]; exact c
section Z
variable {σ τ : j_G}
theorem z_turn (hR : j_Rel σ τ) (a1 : Int32) : ∃ v σ1 τ1, f_X11_turn a1 σ = some (v, σ1) ∧ f_X12_turn a1 τ = some (v, τ1) ∧ j_Rel σ1 τ1 := by
  obtain ⟨b, hW, hN, hM, hK⟩ := id hR
  have h5 := hW.b5
  by_cases h : y_rg a1 (b 5)
  · obtain ⟨k, hk, rfl⟩ := y_of _ _ h.1 h.2
    refine ⟨nI (b 8), j_si σ 5 1 (nI k), j_si τ 76 8 (nI k), ?_, ?_, y_u b 8 k, hW.set8 hk, hN.set8, hM.set (by omega), hK.fr2 (y_kc.w (by omega)) y_km.w⟩
    · unfold f_X11_turn; simp (disch := omega) only [y_lit, y_n1, nI_add, pk_mul, j_lt, j_b1_s, j_b2_s, j_b3_s, j_b0_s, y_bo, y_bo1, y_bo0, y_i0, y_i1, Classical.not_not, nI_clamp, y_ix, y_lt, y_le, y_eq, y_nP, y_nPs, y_ltP, y_ltQ, y_ltPP, y_eqP, y_eqQ, y_eqPP, if_pos, if_neg, ite_true, ite_false, not_true_eq_false, not_false_eq_true, and_true, true_and, and_false, false_and, or_true, true_or, or_false, false_or, yc_has hN hW, y_rn, hN.d1]
    · unfold f_X12_turn; simp (disch := omega) only [y_lit, y_n1, nI_add, pk_mul, j_lt, j_b1_s, j_b2_s, j_b3_s, j_b0_s, y_bo, y_bo1, y_bo0, y_i0, y_i1, Classical.not_not, nI_clamp, y_ix, y_lt, y_le, y_eq, y_nP, y_nPs, y_ltP, y_ltQ, y_ltPP, y_eqP, y_eqQ, y_eqPP, if_pos, if_neg, ite_true, ite_false, not_true_eq_false, not_false_eq_true, and_true, true_and, and_false, false_and, or_true, true_or, or_false, false_or, ym_isComing hM hW, y_rn, hM.f]
  · refine ⟨-2, σ, τ, ?_, ?_, hR⟩
    · unfold f_X11_turn; simp (disch := omega) only [y_lit, y_n1, nI_add, pk_mul, j_lt, j_b1_s, j_b2_s, j_b3_s, j_b0_s, y_bo, y_bo1, y_bo0, y_i0, y_i1, Classical.not_not, nI_clamp, y_ix, y_lt, y_le, y_eq, y_nP, y_nPs, y_ltP, y_ltQ, y_ltPP, y_eqP, y_eqQ, y_eqPP, if_pos, if_neg, ite_true, ite_false, not_true_eq_false, not_false_eq_true, and_true, true_and, and_false, false_and, or_true, true_or, or_false, false_or, yc_has hN hW, h]
    · unfold f_X12_turn; simp (disch := omega) only [y_lit, y_n1, nI_add, pk_mul, j_lt, j_b1_s, j_b2_s, j_b3_s, j_b0_s, y_bo, y_bo1, y_bo0, y_i0, y_i1, Classical.not_not, nI_clamp, y_ix, y_lt, y_le, y_eq, y_nP, y_nPs, y_ltP, y_ltQ, y_ltPP, y_eqP, y_eqQ, y_eqPP, if_pos, if_neg, ite_true, ite_false, not_true_eq_false, not_false_eq_true, and_true, true_and, and_false, false_and, or_true, true_or, or_false, false_or, ym_isComing hM hW, h]
theorem z_paint (hR : j_Rel σ τ) (a1 a2 : Int32) : ∃ v σ1 τ1, f_X11_paint a1 a2 σ = some (v, σ1) ∧ f_X12_paint a1 a2 τ = some (v, τ1) ∧ j_Rel σ1 τ1 := by
  obtain ⟨b, hW, hN, hM, hK⟩ := id hR
  have h5 := hW.b5
  have h4 := hW.ho
  by_cases h : y_rg a1 (b 5)
  · by_cases h2 : y_rg a2 2
    · obtain ⟨k, hk, rfl⟩ := y_of _ _ h.1 h.2
      obtain ⟨w, hw, rfl⟩ := y_of _ _ h2.1 h2.2
      have q := hW.co hk
      by_cases c : b (25 + 3 * k) = 0
      · refine ⟨nI (b (26 + 3 * k)), j_si σ 8 k (nI w), j_si τ 76 (26 + 3 * k) (nI w), ?_, ?_, y_u b (26 + 3 * k) w, hW.setr hk (by omega) c, hN.setr hW hk, hM.set (by omega), hK.fr2 (y_kc.w (by omega)) y_km.w⟩
        · unfold f_X11_paint; simp (disch := omega) only [y_lit, y_n1, nI_add, pk_mul, j_lt, j_b1_s, j_b2_s, j_b3_s, j_b0_s, y_bo, y_bo1, y_bo0, y_i0, y_i1, Classical.not_not, nI_clamp, y_ix, y_lt, y_le, y_eq, y_nP, y_nPs, y_ltP, y_ltQ, y_ltPP, y_eqP, y_eqQ, y_eqPP, if_pos, if_neg, ite_true, ite_false, not_true_eq_false, not_false_eq_true, and_true, true_and, and_false, false_and, or_true, true_or, or_false, false_or, yc_has hN hW, y_rn, hN.k1 hk, hN.k2 hk]
        · unfold f_X12_paint; simp (disch := omega) only [y_lit, y_n1, nI_add, pk_mul, j_lt, j_b1_s, j_b2_s, j_b3_s, j_b0_s, y_bo, y_bo1, y_bo0, y_i0, y_i1, Classical.not_not, nI_clamp, y_ix, y_lt, y_le, y_eq, y_nP, y_nPs, y_ltP, y_ltQ, y_ltPP, y_eqP, y_eqQ, y_eqPP, if_pos, if_neg, ite_true, ite_false, not_true_eq_false, not_false_eq_true, and_true, true_and, and_false, false_and, or_true, true_or, or_false, false_or, ym_isComing hM hW, y_rn, y_lit64, y_in, ym_co1 hM, ym_co2 hM, Nat.add_right_comm 24 _ 2]
      · refine ⟨-2, σ, τ, ?_, ?_, hR⟩
        · unfold f_X11_paint; simp (disch := omega) only [y_lit, y_n1, nI_add, pk_mul, j_lt, j_b1_s, j_b2_s, j_b3_s, j_b0_s, y_bo, y_bo1, y_bo0, y_i0, y_i1, Classical.not_not, nI_clamp, y_ix, y_lt, y_le, y_eq, y_nP, y_nPs, y_ltP, y_ltQ, y_ltPP, y_eqP, y_eqQ, y_eqPP, if_pos, if_neg, ite_true, ite_false, not_true_eq_false, not_false_eq_true, and_true, true_and, and_false, false_and, or_true, true_or, or_false, false_or, yc_has hN hW, y_rn, hN.k1 hk]
        · unfold f_X12_paint; simp (disch := omega) only [y_lit, y_n1, nI_add, pk_mul, j_lt, j_b1_s, j_b2_s, j_b3_s, j_b0_s, y_bo, y_bo1, y_bo0, y_i0, y_i1, Classical.not_not, nI_clamp, y_ix, y_lt, y_le, y_eq, y_nP, y_nPs, y_ltP, y_ltQ, y_ltPP, y_eqP, y_eqQ, y_eqPP, if_pos, if_neg, ite_true, ite_false, not_true_eq_false, not_false_eq_true, and_true, true_and, and_false, false_and, or_true, true_or, or_false, false_or, ym_isComing hM hW, y_rn, y_lit64, y_in, ym_co1 hM]
    · refine ⟨-2, σ, τ, ?_, ?_, hR⟩
      · unfold f_X11_paint; simp (disch := omega) only [y_lit, y_n1, nI_add, pk_mul, j_lt, j_b1_s, j_b2_s, j_b3_s, j_b0_s, y_bo, y_bo1, y_bo0, y_i0, y_i1, Classical.not_not, nI_clamp, y_ix, y_lt, y_le, y_eq, y_nP, y_nPs, y_ltP, y_ltQ, y_ltPP, y_eqP, y_eqQ, y_eqPP, if_pos, if_neg, ite_true, ite_false, not_true_eq_false, not_false_eq_true, and_true, true_and, and_false, false_and, or_true, true_or, or_false, false_or, yc_has hN hW, y_c3, h2]
      · unfold f_X12_paint; simp (disch := omega) only [y_lit, y_n1, nI_add, pk_mul, j_lt, j_b1_s, j_b2_s, j_b3_s, j_b0_s, y_bo, y_bo1, y_bo0, y_i0, y_i1, Classical.not_not, nI_clamp, y_ix, y_lt, y_le, y_eq, y_nP, y_nPs, y_ltP, y_ltQ, y_ltPP, y_eqP, y_eqQ, y_eqPP, if_pos, if_neg, ite_true, ite_false, not_true_eq_false, not_false_eq_true, and_true, true_and, and_false, false_and, or_true, true_or, or_false, false_or, ym_isComing hM hW, y_lit64, y_in, y_c3, h2]
  · refine ⟨-2, σ, τ, ?_, ?_, hR⟩
    · unfold f_X11_paint; simp (disch := omega) only [y_lit, y_n1, nI_add, pk_mul, j_lt, j_b1_s, j_b2_s, j_b3_s, j_b0_s, y_bo, y_bo1, y_bo0, y_i0, y_i1, Classical.not_not, nI_clamp, y_ix, y_lt, y_le, y_eq, y_nP, y_nPs, y_ltP, y_ltQ, y_ltPP, y_eqP, y_eqQ, y_eqPP, if_pos, if_neg, ite_true, ite_false, not_true_eq_false, not_false_eq_true, and_true, true_and, and_false, false_and, or_true, true_or, or_false, false_or, yc_has hN hW, h]
    · unfold f_X12_paint; simp (disch := omega) only [y_lit, y_n1, nI_add, pk_mul, j_lt, j_b1_s, j_b2_s, j_b3_s, j_b0_s, y_bo, y_bo1, y_bo0, y_i0, y_i1, Classical.not_not, nI_clamp, y_ix, y_lt, y_le, y_eq, y_nP, y_nPs, y_ltP, y_ltQ, y_ltPP, y_eqP, y_eqQ, y_eqPP, if_pos, if_neg, ite_true, ite_false, not_true_eq_false, not_false_eq_true, and_true, true_and, and_false, false_and, or_true, true_or, or_false, false_or, ym_isComing hM hW, h]
theorem z_shut (hR : j_Rel σ τ) (a1 a2 : Int32) : ∃ v σ1 τ1, f_X11_shut a1 a2 σ = some (v, σ1) ∧ f_X12_shut a1 a2 τ = some (v, τ1) ∧ j_Rel σ1 τ1 := by
  obtain ⟨b, hW, hN, hM, hK⟩ := id hR
  have h5 := hW.b5
  have h4 := hW.ho
  by_cases h : y_rg a1 (y_ho b)
  · by_cases h2 : y_rg a2 2
    · obtain ⟨x, hx, rfl⟩ := y_of _ _ h.1 h.2
      obtain ⟨w, hw, rfl⟩ := y_of _ _ h2.1 h2.2
      have ol := y_oft_le b x
      by_cases c : y_oft b x = 0
      · have sl := y_sh_le b x
        have e2 : (nI (b 7) &&& (nI (2 ^ x) ^^^ nP 0)) ||| (nI w <<< (nI x &&& nI 31)) = nI (y_shn (b 7) x w) := ym_shn (by omega) (by omega)
        have hm : f_X12_shut (nI x) (nI w) τ = some (nI (y_sh b x), j_si τ 76 7 (nI (y_shn (b 7) x w))) := by
          unfold f_X12_shut; simp (disch := omega) only [y_lit, y_n1, nI_add, pk_mul, j_lt, j_b1_s, j_b2_s, j_b3_s, j_b0_s, y_bo, y_bo1, y_bo0, y_i0, y_i1, Classical.not_not, nI_clamp, y_ix, y_lt, y_le, y_eq, y_nP, y_nPs, y_ltP, y_ltQ, y_ltPP, y_eqP, y_eqQ, y_eqPP, if_pos, if_neg, ite_true, ite_false, not_true_eq_false, not_false_eq_true, and_true, true_and, and_false, false_and, or_true, true_or, or_false, false_or, ym_isHole hM hW, y_rn, y_lit64, y_in, ym_oft hM hW, c, ym_isShut hM hW, hM.f, y_shl, e2]
          by_cases s : y_sh b x = 1
          · rw [if_pos s, s]
          · have s0 : y_sh b x = 0 := by omega
            rw [if_neg s, s0]
        by_cases d : y_sh b x = w
        · have es : y_shn (b 7) x w = b 7 := if_pos d
          rw [es] at hm
          have eb : y_u b 7 (b 7) = b := y_uid
          have hM1 := hM.set (j := 7) (v := b 7) (by omega)
          rw [eb] at hM1
          refine ⟨nI (y_sh b x), σ, j_si τ 76 7 (nI (b 7)), ?_, hm, b, hW, hN, hM1, hK.fr2 y_kc.refl y_km.w⟩
          unfold f_X11_shut; simp (disch := omega) only [y_lit, y_n1, nI_add, pk_mul, j_lt, j_b1_s, j_b2_s, j_b3_s, j_b0_s, y_bo, y_bo1, y_bo0, y_i0, y_i1, Classical.not_not, nI_clamp, y_ix, y_lt, y_le, y_eq, y_nP, y_nPs, y_ltP, y_ltQ, y_ltPP, y_eqP, y_eqQ, y_eqPP, if_pos, if_neg, ite_true, ite_false, not_true_eq_false, not_false_eq_true, and_true, true_and, and_false, false_and, or_true, true_or, or_false, false_or, yc_isHole hN hW, y_rn, yc_oft hN hW, c, yc_isShut hN hW]
          by_cases s : y_sh b x = 1
          · simp (disch := omega) only [y_lit, y_n1, nI_add, pk_mul, j_lt, j_b1_s, j_b2_s, j_b3_s, j_b0_s, y_bo, y_bo1, y_bo0, y_i0, y_i1, Classical.not_not, nI_clamp, y_ix, y_lt, y_le, y_eq, y_nP, y_nPs, y_ltP, y_ltQ, y_ltPP, y_eqP, y_eqQ, y_eqPP, if_pos, if_neg, ite_true, ite_false, not_true_eq_false, not_false_eq_true, and_true, true_and, and_false, false_and, or_true, true_or, or_false, false_or]
            rw [s]
          · have s0 : y_sh b x = 0 := by omega
            simp (disch := omega) only [y_lit, y_n1, nI_add, pk_mul, j_lt, j_b1_s, j_b2_s, j_b3_s, j_b0_s, y_bo, y_bo1, y_bo0, y_i0, y_i1, Classical.not_not, nI_clamp, y_ix, y_lt, y_le, y_eq, y_nP, y_nPs, y_ltP, y_ltQ, y_ltPP, y_eqP, y_eqQ, y_eqPP, if_pos, if_neg, ite_true, ite_false, not_true_eq_false, not_false_eq_true, and_true, true_and, and_false, false_and, or_true, true_or, or_false, false_or]
            rw [s0]
        · have es : y_shn (b 7) x w = b 7 ^^^ 2 ^ x := if_neg d
          refine ⟨nI (y_sh b x), j_si σ 1 6 (nI (y_shn (b 7) x w)), j_si τ 76 7 (nI (y_shn (b 7) x w)), ?_, hm, y_u b 7 (y_shn (b 7) x w), hW.set7 hx c, hN.set7, hM.set (by omega), hK.fr2 (y_kc.w (by omega)) y_km.w⟩
          unfold f_X11_shut; simp (disch := omega) only [y_lit, y_n1, nI_add, pk_mul, j_lt, j_b1_s, j_b2_s, j_b3_s, j_b0_s, y_bo, y_bo1, y_bo0, y_i0, y_i1, Classical.not_not, nI_clamp, y_ix, y_lt, y_le, y_eq, y_nP, y_nPs, y_ltP, y_ltQ, y_ltPP, y_eqP, y_eqQ, y_eqPP, if_pos, if_neg, ite_true, ite_false, not_true_eq_false, not_false_eq_true, and_true, true_and, and_false, false_and, or_true, true_or, or_false, false_or, yc_isHole hN hW, y_rn, yc_oft hN hW, c, yc_isShut hN hW, hN.f6, y_shl, y_xor, es]
          by_cases s : y_sh b x = 1
          · simp (disch := omega) only [y_lit, y_n1, nI_add, pk_mul, j_lt, j_b1_s, j_b2_s, j_b3_s, j_b0_s, y_bo, y_bo1, y_bo0, y_i0, y_i1, Classical.not_not, nI_clamp, y_ix, y_lt, y_le, y_eq, y_nP, y_nPs, y_ltP, y_ltQ, y_ltPP, y_eqP, y_eqQ, y_eqPP, if_pos, if_neg, ite_true, ite_false, not_true_eq_false, not_false_eq_true, and_true, true_and, and_false, false_and, or_true, true_or, or_false, false_or]
            rw [s]
          · have s0 : y_sh b x = 0 := by omega
            simp (disch := omega) only [y_lit, y_n1, nI_add, pk_mul, j_lt, j_b1_s, j_b2_s, j_b3_s, j_b0_s, y_bo, y_bo1, y_bo0, y_i0, y_i1, Classical.not_not, nI_clamp, y_ix, y_lt, y_le, y_eq, y_nP, y_nPs, y_ltP, y_ltQ, y_ltPP, y_eqP, y_eqQ, y_eqPP, if_pos, if_neg, ite_true, ite_false, not_true_eq_false, not_false_eq_true, and_true, true_and, and_false, false_and, or_true, true_or, or_false, false_or]
            rw [s0]
      · refine ⟨-2, σ, τ, ?_, ?_, hR⟩
        · unfold f_X11_shut; simp (disch := omega) only [y_lit, y_n1, nI_add, pk_mul, j_lt, j_b1_s, j_b2_s, j_b3_s, j_b0_s, y_bo, y_bo1, y_bo0, y_i0, y_i1, Classical.not_not, nI_clamp, y_ix, y_lt, y_le, y_eq, y_nP, y_nPs, y_ltP, y_ltQ, y_ltPP, y_eqP, y_eqQ, y_eqPP, if_pos, if_neg, ite_true, ite_false, not_true_eq_false, not_false_eq_true, and_true, true_and, and_false, false_and, or_true, true_or, or_false, false_or, yc_isHole hN hW, y_rn, yc_oft hN hW]
        · unfold f_X12_shut; simp (disch := omega) only [y_lit, y_n1, nI_add, pk_mul, j_lt, j_b1_s, j_b2_s, j_b3_s, j_b0_s, y_bo, y_bo1, y_bo0, y_i0, y_i1, Classical.not_not, nI_clamp, y_ix, y_lt, y_le, y_eq, y_nP, y_nPs, y_ltP, y_ltQ, y_ltPP, y_eqP, y_eqQ, y_eqPP, if_pos, if_neg, ite_true, ite_false, not_true_eq_false, not_false_eq_true, and_true, true_and, and_false, false_and, or_true, true_or, or_false, false_or, ym_isHole hM hW, y_rn, y_lit64, y_in, ym_oft hM hW]
    · refine ⟨-2, σ, τ, ?_, ?_, hR⟩
      · unfold f_X11_shut; simp (disch := omega) only [y_lit, y_n1, nI_add, pk_mul, j_lt, j_b1_s, j_b2_s, j_b3_s, j_b0_s, y_bo, y_bo1, y_bo0, y_i0, y_i1, Classical.not_not, nI_clamp, y_ix, y_lt, y_le, y_eq, y_nP, y_nPs, y_ltP, y_ltQ, y_ltPP, y_eqP, y_eqQ, y_eqPP, if_pos, if_neg, ite_true, ite_false, not_true_eq_false, not_false_eq_true, and_true, true_and, and_false, false_and, or_true, true_or, or_false, false_or, yc_isHole hN hW, y_c3, h2]
      · unfold f_X12_shut; simp (disch := omega) only [y_lit, y_n1, nI_add, pk_mul, j_lt, j_b1_s, j_b2_s, j_b3_s, j_b0_s, y_bo, y_bo1, y_bo0, y_i0, y_i1, Classical.not_not, nI_clamp, y_ix, y_lt, y_le, y_eq, y_nP, y_nPs, y_ltP, y_ltQ, y_ltPP, y_eqP, y_eqQ, y_eqPP, if_pos, if_neg, ite_true, ite_false, not_true_eq_false, not_false_eq_true, and_true, true_and, and_false, false_and, or_true, true_or, or_false, false_or, ym_isHole hM hW, y_lit64, y_in, y_c3, h2]
  · refine ⟨-2, σ, τ, ?_, ?_, hR⟩
    · unfold f_X11_shut; simp (disch := omega) only [y_lit, y_n1, nI_add, pk_mul, j_lt, j_b1_s, j_b2_s, j_b3_s, j_b0_s, y_bo, y_bo1, y_bo0, y_i0, y_i1, Classical.not_not, nI_clamp, y_ix, y_lt, y_le, y_eq, y_nP, y_nPs, y_ltP, y_ltQ, y_ltPP, y_eqP, y_eqQ, y_eqPP, if_pos, if_neg, ite_true, ite_false, not_true_eq_false, not_false_eq_true, and_true, true_and, and_false, false_and, or_true, true_or, or_false, false_or, yc_isHole hN hW, h]
    · unfold f_X12_shut; simp (disch := omega) only [y_lit, y_n1, nI_add, pk_mul, j_lt, j_b1_s, j_b2_s, j_b3_s, j_b0_s, y_bo, y_bo1, y_bo0, y_i0, y_i1, Classical.not_not, nI_clamp, y_ix, y_lt, y_le, y_eq, y_nP, y_nPs, y_ltP, y_ltQ, y_ltPP, y_eqP, y_eqQ, y_eqPP, if_pos, if_neg, ite_true, ite_false, not_true_eq_false, not_false_eq_true, and_true, true_and, and_false, false_and, or_true, true_or, or_false, false_or, ym_isHole hM hW, h]
end Z
