/-! ===== board ===== -/
section A
variable {B : Nat → Int32} {n : Nat}
theorem yc_stepA {σ : j_G} (ht : y_ct σ B n) : ∃ σ', f_X7_step σ = some σ' ∧ y_cf10 σ σ' := by
  have hn := ht.1
  by_cases h : 0 ≤ (σ.1 10 7).toInt ∧ (σ.1 10 7).toInt < ((n + 1 : Nat) : Int)
  · obtain ⟨p, hp, e⟩ := y_of _ (n + 1) h.1 h.2
    obtain ⟨σ', e1, _, e3⟩ := yc_step ht (p := p) (by omega) e
    exact ⟨σ', e1, e3⟩
  · have F0 : (0 : Int32) = nI 0 := rfl
    have hA : ∀ σ' : j_G, σ'.1 19 0 = nI n → f_X10_at (σ.1 10 7) σ' = some (-1 : Int32) := by
      intro σ' e
      unfold f_X10_at
      rw [if_neg]
      rintro ⟨a, c⟩
      rw [e, y_ltr (by omega)] at c
      rw [F0, y_ltr (by omega)] at a
      omega
    have h8 : p_X7_step_8 j_F (j_si σ 10 6 (σ.1 10 7)) = some (j_si σ 10 6 (σ.1 10 7)) := by
      obtain ⟨f, hf⟩ : ∃ f, j_F = f + 1 := ⟨_, rfl⟩
      rw [hf]
      unfold p_X7_step_8
      have e19 : (j_si σ 10 6 (σ.1 10 7)).1 19 0 = nI n := by rw [j_r_ne (by omega)]; exact ht.2.1
      rw [j_r_eq, hA _ e19, j_b1_s, if_neg (show ¬ ¬ f_X7_isBlank (-1 : Int32) = 0 by decide)]
      split <;> rfl
    have fr : y_cf10 σ (j_si (j_si (j_si (j_si σ 10 6 (σ.1 10 7)) 10 7 (σ.1 10 7)) 10 8 (0 : Int32)) 10 5 (1 : Int32)) := (((y_cf10.refl.si (by omega) (by omega)).si (by omega) (by omega)).si (by omega) (by omega)).si (by omega) (by omega)
    refine ⟨_, ?_, fr⟩
    unfold f_X7_step
    simp only [j_lt]
    rw [h8, j_b1_s]
    have e6 : (j_si (j_si (j_si σ 10 6 (σ.1 10 7)) 10 7 ((j_si σ 10 6 (σ.1 10 7)).1 10 6)) 10 8 (0 : Int32)).1 10 6 = σ.1 10 7 := by simp (disch := omega) only [j_r_ne, j_r_eq, j_r_nj]
    have e19 : (j_si (j_si (j_si σ 10 6 (σ.1 10 7)) 10 7 ((j_si σ 10 6 (σ.1 10 7)).1 10 6)) 10 8 (0 : Int32)).1 19 0 = nI n := by simp (disch := omega) only [j_r_ne, j_r_eq, j_r_nj]; exact ht.2.1
    rw [e6, hA _ e19, j_b1_s, if_pos rfl, j_r_eq]
theorem y_l99 {b : Nat → Nat} {k : Nat} {vs : List Nat} : y_l9 (y_lap b k vs) 9 = b 9 + 1 := by
  unfold y_l9; rw [y_ue, y_lap9]
def y_end (σ τ : j_G) : Prop := σ.1 10 1 = τ.1 75 12 ∧ σ.1 10 2 = τ.1 75 13 ∧ ((σ.1 10 1 = nI 0 ∧ ∃ b, y_W b ∧ y_T σ b ∧ y_mb (τ.1 81) b) ∨ ∃ k, 0 < k ∧ k ≤ 3 ∧ σ.1 10 1 = nI k)
theorem y_read : ∀ m p c f f' (b : Nat → Nat) (σ τ : j_G), n < p + m → m < f → m < f' → p ≤ n → c ≤ p → b 9 ≤ c → y_W b → y_ck σ B n p → y_cw σ B n (0, y_e B n p) → y_T σ b → (b 9 = 0 → σ.1 11 8 = nI 1 ∧ σ.1 11 9 = nI 100) → y_mw τ B n (0, p) → y_mb (τ.1 81) b →
    ∃ σ' τ', p_X7_readAll_28 f (nI c) σ = some σ' ∧ p_X12_board_53 f' τ = some τ' ∧ y_fT σ σ' ∧ y_fl τ τ' ∧ y_end σ' τ' := by
  intro m
  induction m with
  | zero => intro p c f f' b σ τ h _ _ hp; omega
  | succ m ih =>
    intro p c f f' b σ τ h hf hf' hp hc h9 hW hck hcw hT t89 hmw hmb
    obtain ⟨f, rfl⟩ := y_pos hf
    obtain ⟨f', rfl⟩ := y_pos hf'
    have hn := hcw.1.1
    have i1 : ¬ nI 1 = (0 : Int32) := by decide
    obtain ⟨g1, g2, q9, q8, q10, q11⟩ := hmw.2.2.2.1 rfl
    obtain ⟨c1, c2, c3⟩ := hcw.2.2.2.1 rfl
    have kl := y_kd_le (B := B) (n := n) (p := p)
    have gd := ym_good hmw
    rw [if_pos (show (0, p).1 = 0 from rfl)] at gd
    have q10' : τ.1 75 10 = nI (y_kd B n p) := q10
    by_cases k : y_kd B n p = 0
    · refine ⟨σ, τ, ?_, ?_, y_fT.refl, y_fm.refl, ?_⟩
      · unfold p_X7_readAll_28
        rw [if_neg]
        rintro ⟨_, _, z⟩
        apply z
        rw [hck.1, k]; rfl
      · unfold p_X12_board_53
        rw [if_neg]
        rintro ⟨_, z⟩
        apply z
        rw [q10', k]; rfl
      · exact ⟨by rw [c1, g1], by rw [c2, g2], Or.inl ⟨c1, b, hW, hT, hmb⟩⟩
    · obtain ⟨τ1, a1, a2, a3, a4⟩ := ym_line hW hmw hmb
      obtain ⟨σ1, s1, s2, s3, s4⟩ := yc_line hW hp hck hcw hT t89 (fun z => (a4 z).1)
      have cs : p_X7_readAll_28 (f + 1) (nI c) σ = (j_b1 (f_X7_step σ1) fun σ2 => p_X7_readAll_28 f (nI (c + 1)) σ2) := by
        rw [p_X7_readAll_28.eq_def]
        show (if (¬ (1200 : Int32) < nI c) ∧ (((σ.1 10 1) = 0) ∧ (¬ (σ.1 10 5) = (1 : Int32))) then (j_b1 (f_X7_readLine σ) fun σ1 => j_b1 (f_X7_step σ1) fun σ2 => p_X7_readAll_28 f (nI c + (1 : Int32)) σ2) else (some σ)) = _
        rw [if_pos, s1, j_b1_s, show nI c + (1 : Int32) = nI (c + 1) by simp (disch := omega) only [y_lit, nI_add]]
        refine ⟨by rw [show (1200 : Int32) = nI 1200 from rfl, y_lt (by omega) (by omega)]; omega, c1, ?_⟩
        rw [hck.1]
        intro z
        have := (y_srt_eq (j := 1) kl (by omega) (by omega)).mp z
        omega
      have ms : p_X12_board_53 (f' + 1) τ = p_X12_board_53 f' τ1 := by
        rw [p_X12_board_53.eq_def]
        show (if (¬ (f_X12_good τ) = 0) ∧ (¬ (τ.1 75 10) = 0) then (j_b1 (f_X12_readLine τ) fun σ1 => p_X12_board_53 f' σ1) else (some τ)) = _
        rw [if_pos, a1, j_b1_s]
        refine ⟨by rw [gd]; exact i1, ?_⟩
        rw [q10', show (0 : Int32) = nI 0 from rfl, y_eq (by omega) (by omega)]
        exact k
      rw [cs, ms]
      by_cases z : (y_lr B n b p).1.1 = 0
      · obtain ⟨m1, m2⟩ := y_lr_mono hp k z
        obtain ⟨ok, mb'⟩ := a4 z
        obtain ⟨nf8, nf⟩ := y_lr_ok z
        have b9 := hW.b9
        have kn8 := y_kn_le (B := B) (n := n) (p := p)
        have hW' := hW.ap (by omega) (y_kn B n p) (by omega) (Classical.not_not.mp (fun w => nf8 (Or.inr w))) nf _ ok
        have e99 := y_l99 (b := b) (k := y_kn B n p) (vs := (y_lr B n b p).2)
        have T' := s4 z
        have er : (y_lr B n b p).1 = (0, (y_lr B n b p).1.2) := by rw [← z]
        rw [er] at s2 a2
        obtain ⟨σ2, u1, u2, u3, u4, u5⟩ := yc_stepW s2
        rw [u1, j_b1_s]
        obtain ⟨σ', τ', v1, v2, v3, v4, v5⟩ := ih (y_lr B n b p).1.2 (c + 1) f f' _ σ2 τ1 (by omega) (by omega) (by omega) m2 (by omega) (by omega) hW' u2 u5 (T'.fc u3.fc) (fun w => by omega) a2 mb'
        exact ⟨σ', τ', v1, v2, (s3.trans u3.fT).trans v3, y_fm.trans a3 v4, v5⟩
      · obtain ⟨w1, w2, w3, w4, w5⟩ := s2
        obtain ⟨x1, x2, x3, x4, x5⟩ := a2
        obtain ⟨σ2, u1, u2⟩ := yc_stepA w1
        obtain ⟨y1, y2⟩ := w5 z
        obtain ⟨y3, y4⟩ := x5 z
        have e1 : σ2.1 10 1 = nI (y_lr B n b p).1.1 := by rw [u2.2.2.1]; exact y1
        have e2 : σ2.1 10 2 = nI (y_lr B n b p).1.2 := by rw [u2.2.2.2]; exact y2
        have nz : ¬ nI (y_lr B n b p).1.1 = (0 : Int32) := by rw [show (0 : Int32) = nI 0 from rfl, y_eq (by omega) (by omega)]; exact z
        rw [u1, j_b1_s]
        obtain ⟨f, rfl⟩ := y_pos (show 0 < f by omega)
        obtain ⟨f', rfl⟩ := y_pos (show 0 < f' by omega)
        refine ⟨σ2, τ1, ?_, ?_, s3.trans u2.fT, a3, ?_⟩
        · unfold p_X7_readAll_28
          rw [if_neg]
          rintro ⟨_, v, _⟩
          rw [e1] at v
          exact nz v
        · unfold p_X12_board_53
          rw [if_neg]
          rintro ⟨v, _⟩
          apply v
          unfold f_X12_good
          rw [y3, if_neg nz]
        · exact ⟨by rw [e1, y3], by rw [e2, y4], Or.inr ⟨(y_lr B n b p).1.1, by omega, w2, e1⟩⟩
end A
theorem y_W0 : y_W y_b0 := by
  have e0 : y_b0 0 = 0 := rfl
  have e1 : y_b0 1 = 0 := rfl
  have e2 : y_b0 2 = 0 := rfl
  have e3 : y_b0 3 = 0 := rfl
  have e4 : y_b0 4 = 0 := rfl
  have e5 : y_b0 5 = 0 := rfl
  have e6 : y_b0 6 = 0 := rfl
  have e7 : y_b0 7 = 0 := rfl
  have e8 : y_b0 8 = 0 := rfl
  have e9 : y_b0 9 = 0 := rfl
  refine ⟨⟨by omega, by omega, by omega, by omega, by omega, by omega, by omega, ?_, by omega⟩, fun _ => ⟨rfl, rfl, rfl, rfl, rfl, rfl, rfl⟩, fun h => absurd h (by omega), fun h => absurd h (by omega), fun _ => rfl, fun k hk => absurd hk (by omega), fun k l h1 h2 => absurd h2 (by omega), fun k hk => absurd hk (by omega), fun k hk => absurd hk (by omega)⟩
  rw [e7]; exact Nat.pow_pos (by omega)
theorem y_T0 {σ : j_G} : ∃ σ', f_X2_empty σ = some σ' ∧ y_T σ' y_b0 ∧ σ'.1 11 8 = nI 1 ∧ σ'.1 11 9 = nI 100 ∧ y_fT σ σ' := by
  unfold f_X2_empty f_X3_empty
  simp only [j_lt, j_b1_s]
  refine ⟨_, rfl, ⟨⟨?_, ?_, ?_, ?_, ?_, ?_, ?_, ?_, ?_, ?_⟩, fun h => absurd h (by show ¬ 0 < y_b0 9; rw [show y_b0 9 = 0 from rfl]; omega), fun k hk => absurd hk (by rw [show y_b0 4 = 0 from rfl]; omega), fun p q hp => absurd hp (by rw [show y_b0 6 = 0 from rfl]; omega), fun k hk => absurd hk (by rw [show y_b0 5 = 0 from rfl]; omega)⟩, ?_, ?_, ?_⟩
  · simp (disch := omega) only [j_r_ne, j_r_eq, j_r_nj]; rfl
  · simp (disch := omega) only [j_r_ne, j_r_eq, j_r_nj]; rfl
  · simp (disch := omega) only [j_r_ne, j_r_eq, j_r_nj]; rfl
  · simp (disch := omega) only [j_r_ne, j_r_eq, j_r_nj]; rfl
  · simp (disch := omega) only [j_r_ne, j_r_eq, j_r_nj]; rfl
  · simp (disch := omega) only [j_r_ne, j_r_eq, j_r_nj]; rfl
  · simp (disch := omega) only [j_r_ne, j_r_eq, j_r_nj]; rfl
  · simp (disch := omega) only [j_r_ne, j_r_eq, j_r_nj]; rfl
  · simp (disch := omega) only [j_r_ne, j_r_eq, j_r_nj]; rfl
  · simp (disch := omega) only [j_r_ne, j_r_eq, j_r_nj]; rfl
  · simp (disch := omega) only [j_r_ne, j_r_eq, j_r_nj]; rfl
  · simp (disch := omega) only [j_r_ne, j_r_eq, j_r_nj]; rfl
  · exact (((((((((((y_fT.refl.si (by omega)).si (by omega)).si (by omega)).si (by omega)).si (by omega)).si (by omega)).si (by omega)).si (by omega)).si (by omega)).si (by omega)).si (by omega)).si (by omega)
theorem ym_clear : ∀ (m i f : Nat) (τ : j_G), i + m = 116 → m < f → ∃ τ', p_X12_board_30 f (nI i) τ = some τ' ∧ (∀ j, i ≤ j → j < 116 → τ'.1 81 j = nI 0) ∧ (∀ j, j < i → τ'.1 81 j = τ.1 81 j) ∧ (∀ c, c ≠ 81 → τ'.1 c = τ.1 c) ∧ τ'.2 = τ.2 := by
  intro m
  induction m with
  | zero =>
    intro i f τ h hf
    obtain ⟨f, rfl⟩ := y_pos hf
    refine ⟨τ, ?_, fun j a c => by omega, fun _ _ => rfl, fun _ _ => rfl, rfl⟩
    unfold p_X12_board_30; simp (disch := omega) only [y_lit, y_n1, nI_add, pk_mul, j_lt, j_b1_s, j_b2_s, j_b3_s, j_b0_s, y_bo, y_bo1, y_bo0, y_i0, y_i1, Classical.not_not, nI_clamp, y_ix, y_lt, y_le, y_eq, y_nP, y_nPs, y_ltP, y_ltQ, y_ltPP, y_eqP, y_eqQ, y_eqPP, if_pos, if_neg, ite_true, ite_false, not_true_eq_false, not_false_eq_true, and_true, true_and, and_false, false_and, or_true, true_or, or_false, false_or]
  | succ m ih =>
    intro i f τ h hf
    obtain ⟨f, rfl⟩ := y_pos hf
    obtain ⟨τ', e1, e2, e3, e4, e5⟩ := ih (i + 1) f (j_si τ 81 i (nI 0)) (by omega) (by omega)
    refine ⟨τ', ?_, fun j a c => ?_, fun j hj => ?_, fun c hc => ?_, e5⟩
    · unfold p_X12_board_30; simp (disch := omega) only [y_lit, y_n1, nI_add, pk_mul, j_lt, j_b1_s, j_b2_s, j_b3_s, j_b0_s, y_bo, y_bo1, y_bo0, y_i0, y_i1, Classical.not_not, nI_clamp, y_ix, y_lt, y_le, y_eq, y_nP, y_nPs, y_ltP, y_ltQ, y_ltPP, y_eqP, y_eqQ, y_eqPP, if_pos, if_neg, ite_true, ite_false, not_true_eq_false, not_false_eq_true, and_true, true_and, and_false, false_and, or_true, true_or, or_false, false_or]; exact e1
    · by_cases e : j = i
      · subst e; rw [e3 j (by omega), j_r_eq]
      · exact e2 j (by omega) c
    · rw [e3 j (by omega), j_r_nj (by omega)]
    · rw [e4 c hc]; funext j; exact j_r_ne hc
theorem ym_world : ∀ (m i f : Nat) (τ : j_G), i + m = 116 → m < f → ∃ τ', p_X12_board_86 f (nI i) τ = some τ' ∧ (∀ j, i ≤ j → j < 116 → τ'.1 76 j = τ.1 81 j) ∧ (∀ j, j < i → τ'.1 76 j = τ.1 76 j) ∧ (∀ c, c ≠ 76 → τ'.1 c = τ.1 c) ∧ τ'.2 = τ.2 := by
  intro m
  induction m with
  | zero =>
    intro i f τ h hf
    obtain ⟨f, rfl⟩ := y_pos hf
    refine ⟨τ, ?_, fun j a c => by omega, fun _ _ => rfl, fun _ _ => rfl, rfl⟩
    unfold p_X12_board_86; simp (disch := omega) only [y_lit, y_n1, nI_add, pk_mul, j_lt, j_b1_s, j_b2_s, j_b3_s, j_b0_s, y_bo, y_bo1, y_bo0, y_i0, y_i1, Classical.not_not, nI_clamp, y_ix, y_lt, y_le, y_eq, y_nP, y_nPs, y_ltP, y_ltQ, y_ltPP, y_eqP, y_eqQ, y_eqPP, if_pos, if_neg, ite_true, ite_false, not_true_eq_false, not_false_eq_true, and_true, true_and, and_false, false_and, or_true, true_or, or_false, false_or]
  | succ m ih =>
    intro i f τ h hf
    obtain ⟨f, rfl⟩ := y_pos hf
    obtain ⟨τ', e1, e2, e3, e4, e5⟩ := ih (i + 1) f (j_si τ 76 i (τ.1 81 i)) (by omega) (by omega)
    refine ⟨τ', ?_, fun j a c => ?_, fun j hj => ?_, fun c hc => ?_, e5⟩
    · unfold p_X12_board_86; simp (disch := omega) only [y_lit, y_n1, nI_add, pk_mul, j_lt, j_b1_s, j_b2_s, j_b3_s, j_b0_s, y_bo, y_bo1, y_bo0, y_i0, y_i1, Classical.not_not, nI_clamp, y_ix, y_lt, y_le, y_eq, y_nP, y_nPs, y_ltP, y_ltQ, y_ltPP, y_eqP, y_eqQ, y_eqPP, if_pos, if_neg, ite_true, ite_false, not_true_eq_false, not_false_eq_true, and_true, true_and, and_false, false_and, or_true, true_or, or_false, false_or]; exact e1
    · by_cases e : j = i
      · subst e; rw [e3 j (by omega), j_r_eq]
      · rw [e2 j (by omega) c, j_r_ne (by omega)]
    · rw [e3 j (by omega), j_r_nj (by omega)]
    · rw [e4 c hc]; funext j; exact j_r_ne hc
theorem y_K.rd {σ τ σ' τ' : j_G} (h : y_K σ τ) (h1 : ∀ c, 43 ≤ c → σ'.1 c = σ.1 c) (h1' : σ'.2 = σ.2) (h2 : ∀ c, c = 77 ∨ c = 78 ∨ c = 94 ∨ c = 95 → τ'.1 c = τ.1 c) (h2' : τ'.2 96 = τ.2 96) (ht : y_tp σ' τ') (hf : y_ft σ' τ') : y_K σ' τ' := by
  obtain ⟨⟨i0, i1, i2⟩, ⟨s0, s1, s2, s3⟩, _, _⟩ := h
  have e77 := h2 77 (by omega)
  have e78 := h2 78 (by omega)
  have e94 := h2 94 (by omega)
  have e95 := h2 95 (by omega)
  exact ⟨⟨i0.fr (fun x hx => h1 x (by omega)) e77 e78, i1.fr (fun x hx => h1 x (by omega)) e77 e78, i2.fr (fun x hx => h1 x (by omega)) e77 e78⟩,
    ⟨s0.fr (h1 67 (by omega)) (by rw [h1']) e94 e95 h2', s1.fr (h1 69 (by omega)) (by rw [h1']) e94 e95 h2', s2.fr (h1 71 (by omega)) (by rw [h1']) e94 e95 h2', s3.fr (h1 73 (by omega)) (by rw [h1']) e94 e95 h2'⟩, ht, hf⟩
section Z
variable {σ τ : j_G}
theorem z_board (hR : j_Rel σ τ) : ∃ v σ1 τ1, f_X11_board σ = some (v, σ1) ∧ f_X12_board τ = some (v, τ1) ∧ j_Rel σ1 τ1 := by
  obtain ⟨b, hW, hN, hM, hK⟩ := id hR
  obtain ⟨n, hn, t1, t2, t3⟩ := hK.2.2.1
  have F0 : (0 : Int32) = nI 0 := rfl
  have i1 : ¬ nI 1 = (0 : Int32) := by decide
  -- the class's start
  obtain ⟨σ1, a1, a2, a3, a4, a5⟩ := y_T0 (σ := σ)
  have fs : y_fT σ (j_si (j_si (j_si σ1 10 7 (nI 0)) 10 1 (nI 0)) 10 2 (nP 0)) := ((a5.si (by omega)).si (by omega)).si (by omega)
  have ct : y_ct (j_si (j_si (j_si σ1 10 7 (nI 0)) 10 1 (nI 0)) 10 2 (nP 0)) (fun i => τ.1 79 i) n := by
    have c0 : y_ct σ (fun i => τ.1 79 i) n := ⟨hn, t1, fun i hi => (t3 i hi).1⟩
    exact c0.fT fs
  obtain ⟨σ5, b1, b2, b3⟩ := yc_step ct (p := 0) (by omega) (by simp (disch := omega) only [j_r_ne, j_r_eq, j_r_nj])
  have eb := y_e_bd (B := fun i => τ.1 79 i) (n := n) (p := 0) (by omega)
  have hcw : y_cw σ5 (fun i => τ.1 79 i) n (0, y_e (fun i => τ.1 79 i) n 0) := by
    refine ⟨ct.fr b3, by show 0 ≤ 3; omega, eb.2.1, fun _ => ⟨?_, ?_, b2.2.2.1⟩, fun z => absurd rfl z⟩
    · rw [b3.2.2.1]; simp (disch := omega) only [j_r_ne, j_r_eq, j_r_nj]
    · rw [b3.2.2.2]; simp (disch := omega) only [j_r_ne, j_r_eq, j_r_nj]
  have hT5 : y_T σ5 y_b0 := by
    have q : y_T (j_si (j_si (j_si σ1 10 7 (nI 0)) 10 1 (nI 0)) 10 2 (nP 0)) y_b0 := a2.fc (((y_fc.refl.si (by omega)).si (by omega)).si (by omega))
    exact q.fc b3.fc
  have t89 : σ5.1 11 8 = nI 1 ∧ σ5.1 11 9 = nI 100 := by
    rw [b3.1 11 (by omega)]
    simp (disch := omega) only [j_r_ne, j_r_eq, j_r_nj]
    exact ⟨a3, a4⟩
  have fs5 := fs.trans b3.fT
  -- the reference's start
  obtain ⟨τ6, c1, c2, c3, c4, c5⟩ := ym_clear 116 0 j_F (j_si (j_si (j_si (j_si (j_si τ 75 7 (nI n)) 75 5 (nI 0)) 75 8 (nI 0)) 75 12 (nI 0)) 75 13 (nP 0)) (by omega) (y_F (by omega))
  have r75 : ∀ j v, (j_si (j_si (j_si (j_si (j_si τ 75 7 (nI n)) 75 5 (nI 0)) 75 8 (nI 0)) 75 12 (nI 0)) 75 13 (nP 0)).1 75 j = v → τ6.1 75 j = v := fun j v hv => by rw [c4 75 (by omega)]; exact hv
  have r79 : τ6.1 79 = τ.1 79 := by
    rw [c4 79 (by omega)]
    funext j
    simp (disch := omega) only [j_r_ne, j_r_eq, j_r_nj]
  have mt6 : y_mt τ6 (fun i => τ.1 79 i) n := by
    refine ⟨hn, r75 7 _ (by simp (disch := omega) only [j_r_ne, j_r_eq, j_r_nj]), fun i hi => ⟨by rw [r79], (t3 i hi).2⟩⟩
  obtain ⟨τ7, d1, d2, d3⟩ := ym_adv mt6 (p := 0) (by omega) (r75 8 _ (by simp (disch := omega) only [j_r_ne, j_r_eq, j_r_nj]))
  have hmw : y_mw τ7 (fun i => τ.1 79 i) n (0, 0) := by
    refine ⟨mt6.fr d3, by show 0 ≤ 3; omega, by show 0 ≤ n; omega, fun _ => ⟨?_, ?_, d2⟩, fun z => absurd rfl z⟩
    · rw [d3.1 12 (by omega)]; exact r75 12 _ (by simp (disch := omega) only [j_r_ne, j_r_eq, j_r_nj])
    · rw [d3.1 13 (by omega)]; exact r75 13 _ (by simp (disch := omega) only [j_r_ne, j_r_eq, j_r_nj])
  have hmb : y_mb (τ7.1 81) y_b0 := by
    rw [(d3.2 81 (by omega) (by omega)).1]
    intro j hj
    rw [c2 j (by omega) hj]
    unfold y_b0
    split
    · rfl
    · rfl
  obtain ⟨σ6, τ8, e1, e2, e3, e4, e5, e6, e7⟩ := y_read (n + 1) 0 0 j_F j_F y_b0 σ5 τ7 (by omega) (y_F (by omega)) (y_F (by omega)) (by omega) (by omega) (by rw [show y_b0 9 = 0 from rfl]; omega) y_W0 b2 hcw hT5 (fun _ => t89) hmw hmb
  have fs6 := fs5.trans e3
  -- frames of the reference
  have t75 : ∀ c, c ≠ 75 → c ≠ 81 → τ8.1 c = τ.1 c ∧ τ8.2 c = τ.2 c := by
    intro c x y
    have q1 := e4.2 c x (by omega)
    have q2 := d3.2 c x (by omega)
    rw [q1.1, q1.2, q2.1, q2.2, c4 c y, c5]
    refine ⟨?_, rfl⟩
    funext j
    rw [j_r_ne x, j_r_ne x, j_r_ne x, j_r_ne x, j_r_ne x]
  have t755 : τ8.1 75 5 = nI 0 := by
    rw [e4.1 5 (by omega), d3.1 5 (by omega)]; exact r75 5 _ (by simp (disch := omega) only [j_r_ne, j_r_eq, j_r_nj])
  have ra : f_X7_readAll σ = (if (σ6.1 10 1) = 0 then (some ((1 : Int32), σ6)) else (some ((0 : Int32), σ6))) := by
    have b1' : f_X7_step (j_si (j_si (j_si σ1 10 7 (0 : Int32)) 10 1 (0 : Int32)) 10 2 (-1 : Int32)) = some σ5 := by rw [y_m1]; exact b1
    have e1' : p_X7_readAll_28 j_F (0 : Int32) σ5 = some σ6 := e1
    unfold f_X7_readAll
    rw [a1, j_b1_s]
    simp only [j_lt]
    rw [b1', j_b1_s, e1', j_b1_s]
  have rb : f_X12_board τ = (if (f_X12_good τ8) = 0 then (some ((-4 : Int32), τ8)) else (j_b1 (p_X12_board_86 j_F (0 : Int32) τ8) fun σ9 => j_ix (9 : Int32) 116 (some ((σ9.1 76 ((9 : Int32)).toNatClampNeg), σ9)))) := by
    have c1' : p_X12_board_30 j_F (0 : Int32) (j_si (j_si (j_si (j_si (j_si τ 75 7 (nI n)) 75 5 (0 : Int32)) 75 8 (0 : Int32)) 75 12 (0 : Int32)) 75 13 (-1 : Int32)) = some τ6 := by rw [y_m1]; exact c1
    unfold f_X12_board
    simp only [j_lt]
    rw [t2, c1', j_b1_s, d1, j_b1_s, e2, j_b1_s]
  rcases e7 with ⟨g0, b', g1, g2, g3⟩ | ⟨k, k0, k3, g0⟩
  · -- a board
    have hT : y_T (j_si σ6 19 0 (0 : Int32)) b' := by
      unfold y_T y_cb at *
      simp (disch := omega) only [j_r_ne]
      exact g2
    obtain ⟨σ7, u1, u2, u3, u4, u5⟩ := yc_copy (c := 11) (c1 := 12) (c2 := 13) (c3 := 14) (c4 := 15) (c5 := 16) (c6 := 17) (c7 := 18) (e := 1) (e1 := 2) (e2 := 3) (e3 := 4) (e4 := 5) (e5 := 6) (e6 := 7) (e7 := 8) g1 hT ⟨rfl, rfl, rfl, rfl, rfl, rfl, rfl⟩ ⟨rfl, rfl, rfl, rfl, rfl, rfl, rfl⟩ (Or.inr (by omega))
    obtain ⟨τ9, v1, v2, v3, v4, v5⟩ := ym_world 116 0 j_F τ8 (by omega) (y_F (by omega))
    have hM9 : y_M τ9 b' := by
      intro j hj
      rw [v2 j (by omega) hj]; exact g3 j hj
    refine ⟨nI (b' 9), σ7, τ9, ?_, ?_, b', g1, u2, hM9, ?_⟩
    · unfold f_X11_board
      simp only [j_lt]
      rw [ra, g0, if_pos F0.symm, j_b2_s, if_neg (show ¬ (1 : Int32) = 0 by decide), u1, j_b1_s, u2.f1]
    · have gd : f_X12_good τ8 = nI 1 := by
        unfold f_X12_good
        rw [← e5, g0, if_pos F0.symm]; rfl
      have v1' : p_X12_board_86 j_F (0 : Int32) τ8 = some τ9 := v1
      rw [rb, gd, if_neg i1, v1', j_b1_s, show j_ix (9 : Int32) 116 _ = _ from y_ix (k := 9) (by omega) (by omega), show ((9 : Int32)).toNatClampNeg = 9 from rfl, hM9.f (j := 9) (by omega)]
    · have x1 : ∀ c, 19 ≤ c → c ≠ 19 → c ≠ 21 → σ7.1 c = σ.1 c := fun c h h' h'' => by
        rw [u3 c (by omega), ← fs6.1 c (by omega) h'']
        funext j; exact j_r_ne h'
      refine hK.rd (fun c hc => x1 c (by omega) (by omega) (by omega)) ?_ (fun c hc => ?_) ?_ ?_ ?_
      · rw [u4]; exact fs6.2
      · rw [v4 c (by omega)]; exact (t75 c (by omega) (by omega)).1
      · rw [v5]; exact (t75 96 (by omega) (by omega)).2
      · refine ⟨0, by omega, ?_, ?_, fun i hi => by omega⟩
        · rw [u3 19 (by omega), j_r_eq]; rfl
        · rw [v4 75 (by omega)]; exact t755
      · unfold y_ft
        rw [u3 10 (by omega), v4 75 (by omega)]
        rw [j_r_ne (by omega), j_r_ne (by omega)]
        exact ⟨e5, e6⟩
  · have nz : ¬ nI k = (0 : Int32) := by rw [F0, y_eq (by omega) (by omega)]; omega
    refine ⟨-4, j_si σ6 19 0 (0 : Int32), τ8, ?_, ?_, b, hW, ?_, ?_, ?_⟩
    · unfold f_X11_board
      simp only [j_lt]
      rw [ra, g0, if_neg nz, j_b2_s, if_pos rfl]
    · have gd : f_X12_good τ8 = nI 0 := by
        unfold f_X12_good
        rw [← e5, g0, if_neg nz]; rfl
      rw [rb, gd, if_pos F0.symm]
    · have e : ∀ c, c < 9 → (j_si σ6 19 0 (0 : Int32)).1 c = σ.1 c := fun c hc => by
        rw [← fs6.1 c (by omega) (by omega)]
        funext j; exact j_r_ne (by omega)
      unfold y_N y_cb at *
      rw [e 1 (by omega), e 2 (by omega), e 3 (by omega), e 4 (by omega), e 5 (by omega), e 6 (by omega), e 7 (by omega), e 8 (by omega)]
      exact hN
    · unfold y_M
      rw [(t75 76 (by omega) (by omega)).1]; exact hM
    · refine hK.rd (fun c hc => ?_) fs6.2 (fun c hc => (t75 c (by omega) (by omega)).1) (t75 96 (by omega) (by omega)).2 ?_ ?_
      · rw [← fs6.1 c (by omega) (by omega)]
        funext j; exact j_r_ne (by omega)
      · exact ⟨0, by omega, by rw [j_r_eq]; rfl, t755, fun i hi => by omega⟩
      · unfold y_ft
        rw [j_r_ne (by omega), j_r_ne (by omega)]
        exact ⟨e5, e6⟩
end Z
