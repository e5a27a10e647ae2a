/-! ===== the two objects alike ===== -/
def y_im (σ τ : j_G) (k c c1 c2 c3 c4 c5 c6 c7 : Nat) : Prop := (σ.1 c 0 = nI 0 ∧ τ.1 78 k = nI 0) ∨ (σ.1 c 0 = nI 1 ∧ τ.1 78 k = nI 1 ∧ ∃ b, y_W b ∧ y_cb σ c c1 c2 c3 c4 c5 c6 c7 b ∧ y_mb (fun j => τ.1 77 (116 * k + j)) b)
def y_sl (σ τ : j_G) (s c d : Nat) : Prop := (σ.1 c 0 = nP 0 ∧ τ.1 94 s = nP 0) ∨ ∃ n w, n ≤ 60 ∧ w ≤ 3 ∧ σ.1 c 0 = nI n ∧ τ.1 94 s = nI n ∧ σ.1 c 1 = nI w ∧ τ.1 95 s = nI w ∧ ∀ i, i < n → σ.2 d i = τ.2 96 (60 * s + i)
def y_tp (σ τ : j_G) : Prop := ∃ n, n ≤ 1200 ∧ σ.1 19 0 = nI n ∧ τ.1 75 5 = nI n ∧ ∀ i, i < n → σ.1 20 i = τ.1 79 i ∧ -128 ≤ (τ.1 79 i).toInt ∧ (τ.1 79 i).toInt ≤ 127
def y_ft (σ τ : j_G) : Prop := σ.1 10 1 = τ.1 75 12 ∧ σ.1 10 2 = τ.1 75 13
def y_K (σ τ : j_G) : Prop := (y_im σ τ 0 43 44 45 46 47 48 49 50 ∧ y_im σ τ 1 51 52 53 54 55 56 57 58 ∧ y_im σ τ 2 59 60 61 62 63 64 65 66) ∧ (y_sl σ τ 0 67 68 ∧ y_sl σ τ 1 69 70 ∧ y_sl σ τ 2 71 72 ∧ y_sl σ τ 3 73 74) ∧ y_tp σ τ ∧ y_ft σ τ
def j_Rel (σ τ : j_G) : Prop := ∃ b, y_W b ∧ y_N σ b ∧ y_M τ b ∧ y_K σ τ
theorem y_im.fr {σ τ σ' τ' : j_G} {k c c1 c2 c3 c4 c5 c6 c7 : Nat} (h : y_im σ τ k c c1 c2 c3 c4 c5 c6 c7) (e : ∀ x, x = c ∨ x = c1 ∨ x = c2 ∨ x = c3 ∨ x = c4 ∨ x = c5 ∨ x = c6 ∨ x = c7 → σ'.1 x = σ.1 x) (e1 : τ'.1 77 = τ.1 77) (e2 : τ'.1 78 = τ.1 78) : y_im σ' τ' k c c1 c2 c3 c4 c5 c6 c7 := by
  unfold y_im y_cb at *
  rw [e c (by omega), e c1 (by omega), e c2 (by omega), e c3 (by omega), e c4 (by omega), e c5 (by omega), e c6 (by omega), e c7 (by omega), e1, e2]
  exact h
theorem y_sl.fr {σ τ σ' τ' : j_G} {s c d : Nat} (h : y_sl σ τ s c d) (e : σ'.1 c = σ.1 c) (e' : σ'.2 d = σ.2 d) (e1 : τ'.1 94 = τ.1 94) (e2 : τ'.1 95 = τ.1 95) (e3 : τ'.2 96 = τ.2 96) : y_sl σ' τ' s c d := by
  unfold y_sl at *
  rw [e, e', e1, e2, e3]
  exact h
theorem y_K.fr {σ τ σ' τ' : j_G} (h : y_K σ τ) (h1 : y_fr 22 41 σ σ') (h2 : y_fm 18 42 80 93 τ τ') : y_K σ' τ' := by
  obtain ⟨⟨i0, i1, i2⟩, ⟨s0, s1, s2, s3⟩, ht, hf⟩ := h
  have e77 := (h2.2 77 (by omega) (by omega)).1
  have e78 := (h2.2 78 (by omega) (by omega)).1
  have e94 := (h2.2 94 (by omega) (by omega)).1
  have e95 := (h2.2 95 (by omega) (by omega)).1
  have e96 := (h2.2 96 (by omega) (by omega)).2
  refine ⟨⟨i0.fr (fun x hx => (h1 x (by omega)).1) e77 e78, i1.fr (fun x hx => (h1 x (by omega)).1) e77 e78, i2.fr (fun x hx => (h1 x (by omega)).1) e77 e78⟩,
    ⟨s0.fr (h1 67 (by omega)).1 (h1 68 (by omega)).2 e94 e95 e96, s1.fr (h1 69 (by omega)).1 (h1 70 (by omega)).2 e94 e95 e96, s2.fr (h1 71 (by omega)).1 (h1 72 (by omega)).2 e94 e95 e96, s3.fr (h1 73 (by omega)).1 (h1 74 (by omega)).2 e94 e95 e96⟩, ?_, ?_⟩
  · unfold y_tp at *
    rw [(h1 19 (by omega)).1, (h1 20 (by omega)).1, h2.1 5 (by omega), (h2.2 79 (by omega) (by omega)).1]
    exact ht
  · unfold y_ft at *
    rw [(h1 10 (by omega)).1, h2.1 12 (by omega), h2.1 13 (by omega)]
    exact hf
theorem y_done {σ τ σ' τ' : j_G} (hR : j_Rel σ τ) (h1 : y_fr 22 41 σ σ') (h2 : y_fm 18 42 80 93 τ τ') : j_Rel σ' τ' := by
  obtain ⟨b, hW, hN, hM, hK⟩ := hR
  exact ⟨b, hW, hN.fr h1 (by omega), hM.fr h2 (by omega), hK.fr h1 h2⟩
def y_b0 : Nat → Nat := fun j => if 24 ≤ j ∧ j < 96 ∧ j % 3 = 1 then 1 else 0
theorem j_Rel0 : j_Rel j_s0 j_t0 := by
  have e0 : y_b0 0 = 0 := rfl
  have e1 : y_b0 1 = 0 := rfl
  have e2 : y_b0 2 = 0 := rfl
  have e3 : y_b0 3 = 0 := rfl
  have e4 : y_b0 4 = 0 := rfl
  have e5 : y_b0 5 = 0 := rfl
  have e6 : y_b0 6 = 0 := rfl
  have e7 : y_b0 7 = 0 := rfl
  have e8 : y_b0 8 = 0 := rfl
  have e9 : y_b0 9 = 0 := rfl
  refine ⟨y_b0, ?_, ?_, ?_, ⟨Or.inl ⟨rfl, rfl⟩, Or.inl ⟨rfl, rfl⟩, Or.inl ⟨rfl, rfl⟩⟩, ⟨Or.inl ⟨rfl, rfl⟩, Or.inl ⟨rfl, rfl⟩, Or.inl ⟨rfl, rfl⟩, Or.inl ⟨rfl, rfl⟩⟩, ⟨0, by omega, rfl, rfl, fun i hi => absurd hi (by omega)⟩, ⟨rfl, rfl⟩⟩
  · refine ⟨⟨by omega, by omega, by omega, by omega, by omega, by omega, by omega, ?_, by omega⟩, fun _ => ⟨rfl, rfl, rfl, rfl, rfl, rfl, rfl⟩, fun h => absurd h (by omega), fun h => absurd h (by omega), fun _ => rfl, fun k hk => absurd hk (by omega), fun k l h1 h2 => absurd h2 (by omega), fun k hk => absurd hk (by omega), fun k hk => absurd hk (by omega)⟩
    rw [e7]; exact Nat.pow_pos (by omega)
  · exact ⟨⟨rfl, rfl, rfl, rfl, rfl, rfl, rfl, rfl, rfl, rfl⟩, fun h => absurd h (by omega), fun k hk => absurd hk (by omega), fun p q hp => absurd hp (by omega), fun k hk => absurd hk (by omega)⟩
  · intro j hj
    have e : j_t0.1 76 j = nI 0 := rfl
    rw [e]
    unfold y_b0
    split
    · rfl
    · rfl
