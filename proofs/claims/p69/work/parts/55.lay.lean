/-! ===== the game ===== -/
def y_from (b : Nat → Nat) : Nat → Nat
  | 0 => 0
  | i + 1 => y_from b i + y_stay b (y_from b i) - 1 + b 3 + 1
def y_last (b : Nat → Nat) (i : Nat) : Nat := y_from b i + y_stay b (y_from b i) - 1
def y_gn (b : Nat → Nat) : Nat → Nat → Nat
  | 0, i => i
  | m + 1, i => if y_last b i < b 2 then y_gn b m (i + 1) else i
def y_gs (b : Nat → Nat) : Nat := if b 5 = 0 then 0 else y_gn b 60 0
def y_cg (σ : j_G) (b : Nat → Nat) (s : Nat) (g : Nat → Nat) : Prop := σ.1 22 0 = nI s ∧ ∀ i, i < s → σ.1 23 i = nI (g (3 * i)) ∧ σ.1 24 i = nP (g (3 * i + 1)) ∧ σ.1 25 i = nI (g (3 * i + 2)) ∧ σ.1 26 i = nI (y_from b i) ∧ σ.1 27 i = nI (y_last b i)
def y_mg (τ : j_G) (b : Nat → Nat) (s : Nat) (g : Nat → Nat) : Prop := τ.1 75 18 = nI s ∧ ∀ i, i < s → τ.1 82 (3 * i) = nI (g (3 * i)) ∧ τ.1 82 (3 * i + 1) = nP (g (3 * i + 1)) ∧ τ.1 82 (3 * i + 2) = nI (g (3 * i + 2)) ∧ τ.1 83 i = nI (y_from b i) ∧ τ.1 84 i = nI (y_last b i)
/-- a game that may be -/
def y_vg (b : Nat → Nat) (s : Nat) (g : Nat → Nat) : Prop := s ≤ 60 ∧ ∀ i, i < s → g (3 * i) < y_ho b ∧ g (3 * i + 1) ≤ y_ho b ∧ g (3 * i + 1) ≠ g (3 * i) + 1 ∧ g (3 * i + 2) ≤ 1 ∧ (0 < g (3 * i + 1) → g (3 * i + 2) = 0) ∧ y_last b i < b 2
def y_dg (b : Nat → Nat) (st : Nat) : Nat → Nat := fun j => b (24 + 3 * ((st + j / 3) % b 5) + j % 3)
theorem y_dg0 {b : Nat → Nat} {st i : Nat} : y_dg b st (3 * i) = b (24 + 3 * ((st + i) % b 5)) := by
  unfold y_dg; rw [Nat.mul_div_cancel_left _ (by omega), Nat.mul_mod_right]; rfl
theorem y_dg1 {b : Nat → Nat} {st i : Nat} : y_dg b st (3 * i + 1) = b (25 + 3 * ((st + i) % b 5)) := by
  unfold y_dg; rw [show (3 * i + 1) / 3 = i from by omega, show (3 * i + 1) % 3 = 1 from by omega]; congr 1; omega
theorem y_dg2 {b : Nat → Nat} {st i : Nat} : y_dg b st (3 * i + 2) = b (26 + 3 * ((st + i) % b 5)) := by
  unfold y_dg; rw [show (3 * i + 2) / 3 = i from by omega, show (3 * i + 2) % 3 = 2 from by omega]; congr 1; omega
theorem y_from_s (b : Nat → Nat) (i : Nat) : y_from b (i + 1) = y_last b i + b 3 + 1 := rfl
theorem y_gn_le {b : Nat → Nat} : ∀ m i, i ≤ y_gn b m i ∧ y_gn b m i ≤ i + m := by
  intro m
  induction m with
  | zero => intro i; exact ⟨Nat.le_refl _, Nat.le_refl _⟩
  | succ m ih =>
    intro i
    unfold y_gn
    have := ih (i + 1)
    split <;> omega
theorem y_gn_last {b : Nat → Nat} : ∀ m i j, i ≤ j → j < y_gn b m i → y_last b j < b 2 := by
  intro m
  induction m with
  | zero => intro i j h1 h2; exact absurd h2 (by unfold y_gn; omega)
  | succ m ih =>
    intro i j h1 h2
    unfold y_gn at h2
    split at h2
    · by_cases e : j = i
      · subst e; assumption
      · exact ih (i + 1) j (by omega) h2
    · omega
theorem y_gs_le {b : Nat → Nat} : y_gs b ≤ 60 := by
  unfold y_gs
  have := y_gn_le (b := b) 60 0
  split <;> omega
theorem y_dg_vg {b : Nat → Nat} (hW : y_W b) (st : Nat) : y_vg b (y_gs b) (y_dg b st) := by
  refine ⟨y_gs_le, fun i hi => ?_⟩
  have h5 : ¬ b 5 = 0 := by intro z; unfold y_gs at hi; rw [if_pos z] at hi; omega
  have hm : (st + i) % b 5 < b 5 := Nat.mod_lt _ (by omega)
  have q := hW.co hm
  rw [y_dg0, y_dg1, y_dg2]
  refine ⟨q.1, q.2.1, q.2.2.1, q.2.2.2.1, q.2.2.2.2.1, ?_⟩
  unfold y_gs at hi
  rw [if_neg h5] at hi
  exact y_gn_last 60 0 i (by omega) hi
/-- ticks stay small -/
theorem y_last_le {b : Nat → Nat} (hW : y_W b) (i : Nat) : y_from b i ≤ y_last b i ∧ y_last b i ≤ y_from b i + 39 := by
  have := y_stay_bd hW (y_from b i)
  unfold y_last; omega
theorem yc_stay_si {x v : Int32} {c j : Nat} {σ : j_G} (hc : 3 < c) : f_X2_stayIn x (j_si σ c j v) = f_X2_stayIn x σ := by
  unfold f_X2_stayIn
  congr 1
  generalize j_F = n
  generalize (-1 : Int32) = a; generalize (7 : Int32) = d; generalize (0 : Int32) = e
  induction n generalizing a d e with
  | zero => rfl
  | succ n ih =>
    unfold p_X2_stayIn_8
    simp (disch := omega) only [j_r_ne, ih]
theorem ym_stay_si {x v : Int32} {c j : Nat} {σ : j_G} (hc : c ≠ 76) : f_X12_stayIn x (j_si σ c j v) = f_X12_stayIn x σ := by
  unfold f_X12_stayIn
  congr 1
  generalize j_F = n
  generalize (-1 : Int32) = a; generalize (7 : Int32) = d; generalize (0 : Int32) = e
  induction n generalizing a d e with
  | zero => rfl
  | succ n ih =>
    unfold p_X12_stayIn_8
    simp (disch := omega) only [j_r_ne, ih]
