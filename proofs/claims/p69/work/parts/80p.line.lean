/-! ===== a line, for both ===== -/
def y_ii : Nat → List (Option (List Int32))
  | 0 => [some (y_L 9), none, some (y_L 10), none, some (y_L 11), none, some (y_L 12), none]
  | 1 => [none, some (y_L 20), none]
  | 2 => [none]
  | 3 => [none]
  | 4 => [none]
  | 5 => [none, none]
  | 6 => [some (y_L 21), none, some (y_L 22), none, some (y_L 23), none, some (y_L 24), none, some (y_L 25), none]
  | _ => [none, some (y_L 26), none]
theorem y_ii_it : ∀ k, y_it k = y_ii k ++ [some []]
  | 0 => rfl
  | 1 => rfl
  | 2 => rfl
  | 3 => rfl
  | 4 => rfl
  | 5 => rfl
  | 6 => rfl
  | _ + 7 => rfl
abbrev y_full (b : Nat → Nat) (k : Nat) : Prop := (3 ≤ k ∧ k ≤ 5 ∧ b 5 = 24) ∨ (k = 6 ∧ b 6 = 4)
def y_okv (b : Nat → Nat) : Nat → List Nat → Prop
  | 0, vs => ∃ w0 w1 w2 w3, vs = [w0, w1, w2, w3] ∧ (1 ≤ w0 ∧ w0 < 5) ∧ (1 ≤ w1 ∧ w1 < 4) ∧ (1 ≤ w2 ∧ w2 < 201) ∧ w3 < 10
  | 1, vs => ∃ w0 w1, vs = [w0, w1] ∧ (1 ≤ w0 ∧ w0 < 41) ∧ w1 < b 2 ∧ (y_hi b w1 (b 4) 0 < b 4 ∨ b 4 < 6)
  | 2, vs => ∃ w0, vs = [w0] ∧ w0 < y_ho b ∧ y_sh b w0 = 0 ∧ y_oft b w0 = 0
  | 3, vs => ∃ w0, vs = [w0] ∧ w0 < y_ho b ∧ y_sh b w0 = 0
  | 4, vs => ∃ w0, vs = [w0] ∧ w0 < y_ho b ∧ y_sh b w0 = 0
  | 5, vs => ∃ w0 w1, vs = [w0, w1] ∧ w0 < y_ho b ∧ y_sh b w0 = 0 ∧ w1 < y_ho b ∧ y_sh b w1 = 0 ∧ w1 ≠ w0
  | 6, vs => ∃ w0 w1 w2 w3 w4, vs = [w0, w1, w2, w3, w4] ∧ (1 ≤ w0 ∧ w0 < 10) ∧ w1 < 21 ∧ w2 < 100 ∧ w3 < 10 ∧ w4 < y_ho b
  | _, vs => ∃ w0 w1, vs = [w0, w1] ∧ (1 ≤ w0 ∧ w0 < 100) ∧ (1 ≤ w1 ∧ w1 < 501)
def y_lap (b : Nat → Nat) (k : Nat) (vs : List Nat) : Nat → Nat :=
  match k with
  | 0 => y_bb b (vs.getD 0 0) (vs.getD 1 0) (vs.getD 2 0) (vs.getD 3 0)
  | 1 => y_sb b (vs.getD 0 0) (vs.getD 1 0)
  | 2 => y_u b 7 (b 7 ||| 2 ^ vs.getD 0 0)
  | 3 => y_ac b (vs.getD 0 0) 0 0
  | 4 => y_ac b (vs.getD 0 0) 0 1
  | 5 => y_ac b (vs.getD 0 0) (vs.getD 1 0 + 1) 0
  | 6 => y_pb b (vs.getD 0 0) (vs.getD 1 0) (vs.getD 2 0) (vs.getD 3 0) (vs.getD 4 0)
  | _ => y_u (y_u b 10 (vs.getD 0 0)) 11 (vs.getD 1 0)
theorem y_lap9 {b : Nat → Nat} {k : Nat} {vs : List Nat} : y_lap b k vs 9 = b 9 := by
  unfold y_lap y_bb y_sb y_ac y_pb
  split
  all_goals simp (disch := omega) only [y_un]
theorem y_or_sh {b : Nat → Nat} {x : Nat} (h : y_sh b x = 0) : b 7 ||| 2 ^ x = y_shn (b 7) x 1 := by
  unfold y_sh at h
  unfold y_shn
  rw [if_neg (by omega)]
  apply Nat.eq_of_testBit_eq
  intro i
  rw [Nat.testBit_or, Nat.testBit_xor]
  by_cases e : i = x
  · subst e
    rw [y_tb2] at h
    cases hb : (b 7).testBit i with
    | true => rw [hb] at h; exact absurd h (by decide)
    | false => rw [Bool.false_or, Bool.false_xor]
  · rw [Nat.testBit_two_pow_of_ne (fun z => e z.symm), Bool.or_false, Bool.xor_false]
theorem y_W.ap {b : Nat → Nat} (hW : y_W b) (h9 : b 9 < 1300) : ∀ k, k < 8 → (k = 0 ↔ b 9 = 0) → ¬ y_full b k → ∀ vs, y_okv b k vs → y_W (y_l9 (y_lap b k vs))
  | 0, _, h0, _, _, h => by
    obtain ⟨w0, w1, w2, w3, rfl, q0, q1, q2, q3⟩ := h
    exact hW.bb (h0.mp rfl) q0 q1 q2 q3
  | 1, _, h0, _, vs, h => by
    have on : 0 < b 9 := by omega
    have e9 := y_lap9 (b := b) (k := 1) (vs := vs)
    obtain ⟨w0, w1, rfl, q0, q1, q2⟩ := h
    have e9' : y_sb b w0 w1 9 = b 9 := e9
    exact (hW.sb q0 q1 q2).l9 (by omega) (by omega)
  | 2, _, h0, _, vs, h => by
    have on : 0 < b 9 := by omega
    have e9 := y_lap9 (b := b) (k := 2) (vs := vs)
    obtain ⟨w0, rfl, q0, q1, q2⟩ := h
    have e : y_lap b 2 [w0] = y_u b 7 (y_shn (b 7) w0 1) := by rw [← y_or_sh q1]; rfl
    rw [e] at e9 ⊢
    exact (hW.set7 q0 q2).l9 (by omega) (by omega)
  | 3, _, h0, hf, vs, h => by
    have on : 0 < b 9 := by omega
    have e9 := y_lap9 (b := b) (k := 3) (vs := vs)
    have b5 := hW.b5
    obtain ⟨w0, rfl, q0, q1⟩ := h
    have n5 : b 5 ≠ 24 := fun z => hf (Or.inl ⟨by omega, by omega, z⟩)
    have e9' : y_ac b w0 0 0 9 = b 9 := e9
    exact (hW.ac (w := 0) (r := 0) (by omega) ⟨q0, q1⟩ (Or.inl rfl) (by omega)).l9 (by omega) (by omega)
  | 4, _, h0, hf, vs, h => by
    have on : 0 < b 9 := by omega
    have e9 := y_lap9 (b := b) (k := 4) (vs := vs)
    have b5 := hW.b5
    obtain ⟨w0, rfl, q0, q1⟩ := h
    have n5 : b 5 ≠ 24 := fun z => hf (Or.inl ⟨by omega, by omega, z⟩)
    have e9' : y_ac b w0 0 1 9 = b 9 := e9
    exact (hW.ac (w := 0) (r := 1) (by omega) ⟨q0, q1⟩ (Or.inl rfl) (by omega)).l9 (by omega) (by omega)
  | 5, _, h0, hf, vs, h => by
    have on : 0 < b 9 := by omega
    have e9 := y_lap9 (b := b) (k := 5) (vs := vs)
    have b5 := hW.b5
    obtain ⟨w0, w1, rfl, q0, q1, q2, q3, q4⟩ := h
    have n5 : b 5 ≠ 24 := fun z => hf (Or.inl ⟨by omega, by omega, z⟩)
    have e9' : y_ac b w0 (w1 + 1) 0 9 = b 9 := e9
    exact (hW.ac (w := w1 + 1) (r := 0) (by omega) ⟨q0, q1⟩ (Or.inr ⟨by omega, by omega, q3, rfl⟩) (by omega)).l9 (by omega) (by omega)
  | 6, _, h0, hf, vs, h => by
    have on : 0 < b 9 := by omega
    have e9 := y_lap9 (b := b) (k := 6) (vs := vs)
    have b6 := hW.b6
    obtain ⟨w0, w1, w2, w3, w4, rfl, q0, q1, q2, q3, q4⟩ := h
    have n6 : b 6 ≠ 4 := fun z => hf (Or.inr ⟨rfl, z⟩)
    have e9' : y_pb b w0 w1 w2 w3 w4 9 = b 9 := e9
    exact (hW.pb (by omega) on q0 q1 q2 q3 q4).l9 (by omega) (by omega)
  | 7, _, h0, _, vs, h => by
    have on : 0 < b 9 := by omega
    have e9 := y_lap9 (b := b) (k := 7) (vs := vs)
    obtain ⟨w0, w1, rfl, q0, q1⟩ := h
    have e9' : y_u (y_u b 10 w0) 11 w1 9 = b 9 := e9
    exact (hW.tk ⟨q0.1, by omega⟩ ⟨q1.1, by omega⟩).l9 (by omega) (by omega)
  | _ + 8, h, _, _, _, _ => absurd h (by omega)
section Q
variable {B : Nat → Int32} {n : Nat} {J : List Nat → Nat → Nat}
theorem y_gq_app {l m : List (Option (List Int32))} : ∀ {x : (Nat × Nat) × List Nat}, y_gq B n J (l ++ m) x = y_gq B n J m (y_gq B n J l x) := by
  induction l with
  | nil => intro x; rfl
  | cons it l ih => intro x; exact ih
theorem y_stp_mono {it : Option (List Int32)} {x : (Nat × Nat) × List Nat} (hx : x.1.2 ≤ n) (h : (y_stp B n J it x).1.1 = 0) : x.1.2 ≤ (y_stp B n J it x).1.2 ∧ (y_stp B n J it x).1.2 ≤ n := by
  obtain ⟨⟨r1, p⟩, vs⟩ := x
  have r0 : r1 = 0 := y_stp_good (x := ((r1, p), vs)) h
  subst r0
  have sb := y_s_bd (B := B) (show p ≤ n from hx)
  have eb := y_e_bd (B := B) (show p ≤ n from hx)
  have key : (y_stp B n J it ((0, p), vs)).1 = (0, y_e B n p) := by
    match it, h with
    | none, h =>
      rw [y_stp_n] at h ⊢
      by_cases k : y_kd B n p ≠ 2
      · rw [if_pos k] at h; exact absurd h (by show ¬ (1 : Nat) = 0; omega)
      · rw [if_neg k] at h ⊢
        by_cases g : J vs (y_val B n p) ≠ 0
        · rw [if_pos g] at h; exact absurd h g
        · rw [if_neg g]
    | some [], h =>
      rw [y_stp_s] at h ⊢
      by_cases k : y_kd B n p = 3
      · rw [if_pos k]
      · rw [if_neg k] at h; exact absurd h (by show ¬ (1 : Nat) = 0; omega)
    | some (a :: L), h =>
      rw [y_stp_w (List.cons_ne_nil a L)] at h ⊢
      by_cases k : y_sp (a :: L) B n p = true
      · rw [if_pos k]
      · rw [if_neg k] at h; exact absurd h (by show ¬ (1 : Nat) = 0; omega)
  rw [key]
  exact ⟨by show p ≤ y_e B n p; omega, eb.2.1⟩
theorem y_gq_mono : ∀ {l : List (Option (List Int32))} {x : (Nat × Nat) × List Nat}, x.1.2 ≤ n → (y_gq B n J l x).1.1 = 0 → x.1.2 ≤ (y_gq B n J l x).1.2 ∧ (y_gq B n J l x).1.2 ≤ n := by
  intro l
  induction l with
  | nil => intro x hx _; exact ⟨Nat.le_refl _, hx⟩
  | cons it l ih =>
    intro x hx h
    have h' : (y_gq B n J l (y_stp B n J it x)).1.1 = 0 := h
    obtain ⟨a, c⟩ := y_stp_mono hx (y_gq_good h')
    obtain ⟨d, e⟩ := ih c h'
    exact ⟨Nat.le_trans a d, e⟩
end Q
/-- a line behind p, told by both -/
def y_lr (B : Nat → Int32) (n : Nat) (b : Nat → Nat) (p : Nat) : (Nat × Nat) × List Nat :=
  if y_kn B n p = 8 ∨ ¬ (y_kn B n p = 0 ↔ b 9 = 0) then ((1, y_s B n p), []) else if y_full b (y_kn B n p) then ((3, y_s B n p), []) else y_gq B n (y_qk b (y_kn B n p)) (y_it (y_kn B n p)) ((0, y_e B n p), [])
section Y
variable {B : Nat → Int32} {n : Nat} {b : Nat → Nat} {p : Nat}
theorem y_lr_bad (h : y_kn B n p = 8 ∨ ¬ (y_kn B n p = 0 ↔ b 9 = 0)) : y_lr B n b p = ((1, y_s B n p), []) := if_pos h
theorem y_lr_full (h : ¬ (y_kn B n p = 8 ∨ ¬ (y_kn B n p = 0 ↔ b 9 = 0))) (hf : y_full b (y_kn B n p)) : y_lr B n b p = ((3, y_s B n p), []) := (if_neg h).trans (if_pos hf)
theorem y_lr_go (h : ¬ (y_kn B n p = 8 ∨ ¬ (y_kn B n p = 0 ↔ b 9 = 0))) (hf : ¬ y_full b (y_kn B n p)) : y_lr B n b p = y_gq B n (y_qk b (y_kn B n p)) (y_it (y_kn B n p)) ((0, y_e B n p), []) := (if_neg h).trans (if_neg hf)
theorem y_lr_ok (h : (y_lr B n b p).1.1 = 0) : ¬ (y_kn B n p = 8 ∨ ¬ (y_kn B n p = 0 ↔ b 9 = 0)) ∧ ¬ y_full b (y_kn B n p) := by
  by_cases c : y_kn B n p = 8 ∨ ¬ (y_kn B n p = 0 ↔ b 9 = 0)
  · rw [y_lr_bad c] at h; exact absurd h (by show ¬ (1 : Nat) = 0; omega)
  · refine ⟨c, fun d => ?_⟩
    rw [y_lr_full c d] at h; exact absurd h (by show ¬ (3 : Nat) = 0; omega)
theorem y_kn_le : y_kn B n p ≤ 8 := by
  rcases y_kn_sp (B := B) (n := n) (p := p) with ⟨a, _⟩ | ⟨a, _⟩ <;> omega
theorem y_lr_mono (hp : p ≤ n) (hk : y_kd B n p ≠ 0) (h : (y_lr B n b p).1.1 = 0) : p < (y_lr B n b p).1.2 ∧ (y_lr B n b p).1.2 ≤ n := by
  obtain ⟨c, d⟩ := y_lr_ok h
  rw [y_lr_go c d] at h ⊢
  have sb := y_s_bd (B := B) hp
  have eb := y_e_bd (B := B) hp
  have lt : y_s B n p < n := by
    unfold y_kd at hk
    by_cases e : n ≤ y_s B n p
    · rw [if_pos e] at hk; exact absurd rfl hk
    · omega
  obtain ⟨a, e⟩ := y_gq_mono (x := ((0, y_e B n p), [])) eb.2.1 h
  have a' : y_e B n p ≤ _ := a
  exact ⟨by have := eb.2.2 lt; omega, e⟩
end Y
