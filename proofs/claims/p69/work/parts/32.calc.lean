/-! ===== runs without fuel ===== -/
theorem x_more {mt : List xM} : ∀ (n d : Nat) (M : xM) (S : Option xS) (c : xC) (r : Option Value × xH × Nat × Nat), x_run mt S n d M c = some r → ∀ n' : Nat, n ≤ n' → x_run mt S n' d M c = some r := by
  intro n
  induction n with
  | zero => intro d M S c r h; cases h
  | succ n ih =>
    intro d M S c r h n' hn
    cases n' with
    | zero => exact absurd hn (by omega)
    | succ n' =>
      have hn : n ≤ n' := by omega
      unfold x_run at h ⊢
      cases hs : x_step M S c with
      | none => rw [hs] at h; cases h
      | some o =>
        rw [hs] at h
        obtain c' | q | u := o
        · exact ih d M S c' r h n' hn
        · cases d with
          | zero => cases h
          | succ d' =>
            dsimp only at h ⊢
            cases hM : mt[q.1]? with
            | none => rw [hM] at h; cases h
            | some M' =>
              rw [hM] at h
              dsimp only at h ⊢
              cases hb : (Nat.ble (x_cat q.2.1) M'.2.2.2.1 && x_rcv M' q.2.1 c.2.2.2.1) with
              | false => rw [hb] at h; cases h
              | true =>
                rw [hb] at h
                dsimp only [cond] at h ⊢
                cases h1 : x_run mt none n d' M' (0, lv_args 0 q.2.1, [], c.2.2.2.1, 0, 0) with
                | none => rw [h1] at h; cases h
                | some r1 =>
                  rw [h1] at h
                  rw [ih _ _ _ _ _ h1 n' hn]
                  exact ih _ _ _ _ _ h n' hn
        · exact h
/-- the interpreter comes to an end, with P -/
def x_R (mt : List xM) (S : Option xS) (d : Nat) (M : xM) (c : xC) (P : Option Value × xH × Nat × Nat → Prop) : Prop := ∃ (n : Nat) (r : Option Value × xH × Nat × Nat), x_run mt S n d M c = some r ∧ P r
section XR
variable {mt : List xM} {S : Option xS} {d : Nat} {M : xM} {c c' : xC} {P P' : Option Value × xH × Nat × Nat → Prop}
theorem x_R.mono (h : x_R mt S d M c P) (hp : ∀ r, P r → P' r) : x_R mt S d M c P' := by
  obtain ⟨n, r, h1, h2⟩ := h
  exact ⟨n, r, h1, hp r h2⟩
theorem x_R.step (e : x_step M S c = some (.inl c')) (k : x_R mt S d M c' P) : x_R mt S d M c P := by
  obtain ⟨n, r, h1, h2⟩ := k
  refine ⟨n + 1, r, ?_, h2⟩
  unfold x_run
  rw [e]
  exact h1
theorem x_R.ret {v : Option Value} (e : x_step M S c = some (.inr (.inr v))) (k : P (v, c.2.2.2.1, c.2.2.2.2.1, c.2.2.2.2.2)) : x_R mt S d M c P := by
  refine ⟨1, _, ?_, k⟩
  unfold x_run
  rw [e]
theorem x_R.call {a : Nat} {vs rest : List Value} {M' : xM} (e : x_step M S c = some (.inr (.inl (a, vs, rest)))) (em : mt[a]? = some M') (ec : (Nat.ble (x_cat vs) M'.2.2.2.1 && x_rcv M' vs c.2.2.2.1) = true)
    (k : x_R mt none d M' (0, lv_args 0 vs, [], c.2.2.2.1, 0, 0) (fun r => x_R mt S (d + 1) M (c.1 + 3, c.2.1, r.1.toList ++ rest, r.2.1, c.2.2.2.2.1 + r.2.2.1, c.2.2.2.2.2 + r.2.2.2) P)) : x_R mt S (d + 1) M c P := by
  obtain ⟨n1, r1, h1, n2, r2, h2, h3⟩ := k
  refine ⟨max n1 n2 + 1, r2, ?_, h3⟩
  unfold x_run
  rw [e]
  dsimp only
  rw [em]
  dsimp only
  rw [ec]
  dsimp only [cond]
  rw [x_more _ _ _ _ _ _ h1 _ (Nat.le_max_left _ _)]
  exact x_more _ _ _ _ _ _ h2 _ (Nat.le_max_right _ _)
theorem x_R.ite {p : Prop} [Decidable p] {c1 c2 : xC} (e : x_step M S c = if p then some (.inl c1) else some (.inl c2)) (k1 : p → x_R mt S d M c1 P) (k2 : ¬ p → x_R mt S d M c2 P) : x_R mt S d M c P := by
  by_cases h : p
  · rw [if_pos h] at e
    exact x_R.step e (k1 h)
  · rw [if_neg h] at e
    exact x_R.step e (k2 h)
/-- several plain steps -/
def x_steps (M : xM) (S : Option xS) : Nat → xC → Option xC
  | 0, c => some c
  | n + 1, c => match x_step M S c with
    | some (.inl c') => x_steps M S n c'
    | _ => none
theorem x_R.steps : ∀ (n : Nat) {c c' : xC}, x_steps M S n c = some c' → x_R mt S d M c' P → x_R mt S d M c P := by
  intro n
  induction n with
  | zero => intro c c' e k; cases e; exact k
  | succ n ih =>
    intro c c' e k
    unfold x_steps at e
    split at e
    · rename_i c1 e1
      exact x_R.step e1 (ih e k)
    · cases e
end XR
