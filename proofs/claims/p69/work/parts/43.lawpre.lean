/-! ===== calls out of the law, the script read ===== -/
theorem j_Rsld {d L : Nat} {xs : Nat → Int32} {i : Int32} {c c' : xC} {P : Option Value × xH × Nat × Nat → Prop} (e : x_step M_law (some (L, xs)) c = x_in i L (some (.inl c'))) (h : ¬ (i < 0 ∨ L ≤ i.toNatClampNeg)) (kk : x_R x_mt (some (L, xs)) d M_law c' P) : x_R x_mt (some (L, xs)) d M_law c P :=
  x_R.step (e.trans (if_neg h)) kk
theorem j_RcSi {S : Option xS} {d : Nat} {M : xM} {pc k z : Nat} {l : xL} {st : List Value} {rest : List Value} {s : Bool} {σ τ σ' : j_G} {D ai : Nat} {vs : List Value} {oc : Option (Int32 × j_G)} {v : Int32} {P : Option Value × xH × Nat × Nat → Prop} (e : ∀ h : xH, x_step M S (pc, l, st, h, k, z) = some (.inr (.inl (ai, vs, rest)))) (hK : j_K s D ai vs σ oc j_Ri) (hD : D ≤ d) (ho : oc = some (v, σ')) (kk : x_R x_mt S (d + 1) M (pc + 3, l, .int v :: rest, j_hp s σ' τ, k, z) P) : x_R x_mt S (d + 1) M (pc, l, st, j_hp s σ τ, k, z) P := by
  obtain ⟨M', em, hc, n1, v1, σ1, h1, h2⟩ := hK d hD τ _ ho (fun v1 σ1 => v1 = some (.int v) ∧ σ1 = σ') ⟨rfl, rfl⟩
  have h3 : v1 = some (.int v) := h2.1
  have h4 : σ1 = σ' := h2.2
  rw [h3, h4] at h1
  exact j_Rc0 (e _) em hc h1 kk
theorem j_RcPi {S : Option xS} {d : Nat} {M : xM} {pc k z : Nat} {l : xL} {st : List Value} {rest : List Value} {s : Bool} {σ τ : j_G} {D ai : Nat} {vs : List Value} {oc : Option Int32} {v : Int32} {P : Option Value × xH × Nat × Nat → Prop} (e : ∀ h : xH, x_step M S (pc, l, st, h, k, z) = some (.inr (.inl (ai, vs, rest)))) (hK : j_K s D ai vs σ oc (j_Pi σ)) (hD : D ≤ d) (ho : oc = some v) (kk : x_R x_mt S (d + 1) M (pc + 3, l, .int v :: rest, j_hp s σ τ, k, z) P) : x_R x_mt S (d + 1) M (pc, l, st, j_hp s σ τ, k, z) P := by
  obtain ⟨M', em, hc, n1, v1, σ1, h1, h2⟩ := hK d hD τ _ ho (fun v1 σ1 => v1 = some (.int v) ∧ σ1 = σ) ⟨rfl, rfl⟩
  have h3 : v1 = some (.int v) := h2.1
  have h4 : σ1 = σ := h2.2
  rw [h3, h4] at h1
  exact j_Rc0 (e _) em hc h1 kk
theorem j_RcTi {S : Option xS} {d : Nat} {M : xM} {pc k z : Nat} {l : xL} {st : List Value} {rest : List Value} {s : Bool} {σ τ : j_G} {D ai : Nat} {vs : List Value} {x v : Int32} {P : Option Value × xH × Nat × Nat → Prop} (e : ∀ h : xH, x_step M S (pc, l, st, h, k, z) = some (.inr (.inl (ai, vs, rest)))) (hK : j_K s D ai vs σ (some x) (j_Pi σ)) (hD : D ≤ d) (ho : x = v) (kk : x_R x_mt S (d + 1) M (pc + 3, l, .int v :: rest, j_hp s σ τ, k, z) P) : x_R x_mt S (d + 1) M (pc, l, st, j_hp s σ τ, k, z) P :=
  j_RcPi e hK hD (congrArg some ho) kk
theorem j_RcSl {S : Option xS} {d : Nat} {M : xM} {pc k z : Nat} {l : xL} {st : List Value} {rest : List Value} {s : Bool} {σ τ σ' : j_G} {D ai : Nat} {vs : List Value} {oc : Option (Int64 × j_G)} {v : Int64} {P : Option Value × xH × Nat × Nat → Prop} (e : ∀ h : xH, x_step M S (pc, l, st, h, k, z) = some (.inr (.inl (ai, vs, rest)))) (hK : j_K s D ai vs σ oc j_Rl) (hD : D ≤ d) (ho : oc = some (v, σ')) (kk : x_R x_mt S (d + 1) M (pc + 3, l, .long v :: rest, j_hp s σ' τ, k, z) P) : x_R x_mt S (d + 1) M (pc, l, st, j_hp s σ τ, k, z) P := by
  obtain ⟨M', em, hc, n1, v1, σ1, h1, h2⟩ := hK d hD τ _ ho (fun v1 σ1 => v1 = some (.long v) ∧ σ1 = σ') ⟨rfl, rfl⟩
  have h3 : v1 = some (.long v) := h2.1
  have h4 : σ1 = σ' := h2.2
  rw [h3, h4] at h1
  exact j_Rc0 (e _) em hc h1 kk
theorem j_RcPl {S : Option xS} {d : Nat} {M : xM} {pc k z : Nat} {l : xL} {st : List Value} {rest : List Value} {s : Bool} {σ τ : j_G} {D ai : Nat} {vs : List Value} {oc : Option Int64} {v : Int64} {P : Option Value × xH × Nat × Nat → Prop} (e : ∀ h : xH, x_step M S (pc, l, st, h, k, z) = some (.inr (.inl (ai, vs, rest)))) (hK : j_K s D ai vs σ oc (j_Pl σ)) (hD : D ≤ d) (ho : oc = some v) (kk : x_R x_mt S (d + 1) M (pc + 3, l, .long v :: rest, j_hp s σ τ, k, z) P) : x_R x_mt S (d + 1) M (pc, l, st, j_hp s σ τ, k, z) P := by
  obtain ⟨M', em, hc, n1, v1, σ1, h1, h2⟩ := hK d hD τ _ ho (fun v1 σ1 => v1 = some (.long v) ∧ σ1 = σ) ⟨rfl, rfl⟩
  have h3 : v1 = some (.long v) := h2.1
  have h4 : σ1 = σ := h2.2
  rw [h3, h4] at h1
  exact j_Rc0 (e _) em hc h1 kk
theorem j_RcTl {S : Option xS} {d : Nat} {M : xM} {pc k z : Nat} {l : xL} {st : List Value} {rest : List Value} {s : Bool} {σ τ : j_G} {D ai : Nat} {vs : List Value} {x v : Int64} {P : Option Value × xH × Nat × Nat → Prop} (e : ∀ h : xH, x_step M S (pc, l, st, h, k, z) = some (.inr (.inl (ai, vs, rest)))) (hK : j_K s D ai vs σ (some x) (j_Pl σ)) (hD : D ≤ d) (ho : x = v) (kk : x_R x_mt S (d + 1) M (pc + 3, l, .long v :: rest, j_hp s σ τ, k, z) P) : x_R x_mt S (d + 1) M (pc, l, st, j_hp s σ τ, k, z) P :=
  j_RcPl e hK hD (congrArg some ho) kk
/-! a step of the law, its row found before -/
def x_do (M : xM) (S : Option xS) (r : xR) (c : xC) : xO := match x_grp r.2.1 with
  | 1 => x_ins1 r.2.1 c.1 r.2.2.2.1 c.2.1 c.2.2.1 c.2.2.2.1 c.2.2.2.2.1 c.2.2.2.2.2
  | 2 => x_ins2 S r.2.1 c.1 r.2.2.2.1 r.2.2.2.2.1 c.2.1 c.2.2.1 c.2.2.2.1 c.2.2.2.2.1 c.2.2.2.2.2
  | 3 => x_ins3 r.2.1 c.1 r.2.2.2.1 r.2.2.2.2.1 c.2.1 c.2.2.1 c.2.2.2.1 c.2.2.2.2.1 c.2.2.2.2.2
  | _ => match x_ret M.2.2.2.2.1 r.2.1 c.2.2.1 with
    | some v => some (.inr (.inr v))
    | none => none
theorem x_step_do {M : xM} {S : Option xS} {r : xR} {c : xC} (er : x_row (x_rws M) c.1 = some r) : x_step M S c = x_do M S r c := by
  unfold x_step
  rw [show x_row M.2.2.2.2.2.2.2 c.1 = some r from er]
  rfl
theorem j_Lst {d L : Nat} {xs : Nat → Int32} {c c' : xC} {r : xR} {P : Option Value × xH × Nat × Nat → Prop} (er : x_row (x_rws M_law) c.1 = some r) (e : x_do M_law (some (L, xs)) r c = some (.inl c')) (kk : x_R x_mt (some (L, xs)) d M_law c' P) : x_R x_mt (some (L, xs)) d M_law c P :=
  x_R.step ((x_step_do er).trans e) kk
theorem j_Lsl {d L : Nat} {xs : Nat → Int32} {i : Int32} {c c' : xC} {r : xR} {P : Option Value × xH × Nat × Nat → Prop} (er : x_row (x_rws M_law) c.1 = some r) (e : x_do M_law (some (L, xs)) r c = x_in i L (some (.inl c'))) (h : ¬ (i < 0 ∨ L ≤ i.toNatClampNeg)) (kk : x_R x_mt (some (L, xs)) d M_law c' P) : x_R x_mt (some (L, xs)) d M_law c P :=
  x_R.step (((x_step_do er).trans e).trans (if_neg h)) kk
theorem j_Lsc {S : Option xS} {c : xC} {r : xR} {o : xO} (er : x_row (x_rws M_law) c.1 = some r) (e : x_do M_law S r c = o) : x_step M_law S c = o := (x_step_do er).trans e
