/-! ===== reading what was written ===== -/
theorem j_r_ne {σ : j_G} {c c' j j' : Nat} {v : Int32} (h : c' ≠ c) : (j_si σ c j v).1 c' j' = σ.1 c' j' := by
  show (bif Nat.beq c' c && Nat.beq j' j then v else σ.1 c' j') = _
  rw [j_beq_ne h]; rfl
theorem j_r_eq {σ : j_G} {c j : Nat} {v : Int32} : (j_si σ c j v).1 c j = v := by
  show (bif Nat.beq c c && Nat.beq j j then v else σ.1 c j) = _
  rw [j_beq_self, j_beq_self]; rfl
theorem j_r_nj {σ : j_G} {c c' j j' : Nat} {v : Int32} (h : j' ≠ j) : (j_si σ c j v).1 c' j' = σ.1 c' j' := by
  show (bif Nat.beq c' c && Nat.beq j' j then v else σ.1 c' j') = _
  rw [j_beq_ne h, Bool.and_false]; rfl
theorem j_r_2 {σ : j_G} {c j : Nat} {v : Int32} : (j_si σ c j v).2 = σ.2 := rfl
theorem j_l_ne {σ : j_G} {c c' j j' : Nat} {v : Int64} (h : c' ≠ c) : (j_sl σ c j v).2 c' j' = σ.2 c' j' := by
  show (bif Nat.beq c' c && Nat.beq j' j then v else σ.2 c' j') = _
  rw [j_beq_ne h]; rfl
theorem j_l_eq {σ : j_G} {c j : Nat} {v : Int64} : (j_sl σ c j v).2 c j = v := by
  show (bif Nat.beq c c && Nat.beq j j then v else σ.2 c j) = _
  rw [j_beq_self, j_beq_self]; rfl
theorem j_l_nj {σ : j_G} {c c' j j' : Nat} {v : Int64} (h : j' ≠ j) : (j_sl σ c j v).2 c' j' = σ.2 c' j' := by
  show (bif Nat.beq c' c && Nat.beq j' j then v else σ.2 c' j') = _
  rw [j_beq_ne h, Bool.and_false]; rfl
theorem j_l_1 {σ : j_G} {c j : Nat} {v : Int64} : (j_sl σ c j v).1 = σ.1 := rfl
theorem j_c_ne {σ : j_G} {a0 sp a1 dp n c' j' : Nat} (h : c' ≠ a1) : (j_ci σ a0 sp a1 dp n).1 c' j' = σ.1 c' j' := by
  show (bif Nat.beq c' a1 then va_cpy (σ.1 a0) (σ.1 a1) sp dp n j' else σ.1 c' j') = _
  rw [j_beq_ne h]; rfl
theorem j_c_eq {σ : j_G} {a0 sp a1 dp n j' : Nat} : (j_ci σ a0 sp a1 dp n).1 a1 j' = va_cpy (σ.1 a0) (σ.1 a1) sp dp n j' := by
  show (bif Nat.beq a1 a1 then va_cpy (σ.1 a0) (σ.1 a1) sp dp n j' else σ.1 a1 j') = _
  rw [j_beq_self]; rfl
theorem j_c_2 {σ : j_G} {a0 sp a1 dp n : Nat} : (j_ci σ a0 sp a1 dp n).2 = σ.2 := rfl
theorem j_cl_ne {σ : j_G} {a0 sp a1 dp n c' j' : Nat} (h : c' ≠ a1) : (j_cl σ a0 sp a1 dp n).2 c' j' = σ.2 c' j' := by
  show (bif Nat.beq c' a1 then va_cpy (σ.2 a0) (σ.2 a1) sp dp n j' else σ.2 c' j') = _
  rw [j_beq_ne h]; rfl
theorem j_cl_eq {σ : j_G} {a0 sp a1 dp n j' : Nat} : (j_cl σ a0 sp a1 dp n).2 a1 j' = va_cpy (σ.2 a0) (σ.2 a1) sp dp n j' := by
  show (bif Nat.beq a1 a1 then va_cpy (σ.2 a0) (σ.2 a1) sp dp n j' else σ.2 a1 j') = _
  rw [j_beq_self]; rfl
theorem j_cl_1 {σ : j_G} {a0 sp a1 dp n : Nat} : (j_cl σ a0 sp a1 dp n).1 = σ.1 := rfl
theorem j_ixp {α : Type} {i : Int32} {n : Nat} {o : Option α} (h : ¬ (i < 0 ∨ n ≤ i.toNatClampNeg)) : j_ix i n o = o := if_neg h
theorem j_ixn {α : Type} {k n : Nat} {o : Option α} (h : k < n) (hn : n < 2 ^ 31) : j_ix (nI k) n o = o := j_ixp (nI_in h hn)
theorem j_b0_s {α β : Type} {x : α} {k : Option β} : j_b0 (some x) k = k := rfl
theorem j_b1_s {α β : Type} {x : α} {k : α → Option β} : j_b1 (some x) k = k x := rfl
theorem j_b2_s {α β γ : Type} {x : α × β} {k : α → β → Option γ} : j_b2 (some x) k = k x.1 x.2 := rfl
theorem j_b3_s {α β γ δ : Type} {x : α × β × γ} {k : α → β → γ → Option δ} : j_b3 (some x) k = k x.1 x.2.1 x.2.2 := rfl
/-- a comparison of an int seen as a long -/
theorem j_l64 (x : Int32) : x.toInt64.toInt = x.toInt := Int32.toInt_toInt64 x
/-! ===== the two heaps as one ===== -/
theorem j_swp {σ τ : j_G} : j_hp true σ τ = j_hp false τ σ := by
  unfold j_hp
  congr 1
  funext c q
  congr 1
  have h1 : j_ow true c = Nat.blt c j_nx := rfl
  have h2 : j_ow false c = Nat.ble j_nx c := rfl
  rw [h1, h2]
  by_cases h : c < j_nx
  · rw [show Nat.blt c j_nx = true from Nat.ble_eq_true_of_le h]
    cases hb : Nat.ble j_nx c with
    | false => rfl
    | true => exact absurd (Nat.le_of_ble_eq_true hb) (by omega)
  · rw [show Nat.ble j_nx c = true from Nat.ble_eq_true_of_le (by omega)]
    cases hb : Nat.blt c j_nx with
    | false => rfl
    | true => exact absurd (Nat.le_of_ble_eq_true hb) (by omega)
/-- a call out of the law -/
theorem j_Rc0 {S : Option xS} {d : Nat} {M M' : xM} {pc k z ai n1 : Nat} {l : xL} {st rest vs : List Value} {H H1 : xH} {v : Value} {P : Option Value × xH × Nat × Nat → Prop} (e : x_step M S (pc, l, st, H, k, z) = some (.inr (.inl (ai, vs, rest)))) (em : (x_mt : List xM)[ai]? = some M') (hc : (Nat.ble (x_cat vs) M'.2.2.2.1 && x_rcv M' vs H) = true) (h1 : x_run x_mt none n1 d M' (0, lv_args 0 vs, [], H, 0, 0) = some (some v, H1, 0, 0)) (kk : x_R x_mt S (d + 1) M (pc + 3, l, v :: rest, H1, k, z) P) : x_R x_mt S (d + 1) M (pc, l, st, H, k, z) P := by
  have h4 : x_R x_mt none d M' (0, lv_args 0 vs, [], H, 0, 0) (fun r => r = (some v, H1, 0, 0)) := ⟨n1, _, h1, rfl⟩
  refine x_R.call (c := (pc, l, st, H, k, z)) e em hc (x_R.mono h4 fun r hr => ?_)
  rw [hr]
  exact kk
theorem j_Rc {S : Option xS} {d : Nat} {M : xM} {pc k z : Nat} {l : xL} {st : List Value} {rest : List Value} {s : Bool} {σ τ σ' : j_G} {D ai : Nat} {vs : List Value} {oc : Option (Int32 × j_G)} {v : Int32} {P : Option Value × xH × Nat × Nat → Prop} (e : ∀ h : xH, x_step M S (pc, l, st, h, k, z) = some (.inr (.inl (ai, vs, rest)))) (hK : j_K s D ai vs σ oc j_Ri) (hD : D ≤ d) (ho : oc = some (v, σ')) (kk : x_R x_mt S (d + 1) M (pc + 3, l, .int v :: rest, j_hp s σ' τ, k, z) P) : x_R x_mt S (d + 1) M (pc, l, st, j_hp s σ τ, k, z) P := by
  obtain ⟨M', em, hc, n1, v1, σ1, h1, h2⟩ := hK d hD τ _ ho (fun v1 σ1 => v1 = some (.int v) ∧ σ1 = σ') ⟨rfl, rfl⟩
  have h3 : v1 = some (.int v) := h2.1
  have h4 : σ1 = σ' := h2.2
  rw [h3, h4] at h1
  exact j_Rc0 (e _) em hc h1 kk
