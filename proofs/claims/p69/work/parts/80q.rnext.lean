/-! ===== the reference's line ===== -/
section R
variable {B : Nat → Int32} {n : Nat}
theorem ym_isk {τ : j_G} {r : Nat × Nat} {k q : Nat} (h : y_mw τ B n r) (hk : k < 8) (hq : q = 2000000 + y_fw k) : f_X12_is q τ = some (if r.1 = 0 ∧ y_kn B n r.2 = k then nI 1 else nI 0) := by
  subst hq
  rw [ym_is (y_strK (y_fw_lt k hk).2) h]
  by_cases c : r.1 = 0 ∧ y_kn B n r.2 = k
  · rw [if_pos c, if_pos ⟨c.1, (y_kn_iff hk).mpr c.2⟩]
  · rw [if_neg c, if_neg (fun z => c ⟨z.1, (y_kn_iff hk).mp z.2⟩)]
theorem ym_tkn {τ : j_G} {p k q : Nat} (h : y_mw τ B n (0, p)) (hk : k < 8) (hq : q = 2000000 + y_fw k) (hn : y_kn B n p ≠ k) : f_X12_takes q τ = some (nI 0, τ) := by
  subst hq
  rcases ym_takes (y_strK (y_fw_lt k hk).2) (y_ne _ (y_fw_lt k hk).2) h [] with ⟨c1, c2, _⟩ | ⟨c, e⟩
  · exact absurd ((y_kn_iff hk).mp c2) hn
  · exact e
theorem ym_tky {τ : j_G} {p k q : Nat} (h : y_mw τ B n (0, p)) (hk : k < 8) (hq : q = 2000000 + y_fw k) (hn : y_kn B n p = k) : ∃ τ', f_X12_takes q τ = some (nI 1, τ') ∧ y_mw τ' B n (0, y_e B n p) ∧ y_fm 8 13 1 0 τ τ' := by
  subst hq
  rcases ym_takes (y_strK (y_fw_lt k hk).2) (y_ne _ (y_fw_lt k hk).2) h [] with ⟨c1, c2, r⟩ | ⟨c, e⟩
  · exact r
  · exact absurd ⟨rfl, (y_kn_iff hk).mpr hn⟩ c
/-- what stands ahead of the kinds -/
theorem ym_pre {τ : j_G} {b : Nat → Nat} {p : Nat} (hW : y_W b) (h : y_mw τ B n (0, p)) (hm : y_mb (τ.1 81) b) :
    ∃ τ2, (∀ K : j_G → Option j_G, (j_b1 (f_X12_is 2000013 τ) fun v1 =>
  j_b1 (if v1 = 0 then (j_b1 (f_X12_is 2000014 τ) fun v3 =>
  j_lt (some (1 : Int32)) fun (k4 : Option Int32) =>
  if v3 = 0 then (j_b1 (f_X12_is 2000015 τ) fun v5 =>
  if ¬ v5 = 0 then (k4) else (some (0 : Int32))) else (k4)) else (some (1 : Int32))) fun v2 =>
  j_b1 (if v2 = 0 then (j_b1 (f_X12_is 2000016 τ) fun v7 =>
  if v7 = 0 then (j_b1 (f_X12_is 2000017 τ) fun v8 =>
  if v8 = 0 then (j_b1 (f_X12_is 2000018 τ) fun v9 =>
  if v9 = 0 then (j_b1 (f_X12_is 2000019 τ) fun v10 =>
  if v10 = 0 then (j_b1 (f_X12_errs (1 : Int32) τ) fun σ11 =>
  some σ11) else (some τ)) else (some τ)) else (some τ)) else (some τ)) else (some τ)) fun σ6 =>
  j_b1 (if ¬ v2 = 0 then (j_ix (5 : Int32) 116 (
  j_lt (j_b1 (f_X12_errs (3 : Int32) σ6) fun σ15 =>
  some σ15) fun (k13 : Option j_G) =>
  if ¬ (σ6.1 81 ((5 : Int32)).toNatClampNeg) = (24 : Int32) then (j_b1 (f_X12_is 2000018 σ6) fun v14 =>
  if ¬ v14 = 0 then (j_ix (6 : Int32) 116 (
  if (σ6.1 81 ((6 : Int32)).toNatClampNeg) = (4 : Int32) then (k13) else (some σ6))) else (some σ6)) else (k13))) else (j_b1 (f_X12_is 2000018 σ6) fun v16 =>
  if ¬ v16 = 0 then (j_ix (6 : Int32) 116 (
  if (σ6.1 81 ((6 : Int32)).toNatClampNeg) = (4 : Int32) then (j_b1 (f_X12_errs (3 : Int32) σ6) fun σ17 =>
  some σ17) else (some σ6))) else (some σ6))) K) = K τ2) ∧
      ((¬ (y_kn B n p = 8 ∨ y_kn B n p = 0) ∧ ¬ y_full b (y_kn B n p) ∧ τ2 = τ) ∨ ((y_kn B n p = 8 ∨ y_kn B n p = 0) ∧ y_mw τ2 B n (1, y_s B n p) ∧ y_fm 8 13 1 0 τ τ2) ∨ (¬ (y_kn B n p = 8 ∨ y_kn B n p = 0) ∧ y_full b (y_kn B n p) ∧ y_mw τ2 B n (3, y_s B n p) ∧ y_fm 8 13 1 0 τ τ2)) := by
  have b5 := hW.b5
  have b6 := hW.b6
  have kl := y_kn_le (B := B) (n := n) (p := p)
  have F : (nI 0 = (0 : Int32)) := rfl
  have i0 : ¬ ¬ nI 0 = (0 : Int32) := fun z => z rfl
  have i1 : ¬ nI 1 = (0 : Int32) := by decide
  have w1 : (1 : Int32) = nI 1 := rfl
  have w0 : (0 : Int32) = nI 0 := rfl
  have i81 : ∀ (k : Nat) (o : Option j_G), k < 116 → j_ix (nI k) 116 o = o := fun k o hk => y_i81 hk
  have i5 : ∀ (o : Option j_G), j_ix (5 : Int32) 116 o = o := fun o => y_i81 (k := 5) (by omega)
  have i6 : ∀ (o : Option j_G), j_ix (6 : Int32) 116 o = o := fun o => y_i81 (k := 6) (by omega)
  have isy : ∀ k q, k < 8 → q = 2000000 + y_fw k → y_kn B n p = k → f_X12_is q τ = some (nI 1) := fun k q a c d => by rw [ym_isk h a c, if_pos ⟨rfl, d⟩]
  have isn : ∀ k q, k < 8 → q = 2000000 + y_fw k → y_kn B n p ≠ k → f_X12_is q τ = some (nI 0) := fun k q a c d => by rw [ym_isk h a c, if_neg (fun z => d z.2)]
  have s5 : τ.1 81 ((5 : Int32)).toNatClampNeg = nI (b 5) := hm.f (j := 5) (by omega)
  have s6 : τ.1 81 ((6 : Int32)).toNatClampNeg = nI (b 6) := hm.f (j := 6) (by omega)
  have e24 : nI (b 5) = (24 : Int32) ↔ b 5 = 24 := by rw [show (24 : Int32) = nI 24 from rfl, y_eq (by omega) (by omega)]
  have e4 : nI (b 6) = (4 : Int32) ↔ b 6 = 4 := by rw [show (4 : Int32) = nI 4 from rfl, y_eq (by omega) (by omega)]
  obtain ⟨τ1, a1, a2, a3⟩ := ym_errs (k := 1) (by omega) (by omega) h
  obtain ⟨τ3, c1, c2, c3⟩ := ym_errs (k := 3) (by omega) (by omega) h
  have a1' : f_X12_errs (1 : Int32) τ = some τ1 := a1
  have c1' : f_X12_errs (3 : Int32) τ = some τ3 := c1
  have is1 : f_X12_is 2000018 τ1 = some (nI 0) := by rw [ym_isk (k := 6) (q := 2000018) a2 (by omega) rfl, if_neg (fun z => by have := z.1; simp at this)]
  by_cases k3 : y_kn B n p = 3
  · have n6 := isn 6 2000018 (by omega) rfl (by omega)
    by_cases f : b 5 = 24
    · refine ⟨τ3, fun K => ?_, Or.inr (Or.inr ⟨by omega, Or.inl ⟨by omega, by omega, f⟩, c2, c3.wide (by omega) (by omega) (by omega) (by omega)⟩)⟩
      simp only [j_lt]
      rw [isy 3 2000013 (by omega) rfl k3, j_b1_s, if_neg i1, j_b1_s, if_neg (show ¬ (1 : Int32) = 0 by decide), j_b1_s, if_pos (show ¬ (1 : Int32) = 0 by decide), i5, s5, if_neg (show ¬ ¬ nI (b 5) = (24 : Int32) from fun z => z (e24.mpr f)), c1', j_b1_s, j_b1_s]
    · refine ⟨τ, fun K => ?_, Or.inl ⟨by omega, fun z => by omega, rfl⟩⟩
      simp only [j_lt]
      rw [isy 3 2000013 (by omega) rfl k3, j_b1_s, if_neg i1, j_b1_s, if_neg (show ¬ (1 : Int32) = 0 by decide), j_b1_s, if_pos (show ¬ (1 : Int32) = 0 by decide), i5, s5, if_pos (show ¬ nI (b 5) = (24 : Int32) from fun z => f (e24.mp z)), n6, j_b1_s, if_neg i0, j_b1_s]
  have m3 := isn 3 2000013 (by omega) rfl k3
  by_cases k4 : y_kn B n p = 4
  · have n6 := isn 6 2000018 (by omega) rfl (by omega)
    by_cases f : b 5 = 24
    · refine ⟨τ3, fun K => ?_, Or.inr (Or.inr ⟨by omega, Or.inl ⟨by omega, by omega, f⟩, c2, c3.wide (by omega) (by omega) (by omega) (by omega)⟩)⟩
      simp only [j_lt]
      rw [m3, j_b1_s, if_pos F, isy 4 2000014 (by omega) rfl k4, j_b1_s, if_neg i1, j_b1_s, if_neg (show ¬ (1 : Int32) = 0 by decide), j_b1_s, if_pos (show ¬ (1 : Int32) = 0 by decide), i5, s5, if_neg (show ¬ ¬ nI (b 5) = (24 : Int32) from fun z => z (e24.mpr f)), c1', j_b1_s, j_b1_s]
    · refine ⟨τ, fun K => ?_, Or.inl ⟨by omega, fun z => by omega, rfl⟩⟩
      simp only [j_lt]
      rw [m3, j_b1_s, if_pos F, isy 4 2000014 (by omega) rfl k4, j_b1_s, if_neg i1, j_b1_s, if_neg (show ¬ (1 : Int32) = 0 by decide), j_b1_s, if_pos (show ¬ (1 : Int32) = 0 by decide), i5, s5, if_pos (show ¬ nI (b 5) = (24 : Int32) from fun z => f (e24.mp z)), n6, j_b1_s, if_neg i0, j_b1_s]
  have m4 := isn 4 2000014 (by omega) rfl k4
  by_cases k5 : y_kn B n p = 5
  · have n6 := isn 6 2000018 (by omega) rfl (by omega)
    by_cases f : b 5 = 24
    · refine ⟨τ3, fun K => ?_, Or.inr (Or.inr ⟨by omega, Or.inl ⟨by omega, by omega, f⟩, c2, c3.wide (by omega) (by omega) (by omega) (by omega)⟩)⟩
      simp only [j_lt]
      rw [m3, j_b1_s, if_pos F, m4, j_b1_s, if_pos F, isy 5 2000015 (by omega) rfl k5, j_b1_s, if_pos i1, j_b1_s, if_neg (show ¬ (1 : Int32) = 0 by decide), j_b1_s, if_pos (show ¬ (1 : Int32) = 0 by decide), i5, s5, if_neg (show ¬ ¬ nI (b 5) = (24 : Int32) from fun z => z (e24.mpr f)), c1', j_b1_s, j_b1_s]
    · refine ⟨τ, fun K => ?_, Or.inl ⟨by omega, fun z => by omega, rfl⟩⟩
      simp only [j_lt]
      rw [m3, j_b1_s, if_pos F, m4, j_b1_s, if_pos F, isy 5 2000015 (by omega) rfl k5, j_b1_s, if_pos i1, j_b1_s, if_neg (show ¬ (1 : Int32) = 0 by decide), j_b1_s, if_pos (show ¬ (1 : Int32) = 0 by decide), i5, s5, if_pos (show ¬ nI (b 5) = (24 : Int32) from fun z => f (e24.mp z)), n6, j_b1_s, if_neg i0, j_b1_s]
  have m5 := isn 5 2000015 (by omega) rfl k5
  by_cases k6 : y_kn B n p = 6
  · have n6 := isy 6 2000018 (by omega) rfl k6
    have n1 := isn 1 2000016 (by omega) rfl (by omega)
    have n2 := isn 2 2000017 (by omega) rfl (by omega)
    by_cases f : b 6 = 4
    · refine ⟨τ3, fun K => ?_, Or.inr (Or.inr ⟨by omega, Or.inr ⟨k6, f⟩, c2, c3.wide (by omega) (by omega) (by omega) (by omega)⟩)⟩
      simp only [j_lt]
      rw [m3, j_b1_s, if_pos F, m4, j_b1_s, if_pos F, m5, j_b1_s, if_neg i0, j_b1_s, if_pos (show (0 : Int32) = 0 from rfl), n1, j_b1_s, if_pos F, n2, j_b1_s, if_pos F, n6, j_b1_s, if_neg i1, j_b1_s, if_neg (show ¬ ¬ (0 : Int32) = 0 from fun z => z rfl), n6, j_b1_s, if_pos i1, i6, s6, if_pos (e4.mpr f), c1', j_b1_s, j_b1_s]
    · refine ⟨τ, fun K => ?_, Or.inl ⟨by omega, fun z => by omega, rfl⟩⟩
      simp only [j_lt]
      rw [m3, j_b1_s, if_pos F, m4, j_b1_s, if_pos F, m5, j_b1_s, if_neg i0, j_b1_s, if_pos (show (0 : Int32) = 0 from rfl), n1, j_b1_s, if_pos F, n2, j_b1_s, if_pos F, n6, j_b1_s, if_neg i1, j_b1_s, if_neg (show ¬ ¬ (0 : Int32) = 0 from fun z => z rfl), n6, j_b1_s, if_pos i1, i6, s6, if_neg (fun z => f (e4.mp z)), j_b1_s]
  have n6 := isn 6 2000018 (by omega) rfl k6
  by_cases k1 : y_kn B n p = 1
  · have n1 := isy 1 2000016 (by omega) rfl k1
    refine ⟨τ, fun K => ?_, Or.inl ⟨by omega, fun z => by omega, rfl⟩⟩
    simp only [j_lt]
    rw [m3, j_b1_s, if_pos F, m4, j_b1_s, if_pos F, m5, j_b1_s, if_neg i0, j_b1_s, if_pos (show (0 : Int32) = 0 from rfl), n1, j_b1_s, if_neg i1, j_b1_s, if_neg (show ¬ ¬ (0 : Int32) = 0 from fun z => z rfl), n6, j_b1_s, if_neg i0, j_b1_s]
  have n1 := isn 1 2000016 (by omega) rfl k1
  by_cases k2 : y_kn B n p = 2
  · have n2 := isy 2 2000017 (by omega) rfl k2
    refine ⟨τ, fun K => ?_, Or.inl ⟨by omega, fun z => by omega, rfl⟩⟩
    simp only [j_lt]
    rw [m3, j_b1_s, if_pos F, m4, j_b1_s, if_pos F, m5, j_b1_s, if_neg i0, j_b1_s, if_pos (show (0 : Int32) = 0 from rfl), n1, j_b1_s, if_pos F, n2, j_b1_s, if_neg i1, j_b1_s, if_neg (show ¬ ¬ (0 : Int32) = 0 from fun z => z rfl), n6, j_b1_s, if_neg i0, j_b1_s]
  have n2 := isn 2 2000017 (by omega) rfl k2
  by_cases k7 : y_kn B n p = 7
  · have n7 := isy 7 2000019 (by omega) rfl k7
    refine ⟨τ, fun K => ?_, Or.inl ⟨by omega, fun z => by omega, rfl⟩⟩
    simp only [j_lt]
    rw [m3, j_b1_s, if_pos F, m4, j_b1_s, if_pos F, m5, j_b1_s, if_neg i0, j_b1_s, if_pos (show (0 : Int32) = 0 from rfl), n1, j_b1_s, if_pos F, n2, j_b1_s, if_pos F, n6, j_b1_s, if_pos F, n7, j_b1_s, if_neg i1, j_b1_s, if_neg (show ¬ ¬ (0 : Int32) = 0 from fun z => z rfl), n6, j_b1_s, if_neg i0, j_b1_s]
  have n7 := isn 7 2000019 (by omega) rfl k7
  refine ⟨τ1, fun K => ?_, Or.inr (Or.inl ⟨by omega, a2, a3.wide (by omega) (by omega) (by omega) (by omega)⟩)⟩
  simp only [j_lt]
  rw [m3, j_b1_s, if_pos F, m4, j_b1_s, if_pos F, m5, j_b1_s, if_neg i0, j_b1_s, if_pos (show (0 : Int32) = 0 from rfl), n1, j_b1_s, if_pos F, n2, j_b1_s, if_pos F, n6, j_b1_s, if_pos F, n7, j_b1_s, if_pos F, a1', j_b1_s, j_b1_s, if_neg (show ¬ ¬ (0 : Int32) = 0 from fun z => z rfl), is1, j_b1_s, if_neg i0, j_b1_s]
end R
