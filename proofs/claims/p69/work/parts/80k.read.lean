/-! ===== the reference reads what stands behind the first word ===== -/
section R
variable {B : Nat → Int32} {n : Nat}
theorem y_mbs {τ : j_G} {b : Nat → Nat} {j v : Nat} (h : y_mb (τ.1 81) b) (hj : ¬ (24 ≤ j ∧ j < 96 ∧ j % 3 = 1)) : y_mb ((j_si τ 81 j (nI v)).1 81) (y_u b j v) := by
  intro i hi
  by_cases e : i = j
  · subst e; rw [j_r_eq, if_neg hj, y_ue]
  · rw [j_r_nj e, y_un e]; exact h i hi
theorem y_mbp {τ : j_G} {b : Nat → Nat} {j v : Nat} (h : y_mb (τ.1 81) b) (hj : 24 ≤ j ∧ j < 96 ∧ j % 3 = 1) : y_mb ((j_si τ 81 j (nP v)).1 81) (y_u b j v) := by
  intro i hi
  by_cases e : i = j
  · subst e; rw [j_r_eq, if_pos hj, y_ue]
  · rw [j_r_nj e, y_un e]; exact h i hi
theorem y_mb.fm {τ τ' : j_G} {b : Nat → Nat} {f g : Nat} (h : y_mb (τ.1 81) b) (hf : y_fm f g 1 0 τ τ') : y_mb (τ'.1 81) b := by rw [(hf.2 81 (by omega) (by omega)).1]; exact h
theorem y_mw.s81 {τ : j_G} {r : Nat × Nat} {j : Nat} {v : Int32} (h : y_mw τ B n r) : y_mw (j_si τ 81 j v) B n r := h.fr (funext fun _ => j_r_ne (by omega)) (funext fun _ => j_r_ne (by omega))
abbrev y_fl (τ τ' : j_G) : Prop := y_fm 8 13 81 81 τ τ'
theorem y_fl.of {τ τ' : j_G} (h : y_fm 8 13 1 0 τ τ') : y_fl τ τ' := ⟨h.1, fun c a d => h.2 c a (by omega)⟩
theorem y_fl.s {τ τ' : j_G} {j : Nat} {v : Int32} (h : y_fl τ τ') : y_fl τ (j_si τ' 81 j v) := h.si (by omega) (by omega) (by omega)
theorem y_fl.t {τ τ' τ'' : j_G} (h : y_fl τ τ') (h' : y_fm 8 13 1 0 τ' τ'') : y_fl τ τ'' := y_fm.trans h (y_fl.of h')
theorem ym_first {τ : j_G} {b : Nat → Nat} {p : Nat} (h : y_mw τ B n (0, p)) (hm : y_mb (τ.1 81) b) :
    ∃ τ', f_X12_readFirst τ = some τ' ∧ y_mw τ' B n (y_gq B n y_q0 [some (y_L 8), some (y_L 9), none, some (y_L 10), none, some (y_L 11), none, some (y_L 12), none] ((0, p), [])).1 ∧ y_fl τ τ' ∧
      ((y_gq B n y_q0 [some (y_L 8), some (y_L 9), none, some (y_L 10), none, some (y_L 11), none, some (y_L 12), none] ((0, p), [])).1.1 = 0 → ∃ w0 w1 w2 w3, (y_gq B n y_q0 [some (y_L 8), some (y_L 9), none, some (y_L 10), none, some (y_L 11), none, some (y_L 12), none] ((0, p), [])).2 = [w0, w1, w2, w3] ∧ (1 ≤ w0 ∧ w0 < 5) ∧ (1 ≤ w1 ∧ w1 < 4) ∧ (1 ≤ w2 ∧ w2 < 201) ∧ w3 < 10 ∧ y_mb (τ'.1 81) (y_bb b w0 w1 w2 w3)) := by
  obtain ⟨τ1, a1, a2, a3⟩ := ym_needs (J := y_q0) (x := ((0, p), [])) (y_strK (k := 8) (by omega)) (y_ne 8 (by omega)) h
  have x1 := y_stp_w2 (B := B) (n := n) (J := y_q0) (x := ((0, p), [])) (y_ne 8 (by omega))
  generalize hx1 : y_stp B n y_q0 (some (y_L 8)) ((0, p), []) = X1 at *
  have go : y_gq B n y_q0 [some (y_L 8), some (y_L 9), none, some (y_L 10), none, some (y_L 11), none, some (y_L 12), none] ((0, p), []) = y_gq B n y_q0 [some (y_L 12), none] (y_gq B n y_q0 [some (y_L 11), none] (y_gq B n y_q0 [some (y_L 10), none] (y_gq B n y_q0 [some (y_L 9), none] X1))) := by rw [← hx1]; rfl
  rw [go]
  clear go hx1
  obtain ⟨v0, τ2, b1, b2, b3, b4⟩ := ym_toldR (J := y_q0) (lo := 1) (hi := 5) (y_strK (k := 9) (by omega)) (y_ne 9 (by omega)) (by omega) (by omega) (fun _ v => by rw [x1]; rfl) a2
  generalize y_gq B n y_q0 [some (y_L 9), none] X1 = X2 at *
  obtain ⟨v1, τ3, c1, c2, c3, c4⟩ := ym_toldR (J := y_q0) (lo := 1) (hi := 4) (y_strK (k := 10) (by omega)) (y_ne 10 (by omega)) (by omega) (by omega) (fun z v => by obtain ⟨w, _, e, _⟩ := b4 z; rw [e, x1]; rfl) (b2.s81 (j := 0) (v := v0))
  have g3 : (y_gq B n y_q0 [some (y_L 10), none] X2).1.1 = 0 → X2.1.1 = 0 := y_gq_good
  generalize y_gq B n y_q0 [some (y_L 10), none] X2 = X3 at *
  obtain ⟨v2, τ4, d1, d2, d3, d4⟩ := ym_toldR (J := y_q0) (lo := 1) (hi := 201) (y_strK (k := 11) (by omega)) (y_ne 11 (by omega)) (by omega) (by omega) (fun z v => by obtain ⟨w, _, e, _⟩ := b4 (g3 z); obtain ⟨w', _, e', _⟩ := c4 z; rw [e', e, x1]; rfl) (c2.s81 (j := 1) (v := v1))
  have g4 : (y_gq B n y_q0 [some (y_L 11), none] X3).1.1 = 0 → X3.1.1 = 0 := y_gq_good
  generalize y_gq B n y_q0 [some (y_L 11), none] X3 = X4 at *
  obtain ⟨v3, τ5, e1, e2, e3, e4⟩ := ym_toldR (J := y_q0) (lo := 0) (hi := 10) (y_strK (k := 12) (by omega)) (y_ne 12 (by omega)) (by omega) (by omega) (fun z v => by obtain ⟨w, _, e, _⟩ := b4 (g3 (g4 z)); obtain ⟨w', _, e', _⟩ := c4 (g4 z); obtain ⟨w'', _, e'', _⟩ := d4 z; rw [e'', e', e, x1]; rfl) (d2.s81 (j := 2) (v := v2))
  have g5 : (y_gq B n y_q0 [some (y_L 12), none] X4).1.1 = 0 → X4.1.1 = 0 := y_gq_good
  generalize y_gq B n y_q0 [some (y_L 12), none] X4 = X5 at *
  refine ⟨j_si (j_si (j_si τ5 81 3 v3) 81 10 (nI 1)) 81 11 (nI 100), ?_, ((e2.s81).s81).s81, ?_, fun z => ?_⟩
  · unfold f_X12_readFirst
    rw [a1, j_b1_s, show (1 : Int32) = nI 1 from rfl, show (4 : Int32) = nP 5 from by decide, b1, j_b2_s]
    have i0 : ∀ o : Option j_G, j_ix (0 : Int32) 116 o = o := fun o => y_ix (k := 0) (by omega) (by omega)
    have i1 : ∀ o : Option j_G, j_ix (nI 1) 116 o = o := fun o => y_ix (k := 1) (by omega) (by omega)
    have i2 : ∀ o : Option j_G, j_ix (2 : Int32) 116 o = o := fun o => y_ix (k := 2) (by omega) (by omega)
    have i3 : ∀ o : Option j_G, j_ix (3 : Int32) 116 o = o := fun o => y_ix (k := 3) (by omega) (by omega)
    have i10 : ∀ o : Option j_G, j_ix (10 : Int32) 116 o = o := fun o => y_ix (k := 10) (by omega) (by omega)
    have i11 : ∀ o : Option j_G, j_ix (11 : Int32) 116 o = o := fun o => y_ix (k := 11) (by omega) (by omega)
    simp only [j_lt]
    rw [i0, show (3 : Int32) = nP 4 from by decide, show (0 : Int32).toNatClampNeg = 0 from rfl, c1, j_b2_s, i1, show (nI 1).toNatClampNeg = 1 from rfl, show (200 : Int32) = nP 201 from by decide, d1, j_b2_s, i2, show (2 : Int32).toNatClampNeg = 2 from rfl, show (0 : Int32) = nI 0 from rfl, show (9 : Int32) = nP 10 from by decide, e1, j_b2_s, show nP 4 = (3 : Int32) from by decide, i3, i10, i11]
    rfl
  · refine y_fl.s (y_fl.s (y_fl.s ?_))
    exact y_fl.t (y_fl.s (y_fl.t (y_fl.s (y_fl.t (y_fl.s (y_fl.t (y_fl.of a3) b3)) c3)) d3)) e3
  · obtain ⟨w0, rfl, q0, h0⟩ := b4 (g3 (g4 (g5 z)))
    obtain ⟨w1, rfl, q1, h1⟩ := c4 (g4 (g5 z))
    obtain ⟨w2, rfl, q2, h2⟩ := d4 (g5 z)
    obtain ⟨w3, rfl, q3, h3⟩ := e4 z
    refine ⟨w0, w1, w2, w3, by rw [q3, q2, q1, q0, x1]; rfl, h0, h1, h2, h3.2, ?_⟩
    have m2 := (hm.fm a3).fm b3
    have m3 := (y_mbs (j := 0) (v := w0) m2 (by omega)).fm c3
    have m4 := (y_mbs (j := 1) (v := w1) m3 (by omega)).fm d3
    have m5 := (y_mbs (j := 2) (v := w2) m4 (by omega)).fm e3
    exact y_mbs (y_mbs (y_mbs m5 (by omega)) (by omega)) (by omega)
end R
