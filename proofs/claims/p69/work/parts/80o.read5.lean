/-! ===== a player, tickets ===== -/
section R
variable {B : Nat → Int32} {n : Nat}
def y_F24 (τ : j_G) (b : Nat → Nat) : Prop := ∀ j, j < 24 → τ.1 81 j = nI (b j)
theorem y_F24.fm {τ τ' : j_G} {b : Nat → Nat} {f g : Nat} (h : y_F24 τ b) (hf : y_fm f g 1 0 τ τ') : y_F24 τ' b := fun j hj => by rw [(hf.2 81 (by omega) (by omega)).1]; exact h j hj
theorem y_F24.s {τ : j_G} {b : Nat → Nat} {k : Nat} {v : Int32} (h : y_F24 τ b) (hk : 24 ≤ k) : y_F24 (j_si τ 81 k v) b := fun j hj => by rw [j_r_nj (by omega)]; exact h j hj
theorem ym_fh2 {τ : j_G} {b : Nat → Nat} (h : y_F24 τ b) : f_X12_freshHoles τ = some (nI (y_ho b)) := by
  have e0 := h 0 (by omega)
  have e1 := h 1 (by omega)
  unfold f_X12_freshHoles y_ho
  simp (disch := omega) only [y_lit, y_n1, nI_add, pk_mul, j_lt, j_b1_s, j_b2_s, j_b3_s, j_b0_s, y_bo, y_bo1, y_bo0, y_i0, y_i1, Classical.not_not, nI_clamp, y_ix, y_lt, y_le, y_eq, y_nP, y_nPs, y_ltP, y_ltQ, y_ltPP, y_eqP, y_eqQ, y_eqPP, if_pos, if_neg, ite_true, ite_false, not_true_eq_false, not_false_eq_true, and_true, true_and, and_false, false_and, or_true, true_or, or_false, false_or, e0, e1]
theorem ym_rplayer {τ : j_G} {b : Nat → Nat} {p : Nat} (hW : y_W b) (on : 0 < b 9) (h6 : b 6 < 4) (h : y_mw τ B n (0, p)) (hm : y_mb (τ.1 81) b) :
    ∃ τ', f_X12_readPlayer τ = some τ' ∧ y_mw τ' B n (y_gq B n (y_q6 b) [some (y_L 21), none, some (y_L 22), none, some (y_L 23), none, some (y_L 24), none, some (y_L 25), none] ((0, p), [])).1 ∧ y_fl τ τ' ∧
      ((y_gq B n (y_q6 b) [some (y_L 21), none, some (y_L 22), none, some (y_L 23), none, some (y_L 24), none, some (y_L 25), none] ((0, p), [])).1.1 = 0 → ∃ w0 w1 w2 w3 w4, (y_gq B n (y_q6 b) [some (y_L 21), none, some (y_L 22), none, some (y_L 23), none, some (y_L 24), none, some (y_L 25), none] ((0, p), [])).2 = [w0, w1, w2, w3, w4] ∧ (1 ≤ w0 ∧ w0 < 10) ∧ w1 < 21 ∧ w2 < 100 ∧ w3 < 10 ∧ w4 < y_ho b ∧ y_mb (τ'.1 81) (y_pb b w0 w1 w2 w3 w4)) := by
  have ho := hW.ho
  have go : y_gq B n (y_q6 b) [some (y_L 21), none, some (y_L 22), none, some (y_L 23), none, some (y_L 24), none, some (y_L 25), none] ((0, p), []) = y_gq B n (y_q6 b) [some (y_L 25), none] (y_gq B n (y_q6 b) [some (y_L 24), none] (y_gq B n (y_q6 b) [some (y_L 23), none] (y_gq B n (y_q6 b) [some (y_L 22), none] (y_gq B n (y_q6 b) [some (y_L 21), none] ((0, p), []))))) := rfl
  rw [go]
  clear go
  have F0 : y_F24 τ b := fun j hj => hm.f hj
  obtain ⟨v0, τ1, a1, a2, a3, a4⟩ := ym_toldR (J := y_q6 b) (x := ((0, p), [])) (lo := 1) (hi := 10) (y_strK (k := 21) (by omega)) (y_ne 21 (by omega)) (by omega) (by omega) (fun _ v => rfl) h
  have F1 := (F0.fm a3).s (k := 96 + 5 * b 6) (v := v0) (by omega)
  generalize y_gq B n (y_q6 b) [some (y_L 21), none] ((0, p), []) = X1 at *
  obtain ⟨v1, τ2, b1, b2, b3, b4⟩ := ym_toldR (J := y_q6 b) (x := X1) (lo := 0) (hi := 21) (y_strK (k := 22) (by omega)) (y_ne 22 (by omega)) (by omega) (by omega) (fun z v => by obtain ⟨w, _, e, _⟩ := a4 z; rw [e]; rfl) (a2.s81 (j := 96 + 5 * b 6) (v := v0))
  have F2 := (F1.fm b3).s (k := 97 + 5 * b 6) (v := v1) (by omega)
  have g2 : (y_gq B n (y_q6 b) [some (y_L 22), none] X1).1.1 = 0 → X1.1.1 = 0 := y_gq_good
  generalize y_gq B n (y_q6 b) [some (y_L 22), none] X1 = X2 at *
  obtain ⟨v2, τ3, c1, c2, c3, c4⟩ := ym_toldR (J := y_q6 b) (x := X2) (lo := 0) (hi := 100) (y_strK (k := 23) (by omega)) (y_ne 23 (by omega)) (by omega) (by omega) (fun z v => by obtain ⟨w, _, e, _⟩ := a4 (g2 z); obtain ⟨w', _, e', _⟩ := b4 z; rw [e', e]; rfl) (b2.s81 (j := 97 + 5 * b 6) (v := v1))
  have F3 := (F2.fm c3).s (k := 98 + 5 * b 6) (v := v2) (by omega)
  have g3 : (y_gq B n (y_q6 b) [some (y_L 23), none] X2).1.1 = 0 → X2.1.1 = 0 := y_gq_good
  generalize y_gq B n (y_q6 b) [some (y_L 23), none] X2 = X3 at *
  obtain ⟨v3, τ4, d1, d2, d3, d4⟩ := ym_toldR (J := y_q6 b) (x := X3) (lo := 0) (hi := 10) (y_strK (k := 24) (by omega)) (y_ne 24 (by omega)) (by omega) (by omega) (fun z v => by obtain ⟨w, _, e, _⟩ := a4 (g2 (g3 z)); obtain ⟨w', _, e', _⟩ := b4 (g3 z); obtain ⟨w'', _, e'', _⟩ := c4 z; rw [e'', e', e]; rfl) (c2.s81 (j := 98 + 5 * b 6) (v := v2))
  have F4 := (F3.fm d3).s (k := 99 + 5 * b 6) (v := v3) (by omega)
  have g4 : (y_gq B n (y_q6 b) [some (y_L 24), none] X3).1.1 = 0 → X3.1.1 = 0 := y_gq_good
  generalize y_gq B n (y_q6 b) [some (y_L 24), none] X3 = X4 at *
  obtain ⟨v4, τ5, e1, e2, e3, e4⟩ := ym_toldR (J := y_q6 b) (x := X4) (lo := 0) (hi := y_ho b) (y_strK (k := 25) (by omega)) (y_ne 25 (by omega)) (by omega) (by omega) (fun z v => by obtain ⟨w, _, e, _⟩ := a4 (g2 (g3 (g4 z))); obtain ⟨w', _, e', _⟩ := b4 (g3 (g4 z)); obtain ⟨w'', _, e'', _⟩ := c4 (g4 z); obtain ⟨w''', _, e''', _⟩ := d4 z; rw [e''', e'', e', e]; rfl) (d2.s81 (j := 99 + 5 * b 6) (v := v3))
  have F5 := (F4.fm e3).s (k := 100 + 5 * b 6) (v := v4) (by omega)
  have g5 : (y_gq B n (y_q6 b) [some (y_L 25), none] X4).1.1 = 0 → X4.1.1 = 0 := y_gq_good
  generalize y_gq B n (y_q6 b) [some (y_L 25), none] X4 = X5 at *
  refine ⟨j_si (j_si τ5 81 (100 + 5 * b 6) v4) 81 6 (nI (b 6 + 1)), ?_, (e2.s81).s81, ?_, fun z => ?_⟩
  · have ix : ∀ q : Nat, q < 5 → ∀ o : Option j_G, j_ix (nI (96 + 5 * b 6) + nI q) 116 o = o := fun q hq o => by rw [nI_add]; exact y_ix (by omega) (by omega)
    have ec : ∀ q : Nat, q < 5 → (nI (96 + 5 * b 6) + nI q).toNatClampNeg = 96 + q + 5 * b 6 := fun q hq => by rw [nI_add, nI_clamp (by omega)]; omega
    have ee : (96 : Int32) + (5 : Int32) * (τ.1 81 ((6 : Int32)).toNatClampNeg) = nI (96 + 5 * b 6) := by
      rw [show ((6 : Int32)).toNatClampNeg = 6 from rfl, hm.f (j := 6) (by omega), show (96 : Int32) = nI 96 from rfl, show (5 : Int32) = nI 5 from rfl, pk_mul, nI_add]
    have f6 := F5 6 (by omega)
    have a1' : f_X12_told 2000021 (1 : Int32) (9 : Int32) τ = some (v0, τ1) := by rw [show (9 : Int32) = nP 10 from by decide]; exact a1
    have b1' : f_X12_told 2000022 (0 : Int32) (20 : Int32) (j_si τ1 81 (96 + 5 * b 6) v0) = some (v1, τ2) := by rw [show (20 : Int32) = nP 21 from by decide]; exact b1
    have c1' : f_X12_told 2000023 (0 : Int32) (99 : Int32) (j_si τ2 81 (97 + 5 * b 6) v1) = some (v2, τ3) := by rw [show (99 : Int32) = nP 100 from by decide]; exact c1
    have d1' : f_X12_told 2000024 (0 : Int32) (9 : Int32) (j_si τ3 81 (98 + 5 * b 6) v2) = some (v3, τ4) := by rw [show (9 : Int32) = nP 10 from by decide]; exact d1
    have e1' : f_X12_told 2000025 (0 : Int32) (nI (y_ho b) - (1 : Int32)) (j_si τ4 81 (99 + 5 * b 6) v3) = some (v4, τ5) := e1
    unfold f_X12_readPlayer
    simp only [j_lt]
    rw [show j_ix (6 : Int32) 116 _ = _ from y_i81 (k := 6) (by omega), ee]
    rw [a1', j_b2_s]
    rw [show j_ix (nI (96 + 5 * b 6) + (0 : Int32)) 116 _ = _ from ix 0 (by omega) _, show (nI (96 + 5 * b 6) + (0 : Int32)).toNatClampNeg = 96 + 5 * b 6 from ec 0 (by omega)]
    rw [b1', j_b2_s]
    rw [show j_ix (nI (96 + 5 * b 6) + (1 : Int32)) 116 _ = _ from ix 1 (by omega) _, show (nI (96 + 5 * b 6) + (1 : Int32)).toNatClampNeg = 97 + 5 * b 6 from ec 1 (by omega)]
    rw [c1', j_b2_s]
    rw [show j_ix (nI (96 + 5 * b 6) + (2 : Int32)) 116 _ = _ from ix 2 (by omega) _, show (nI (96 + 5 * b 6) + (2 : Int32)).toNatClampNeg = 98 + 5 * b 6 from ec 2 (by omega)]
    rw [d1', j_b2_s]
    rw [show j_ix (nI (96 + 5 * b 6) + (3 : Int32)) 116 _ = _ from ix 3 (by omega) _, show (nI (96 + 5 * b 6) + (3 : Int32)).toNatClampNeg = 99 + 5 * b 6 from ec 3 (by omega)]
    rw [ym_fh2 F4, j_b1_s, e1', j_b2_s]
    rw [show j_ix (nI (96 + 5 * b 6) + (4 : Int32)) 116 _ = _ from ix 4 (by omega) _, show (nI (96 + 5 * b 6) + (4 : Int32)).toNatClampNeg = 100 + 5 * b 6 from ec 4 (by omega)]
    rw [show j_ix (6 : Int32) 116 _ = _ from y_i81 (k := 6) (by omega), show j_ix (6 : Int32) 116 _ = _ from y_i81 (k := 6) (by omega), show ((6 : Int32)).toNatClampNeg = 6 from rfl, f6, show nI (b 6) + (1 : Int32) = nI (b 6 + 1) by simp (disch := omega) only [y_lit, nI_add]]
  · refine y_fl.s (y_fl.s ?_)
    exact y_fl.t (y_fl.s (y_fl.t (y_fl.s (y_fl.t (y_fl.s (y_fl.t (y_fl.s (y_fl.of a3)) b3)) c3)) d3)) e3
  · obtain ⟨w0, rfl, q0, h0⟩ := a4 (g2 (g3 (g4 (g5 z))))
    obtain ⟨w1, rfl, q1, h1⟩ := b4 (g3 (g4 (g5 z)))
    obtain ⟨w2, rfl, q2, h2⟩ := c4 (g4 (g5 z))
    obtain ⟨w3, rfl, q3, h3⟩ := d4 (g5 z)
    obtain ⟨w4, rfl, q4, h4⟩ := e4 z
    refine ⟨w0, w1, w2, w3, w4, by rw [q4, q3, q2, q1, q0]; rfl, h0, h1.2, h2.2, h3.2, h4.2, ?_⟩
    have m1 := hm.fm a3
    have m2 := (y_mbs (j := 96 + 5 * b 6) (v := w0) m1 (by omega)).fm b3
    have m3 := (y_mbs (j := 97 + 5 * b 6) (v := w1) m2 (by omega)).fm c3
    have m4 := (y_mbs (j := 98 + 5 * b 6) (v := w2) m3 (by omega)).fm d3
    have m5 := (y_mbs (j := 99 + 5 * b 6) (v := w3) m4 (by omega)).fm e3
    exact y_mbs (y_mbs m5 (by omega)) (by omega)
theorem ym_rtick {τ : j_G} {b : Nat → Nat} {p : Nat} (h : y_mw τ B n (0, p)) (hm : y_mb (τ.1 81) b) :
    ∃ τ', (j_b2 (f_X12_number (1 : Int32) (99 : Int32) τ) fun v38 σ37 => j_ix (10 : Int32) 116 (j_lt (j_si σ37 81 ((10 : Int32)).toNatClampNeg v38) fun σ39 =>
      j_b2 (f_X12_told 2000026 (1 : Int32) (500 : Int32) σ39) fun v41 σ40 => j_ix (11 : Int32) 116 (j_lt (j_si σ40 81 ((11 : Int32)).toNatClampNeg v41) fun σ42 => some σ42))) = some τ' ∧ y_mw τ' B n (y_gq B n y_q7 [none, some (y_L 26), none] ((0, p), [])).1 ∧ y_fl τ τ' ∧
      ((y_gq B n y_q7 [none, some (y_L 26), none] ((0, p), [])).1.1 = 0 → ∃ w0 w1, (y_gq B n y_q7 [none, some (y_L 26), none] ((0, p), [])).2 = [w0, w1] ∧ (1 ≤ w0 ∧ w0 < 100) ∧ (1 ≤ w1 ∧ w1 < 501) ∧ y_mb (τ'.1 81) (y_u (y_u b 10 w0) 11 w1)) := by
  have go : y_gq B n y_q7 [none, some (y_L 26), none] ((0, p), []) = y_gq B n y_q7 [some (y_L 26), none] (y_stp B n y_q7 none ((0, p), [])) := rfl
  rw [go]
  clear go
  obtain ⟨v0, τ1, a1, a2, a3, a4⟩ := ym_numR (J := y_q7) (x := ((0, p), [])) (lo := 1) (hi := 100) (by omega) (by omega) (fun _ v => rfl) h
  generalize y_stp B n y_q7 none ((0, p), []) = X1 at *
  obtain ⟨v1, τ2, b1, b2, b3, b4⟩ := ym_toldR (J := y_q7) (x := X1) (lo := 1) (hi := 501) (y_strK (k := 26) (by omega)) (y_ne 26 (by omega)) (by omega) (by omega) (fun z v => by obtain ⟨_, e, _⟩ := a4 z; rw [e]; rfl) (a2.s81 (j := 10) (v := v0))
  have g2 : (y_gq B n y_q7 [some (y_L 26), none] X1).1.1 = 0 → X1.1.1 = 0 := y_gq_good
  generalize y_gq B n y_q7 [some (y_L 26), none] X1 = X2 at *
  refine ⟨j_si τ2 81 11 v1, ?_, b2.s81, y_fl.s (y_fl.t (y_fl.s (y_fl.of a3)) b3), fun z => ?_⟩
  · have a1' : f_X12_number (1 : Int32) (99 : Int32) τ = some (v0, τ1) := by rw [show (99 : Int32) = nP 100 from by decide]; exact a1
    have b1' : f_X12_told 2000026 (1 : Int32) (500 : Int32) (j_si τ1 81 10 v0) = some (v1, τ2) := by rw [show (500 : Int32) = nP 501 from by decide]; exact b1
    rw [a1', j_b2_s, show j_ix (10 : Int32) 116 _ = _ from y_i81 (k := 10) (by omega)]
    simp only [j_lt]
    rw [show ((10 : Int32)).toNatClampNeg = 10 from rfl, b1', j_b2_s, show j_ix (11 : Int32) 116 _ = _ from y_i81 (k := 11) (by omega)]
    rfl
  · obtain ⟨e1, e2, e3, e4⟩ := a4 (g2 z)
    obtain ⟨w1, rfl, q1, h1⟩ := b4 z
    subst e1
    refine ⟨_, w1, by rw [q1, e2]; rfl, ⟨e3, e4⟩, h1, ?_⟩
    exact y_mbs ((y_mbs (j := 10) (hm.fm a3) (by omega)).fm b3) (by omega)
end R
