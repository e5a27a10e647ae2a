/-! ===== stay, shut, a hole, a coming ===== -/
section R
variable {B : Nat → Int32} {n : Nat}
theorem y_i81 {α : Type} {o : Option α} {k : Nat} (h : k < 116) : j_ix (nI k) 116 o = o := y_ix h (by omega)
theorem ym_fs {τ : j_G} {b : Nat → Nat} {t : Nat} (hW : y_W b) (hm : y_mb (τ.1 81) b) (ht : t ≤ 1000000) : f_X12_freshStay (nI t) τ = some (if y_hi b t (b 4) 0 < b 4 then nI (y_hi b t (b 4) 0) else nP 0) := by
  have b4 := hW.b4
  have b2 := hW.b2
  have key : ∀ m k f, k + m = b 4 → m < f → p_X12_freshStay_2 (nI t) τ f (nI k) = some (if y_hi b t m k < b 4 then nI (y_hi b t m k) else nP 0) := by
    intro m
    induction m with
    | zero =>
      intro k f h hf
      obtain ⟨f, rfl⟩ := y_pos hf
      unfold p_X12_freshStay_2 y_hi
      simp (disch := omega) only [y_lit, y_n1, nI_add, pk_mul, j_lt, j_b1_s, j_b2_s, j_b3_s, j_b0_s, y_bo, y_bo1, y_bo0, y_i0, y_i1, Classical.not_not, nI_clamp, y_ix, y_lt, y_le, y_eq, y_nP, y_nPs, y_ltP, y_ltQ, y_ltPP, y_eqP, y_eqQ, y_eqPP, if_pos, if_neg, ite_true, ite_false, not_true_eq_false, not_false_eq_true, and_true, true_and, and_false, false_and, or_true, true_or, or_false, false_or, hm.f]
    | succ m ih =>
      intro k f h hf
      obtain ⟨f, rfl⟩ := y_pos hf
      have st := hW.st (k := k) (by omega)
      unfold p_X12_freshStay_2 y_hi
      simp (disch := omega) only [y_lit, y_n1, nI_add, pk_mul, j_lt, j_b1_s, j_b2_s, j_b3_s, j_b0_s, y_bo, y_bo1, y_bo0, y_i0, y_i1, Classical.not_not, nI_clamp, y_ix, y_lt, y_le, y_eq, y_nP, y_nPs, y_ltP, y_ltQ, y_ltPP, y_eqP, y_eqQ, y_eqPP, if_pos, if_neg, ite_true, ite_false, not_true_eq_false, not_false_eq_true, and_true, true_and, and_false, false_and, or_true, true_or, or_false, false_or, hm.f]
      by_cases c : b (12 + 2 * k) = t
      · rw [if_pos c, if_pos c, if_pos (by omega)]
      · rw [if_neg c, if_neg c]
        exact ih (k + 1) f (by omega) (by omega)
  unfold f_X12_freshStay
  rw [show (0 : Int32) = nI 0 from rfl, key (b 4) 0 j_F (by omega) (y_F (by omega))]
theorem ym_rstay {τ : j_G} {b : Nat → Nat} {p : Nat} (hW : y_W b) (on : 0 < b 9) (h : y_mw τ B n (0, p)) (hm : y_mb (τ.1 81) b) :
    ∃ τ', f_X12_readStay τ = some τ' ∧ y_mw τ' B n (y_gq B n (y_q1 b) [none, some (y_L 20), none] ((0, p), [])).1 ∧ y_fl τ τ' ∧
      ((y_gq B n (y_q1 b) [none, some (y_L 20), none] ((0, p), [])).1.1 = 0 → ∃ w0 w1, (y_gq B n (y_q1 b) [none, some (y_L 20), none] ((0, p), [])).2 = [w0, w1] ∧ (1 ≤ w0 ∧ w0 < 41) ∧ w1 < b 2 ∧ (y_hi b w1 (b 4) 0 < b 4 ∨ b 4 < 6) ∧ y_mb (τ'.1 81) (y_sb b w0 w1)) := by
  have b4 := hW.b4
  have b2 := hW.b2
  have on2 := (hW.on on).2.2.1
  obtain ⟨v0, τ1, a1, a2, a3, a4⟩ := ym_numR (J := y_q1 b) (x := ((0, p), [])) (lo := 1) (hi := 41) (by omega) (by omega) (fun _ v => rfl) h
  have go : y_gq B n (y_q1 b) [none, some (y_L 20), none] ((0, p), []) = y_stp B n (y_q1 b) none (y_stp B n (y_q1 b) (some (y_L 20)) (y_stp B n (y_q1 b) none ((0, p), []))) := rfl
  rw [go]
  clear go
  generalize y_stp B n (y_q1 b) none ((0, p), []) = X1 at *
  obtain ⟨τ2, c1, c2, c3⟩ := ym_needs (J := y_q1 b) (x := X1) (y_strK (k := 20) (by omega)) (y_ne 20 (by omega)) a2
  have x2 := y_stp_w2 (B := B) (n := n) (J := y_q1 b) (x := X1) (y_ne 20 (by omega))
  have g2 : (y_stp B n (y_q1 b) (some (y_L 20)) X1).1.1 = 0 → X1.1.1 = 0 := y_stp_good
  generalize y_stp B n (y_q1 b) (some (y_L 20)) X1 = X2 at *
  have m2 : y_mb (τ2.1 81) b := (hm.fm a3).fm c3
  obtain ⟨⟨r1, r2⟩, vs⟩ := X2
  have gd := ym_good c2
  have i0 : ¬ ¬ nI 0 = (0 : Int32) := fun z => z rfl
  have i1 : ¬ nI 1 = (0 : Int32) := by decide
  -- the check before the number
  obtain ⟨τ3, d0, d1, d2, d3⟩ : ∃ τ3, (∀ K : j_G → Option j_G, (j_b1 (if (¬ (f_X12_good τ2) = 0) ∧ ((τ2.1 75 10) = (2 : Int32)) then (j_ix (2 : Int32) 116 (if (τ2.1 75 11) < (τ2.1 81 ((2 : Int32)).toNatClampNeg) then (some (1 : Int32)) else (some (0 : Int32)))) else (some (0 : Int32))) fun v4 =>
      j_b1 (if ¬ v4 = 0 then (j_ix (4 : Int32) 116 (if (τ2.1 81 ((4 : Int32)).toNatClampNeg) = (6 : Int32) then (j_b1 (f_X12_freshStay (τ2.1 75 11) τ2) fun v6 => if v6 = (-1 : Int32) then (j_b1 (f_X12_errs (3 : Int32) τ2) fun σ7 => some σ7) else (some τ2)) else (some τ2))) else (some τ2)) K) = K τ3) ∧
      ((y_mw τ3 B n (r1, r2) ∧ (r1 = 0 → y_kd B n r2 = 2 → y_val B n r2 < b 2 → ¬ (6 ≤ b 4 ∧ y_hs b (y_val B n r2) (b 4) 0 = false))) ∨ (r1 = 0 ∧ y_kd B n r2 = 2 ∧ y_val B n r2 < b 2 ∧ 6 ≤ b 4 ∧ y_hs b (y_val B n r2) (b 4) 0 = false ∧ y_mw τ3 B n (3, y_s B n r2))) ∧ y_fm 8 13 1 0 τ2 τ3 ∧ True := by
    by_cases c : r1 = 0
    · subst c
      obtain ⟨g1, gg2, q9, q8, q10, q11⟩ := c2.2.2.2.1 rfl
      have kl := y_kd_le (B := B) (n := n) (p := r2)
      have vl := y_val_le B n r2
      rw [gd, if_pos rfl]
      by_cases k : y_kd B n r2 = 2
      · have e11 : τ2.1 75 11 = nI (min 99999 (y_val B n r2)) := q11 k
        rw [if_pos (show ¬ nI 1 = (0 : Int32) ∧ τ2.1 75 10 = (2 : Int32) from ⟨i1, by rw [q10]; show nI (y_kd B n r2) = _; rw [k]; rfl⟩), e11, show (2 : Int32) = nI 2 from rfl, show (4 : Int32) = nI 4 from rfl, show (nI 2).toNatClampNeg = 2 from rfl, show (nI 4).toNatClampNeg = 4 from rfl, y_i81 (by omega), y_i81 (by omega), m2.f (j := 2) (by omega), m2.f (j := 4) (by omega)]
        by_cases w : y_val B n r2 < b 2
        · have em : min 99999 (y_val B n r2) = y_val B n r2 := by omega
          rw [em, if_pos (show nI (y_val B n r2) < nI (b 2) by rw [y_lt (by omega) (by omega)]; exact w)]
          obtain ⟨s1, s2, s3, s4, s5⟩ := y_hi_sp (b := b) (v := y_val B n r2) (b 4) 0
          by_cases f : 6 ≤ b 4
          · have f6 : b 4 = 6 := by omega
            by_cases g : y_hs b (y_val B n r2) (b 4) 0 = true
            · refine ⟨τ2, fun K => ?_, Or.inl ⟨c2, fun _ _ _ z => by rw [g] at z; exact absurd z.2 (by decide)⟩, y_fm.refl, trivial⟩
              rw [j_b1_s, if_pos (by decide), if_pos (show nI (b 4) = (6 : Int32) by rw [f6]; rfl), ym_fs hW m2 vl, if_pos (by have := s5.mp g; omega), j_b1_s, if_neg (by rw [y_m1, y_eqQ (by omega) (by omega)]; omega), j_b1_s]
            · have g' : y_hs b (y_val B n r2) (b 4) 0 = false := by
                cases hh : y_hs b (y_val B n r2) (b 4) 0 with
                | true => exact absurd hh g
                | false => rfl
              obtain ⟨τ', e1, e2, e3⟩ := ym_errs (k := 3) (by omega) (by omega) c2
              refine ⟨τ', fun K => ?_, Or.inr ⟨rfl, k, w, f, g', e2⟩, e3.wide (by omega) (by omega) (by omega) (by omega), trivial⟩
              rw [j_b1_s, if_pos (by decide), if_pos (show nI (b 4) = (6 : Int32) by rw [f6]; rfl), ym_fs hW m2 vl, if_neg (fun z => g (s5.mpr (by omega))), j_b1_s, if_pos y_m1.symm, show (3 : Int32) = nI 3 from rfl, e1, j_b1_s, j_b1_s]
          · refine ⟨τ2, fun K => ?_, Or.inl ⟨c2, fun _ _ _ z => f z.1⟩, y_fm.refl, trivial⟩
            rw [j_b1_s, if_pos (by decide), if_neg (show ¬ nI (b 4) = (6 : Int32) by rw [show (6 : Int32) = nI 6 from rfl, y_eq (by omega) (by omega)]; omega), j_b1_s]
        · refine ⟨τ2, fun K => ?_, Or.inl ⟨c2, fun _ _ z => absurd z w⟩, y_fm.refl, trivial⟩
          rw [if_neg (show ¬ nI (min 99999 (y_val B n r2)) < nI (b 2) by rw [y_lt (by omega) (by omega)]; omega), j_b1_s, if_neg (fun z => z rfl), j_b1_s]
      · refine ⟨τ2, fun K => ?_, Or.inl ⟨c2, fun _ z => absurd z k⟩, y_fm.refl, trivial⟩
        rw [if_neg (show ¬ (¬ nI 1 = (0 : Int32) ∧ τ2.1 75 10 = (2 : Int32)) from fun z => k (by have := z.2; rw [q10, show (2 : Int32) = nI 2 from rfl, y_eq (by show y_kd B n r2 < _; omega) (by omega)] at this; exact this)), j_b1_s, if_neg (fun z => z rfl), j_b1_s]
    · refine ⟨τ2, fun K => ?_, Or.inl ⟨c2, fun z => absurd z c⟩, y_fm.refl, trivial⟩
      rw [gd, if_neg (show ¬ ((r1, r2), vs).1.1 = 0 from c), if_neg (fun z => z.1 rfl), j_b1_s, if_neg (fun z => z rfl), j_b1_s]
  have m3 : y_mb (τ3.1 81) b := m2.fm d2
  -- the number
  obtain ⟨v1, τ4, e1, e2, e3, e4⟩ : ∃ v τ4, f_X12_number (nI 0) (nP (b 2)) τ3 = some (v, τ4) ∧ y_mw τ4 B n (y_stp B n (y_q1 b) none ((r1, r2), vs)).1 ∧ y_fm 8 13 1 0 τ3 τ4 ∧ ((y_stp B n (y_q1 b) none ((r1, r2), vs)).1.1 = 0 → v = nI (y_val B n r2) ∧ (y_stp B n (y_q1 b) none ((r1, r2), vs)).2 = vs ++ [y_val B n r2] ∧ y_val B n r2 < b 2 ∧ ¬ (6 ≤ b 4 ∧ y_hs b (y_val B n r2) (b 4) 0 = false)) := by
    have hl1 : r1 = 0 → vs.length = 1 := fun z => by
      obtain ⟨_, q, _⟩ := a4 (g2 z)
      have : vs = X1.2 := x2
      rw [this, q]; rfl
    rcases d1 with ⟨f1, f2⟩ | ⟨f0, f1, f2, f3, f4, f5⟩
    · obtain ⟨v, τ4, e1, e2, e3, e4⟩ := ym_numR (J := fun _ v => y_jr 0 (b 2) v) (x := ((r1, r2), vs)) (lo := 0) (hi := b 2) (by omega) (by omega) (fun _ v => rfl) f1
      have eq : y_stp B n (fun _ v => y_jr 0 (b 2) v) none ((r1, r2), vs) = y_stp B n (y_q1 b) none ((r1, r2), vs) := by
        apply y_stp_J
        intro z k
        have z' : r1 = 0 := z
        show y_jr 0 (b 2) (y_val B n r2) = y_q1 b vs (y_val B n r2)
        unfold y_q1 y_jr
        rw [if_neg (show ¬ vs.length = 0 by have := hl1 z'; omega)]
        by_cases w : y_val B n r2 < b 2
        · rw [if_neg (show ¬ ¬ y_val B n r2 < b 2 from fun z => z w), if_neg (f2 z' k w), if_pos (show 0 ≤ y_val B n r2 ∧ y_val B n r2 < b 2 from ⟨by omega, w⟩)]
        · rw [if_pos w, if_neg (show ¬ (0 ≤ y_val B n r2 ∧ y_val B n r2 < b 2) from fun z => w z.2)]
      rw [eq] at e2 e4
      refine ⟨v, τ4, e1, e2, e3, fun z => ?_⟩
      obtain ⟨k1, k2, k3, k4⟩ := e4 z
      have r0 : r1 = 0 := y_stp_good (x := ((r1, r2), vs)) z
      have kk : y_kd B n r2 = 2 := by
        subst r0
        rw [y_stp_n] at z
        by_cases k : y_kd B n r2 = 2
        · exact k
        · rw [if_pos k] at z; exact absurd z (by show ¬ (1 : Nat) = 0; omega)
      exact ⟨k1, k2, k4, f2 r0 kk k4⟩
    · subst f0
      obtain ⟨v, τ4, e1, e2, e3, e4⟩ := ym_numR (J := fun _ v => y_jr 0 (b 2) v) (x := ((3, y_s B n r2), vs)) (lo := 0) (hi := b 2) (by omega) (by omega) (fun _ v => rfl) f5
      have j3 : y_q1 b vs (y_val B n r2) = 3 := by
        unfold y_q1
        rw [if_neg (by have := hl1 rfl; omega), if_neg (fun z => z f2), if_pos ⟨f3, f4⟩]
      have eq : y_stp B n (y_q1 b) none ((0, r2), vs) = ((3, y_s B n r2), vs) := by
        rw [y_stp_n, if_neg (fun z => z f1), j3, if_pos (by omega)]
      rw [y_stp_bad (show ((3, y_s B n r2), vs).1.1 ≠ 0 by show (3 : Nat) ≠ 0; omega)] at e2
      rw [eq]
      exact ⟨v, τ4, e1, e2, e3, fun z => absurd z (by show ¬ (3 : Nat) = 0; omega)⟩
  have m4 : y_mb (τ4.1 81) b := m3.fm e3
  have gd4 := ym_good e2
  have pre : f_X12_readStay τ = (if (f_X12_good τ4) = 0 then (some τ4) else (j_b1 (f_X12_freshStay v1 τ4) fun v10 =>
      j_b2 (if v10 = (-1 : Int32) then (j_ix (4 : Int32) 116 (j_lt (τ4.1 81 ((4 : Int32)).toNatClampNeg) fun v13 => j_ix (4 : Int32) 116 (j_ix (4 : Int32) 116 (j_lt (j_si τ4 81 ((4 : Int32)).toNatClampNeg ((τ4.1 81 ((4 : Int32)).toNatClampNeg) + (1 : Int32))) fun σ14 => some (v13, σ14))))) else (some (v10, τ4))) fun v11 σ12 =>
      j_ix ((12 : Int32) + ((2 : Int32) * v11)) 116 (j_lt (j_si σ12 81 (((12 : Int32) + ((2 : Int32) * v11))).toNatClampNeg v1) fun σ15 =>
      j_ix (((12 : Int32) + ((2 : Int32) * v11)) + (1 : Int32)) 116 (j_lt (j_si σ15 81 ((((12 : Int32) + ((2 : Int32) * v11)) + (1 : Int32))).toNatClampNeg v0) fun σ16 => some σ16)))) := by
    have a1' : f_X12_number (1 : Int32) (40 : Int32) τ = some (v0, τ1) := by rw [show (40 : Int32) = nP 41 from by decide]; exact a1
    have e1' : f_X12_number (0 : Int32) (nI (b 2) - (1 : Int32)) τ3 = some (v1, τ4) := e1
    unfold f_X12_readStay
    rw [a1', j_b2_s, c1, j_b1_s]
    have := d0 (fun σ5 => j_ix (2 : Int32) 116 (j_b2 (f_X12_number (0 : Int32) ((σ5.1 81 ((2 : Int32)).toNatClampNeg) - (1 : Int32)) σ5) fun v9 σ8 =>
      if (f_X12_good σ8) = 0 then (some σ8) else (j_b1 (f_X12_freshStay v9 σ8) fun v10 =>
      j_b2 (if v10 = (-1 : Int32) then (j_ix (4 : Int32) 116 (j_lt (σ8.1 81 ((4 : Int32)).toNatClampNeg) fun v13 => j_ix (4 : Int32) 116 (j_ix (4 : Int32) 116 (j_lt (j_si σ8 81 ((4 : Int32)).toNatClampNeg ((σ8.1 81 ((4 : Int32)).toNatClampNeg) + (1 : Int32))) fun σ14 => some (v13, σ14))))) else (some (v10, σ8))) fun v11 σ12 =>
      j_ix ((12 : Int32) + ((2 : Int32) * v11)) 116 (j_lt (j_si σ12 81 (((12 : Int32) + ((2 : Int32) * v11))).toNatClampNeg v9) fun σ15 =>
      j_ix (((12 : Int32) + ((2 : Int32) * v11)) + (1 : Int32)) 116 (j_lt (j_si σ15 81 ((((12 : Int32) + ((2 : Int32) * v11)) + (1 : Int32))).toNatClampNeg v0) fun σ16 => some σ16)))))
    refine Eq.trans this ?_
    rw [show j_ix (2 : Int32) 116 _ = _ from y_i81 (k := 2) (by omega), show ((2 : Int32)).toNatClampNeg = 2 from rfl, m3.f (j := 2) (by omega), e1', j_b2_s]
  rw [pre, gd4]
  by_cases z : (y_stp B n (y_q1 b) none ((r1, r2), vs)).1.1 = 0
  · obtain ⟨k1, k2, k3, k4⟩ := e4 z
    have r0 : r1 = 0 := y_stp_good (x := ((r1, r2), vs)) z
    obtain ⟨q1, q2, q3, q4⟩ := a4 (g2 r0)
    have vl := y_val_le B n r2
    obtain ⟨s1, s2, s3, s4, s5⟩ := y_hi_sp (b := b) (v := y_val B n r2) (b 4) 0
    rw [if_pos z, if_neg i1, k1, ym_fs hW m4 vl, j_b1_s]
    have hx2 : vs = [y_val B n p] := by
      have : vs = X1.2 := x2
      rw [this, q2]; rfl
    have fits : y_hi b (y_val B n r2) (b 4) 0 < b 4 ∨ b 4 < 6 := by
      by_cases f : 6 ≤ b 4
      · left
        by_cases g : y_hi b (y_val B n r2) (b 4) 0 < b 4
        · exact g
        · exfalso
          apply k4
          refine ⟨f, ?_⟩
          cases hh : y_hs b (y_val B n r2) (b 4) 0 with
          | true => exact absurd (s5.mp hh) (by omega)
          | false => rfl
      · right; omega
    subst hx2
    subst q1
    have vl0 : y_val B n p ≤ 1000000 := y_val_le B n p
    have fin : ∀ (τ5 : j_G) i, i ≤ b 4 → i < 6 → i = y_hi b (y_val B n r2) (b 4) 0 → y_mw τ5 B n (y_stp B n (y_q1 b) none ((r1, r2), [y_val B n p])).1 → y_fl τ τ5 → y_mb (τ5.1 81) (if i < b 4 then b else y_u b 4 (b 4 + 1)) → ∃ τ', (j_ix ((12 : Int32) + ((2 : Int32) * nI i)) 116 (j_lt (j_si τ5 81 (((12 : Int32) + ((2 : Int32) * nI i))).toNatClampNeg (nI (y_val B n r2))) fun σ15 =>
      j_ix (((12 : Int32) + ((2 : Int32) * nI i)) + (1 : Int32)) 116 (j_lt (j_si σ15 81 ((((12 : Int32) + ((2 : Int32) * nI i)) + (1 : Int32))).toNatClampNeg (nI (y_val B n p))) fun σ16 => some σ16))) = some τ' ∧ y_mw τ' B n (y_stp B n (y_q1 b) none ((r1, r2), [y_val B n p])).1 ∧ y_fl τ τ' ∧ y_mb (τ'.1 81) (y_sb b (y_val B n p) (y_val B n r2)) := by
      intro τ5 i hi hi6 ei w1 w2 w3
      refine ⟨j_si (j_si τ5 81 (12 + 2 * i) (nI (y_val B n r2))) 81 (13 + 2 * i) (nI (y_val B n p)), ?_, (w1.s81).s81, (w2.s).s, ?_⟩
      · simp (disch := omega) only [y_lit, y_n1, nI_add, pk_mul, j_lt, j_b1_s, j_b2_s, j_b3_s, j_b0_s, y_bo, y_bo1, y_bo0, y_i0, y_i1, Classical.not_not, nI_clamp, y_ix, y_lt, y_le, y_eq, y_nP, y_nPs, y_ltP, y_ltQ, y_ltPP, y_eqP, y_eqQ, y_eqPP, if_pos, if_neg, ite_true, ite_false, not_true_eq_false, not_false_eq_true, and_true, true_and, and_false, false_and, or_true, true_or, or_false, false_or]
        rw [show 12 + 2 * i + 1 = 13 + 2 * i by omega]
      · have := y_mbs (j := 13 + 2 * i) (v := y_val B n p) (y_mbs (j := 12 + 2 * i) (v := y_val B n r2) w3 (by omega)) (by omega)
        unfold y_sb
        rw [← ei]
        intro j hj
        rw [this j hj]
        have e : y_u (y_u (if i < b 4 then b else y_u b 4 (b 4 + 1)) (12 + 2 * i) (y_val B n r2)) (13 + 2 * i) (y_val B n p) j = y_u (y_u (y_u b (12 + 2 * i) (y_val B n r2)) (13 + 2 * i) (y_val B n p)) 4 (if i < b 4 then b 4 else b 4 + 1) j := by
          by_cases c : i < b 4
          · rw [if_pos c, if_pos c]
            unfold y_u
            by_cases j4 : j = 4
            · subst j4; rw [if_neg (by omega), if_neg (by omega), if_pos rfl]
            · rw [if_neg j4]
          · rw [if_neg c, if_neg c]
            unfold y_u
            by_cases j4 : j = 4
            · subst j4; rw [if_neg (by omega), if_neg (by omega), if_pos rfl, if_pos rfl]
            · simp only [if_neg j4]
        rw [e]
    have fl4 : y_fl τ τ4 := y_fl.t (y_fl.t (y_fl.t (y_fl.of a3) c3) d2) e3
    by_cases c : y_hi b (y_val B n r2) (b 4) 0 < b 4
    · rw [if_pos c, if_neg (by rw [y_m1, y_eqQ (by omega) (by omega)]; omega), j_b2_s]
      obtain ⟨τ', t1, t2, t3, t4⟩ := fin τ4 _ (by omega) (by omega) rfl e2 fl4 (by rw [if_pos c]; exact m4)
      exact ⟨τ', t1, t2, t3, fun _ => ⟨y_val B n p, y_val B n r2, k2, ⟨q3, q4⟩, k3, fits, t4⟩⟩
    · have ei : y_hi b (y_val B n r2) (b 4) 0 = b 4 := by omega
      rw [if_neg c, if_pos y_m1.symm, show j_ix (4 : Int32) 116 _ = _ from y_i81 (k := 4) (by omega)]
      simp only [j_lt]
      rw [show j_ix (4 : Int32) 116 _ = _ from y_i81 (k := 4) (by omega), show j_ix (4 : Int32) 116 _ = _ from y_i81 (k := 4) (by omega), show ((4 : Int32)).toNatClampNeg = 4 from rfl, m4.f (j := 4) (by omega), j_b2_s, show nI (b 4) + (1 : Int32) = nI (b 4 + 1) from by simp (disch := omega) only [y_lit, nI_add]]
      obtain ⟨τ', t1, t2, t3, t4⟩ := fin (j_si τ4 81 4 (nI (b 4 + 1))) (b 4) (by omega) (by omega) ei.symm e2.s81 fl4.s (by rw [if_neg (by omega)]; exact y_mbs m4 (by omega))
      exact ⟨τ', t1, t2, t3, fun _ => ⟨y_val B n p, y_val B n r2, k2, ⟨q3, q4⟩, k3, fits, t4⟩⟩
  · rw [if_neg z, if_pos (show nI 0 = (0 : Int32) from rfl)]
    exact ⟨τ4, rfl, e2, y_fl.t (y_fl.t (y_fl.t (y_fl.of a3) c3) d2) e3, fun w => absurd w z⟩
end R
