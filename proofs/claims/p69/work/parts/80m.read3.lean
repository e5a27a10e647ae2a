/-! ===== shut, a hole, a coming, a player, tickets ===== -/
section R
variable {B : Nat → Int32} {n : Nat}
theorem ym_fh {τ : j_G} {b : Nat → Nat} (hm : y_mb (τ.1 81) b) : f_X12_freshHoles τ = some (nI (y_ho b)) := by
  unfold f_X12_freshHoles y_ho
  simp (disch := omega) only [y_lit, y_n1, nI_add, pk_mul, j_lt, j_b1_s, j_b2_s, j_b3_s, j_b0_s, y_bo, y_bo1, y_bo0, y_i0, y_i1, Classical.not_not, nI_clamp, y_ix, y_lt, y_le, y_eq, y_nP, y_nPs, y_ltP, y_ltQ, y_ltPP, y_eqP, y_eqQ, y_eqPP, if_pos, if_neg, ite_true, ite_false, not_true_eq_false, not_false_eq_true, and_true, true_and, and_false, false_and, or_true, true_or, or_false, false_or, hm.f]
theorem ym_nh {τ : j_G} {b : Nat → Nat} {r : Nat × Nat} (hW : y_W b) (hm : y_mb (τ.1 81) b) (h : y_mw τ B n r) : f_X12_isNextHole τ = some (if r.1 = 0 ∧ y_kd B n r.2 = 2 ∧ y_val B n r.2 < y_ho b then nI 1 else nI 0) := by
  have ho := hW.ho
  unfold f_X12_isNextHole
  rw [ym_good h, ym_fh hm]
  by_cases c : r.1 = 0
  · obtain ⟨g1, gg2, q9, q8, q10, q11⟩ := h.2.2.2.1 c
    have kl := y_kd_le (B := B) (n := n) (p := r.2)
    rw [if_pos c]
    by_cases k : y_kd B n r.2 = 2
    · rw [if_pos (show ¬ nI 1 = (0 : Int32) ∧ τ.1 75 10 = (2 : Int32) from ⟨by decide, by rw [q10, k]; rfl⟩), j_b1_s, q11 k]
      have vl := y_val_le B n r.2
      by_cases w : y_val B n r.2 < y_ho b
      · rw [if_pos (show nI (min 99999 (y_val B n r.2)) < nI (y_ho b) by rw [y_lt (by omega) (by omega)]; omega), if_pos ⟨c, k, w⟩]; rfl
      · rw [if_neg (show ¬ nI (min 99999 (y_val B n r.2)) < nI (y_ho b) by rw [y_lt (by omega) (by omega)]; omega), if_neg (fun z => w z.2.2)]; rfl
    · rw [if_neg (show ¬ (¬ nI 1 = (0 : Int32) ∧ τ.1 75 10 = (2 : Int32)) from fun z => k (by have := z.2; rw [q10, show (2 : Int32) = nI 2 from rfl, y_eq (by omega) (by omega)] at this; exact this)), if_neg (fun z => k z.2.1)]; rfl
  · rw [if_neg c, if_neg (fun z => z.1 rfl), if_neg (fun z => c z.1)]; rfl
/-- a number, behind a check -/
theorem ym_hn {τ2 : j_G} {h : Nat} {P : Nat → Prop} {J : List Nat → Nat → Nat} {x : (Nat × Nat) × List Nat} (hh : h ≤ 12)
    (hJ : x.1.1 = 0 → y_kd B n x.1.2 = 2 → (J x.2 (y_val B n x.1.2) = 0 ∧ y_val B n x.1.2 < h ∧ ¬ P (y_val B n x.1.2)) ∨ (J x.2 (y_val B n x.1.2) = 2 ∧ (¬ y_val B n x.1.2 < h ∨ P (y_val B n x.1.2))))
    (hd : (y_mw τ2 B n x.1 ∧ (x.1.1 = 0 → y_kd B n x.1.2 = 2 → y_val B n x.1.2 < h → ¬ P (y_val B n x.1.2))) ∨ (x.1.1 = 0 ∧ y_kd B n x.1.2 = 2 ∧ y_val B n x.1.2 < h ∧ P (y_val B n x.1.2) ∧ y_mw τ2 B n (2, y_s B n x.1.2))) :
    ∃ v τ', f_X12_number (nI 0) (nP h) τ2 = some (v, τ') ∧ y_mw τ' B n (y_stp B n J none x).1 ∧ y_fm 8 13 1 0 τ2 τ' ∧ ((y_stp B n J none x).1.1 = 0 → v = nI (y_val B n x.1.2) ∧ (y_stp B n J none x).2 = x.2 ++ [y_val B n x.1.2] ∧ y_val B n x.1.2 < h ∧ ¬ P (y_val B n x.1.2)) := by
  obtain ⟨⟨r1, r2⟩, vs⟩ := x
  rcases hd with ⟨f1, f2⟩ | ⟨f0, f1, f2, f3, f5⟩
  · obtain ⟨v, τ4, e1, e2, e3, e4⟩ := ym_numR (J := fun _ v => y_jr 0 h v) (x := ((r1, r2), vs)) (lo := 0) (hi := h) (by omega) (by omega) (fun _ v => rfl) f1
    have eq : y_stp B n (fun _ v => y_jr 0 h v) none ((r1, r2), vs) = y_stp B n J none ((r1, r2), vs) := by
      apply y_stp_J
      intro z k
      show y_jr 0 h (y_val B n r2) = J vs (y_val B n r2)
      rcases hJ z k with ⟨a1, a2, a3⟩ | ⟨a1, a2⟩
      · have a1' : J vs (y_val B n r2) = 0 := a1
        rw [a1']; exact if_pos ⟨Nat.zero_le _, a2⟩
      · have a1' : J vs (y_val B n r2) = 2 := a1
        rw [a1']; refine if_neg (fun w => ?_)
        rcases a2 with a2 | a2
        · exact a2 w.2
        · exact f2 z k w.2 a2
    rw [eq] at e2 e4
    refine ⟨v, τ4, e1, e2, e3, fun z => ?_⟩
    obtain ⟨k1, k2, k3, k4⟩ := e4 z
    have r0 : r1 = 0 := y_stp_good (x := ((r1, r2), vs)) z
    have kk : y_kd B n r2 = 2 := by
      subst r0
      rw [y_stp_n] at z
      by_cases k : y_kd B n r2 = 2
      · exact k
      · rw [if_pos k] at z; exact absurd z (by show ¬ (1 : Nat) = 0; omega)
    exact ⟨k1, k2, k4, f2 r0 kk k4⟩
  · have f0' : r1 = 0 := f0
    subst f0'
    obtain ⟨v, τ4, e1, e2, e3, e4⟩ := ym_numR (J := fun _ v => y_jr 0 h v) (x := ((2, y_s B n r2), vs)) (lo := 0) (hi := h) (by omega) (by omega) (fun _ v => rfl) f5
    have j3 : J vs (y_val B n r2) = 2 := by
      rcases hJ rfl f1 with ⟨a1, a2, a3⟩ | ⟨a1, a2⟩
      · exact absurd f3 a3
      · exact a1
    have eq : y_stp B n J none ((0, r2), vs) = ((2, y_s B n r2), vs) := by
      rw [y_stp_n, if_neg (show ¬ y_kd B n r2 ≠ 2 from fun z => z f1), j3, if_pos (by omega)]
    rw [y_stp_bad (show ((2, y_s B n r2), vs).1.1 ≠ 0 by show (2 : Nat) ≠ 0; omega)] at e2
    rw [eq]
    exact ⟨v, τ4, e1, e2, e3, fun z => absurd z (by show ¬ (2 : Nat) = 0; omega)⟩
theorem ym_ifc {τ : j_G} {b : Nat → Nat} {x : Nat} (hW : y_W b) (hm : y_mb (τ.1 81) b) (hx : x < 100) : f_X12_isFreshComing (nI x) τ = some (if y_oft b x = 0 then nI 0 else nI 1) := by
  have b5 := hW.b5
  have ho := hW.ho
  have key : ∀ m k f, k + m = b 5 → m < f → p_X12_isFreshComing_2 (nI x) τ f (nI k) = some (if y_su (y_of1 b x) m k 0 = 0 then nI 0 else nI 1) := by
    intro m
    induction m with
    | zero =>
      intro k f h hf
      obtain ⟨f, rfl⟩ := y_pos hf
      unfold p_X12_isFreshComing_2 y_su
      simp (disch := omega) only [y_lit, y_n1, nI_add, pk_mul, j_lt, j_b1_s, j_b2_s, j_b3_s, j_b0_s, y_bo, y_bo1, y_bo0, y_i0, y_i1, Classical.not_not, nI_clamp, y_ix, y_lt, y_le, y_eq, y_nP, y_nPs, y_ltP, y_ltQ, y_ltPP, y_eqP, y_eqQ, y_eqPP, if_pos, if_neg, ite_true, ite_false, not_true_eq_false, not_false_eq_true, and_true, true_and, and_false, false_and, or_true, true_or, or_false, false_or, hm.f]
    | succ m ih =>
      intro k f h hf
      obtain ⟨f, rfl⟩ := y_pos hf
      have co := hW.co (k := k) (by omega)
      rw [y_su_s]
      unfold p_X12_isFreshComing_2
      simp (disch := omega) only [y_lit, y_n1, nI_add, pk_mul, j_lt, j_b1_s, j_b2_s, j_b3_s, j_b0_s, y_bo, y_bo1, y_bo0, y_i0, y_i1, Classical.not_not, nI_clamp, y_ix, y_lt, y_le, y_eq, y_nP, y_nPs, y_ltP, y_ltQ, y_ltPP, y_eqP, y_eqQ, y_eqPP, if_pos, if_neg, ite_true, ite_false, not_true_eq_false, not_false_eq_true, and_true, true_and, and_false, false_and, or_true, true_or, or_false, false_or, hm.f, Nat.add_zero]
      have e1 : τ.1 81 (24 + 3 * k + 1) = nP (b (25 + 3 * k)) := by rw [show 24 + 3 * k + 1 = 25 + 3 * k by omega]; exact hm.k1 (by omega)
      rw [hm.k0 (k := k) (by omega), e1]
      have e0 : ¬ nI (b (24 + 3 * k)) = nI x ↔ ¬ b (24 + 3 * k) = x := by rw [y_eq (by omega) (by omega)]
      have e2 : nP (b (25 + 3 * k)) = nI x ↔ b (25 + 3 * k) = x + 1 := y_eqP (by omega) (by omega)
      by_cases c : b (24 + 3 * k) = x
      · have o : y_of1 b x k = 1 := if_pos (Or.inl c)
        rw [if_neg (fun z => e0.mp z c), if_neg (by omega)]
      · rw [if_pos (e0.mpr c)]
        by_cases d : b (25 + 3 * k) = x + 1
        · have o : y_of1 b x k = 1 := if_pos (Or.inr d)
          rw [if_pos (e2.mpr d), if_neg (by omega)]
        · have o : y_of1 b x k = 0 := if_neg (fun z => z.elim c d)
          rw [if_neg (fun z => d (e2.mp z)), o, Nat.add_zero]
          exact ih (k + 1) f (by omega) (by omega)
  unfold f_X12_isFreshComing
  rw [show (0 : Int32) = nI 0 from rfl, key (b 5) 0 j_F (by omega) (y_F (by omega))]; rfl
theorem y_qo0 {b : Nat → Nat} {v : Nat} : y_qo b v = 0 ↔ v < y_ho b ∧ y_sh b v = 0 := by
  unfold y_qo
  by_cases c : v < y_ho b ∧ y_sh b v = 0
  · rw [if_pos c]; exact ⟨fun _ => c, fun _ => rfl⟩
  · rw [if_neg c]; exact ⟨fun z => absurd z (by omega), fun z => absurd z c⟩
theorem ym_b7 {τ : j_G} {b : Nat → Nat} (hW : y_W b) (hm : y_mb (τ.1 81) b) {v : Nat} (hv : v < 31) : (((τ.1 81 7) >>> ((nI v) &&& (31 : Int32))) &&& (1 : Int32)) = nI (y_sh b v) := by
  have b7 := hW.b7
  rw [hm.f (by omega), show (31 : Int32) = nI 31 from rfl, show (1 : Int32) = nI 1 from rfl, y_bit (by omega) hv]; rfl
theorem ym_rshut {τ : j_G} {b : Nat → Nat} {p : Nat} (hW : y_W b) (on : 0 < b 9) (h : y_mw τ B n (0, p)) (hm : y_mb (τ.1 81) b) :
    ∃ τ', f_X12_readShut τ = some τ' ∧ y_mw τ' B n (y_gq B n (y_q2 b) [none] ((0, p), [])).1 ∧ y_fl τ τ' ∧
      ((y_gq B n (y_q2 b) [none] ((0, p), [])).1.1 = 0 → ∃ w0, (y_gq B n (y_q2 b) [none] ((0, p), [])).2 = [w0] ∧ w0 < y_ho b ∧ y_sh b w0 = 0 ∧ y_oft b w0 = 0 ∧ y_mb (τ'.1 81) (y_u b 7 (b 7 ||| 2 ^ w0))) := by
  have ho := hW.ho
  have hp := hW.on1 on
  have vl := y_val_le B n p
  have i1 : ¬ nI 1 = (0 : Int32) := by decide
  obtain ⟨g1, gg2, q9, q8, q10, q11⟩ := h.2.2.2.1 rfl
  obtain ⟨τ2, d0, d1, d2⟩ : ∃ τ2, (∀ K : j_G → Option j_G, (j_b1 (f_X12_isNextHole τ) fun v1 => j_b1 (if ¬ v1 = 0 then (j_ix (7 : Int32) 116 (j_lt (j_b1 (f_X12_errs (2 : Int32) τ) fun σ5 => some σ5) fun (k3 : Option j_G) =>
      if ¬ (((τ.1 81 ((7 : Int32)).toNatClampNeg) >>> ((τ.1 75 11) &&& (31 : Int32))) &&& (1 : Int32)) = (1 : Int32) then (j_b1 (f_X12_isFreshComing (τ.1 75 11) τ) fun v4 => if ¬ v4 = 0 then (k3) else (some τ)) else (k3))) else (some τ)) K) = K τ2) ∧
      ((y_mw τ2 B n (0, p) ∧ ((0 : Nat) = 0 → y_kd B n p = 2 → y_val B n p < y_ho b → ¬ (y_sh b (y_val B n p) = 1 ∨ y_oft b (y_val B n p) ≠ 0))) ∨ ((0 : Nat) = 0 ∧ y_kd B n p = 2 ∧ y_val B n p < y_ho b ∧ (y_sh b (y_val B n p) = 1 ∨ y_oft b (y_val B n p) ≠ 0) ∧ y_mw τ2 B n (2, y_s B n p))) ∧ y_fm 8 13 1 0 τ τ2 := by
    rw [ym_nh hW hm h]
    by_cases c : (0 : Nat) = 0 ∧ y_kd B n p = 2 ∧ y_val B n p < y_ho b
    · obtain ⟨_, c1, c2⟩ := c
      have e11 : τ.1 75 11 = nI (y_val B n p) := by
        have : τ.1 75 11 = nI (min 99999 (y_val B n p)) := q11 c1
        rw [this]; congr 1; omega
      obtain ⟨τ', e1, e2, e3⟩ := ym_errs (k := 2) (by omega) (by omega) h
      have sh2 : y_sh b (y_val B n p) < 2 := Nat.mod_lt _ (by omega)
      by_cases s : y_sh b (y_val B n p) = 1
      · refine ⟨τ', fun K => ?_, Or.inr ⟨rfl, c1, c2, Or.inl s, e2⟩, e3.wide (by omega) (by omega) (by omega) (by omega)⟩
        rw [j_b1_s, if_pos (show (0, p).1 = 0 ∧ y_kd B n (0, p).2 = 2 ∧ y_val B n (0, p).2 < y_ho b from ⟨rfl, c1, c2⟩), if_pos i1, show j_ix (7 : Int32) 116 _ = _ from y_i81 (k := 7) (by omega)]
        simp only [j_lt]
        rw [e11, show ((7 : Int32)).toNatClampNeg = 7 from rfl, ym_b7 hW hm (by omega), s, if_neg (fun z => z rfl), show (2 : Int32) = nI 2 from rfl, e1, j_b1_s, j_b1_s]
      · by_cases o : y_oft b (y_val B n p) = 0
        · refine ⟨τ, fun K => ?_, Or.inl ⟨h, fun _ _ _ z => z.elim s (fun z => z o)⟩, y_fm.refl⟩
          rw [j_b1_s, if_pos (show (0, p).1 = 0 ∧ y_kd B n (0, p).2 = 2 ∧ y_val B n (0, p).2 < y_ho b from ⟨rfl, c1, c2⟩), if_pos i1, show j_ix (7 : Int32) 116 _ = _ from y_i81 (k := 7) (by omega)]
          simp only [j_lt]
          rw [e11, show ((7 : Int32)).toNatClampNeg = 7 from rfl, ym_b7 hW hm (by omega), if_pos (show ¬ nI (y_sh b (y_val B n p)) = (1 : Int32) by rw [show (1 : Int32) = nI 1 from rfl, y_eq (by omega) (by omega)]; exact s), ym_ifc hW hm (by omega), j_b1_s, if_pos o, if_neg (fun z => z rfl), j_b1_s]
        · refine ⟨τ', fun K => ?_, Or.inr ⟨rfl, c1, c2, Or.inr o, e2⟩, e3.wide (by omega) (by omega) (by omega) (by omega)⟩
          rw [j_b1_s, if_pos (show (0, p).1 = 0 ∧ y_kd B n (0, p).2 = 2 ∧ y_val B n (0, p).2 < y_ho b from ⟨rfl, c1, c2⟩), if_pos i1, show j_ix (7 : Int32) 116 _ = _ from y_i81 (k := 7) (by omega)]
          simp only [j_lt]
          rw [e11, show ((7 : Int32)).toNatClampNeg = 7 from rfl, ym_b7 hW hm (by omega), if_pos (show ¬ nI (y_sh b (y_val B n p)) = (1 : Int32) by rw [show (1 : Int32) = nI 1 from rfl, y_eq (by omega) (by omega)]; exact s), ym_ifc hW hm (by omega), j_b1_s, if_neg o, if_pos i1, show (2 : Int32) = nI 2 from rfl, e1, j_b1_s, j_b1_s]
    · refine ⟨τ, fun K => ?_, Or.inl ⟨h, fun _ a d => absurd ⟨rfl, a, d⟩ c⟩, y_fm.refl⟩
      rw [j_b1_s, if_neg (show ¬ ((0, p).1 = 0 ∧ y_kd B n (0, p).2 = 2 ∧ y_val B n (0, p).2 < y_ho b) from c), if_neg (fun z => z rfl), j_b1_s]
  have m2 := hm.fm d2
  obtain ⟨v, τ4, e1, e2, e3, e4⟩ := ym_hn (J := y_q2 b) (x := ((0, p), [])) (P := fun v => y_sh b v = 1 ∨ y_oft b v ≠ 0) ho (fun _ k => by
    have sh2 : y_sh b (y_val B n p) < 2 := Nat.mod_lt _ (by omega)
    show (y_q2 b [] (y_val B n p) = 0 ∧ y_val B n p < y_ho b ∧ ¬ (y_sh b (y_val B n p) = 1 ∨ y_oft b (y_val B n p) ≠ 0)) ∨ (y_q2 b [] (y_val B n p) = 2 ∧ (¬ y_val B n p < y_ho b ∨ (y_sh b (y_val B n p) = 1 ∨ y_oft b (y_val B n p) ≠ 0)))
    unfold y_q2
    by_cases c : y_qo b (y_val B n p) = 0 ∧ y_oft b (y_val B n p) = 0
    · have := y_qo0.mp c.1
      rw [if_pos c]; left; exact ⟨rfl, this.1, by omega⟩
    · rw [if_neg c]; right
      refine ⟨rfl, ?_⟩
      rw [y_qo0] at c
      omega) d1
  have m4 := m2.fm e3
  have gd := ym_good e2
  have go : y_gq B n (y_q2 b) [none] ((0, p), []) = y_stp B n (y_q2 b) none ((0, p), []) := rfl
  rw [go]
  have e1' : f_X12_number (0 : Int32) (nI (y_ho b) - (1 : Int32)) τ2 = some (v, τ4) := e1
  have pre : f_X12_readShut τ = if ¬ (f_X12_good τ4) = 0 then (j_ix (7 : Int32) 116 (j_ix (7 : Int32) 116 (j_lt (j_si τ4 81 ((7 : Int32)).toNatClampNeg ((τ4.1 81 ((7 : Int32)).toNatClampNeg) ||| ((1 : Int32) <<< (v &&& (31 : Int32))))) fun σ9 => some σ9))) else (some τ4) := by
    unfold f_X12_readShut
    refine Eq.trans (d0 _) ?_
    rw [ym_fh m2, j_b1_s, e1', j_b2_s]
  rw [pre, gd]
  by_cases z : (y_stp B n (y_q2 b) none ((0, p), [])).1.1 = 0
  · obtain ⟨k1, k2, k3, k4⟩ := e4 z
    have k3' : y_val B n p < y_ho b := k3
    have k4' : ¬ (y_sh b (y_val B n p) = 1 ∨ y_oft b (y_val B n p) ≠ 0) := k4
    have sh2 : y_sh b (y_val B n p) < 2 := Nat.mod_lt _ (by omega)
    subst k1
    rw [if_pos z, if_pos i1, show j_ix (7 : Int32) 116 _ = _ from y_i81 (k := 7) (by omega), show j_ix (7 : Int32) 116 _ = _ from y_i81 (k := 7) (by omega)]
    simp only [j_lt]
    refine ⟨_, rfl, e2.s81, y_fl.s (y_fl.t (y_fl.of d2) e3), fun _ => ⟨y_val B n p, k2, k3, by omega, by omega, ?_⟩⟩
    rw [show ((7 : Int32)).toNatClampNeg = 7 from rfl, m4.f (j := 7) (by omega), show (1 : Int32) = nI 1 from rfl, show (31 : Int32) = nI 31 from rfl, y_shl (by show y_val B n p < 31; omega), y_or]
    exact y_mbs m4 (by omega)
  · rw [if_neg z, if_neg (show ¬ ¬ nI 0 = (0 : Int32) from fun z => z rfl)]
    exact ⟨τ4, rfl, e2, y_fl.t (y_fl.of d2) e3, fun w => absurd w z⟩
end R
