/-! ===== a hole, a coming, a player ===== -/
section R
variable {B : Nat → Int32} {n : Nat}
theorem ym_rhole {τ : j_G} {b : Nat → Nat} {x : (Nat × Nat) × List Nat} {J : List Nat → Nat → Nat} {but : Int32} (hW : y_W b) (on : 0 < b 9) (h : y_mw τ B n x.1) (hm : y_mb (τ.1 81) b)
    (hJ : x.1.1 = 0 → ∀ v, v ≤ 1000000 → J x.2 v = if y_qo b v = 0 ∧ nI v ≠ but then 0 else 2) :
    ∃ v τ', f_X12_readHole but τ = some (v, τ') ∧ y_mw τ' B n (y_stp B n J none x).1 ∧ y_fm 8 13 1 0 τ τ' ∧ ((y_stp B n J none x).1.1 = 0 → v = nI (y_val B n x.1.2) ∧ (y_stp B n J none x).2 = x.2 ++ [y_val B n x.1.2] ∧ y_val B n x.1.2 < y_ho b ∧ y_sh b (y_val B n x.1.2) = 0 ∧ nI (y_val B n x.1.2) ≠ but) := by
  have ho := hW.ho
  have hp := hW.on1 on
  obtain ⟨⟨r1, p⟩, vs⟩ := x
  have vl := y_val_le B n p
  have i1 : ¬ nI 1 = (0 : Int32) := by decide
  have sh2 : y_sh b (y_val B n p) < 2 := Nat.mod_lt _ (by omega)
  obtain ⟨τ2, d0, d1, d2⟩ : ∃ τ2, (∀ K : j_G → Option (Int32 × j_G), (j_b1 (f_X12_isNextHole τ) fun v1 => j_b1 (if ¬ v1 = 0 then (j_ix (7 : Int32) 116 (
      if ((((τ.1 81 ((7 : Int32)).toNatClampNeg) >>> ((τ.1 75 11) &&& 31)) &&& (1 : Int32)) = (1 : Int32)) ∨ ((τ.1 75 11) = but) then (j_b1 (f_X12_errs (2 : Int32) τ) fun σ3 => some σ3) else (some τ))) else (some τ)) K) = K τ2) ∧
      ((y_mw τ2 B n (r1, p) ∧ (r1 = 0 → y_kd B n p = 2 → y_val B n p < y_ho b → ¬ (y_sh b (y_val B n p) = 1 ∨ nI (y_val B n p) = but))) ∨ (r1 = 0 ∧ y_kd B n p = 2 ∧ y_val B n p < y_ho b ∧ (y_sh b (y_val B n p) = 1 ∨ nI (y_val B n p) = but) ∧ y_mw τ2 B n (2, y_s B n p))) ∧ y_fm 8 13 1 0 τ τ2 := by
    rw [ym_nh hW hm h]
    by_cases c : r1 = 0 ∧ y_kd B n p = 2 ∧ y_val B n p < y_ho b
    · obtain ⟨c0, c1, c2⟩ := c
      subst c0
      obtain ⟨g1, gg2, q9, q8, q10, q11⟩ := h.2.2.2.1 rfl
      have e11 : τ.1 75 11 = nI (y_val B n p) := by
        have : τ.1 75 11 = nI (min 99999 (y_val B n p)) := q11 c1
        rw [this]; congr 1; omega
      obtain ⟨τ', e1, e2, e3⟩ := ym_errs (k := 2) (by omega) (by omega) h
      have bit : ((τ.1 81 ((7 : Int32)).toNatClampNeg) >>> ((τ.1 75 11) &&& 31)) &&& (1 : Int32) = nI (y_sh b (y_val B n p)) := by
        rw [e11, show ((7 : Int32)).toNatClampNeg = 7 from rfl]; exact ym_b7 hW hm (by omega)
      by_cases s : y_sh b (y_val B n p) = 1 ∨ nI (y_val B n p) = but
      · refine ⟨τ', fun K => ?_, Or.inr ⟨rfl, c1, c2, s, e2⟩, e3.wide (by omega) (by omega) (by omega) (by omega)⟩
        rw [j_b1_s, if_pos (show ((0, p), vs).1.1 = 0 ∧ y_kd B n ((0, p), vs).1.2 = 2 ∧ y_val B n ((0, p), vs).1.2 < y_ho b from ⟨rfl, c1, c2⟩), if_pos i1, show j_ix (7 : Int32) 116 _ = _ from y_i81 (k := 7) (by omega), bit, e11, if_pos (show nI (y_sh b (y_val B n p)) = (1 : Int32) ∨ nI (y_val B n p) = but from s.elim (fun z => Or.inl (by rw [z]; rfl)) Or.inr), show (2 : Int32) = nI 2 from rfl, e1, j_b1_s, j_b1_s]
      · refine ⟨τ, fun K => ?_, Or.inl ⟨h, fun _ _ _ => s⟩, y_fm.refl⟩
        rw [j_b1_s, if_pos (show ((0, p), vs).1.1 = 0 ∧ y_kd B n ((0, p), vs).1.2 = 2 ∧ y_val B n ((0, p), vs).1.2 < y_ho b from ⟨rfl, c1, c2⟩), if_pos i1, show j_ix (7 : Int32) 116 _ = _ from y_i81 (k := 7) (by omega), bit, e11, if_neg (show ¬ (nI (y_sh b (y_val B n p)) = (1 : Int32) ∨ nI (y_val B n p) = but) from fun z => s (z.elim (fun z => Or.inl (by rw [show (1 : Int32) = nI 1 from rfl, y_eq (by omega) (by omega)] at z; exact z)) Or.inr)), j_b1_s]
    · refine ⟨τ, fun K => ?_, Or.inl ⟨h, fun a d e => absurd ⟨a, d, e⟩ c⟩, y_fm.refl⟩
      rw [j_b1_s, if_neg (show ¬ (((r1, p), vs).1.1 = 0 ∧ y_kd B n ((r1, p), vs).1.2 = 2 ∧ y_val B n ((r1, p), vs).1.2 < y_ho b) from c), if_neg (fun z => z rfl), j_b1_s]
  have m2 := hm.fm d2
  obtain ⟨v, τ4, e1, e2, e3, e4⟩ := ym_hn (J := J) (x := ((r1, p), vs)) (P := fun v => y_sh b v = 1 ∨ nI v = but) ho (fun z k => by
    show (J vs (y_val B n p) = 0 ∧ y_val B n p < y_ho b ∧ ¬ (y_sh b (y_val B n p) = 1 ∨ nI (y_val B n p) = but)) ∨ (J vs (y_val B n p) = 2 ∧ (¬ y_val B n p < y_ho b ∨ (y_sh b (y_val B n p) = 1 ∨ nI (y_val B n p) = but)))
    rw [show J vs (y_val B n p) = _ from hJ z _ vl]
    by_cases c : y_qo b (y_val B n p) = 0 ∧ nI (y_val B n p) ≠ but
    · have := y_qo0.mp c.1
      rw [if_pos c]; left
      exact ⟨rfl, this.1, fun w => w.elim (fun w => by omega) (fun w => c.2 w)⟩
    · rw [if_neg c]; right
      refine ⟨rfl, ?_⟩
      by_cases d : nI (y_val B n p) = but
      · exact Or.inr (Or.inr d)
      · rw [y_qo0] at c
        by_cases e : y_val B n p < y_ho b
        · right; left
          by_cases f : y_sh b (y_val B n p) = 0
          · exact absurd ⟨⟨e, f⟩, d⟩ c
          · omega
        · exact Or.inl e) d1
  have e1' : f_X12_number (0 : Int32) (nI (y_ho b) - (1 : Int32)) τ2 = some (v, τ4) := e1
  refine ⟨v, τ4, ?_, e2, d2.trans e3, fun z => ?_⟩
  · unfold f_X12_readHole
    refine Eq.trans (d0 _) ?_
    rw [ym_fh m2, j_b1_s, e1', j_b2_s]
  · obtain ⟨k1, k2, k3, k4⟩ := e4 z
    have k4' : ¬ (y_sh b (y_val B n p) = 1 ∨ nI (y_val B n p) = but) := k4
    refine ⟨k1, k2, k3, ?_, fun w => k4' (Or.inr w)⟩
    show y_sh b (y_val B n p) = 0
    have : y_sh b (y_val B n p) ≠ 1 := fun w => k4' (Or.inl w)
    omega
theorem ym_acw {τ : j_G} {b : Nat → Nat} {r : Nat × Nat} {v w e : Nat} {xw xe : Int32} (hw : xw = nP w) (he : xe = nI e) (h5 : b 5 < 24) (h : y_mw τ B n r) (hm : y_mb (τ.1 81) b) :
    ∃ τ', (j_ix (nI (24 + 3 * b 5) + (0 : Int32)) 116 (
  j_lt (j_si τ 81 ((nI (24 + 3 * b 5) + (0 : Int32))).toNatClampNeg (nI v)) fun σ8 =>
  j_ix (nI (24 + 3 * b 5) + (1 : Int32)) 116 (
  j_lt (j_si σ8 81 ((nI (24 + 3 * b 5) + (1 : Int32))).toNatClampNeg xw) fun σ9 =>
  j_lt xe fun v10 =>
  j_ix (nI (24 + 3 * b 5) + (2 : Int32)) 116 (
  j_lt (j_si σ9 81 ((nI (24 + 3 * b 5) + (2 : Int32))).toNatClampNeg v10) fun σ11 =>
  j_ix (5 : Int32) 116 (
  j_ix (5 : Int32) 116 (
  j_lt (j_si σ11 81 ((5 : Int32)).toNatClampNeg ((σ11.1 81 ((5 : Int32)).toNatClampNeg) + (1 : Int32))) fun σ12 =>
  some σ12)))))) = some τ' ∧ y_mw τ' B n r ∧ y_fl τ τ' ∧ y_mb (τ'.1 81) (y_ac b v w e) := by
  subst hw
  subst he
  have hm5 : τ.1 81 5 = nI (b 5) := hm.f (by omega)
  refine ⟨j_si (j_si (j_si (j_si τ 81 (24 + 3 * b 5) (nI v)) 81 (25 + 3 * b 5) (nP w)) 81 (26 + 3 * b 5) (nI e)) 81 5 (nI (b 5 + 1)), ?_, h.s81.s81.s81.s81, y_fl.s (y_fl.s (y_fl.s (y_fl.s y_fm.refl))), ?_⟩
  · simp (disch := omega) only [y_lit, y_n1, nI_add, pk_mul, j_lt, j_b1_s, j_b2_s, j_b3_s, j_b0_s, y_bo, y_bo1, y_bo0, y_i0, y_i1, Classical.not_not, nI_clamp, y_ix, y_lt, y_le, y_eq, y_nP, y_nPs, y_ltP, y_ltQ, y_ltPP, y_eqP, y_eqQ, y_eqPP, if_pos, if_neg, ite_true, ite_false, not_true_eq_false, not_false_eq_true, and_true, true_and, and_false, false_and, or_true, true_or, or_false, false_or, j_r_ne, j_r_eq, j_r_nj, Nat.add_zero, hm5, show 24 + 3 * b 5 + 1 = 25 + 3 * b 5 by omega, show 24 + 3 * b 5 + 2 = 26 + 3 * b 5 by omega]
  · exact y_mbs (y_mbs (y_mbp (y_mbs hm (by omega)) (by omega)) (by omega)) (by omega)
theorem ym_e5 {τ : j_G} {b : Nat → Nat} (hW : y_W b) (hm : y_mb (τ.1 81) b) : (24 : Int32) + (3 : Int32) * (τ.1 81 ((5 : Int32)).toNatClampNeg) = nI (24 + 3 * b 5) := by
  have b5 := hW.b5
  rw [show ((5 : Int32)).toNatClampNeg = 5 from rfl, hm.f (j := 5) (by omega), show (24 : Int32) = nI 24 from rfl, show (3 : Int32) = nI 3 from rfl, pk_mul, nI_add]
theorem ym_rcom1 {τ : j_G} {b : Nat → Nat} {p r : Nat} (hW : y_W b) (on : 0 < b 9) (h5 : b 5 < 24) (hr : r ≤ 1) (h : y_mw τ B n (0, p)) (hm : y_mb (τ.1 81) b) :
    ∃ τ', f_X12_readComing (nI r) (0 : Int32) τ = some τ' ∧ y_mw τ' B n (y_gq B n (fun _ v => y_qo b v) [none] ((0, p), [])).1 ∧ y_fl τ τ' ∧
      ((y_gq B n (fun _ v => y_qo b v) [none] ((0, p), [])).1.1 = 0 → ∃ w0, (y_gq B n (fun _ v => y_qo b v) [none] ((0, p), [])).2 = [w0] ∧ w0 < y_ho b ∧ y_sh b w0 = 0 ∧ y_mb (τ'.1 81) (y_ac b w0 0 r)) := by
  obtain ⟨v, τ1, a1, a2, a3, a4⟩ := ym_rhole (x := ((0, p), [])) (J := fun _ v => y_qo b v) (but := (-1 : Int32)) hW on h hm (fun _ v hv => by
    have ne : nI v ≠ (-1 : Int32) := by rw [y_m1, ne_eq, y_eqQ (by omega) (by omega)]; omega
    show y_qo b v = _
    by_cases c : y_qo b v = 0
    · rw [if_pos ⟨c, ne⟩]; exact c
    · rw [if_neg (fun z => c z.1)]; exact y_qo2 c)
  have m1 := hm.fm a3
  have gd := ym_good a2
  have go : y_gq B n (fun _ v => y_qo b v) [none] ((0, p), []) = y_stp B n (fun _ v => y_qo b v) none ((0, p), []) := rfl
  rw [go]
  unfold f_X12_readComing
  rw [show j_ix (5 : Int32) 116 _ = _ from y_i81 (k := 5) (by omega)]
  simp only [j_lt]
  rw [ym_e5 hW hm, a1, j_b2_s, if_neg (show ¬ ¬ True from fun z => z trivial), j_b2_s, gd]
  by_cases z : (y_stp B n (fun _ v => y_qo b v) none ((0, p), [])).1.1 = 0
  · obtain ⟨k1, k2, k3, k4, _⟩ := a4 z
    subst k1
    rw [if_pos z, if_neg (show ¬ nI 1 = (0 : Int32) by decide)]
    obtain ⟨τ', t1, t2, t3, t4⟩ := ym_acw (v := y_val B n p) (w := 0) (e := r) (xe := if ¬ (nI r) = 0 then ((1 : Int32)) else ((0 : Int32))) y_m1 (by
      obtain rfl | rfl : r = 0 ∨ r = 1 := by omega
      · rw [if_neg (fun z => z rfl)]; rfl
      · rw [if_pos (by decide)]; rfl) h5 a2 m1
    exact ⟨τ', t1, t2, y_fm.trans (y_fl.of a3) t3, fun _ => ⟨_, k2, k3, k4, t4⟩⟩
  · rw [if_neg z, if_pos (show nI 0 = (0 : Int32) from rfl)]
    exact ⟨τ1, rfl, a2, y_fl.of a3, fun w => absurd w z⟩
theorem ym_rcom2 {τ : j_G} {b : Nat → Nat} {p : Nat} (hW : y_W b) (on : 0 < b 9) (h5 : b 5 < 24) (h : y_mw τ B n (0, p)) (hm : y_mb (τ.1 81) b) :
    ∃ τ', f_X12_readComing (0 : Int32) (1 : Int32) τ = some τ' ∧ y_mw τ' B n (y_gq B n (y_q5 b) [none, none] ((0, p), [])).1 ∧ y_fl τ τ' ∧
      ((y_gq B n (y_q5 b) [none, none] ((0, p), [])).1.1 = 0 → ∃ w0 w1, (y_gq B n (y_q5 b) [none, none] ((0, p), [])).2 = [w0, w1] ∧ w0 < y_ho b ∧ y_sh b w0 = 0 ∧ w1 < y_ho b ∧ y_sh b w1 = 0 ∧ w1 ≠ w0 ∧ y_mb (τ'.1 81) (y_ac b w0 (w1 + 1) 0)) := by
  obtain ⟨v, τ1, a1, a2, a3, a4⟩ := ym_rhole (x := ((0, p), [])) (J := y_q5 b) (but := (-1 : Int32)) hW on h hm (fun _ v hv => by
    have ne : nI v ≠ (-1 : Int32) := by rw [y_m1, ne_eq, y_eqQ (by omega) (by omega)]; omega
    show y_q5 b [] v = _
    unfold y_q5
    by_cases c : y_qo b v = 0
    · exact (if_pos ⟨c, Or.inl rfl⟩).trans (if_pos ⟨c, ne⟩).symm
    · exact (if_neg (fun z => c z.1)).trans (if_neg (fun z => c z.1)).symm)
  have m1 := hm.fm a3
  have go : y_gq B n (y_q5 b) [none, none] ((0, p), []) = y_stp B n (y_q5 b) none (y_stp B n (y_q5 b) none ((0, p), [])) := rfl
  rw [go]
  clear go
  generalize y_stp B n (y_q5 b) none ((0, p), []) = X1 at *
  obtain ⟨v2, τ2, c1, c2, c3, c4⟩ := ym_rhole (x := X1) (J := y_q5 b) (but := v) hW on a2 m1 (fun z u hu => by
    obtain ⟨k1, k2, k3, k4, _⟩ := a4 z
    have vl := y_val_le B n p
    rw [k1, k2]
    show (if y_qo b u = 0 ∧ (1 = 0 ∨ u ≠ y_val B n p) then 0 else 2) = if y_qo b u = 0 ∧ nI u ≠ nI (y_val B n p) then 0 else 2
    have e : (1 = 0 ∨ u ≠ y_val B n p) ↔ nI u ≠ nI (y_val B n p) := by rw [ne_eq, ne_eq, y_eq (by omega) (by omega)]; omega
    by_cases c : y_qo b u = 0 ∧ nI u ≠ nI (y_val B n p)
    · exact (if_pos ⟨c.1, e.mpr c.2⟩).trans (if_pos c).symm
    · exact (if_neg (fun w => c ⟨w.1, e.mp w.2⟩)).trans (if_neg c).symm)
  have m2 := m1.fm c3
  have gd := ym_good c2
  have g1 : (y_stp B n (y_q5 b) none X1).1.1 = 0 → X1.1.1 = 0 := y_stp_good
  unfold f_X12_readComing
  rw [show j_ix (5 : Int32) 116 _ = _ from y_i81 (k := 5) (by omega)]
  simp only [j_lt]
  rw [ym_e5 hW hm, a1, j_b2_s, if_pos (show ¬ (1 : Int32) = 0 by decide), c1, j_b2_s, j_b2_s, gd]
  by_cases z : (y_stp B n (y_q5 b) none X1).1.1 = 0
  · obtain ⟨k1, k2, k3, k4, _⟩ := a4 (g1 z)
    obtain ⟨q1, q2, q3, q4, q5⟩ := c4 z
    subst k1
    subst q1
    have vl := y_val_le B n p
    have vl2 := y_val_le B n X1.1.2
    have q5' : nI (y_val B n X1.1.2) ≠ nI (y_val B n p) := q5
    rw [ne_eq, y_eq (by omega) (by omega)] at q5'
    rw [if_pos z, if_neg (show ¬ nI 1 = (0 : Int32) by decide)]
    obtain ⟨τ', t1, t2, t3, t4⟩ := ym_acw (v := y_val B n p) (w := y_val B n X1.1.2 + 1) (e := 0) (xw := nI (y_val B n X1.1.2)) (xe := if ¬ (0 : Int32) = 0 then ((1 : Int32)) else ((0 : Int32))) (y_nPs _).symm (by rw [if_neg (fun z => z rfl)]; rfl) h5 c2 m2
    exact ⟨τ', t1, t2, y_fm.trans (y_fl.t (y_fl.of a3) c3) t3, fun _ => ⟨_, _, by rw [q2, k2]; rfl, k3, k4, q3, q4, q5', t4⟩⟩
  · rw [if_neg z, if_pos (show nI 0 = (0 : Int32) from rfl)]
    exact ⟨τ2, rfl, c2, y_fl.t (y_fl.of a3) c3, fun w => absurd w z⟩
end R
