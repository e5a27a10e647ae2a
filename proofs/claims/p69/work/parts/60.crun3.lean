/-! ===== all comings, the class ===== -/
theorem y_cg.fr {σ σ' : j_G} {b g : Nat → Nat} {s lo hi : Nat} (h : y_cg σ b s g) (hf : y_fr lo hi σ σ') (hl : 28 ≤ lo) : y_cg σ' b s g := by
  unfold y_cg at *
  rw [(hf 22 (by omega)).1, (hf 23 (by omega)).1, (hf 24 (by omega)).1, (hf 25 (by omega)).1, (hf 26 (by omega)).1, (hf 27 (by omega)).1]
  exact h
theorem y_cp.fr {σ σ' : j_G} {q : Nat → Nat} {a lo hi : Nat} (h : y_cp σ a q) (hf : y_fr lo hi σ σ') (hl : a < lo ∨ hi < a) : y_cp σ' a q := by
  unfold y_cp at *
  rw [(hf a hl).1]
  exact h
section C
variable {b g q k : Nat → Nat} {s a : Nat} {hs : Int32}
theorem yc_begin_l {R : Nat → Nat} (hsz : s ≤ 60) : ∀ m i n σ, i + m = s → m < n → σ.1 22 0 = nI s → (∀ j, j < i → σ.1 31 j = nP 0 ∧ σ.1 32 j = nI 0) → ∃ σ', p_X9_begin_30 22 31 32 n (nI i) σ = some σ' ∧ (∀ j, j < s → σ'.1 31 j = nP 0 ∧ σ'.1 32 j = nI 0) ∧ y_fr 31 32 σ σ' := by
  intro m
  induction m with
  | zero =>
    intro i n σ h hn h0 hj
    obtain ⟨n, rfl⟩ := y_pos hn
    refine ⟨σ, ?_, fun j hj' => hj j (by omega), y_fr.refl⟩
    unfold p_X9_begin_30; simp (disch := omega) only [y_lit, y_n1, nI_add, pk_mul, j_lt, j_b1_s, j_b2_s, j_b3_s, j_b0_s, y_bo, y_bo1, y_bo0, y_i0, y_i1, Classical.not_not, nI_clamp, y_ix, y_lt, y_le, y_eq, y_nP, y_nPs, y_ltP, y_ltQ, y_ltPP, y_eqP, y_eqQ, y_eqPP, if_pos, if_neg, ite_true, ite_false, not_true_eq_false, not_false_eq_true, and_true, true_and, and_false, false_and, or_true, true_or, or_false, false_or, h0]
  | succ m ih =>
    intro i n σ h hn h0 hj
    obtain ⟨n, rfl⟩ := y_pos hn
    unfold p_X9_begin_30; simp (disch := omega) only [y_lit, y_n1, nI_add, pk_mul, j_lt, j_b1_s, j_b2_s, j_b3_s, j_b0_s, y_bo, y_bo1, y_bo0, y_i0, y_i1, Classical.not_not, nI_clamp, y_ix, y_lt, y_le, y_eq, y_nP, y_nPs, y_ltP, y_ltQ, y_ltPP, y_eqP, y_eqQ, y_eqPP, if_pos, if_neg, ite_true, ite_false, not_true_eq_false, not_false_eq_true, and_true, true_and, and_false, false_and, or_true, true_or, or_false, false_or, h0]
    have f : y_fr 31 32 σ (j_si (j_si σ 31 i (nP 0)) 32 i (nI 0)) := (y_fr.refl.si (by omega) (by omega)).si (by omega) (by omega)
    obtain ⟨σ', g1, g2, g3⟩ := ih (i + 1) n (j_si (j_si σ 31 i (nP 0)) 32 i (nI 0)) (by omega) (by omega) (by simp (disch := omega) only [j_r_ne, j_r_eq, j_r_nj, h0]) (fun j hj' => by
      by_cases e : j = i
      · subst e; simp (disch := omega) only [j_r_ne, j_r_eq, j_r_nj]; exact ⟨trivial, trivial⟩
      · have := hj j (by omega); simp (disch := omega) only [j_r_ne, j_r_eq, j_r_nj]; exact this)
    exact ⟨σ', g1, g2, f.trans g3⟩
theorem yc_begin {σ : j_G} (hsz : s ≤ 60) (ha : a < 30) (h0 : σ.1 22 0 = nI s) (hp : y_cp σ a q) : ∃ σ', f_X9_begin 30 a 22 31 32 σ = some σ' ∧ y_cr σ' (y_R0 q) s ∧ σ'.1 30 4 = nI 0 ∧ y_fr 30 34 σ σ' := by
  have e4 := hp 4 (by omega)
  unfold f_X9_begin
  simp (disch := omega) only [y_lit, y_n1, nI_add, pk_mul, j_lt, j_b1_s, j_b2_s, j_b3_s, j_b0_s, y_bo, y_bo1, y_bo0, y_i0, y_i1, Classical.not_not, nI_clamp, y_ix, y_lt, y_le, y_eq, y_nP, y_nPs, y_ltP, y_ltQ, y_ltPP, y_eqP, y_eqQ, y_eqPP, if_pos, if_neg, ite_true, ite_false, not_true_eq_false, not_false_eq_true, and_true, true_and, and_false, false_and, or_true, true_or, or_false, false_or, j_r_ne, j_r_eq, j_r_nj, e4]
  have f : y_fr 30 34 σ (j_si (j_si (j_si (j_si (j_si σ 30 0 (nI 0)) 30 4 (nI 0)) 30 1 (nI 0)) 30 8 (nI 0)) 30 7 (nI (q 4))) := (((((y_fr.refl.si (by omega) (by omega)).si (by omega) (by omega)).si (by omega) (by omega)).si (by omega) (by omega)).si (by omega) (by omega))
  obtain ⟨σ', g1, g2, g3⟩ := yc_begin_l (R := q) hsz s 0 j_F (j_si (j_si (j_si (j_si (j_si σ 30 0 (nI 0)) 30 4 (nI 0)) 30 1 (nI 0)) 30 8 (nI 0)) 30 7 (nI (q 4))) (by omega) (y_F (by omega)) (by simp (disch := omega) only [j_r_ne, j_r_eq, j_r_nj, h0]) (fun j hj => absurd hj (by omega))
  rw [g1]
  refine ⟨σ', rfl, ⟨⟨?_, ?_, ?_, ?_⟩, fun j hj => absurd hj (Nat.not_lt_zero _), fun j hj => ?_⟩, ?_, f.trans (g3.wide (by omega) (by omega))⟩
  · rw [g3.i 30 0 (by omega)]; simp (disch := omega) only [j_r_ne, j_r_eq, j_r_nj]; rfl
  · rw [g3.i 30 1 (by omega)]; simp (disch := omega) only [j_r_ne, j_r_eq, j_r_nj]; rfl
  · rw [g3.i 30 7 (by omega)]; simp (disch := omega) only [j_r_ne, j_r_eq, j_r_nj]; rfl
  · rw [g3.i 30 8 (by omega)]; simp (disch := omega) only [j_r_ne, j_r_eq, j_r_nj]; rfl
  · have z1 : y_R0 q (1000 + 2 * j) = 0 := by unfold y_R0; rw [if_neg (by omega)]
    have z2 : y_R0 q (1001 + 2 * j) = 0 := by unfold y_R0; rw [if_neg (by omega)]
    rw [z1, z2]; exact g2 j hj
  · rw [g3.i 30 4 (by omega)]; simp (disch := omega) only [j_r_ne, j_r_eq, j_r_nj]
theorem yc_good_l (hW : y_W b) (h9 : 0 < b 9) (hv : y_vg b s g) (ha : a < 30) (hq : y_vq b q) (hk : y_mk hs k) : ∀ m i n σ R, i + m = s → m < n → y_N σ b → y_cg σ b s g → y_cp σ a q → y_cr σ R s → y_br b R (2 * i) → ∃ σ', p_X9_good_9 22 25 23 24 30 26 a 33 34 31 32 hs n (nI i) σ = some σ' ∧ y_cr σ' (y_rl b g q k 0 m i R) s ∧ y_fr 30 34 σ σ' := by
  have h60 := hv.1
  intro m
  induction m with
  | zero =>
    intro i n σ R h hn hN hc hp hr hb
    obtain ⟨n, rfl⟩ := y_pos hn
    refine ⟨σ, ?_, hr, y_fr.refl⟩
    unfold p_X9_good_9; simp (disch := omega) only [y_lit, y_n1, nI_add, pk_mul, j_lt, j_b1_s, j_b2_s, j_b3_s, j_b0_s, y_bo, y_bo1, y_bo0, y_i0, y_i1, Classical.not_not, nI_clamp, y_ix, y_lt, y_le, y_eq, y_nP, y_nPs, y_ltP, y_ltQ, y_ltPP, y_eqP, y_eqQ, y_eqPP, if_pos, if_neg, ite_true, ite_false, not_true_eq_false, not_false_eq_true, and_true, true_and, and_false, false_and, or_true, true_or, or_false, false_or, hc.1]
  | succ m ih =>
    intro i n σ R h hn hN hc hp hr hb
    obtain ⟨n, rfl⟩ := y_pos hn
    have ci := (hc.2 i (by omega)).2.2.1
    have vi := (hv.2 i (by omega)).2.2.2.1
    unfold p_X9_good_9 y_rl
    simp (disch := omega) only [y_lit, y_n1, nI_add, pk_mul, j_lt, j_b1_s, j_b2_s, j_b3_s, j_b0_s, y_bo, y_bo1, y_bo0, y_i0, y_i1, Classical.not_not, nI_clamp, y_ix, y_lt, y_le, y_eq, y_nP, y_nPs, y_ltP, y_ltQ, y_ltPP, y_eqP, y_eqQ, y_eqPP, if_pos, if_neg, ite_true, ite_false, not_true_eq_false, not_false_eq_true, and_true, true_and, and_false, false_and, or_true, true_or, or_false, false_or, hc.1, ci]
    by_cases e : g (3 * i + 2) = 0
    · obtain ⟨σ1, f1, f2, f3, _⟩ := yc_goFor hN hW h9 hc hv hp ha hq hk hr hb (by omega) (show i < s by omega)
      rw [if_pos (Or.inl e)]
      simp (disch := omega) only [y_lit, y_n1, nI_add, pk_mul, j_lt, j_b1_s, j_b2_s, j_b3_s, j_b0_s, y_bo, y_bo1, y_bo0, y_i0, y_i1, Classical.not_not, nI_clamp, y_ix, y_lt, y_le, y_eq, y_nP, y_nPs, y_ltP, y_ltQ, y_ltPP, y_eqP, y_eqQ, y_eqPP, if_pos, if_neg, ite_true, ite_false, not_true_eq_false, not_false_eq_true, and_true, true_and, and_false, false_and, or_true, true_or, or_false, false_or]
      rw [f1]
      obtain ⟨σ', g1, g2, g3⟩ := ih (i + 1) n σ1 (y_gf b g q k i R) (by omega) (by omega) (hN.fr f3 (by omega)) (hc.fr f3 (by omega)) (hp.fr f3 (by omega)) f2 (y_gf_br (m := 2 * i) hW hv hb (by omega) (by omega))
      exact ⟨σ', g1, g2, f3.trans g3⟩
    · rw [if_neg (fun z : g (3 * i + 2) = 0 ∨ 0 = 1 => by omega)]
      simp (disch := omega) only [y_lit, y_n1, nI_add, pk_mul, j_lt, j_b1_s, j_b2_s, j_b3_s, j_b0_s, y_bo, y_bo1, y_bo0, y_i0, y_i1, Classical.not_not, nI_clamp, y_ix, y_lt, y_le, y_eq, y_nP, y_nPs, y_ltP, y_ltQ, y_ltPP, y_eqP, y_eqQ, y_eqPP, if_pos, if_neg, ite_true, ite_false, not_true_eq_false, not_false_eq_true, and_true, true_and, and_false, false_and, or_true, true_or, or_false, false_or]
      exact ih (i + 1) n σ R (by omega) (by omega) hN hc hp hr (hb.up (by omega))
theorem yc_good {σ : j_G} (hN : y_N σ b) (hW : y_W b) (h9 : 0 < b 9) (hc : y_cg σ b s g) (hv : y_vg b s g) (hp : y_cp σ a q) (ha : a < 30) (hq : y_vq b q) (hk : y_mk hs k) : ∃ σ', f_X9_good 30 a 22 31 32 25 23 24 26 33 34 hs σ = some (nI (y_run b g q k 0 s 0), σ') ∧ y_cr σ' (y_run b g q k 0 s) s ∧ y_fr 30 34 σ σ' := by
  have h60 := hv.1
  obtain ⟨σ1, f1, f2, _, f3⟩ := yc_begin hv.1 ha hc.1 hp
  obtain ⟨σ2, g1, g2, g3⟩ := yc_good_l hW h9 hv ha hq hk s 0 j_F σ1 (y_R0 q) (by omega) (y_F (by omega)) (hN.fr f3 (by omega)) (hc.fr f3 (by omega)) (hp.fr f3 (by omega)) f2 (y_R0_br hq)
  unfold f_X9_good
  rw [f1]
  simp only [j_b1_s, y_lit]
  rw [g1]
  refine ⟨σ2, ?_, g2, f3.trans g3⟩
  rw [j_b1_s, g2.1.1]
  rfl
end C
/-- what a coming's going changes -/
def y_pr (r i : Nat) (R R' : Nat → Nat) : Prop := (r = 0 → R' 4 = R 4) ∧ (r = 1 → R' 4 + R (1001 + 2 * i) = R 4 + R' (1001 + 2 * i)) ∧ ∀ j, j ≠ i → R' (1001 + 2 * j) = R (1001 + 2 * j) ∧ R' (1000 + 2 * j) = R (1000 + 2 * j)
theorem y_pr.refl {r i : Nat} {R : Nat → Nat} : y_pr r i R R := ⟨fun _ => rfl, fun _ => rfl, fun _ _ => ⟨rfl, rfl⟩⟩
theorem y_pr.trans {r i : Nat} {R R' R'' : Nat → Nat} (h : y_pr r i R R') (h' : y_pr r i R' R'') : y_pr r i R R'' :=
  ⟨fun z => (h'.1 z).trans (h.1 z), fun z => by have := h.2.1 z; have := h'.2.1 z; omega, fun j hj => ⟨(h'.2.2 j hj).1.trans (h.2.2 j hj).1, (h'.2.2 j hj).2.trans (h.2.2 j hj).2⟩⟩
theorem y_go_pr {b g q R : Nat → Nat} {i to m : Nat} (hb : y_br b R m) (hm : m < 200) (hi : i < 60) : y_pr (g (3 * i + 2)) i R (y_go b g q i to R) := by
  have h0 := hb.1
  unfold y_go
  split
  · unfold y_set
    refine ⟨fun z => ?_, fun z => ?_, fun j hj => ⟨?_, ?_⟩⟩
    · simp (disch := omega) only [y_ue, y_un, z]; omega
    · simp (disch := omega) only [y_ue, y_un, z]; omega
    · simp (disch := omega) only [y_ue, y_un]
    · simp (disch := omega) only [y_ue, y_un]
  · exact y_pr.refl
theorem y_go2_pr {b g q R : Nat → Nat} {s i to th m : Nat} (hW : y_W b) (hv : y_vg b s g) (hb : y_br b R m) (hm : m + 1 < 120) (hi : i < s) (hto : to < y_ho b) : y_pr (g (3 * i + 2)) i R (y_go2 b g q i to th R) := by
  have h60 := hv.1
  unfold y_go2
  split
  · exact (y_go_pr hb (by omega) (by omega)).trans (y_go_pr (y_go_br hW hv hb (by omega) hi hto) (by omega) (by omega))
  · exact y_pr.refl
theorem y_gf_pr {b g q k R : Nat → Nat} {s i m : Nat} (hW : y_W b) (hv : y_vg b s g) (hb : y_br b R m) (hm : m + 1 < 120) (hi : i < s) : y_pr (g (3 * i + 2)) i R (y_gf b g q k i R) := by
  have h60 := hv.1
  have li := hv.2 i hi
  unfold y_gf
  split
  · split
    · split
      · exact y_go2_pr hW hv hb hm hi li.1
      · exact y_go2_pr hW hv hb hm hi (by omega)
    · exact y_go_pr hb (by omega) (by omega)
  · split
    · exact y_go_pr hb (by omega) (by omega)
    · exact y_pr.refl
section C
variable {b g q k : Nat → Nat} {s a : Nat} {hs : Int32}
theorem yc_rash_l (hW : y_W b) (h9 : 0 < b 9) (hv : y_vg b s g) (hq : y_vq b q) (hk : y_mk (nP 0) k) : ∀ m i n σ R, i + m = s → m < n → y_N σ b → y_cg σ b s g → y_cp σ 28 q → y_cr σ R s → σ.1 30 4 = nI (R 4) → (∀ j, i ≤ j → R (1001 + 2 * j) = 0) → y_br b R (2 * i) → ∃ σ', p_X9_rashPoints_9 n (nI i) σ = some σ' ∧ y_cr σ' (y_rl b g q k 1 m i R) s ∧ σ'.1 30 4 = nI (y_rl b g q k 1 m i R 4) ∧ y_fr 30 34 σ σ' := by
  have h60 := hv.1
  intro m
  induction m with
  | zero =>
    intro i n σ R h hn hN hc hp hr h4 hz hb
    obtain ⟨n, rfl⟩ := y_pos hn
    refine ⟨σ, ?_, hr, h4, y_fr.refl⟩
    unfold p_X9_rashPoints_9; simp (disch := omega) only [y_lit, y_n1, nI_add, pk_mul, j_lt, j_b1_s, j_b2_s, j_b3_s, j_b0_s, y_bo, y_bo1, y_bo0, y_i0, y_i1, Classical.not_not, nI_clamp, y_ix, y_lt, y_le, y_eq, y_nP, y_nPs, y_ltP, y_ltQ, y_ltPP, y_eqP, y_eqQ, y_eqPP, if_pos, if_neg, ite_true, ite_false, not_true_eq_false, not_false_eq_true, and_true, true_and, and_false, false_and, or_true, true_or, or_false, false_or, hc.1]
  | succ m ih =>
    intro i n σ R h hn hN hc hp hr h4 hz hb
    obtain ⟨n, rfl⟩ := y_pos hn
    have ci := (hc.2 i (by omega)).2.2.1
    have vi := (hv.2 i (by omega)).2.2.2.1
    obtain ⟨σ1, f1, f2, f3, f4⟩ := yc_goFor hN hW h9 hc hv hp (by omega) hq hk hr hb (by omega) (show i < s by omega)
    have pr := y_gf_pr (q := q) (k := k) (i := i) hW hv hb (by omega) (by omega)
    have br := y_gf_br (m := 2 * i) (q := q) (k := k) (i := i) hW hv hb (by omega) (by omega)
    have c1 := hc.fr f3 (by omega)
    have e25 := (c1.2 i (by omega)).2.2.1
    have e32 := (f2.2.2 i (by omega)).2
    have z0 := hz i (by omega)
    unfold p_X9_rashPoints_9 y_rl
    rw [y_m1]
    simp (disch := omega) only [y_lit, y_n1, nI_add, pk_mul, j_lt, j_b1_s, j_b2_s, j_b3_s, j_b0_s, y_bo, y_bo1, y_bo0, y_i0, y_i1, Classical.not_not, nI_clamp, y_ix, y_lt, y_le, y_eq, y_nP, y_nPs, y_ltP, y_ltQ, y_ltPP, y_eqP, y_eqQ, y_eqPP, if_pos, if_neg, ite_true, ite_false, not_true_eq_false, not_false_eq_true, and_true, true_and, and_false, false_and, or_true, true_or, or_false, false_or, hc.1]
    rw [f1]
    simp (disch := omega) only [y_lit, y_n1, nI_add, pk_mul, j_lt, j_b1_s, j_b2_s, j_b3_s, j_b0_s, y_bo, y_bo1, y_bo0, y_i0, y_i1, Classical.not_not, nI_clamp, y_ix, y_lt, y_le, y_eq, y_nP, y_nPs, y_ltP, y_ltQ, y_ltPP, y_eqP, y_eqQ, y_eqPP, if_pos, if_neg, ite_true, ite_false, not_true_eq_false, not_false_eq_true, and_true, true_and, and_false, false_and, or_true, true_or, or_false, false_or, e25, f4, h4, e32]
    have zz : ∀ j, i + 1 ≤ j → y_gf b g q k i R (1001 + 2 * j) = 0 := fun j hj => by rw [(pr.2.2 j (by omega)).1]; exact hz j (by omega)
    by_cases e : g (3 * i + 2) = 0
    · simp (disch := omega) only [y_lit, y_n1, nI_add, pk_mul, j_lt, j_b1_s, j_b2_s, j_b3_s, j_b0_s, y_bo, y_bo1, y_bo0, y_i0, y_i1, Classical.not_not, nI_clamp, y_ix, y_lt, y_le, y_eq, y_nP, y_nPs, y_ltP, y_ltQ, y_ltPP, y_eqP, y_eqQ, y_eqPP, if_pos, if_neg, ite_true, ite_false, not_true_eq_false, not_false_eq_true, and_true, true_and, and_false, false_and, or_true, true_or, or_false, false_or]
      have p4 := pr.1 e
      obtain ⟨σ', g1, g2, g3, g4⟩ := ih (i + 1) n σ1 (y_gf b g q k i R) (by omega) (by omega) (hN.fr f3 (by omega)) c1 (hp.fr f3 (by omega)) f2 (by rw [f4, h4, p4]) zz br
      exact ⟨σ', g1, g2, g3, f3.trans g4⟩
    · simp (disch := omega) only [y_lit, y_n1, nI_add, pk_mul, j_lt, j_b1_s, j_b2_s, j_b3_s, j_b0_s, y_bo, y_bo1, y_bo0, y_i0, y_i1, Classical.not_not, nI_clamp, y_ix, y_lt, y_le, y_eq, y_nP, y_nPs, y_ltP, y_ltQ, y_ltPP, y_eqP, y_eqQ, y_eqPP, if_pos, if_neg, ite_true, ite_false, not_true_eq_false, not_false_eq_true, and_true, true_and, and_false, false_and, or_true, true_or, or_false, false_or]
      have p4 := pr.2.1 (by omega)
      have fr : y_fr 30 34 σ1 (j_si σ1 30 4 (nI (R 4 + y_gf b g q k i R (1001 + 2 * i)))) := y_fr.refl.si (by omega) (by omega)
      have fc : y_cr (j_si σ1 30 4 (nI (R 4 + y_gf b g q k i R (1001 + 2 * i)))) (y_gf b g q k i R) s := by
        obtain ⟨⟨r0, r1, r2, r3⟩, rk, ri⟩ := f2
        refine ⟨⟨?_, ?_, ?_, ?_⟩, fun j hj => ?_, fun j hj => ?_⟩
        · simp (disch := omega) only [j_r_ne, j_r_eq, j_r_nj]; exact r0
        · simp (disch := omega) only [j_r_ne, j_r_eq, j_r_nj]; exact r1
        · simp (disch := omega) only [j_r_ne, j_r_eq, j_r_nj]; exact r2
        · simp (disch := omega) only [j_r_ne, j_r_eq, j_r_nj]; exact r3
        · simp (disch := omega) only [j_r_ne, j_r_eq, j_r_nj]; exact rk j hj
        · simp (disch := omega) only [j_r_ne, j_r_eq, j_r_nj]; exact ri j hj
      obtain ⟨σ', g1, g2, g3, g4⟩ := ih (i + 1) n _ (y_gf b g q k i R) (by omega) (by omega) ((hN.fr f3 (by omega)).fr fr (by omega)) (c1.fr fr (by omega)) ((hp.fr f3 (by omega)).fr fr (by omega)) fc (by rw [j_r_eq]; congr 1; omega) zz br
      exact ⟨σ', g1, g2, g3, (f3.trans fr).trans g4⟩
theorem yc_rash {σ : j_G} (hN : y_N σ b) (hW : y_W b) (h9 : 0 < b 9) (hc : y_cg σ b s g) (hv : y_vg b s g) (hp : y_cp σ 28 q) (hq : y_vq b q) (hk : y_mk (nP 0) k) : ∃ σ', f_X9_rashPoints σ = some (nI 10 * (nI (y_run b g q k 1 s 0) - nI (y_run b g q k 1 s 4)) - nI 20 * nI (y_run b g q k 1 s 4), σ') ∧ y_fr 30 34 σ σ' := by
  have h60 := hv.1
  obtain ⟨σ1, f1, f2, f4, f3⟩ := yc_begin hv.1 (by omega) hc.1 hp
  obtain ⟨σ2, g1, g2, g4, g3⟩ := yc_rash_l hW h9 hv hq hk s 0 j_F σ1 (y_R0 q) (by omega) (y_F (by omega)) (hN.fr f3 (by omega)) (hc.fr f3 (by omega)) (hp.fr f3 (by omega)) f2 (by rw [f4]; rfl) (fun j _ => by unfold y_R0; rw [if_neg (by omega)]) (y_R0_br hq)
  unfold f_X9_rashPoints
  rw [f1]
  simp only [j_b1_s, y_lit]
  rw [g1]
  refine ⟨σ2, ?_, f3.trans g3⟩
  rw [j_b1_s, g2.1.1, g4]
  rfl
end C
