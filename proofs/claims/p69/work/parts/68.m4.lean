/-! ===== calm, where, missed ===== -/
def y_cf (b : Nat → Nat) (t : Nat) : Nat → Nat := fun i => min t (y_last b i + 1) - min t (y_from b i)
theorem y_su_s {f : Nat → Nat} {m i : Nat} : y_su f (m + 1) i 0 = y_su f m (i + 1) 0 + f i := by
  show y_su f m (i + 1) (0 + f i) = _
  rw [y_su_add]
theorem y_cs {b : Nat → Nat} (hW : y_W b) (t : Nat) : ∀ m i, y_su (y_cf b (t + 1)) m i 0 = y_su (y_cf b t) m i 0 + (if y_ui b t m i = 0 then 0 else 1) := by
  intro m
  induction m with
  | zero => intro i; rfl
  | succ m ih =>
    intro i
    have le := y_last_le hW i
    rw [y_su_s, y_su_s]
    unfold y_ui
    by_cases c : y_from b i ≤ t ∧ t ≤ y_last b i
    · rw [if_pos c, if_neg (Nat.succ_ne_zero i)]
      rw [y_su_congr (f := y_cf b (t + 1)) (g := y_cf b t) m (i + 1) 0 (fun j h1 h2 => by
        have := y_apart2 hW (show i < j by omega)
        have := y_last_le hW j
        unfold y_cf; omega)]
      unfold y_cf; omega
    · rw [if_neg c, ih (i + 1)]
      have : y_cf b (t + 1) i = y_cf b t i := by unfold y_cf; omega
      omega
theorem y_cs0 {b : Nat → Nat} : ∀ m i, y_su (y_cf b 0) m i 0 = 0 := by
  intro m
  induction m with
  | zero => intro i; rfl
  | succ m ih => intro i; rw [y_su_s, ih]; unfold y_cf; omega
theorem y_cs_le {b : Nat → Nat} (hW : y_W b) (s : Nat) : ∀ t, y_su (y_cf b t) s 0 0 ≤ t := by
  intro t
  induction t with
  | zero => rw [y_cs0]; omega
  | succ t ih => rw [y_cs hW t s 0]; split <;> omega
def y_len (b : Nat → Nat) : Nat → Nat := fun i => y_last b i - y_from b i + 1
theorem y_upb0 {g : Nat → Nat} {u : Nat} : y_upb g u = 0 ↔ u = 0 := by
  unfold y_upb
  by_cases h : u = 0
  · rw [if_pos h]; omega
  · rw [if_neg h]
    have := y_hb_pos (g := g) (i := u - 1)
    omega
theorem y_upb_lt {b g : Nat → Nat} {s t : Nat} (hW : y_W b) (hv : y_vg b s g) : y_upb g (y_ui b t s 0) < 4096 := by
  have le := y_ui_le (b := b) (t := t) s 0
  unfold y_upb
  split
  · omega
  · exact y_hb_lt hW hv (by omega)
section Z
variable {σ τ : j_G}
theorem z_calm (hR : j_Rel σ τ) : ∃ v σ1 τ1, f_X11_calm σ = some (v, σ1) ∧ f_X12_calm τ = some (v, τ1) ∧ j_Rel σ1 τ1 := by
  obtain ⟨b, hW, hN, hM, hK⟩ := id hR
  have h2 := hW.b2
  have hv := y_dg_vg hW (b 8)
  have hs := hv.1
  by_cases h : 0 < b 9
  · obtain ⟨σ1, e1, e2, e3⟩ := yc_dealt hN hW
    obtain ⟨τ1, f1, f2, f3⟩ := ym_laid hM hW
    have hr := y_done hR (e3.wide (by omega) (by omega)) f3
    have hN1 := hN.fr e3 (by omega)
    unfold y_ldy at f2
    generalize hgs : y_gs b = s at *
    generalize y_dg b (b 8) = g at *
    have eq : y_su (y_cf b (b 2)) s 0 0 = y_su (y_len b) s 0 0 := y_su_congr _ _ _ (fun j _ hj => by
      have := (hv.2 j (by omega)).2.2.2.2.2
      have := y_last_le hW j
      unfold y_cf y_len; omega)
    have le := y_cs_le hW s (b 2)
    have kc : ∀ m i n v, i + m = s → m < n → p_X11_calm_44 σ1 n (nI (b 2) - nI v) (nI i) = some (nI (b 2) - nI (y_su (y_len b) m i v)) := by
      intro m
      induction m with
      | zero =>
        intro i n v h hn
        obtain ⟨n, rfl⟩ := y_pos hn
        unfold p_X11_calm_44 y_su; simp (disch := omega) only [y_lit, y_n1, nI_add, pk_mul, j_lt, j_b1_s, j_b2_s, j_b3_s, j_b0_s, y_bo, y_bo1, y_bo0, y_i0, y_i1, Classical.not_not, nI_clamp, y_ix, y_lt, y_le, y_eq, y_nP, y_nPs, y_ltP, y_ltQ, y_ltPP, y_eqP, y_eqQ, y_eqPP, if_pos, if_neg, ite_true, ite_false, not_true_eq_false, not_false_eq_true, and_true, true_and, and_false, false_and, or_true, true_or, or_false, false_or, e2.1]
      | succ m ih =>
        intro i n v h hn
        obtain ⟨n, rfl⟩ := y_pos hn
        have ci := e2.2 i (by omega)
        have vi := (hv.2 i (by omega)).2.2.2.2.2
        have le := y_last_le hW i
        unfold p_X11_calm_44 y_su; simp (disch := omega) only [y_lit, y_n1, nI_add, pk_mul, j_lt, j_b1_s, j_b2_s, j_b3_s, j_b0_s, y_bo, y_bo1, y_bo0, y_i0, y_i1, Classical.not_not, nI_clamp, y_ix, y_lt, y_le, y_eq, y_nP, y_nPs, y_ltP, y_ltQ, y_ltPP, y_eqP, y_eqQ, y_eqPP, if_pos, if_neg, ite_true, ite_false, not_true_eq_false, not_false_eq_true, and_true, true_and, and_false, false_and, or_true, true_or, or_false, false_or, e2.1, ci, pk_sub, y_subsub]
        exact ih (i + 1) n _ (by omega) (by omega)
    have km : ∀ m t n v, t + m = b 2 → m < n → v + y_su (y_cf b t) s 0 0 = t → p_X12_calm_18 τ1 n (nI v) (nI t) = some (nI (b 2 - y_su (y_cf b (b 2)) s 0 0)) := by
      intro m
      induction m with
      | zero =>
        intro t n v h hn hq
        obtain ⟨n, rfl⟩ := y_pos hn
        obtain rfl : t = b 2 := by omega
        unfold p_X12_calm_18; simp (disch := omega) only [y_lit, y_n1, nI_add, pk_mul, j_lt, j_b1_s, j_b2_s, j_b3_s, j_b0_s, y_bo, y_bo1, y_bo0, y_i0, y_i1, Classical.not_not, nI_clamp, y_ix, y_lt, y_le, y_eq, y_nP, y_nPs, y_ltP, y_ltQ, y_ltPP, y_eqP, y_eqQ, y_eqPP, if_pos, if_neg, ite_true, ite_false, not_true_eq_false, not_false_eq_true, and_true, true_and, and_false, false_and, or_true, true_or, or_false, false_or, f2.1.f]
        congr 2; omega
      | succ m ih =>
        intro t n v h hn hq
        obtain ⟨n, rfl⟩ := y_pos hn
        have lt := y_upb_lt (t := t) hW hv
        have cs := y_cs hW t s 0
        unfold p_X12_calm_18; simp (disch := omega) only [y_lit, y_n1, nI_add, pk_mul, j_lt, j_b1_s, j_b2_s, j_b3_s, j_b0_s, y_bo, y_bo1, y_bo0, y_i0, y_i1, Classical.not_not, nI_clamp, y_ix, y_lt, y_le, y_eq, y_nP, y_nPs, y_ltP, y_ltQ, y_ltPP, y_eqP, y_eqQ, y_eqPP, if_pos, if_neg, ite_true, ite_false, not_true_eq_false, not_false_eq_true, and_true, true_and, and_false, false_and, or_true, true_or, or_false, false_or, f2.1.f, ym_upIn f2.2 hv hW, y_upb0]
        by_cases z : y_ui b t s 0 = 0
        · rw [if_pos z] at cs ⊢
          rw [nI_add]
          exact ih (t + 1) n (v + 1) (by omega) (by omega) (by omega)
        · rw [if_neg z] at cs ⊢
          rw [nI_add]
          exact ih (t + 1) n (v + 0) (by omega) (by omega) (by omega)
    refine ⟨nI (b 2 - y_su (y_len b) s 0 0), σ1, τ1, ?_, ?_, hr⟩
    · have k := kc s 0 j_F 0 (by omega) (y_F (by omega))
      rw [show nI (b 2) - nI 0 = nI (b 2) from by rw [pk_sub (by omega)]; rfl] at k
      unfold f_X11_calm; simp (disch := omega) only [y_lit, y_n1, nI_add, pk_mul, j_lt, j_b1_s, j_b2_s, j_b3_s, j_b0_s, y_bo, y_bo1, y_bo0, y_i0, y_i1, Classical.not_not, nI_clamp, y_ix, y_lt, y_le, y_eq, y_nP, y_nPs, y_ltP, y_ltQ, y_ltPP, y_eqP, y_eqQ, y_eqPP, if_pos, if_neg, ite_true, ite_false, not_true_eq_false, not_false_eq_true, and_true, true_and, and_false, false_and, or_true, true_or, or_false, false_or, yc_isTold hN hW, e1, hN1.f4, k, pk_sub]
    · have k := km (b 2) 0 j_F 0 (by omega) (y_F (by omega)) (by rw [y_cs0])
      unfold f_X12_calm; simp (disch := omega) only [y_lit, y_n1, nI_add, pk_mul, j_lt, j_b1_s, j_b2_s, j_b3_s, j_b0_s, y_bo, y_bo1, y_bo0, y_i0, y_i1, Classical.not_not, nI_clamp, y_ix, y_lt, y_le, y_eq, y_nP, y_nPs, y_ltP, y_ltQ, y_ltPP, y_eqP, y_eqQ, y_eqPP, if_pos, if_neg, ite_true, ite_false, not_true_eq_false, not_false_eq_true, and_true, true_and, and_false, false_and, or_true, true_or, or_false, false_or, ym_isBoard hM hW, f1, k, eq]
  · refine ⟨-2, σ, τ, ?_, ?_, hR⟩
    · unfold f_X11_calm; simp (disch := omega) only [y_lit, y_n1, nI_add, pk_mul, j_lt, j_b1_s, j_b2_s, j_b3_s, j_b0_s, y_bo, y_bo1, y_bo0, y_i0, y_i1, Classical.not_not, nI_clamp, y_ix, y_lt, y_le, y_eq, y_nP, y_nPs, y_ltP, y_ltQ, y_ltPP, y_eqP, y_eqQ, y_eqPP, if_pos, if_neg, ite_true, ite_false, not_true_eq_false, not_false_eq_true, and_true, true_and, and_false, false_and, or_true, true_or, or_false, false_or, yc_isTold hN hW]
    · unfold f_X12_calm; simp (disch := omega) only [y_lit, y_n1, nI_add, pk_mul, j_lt, j_b1_s, j_b2_s, j_b3_s, j_b0_s, y_bo, y_bo1, y_bo0, y_i0, y_i1, Classical.not_not, nI_clamp, y_ix, y_lt, y_le, y_eq, y_nP, y_nPs, y_ltP, y_ltQ, y_ltPP, y_eqP, y_eqQ, y_eqPP, if_pos, if_neg, ite_true, ite_false, not_true_eq_false, not_false_eq_true, and_true, true_and, and_false, false_and, or_true, true_or, or_false, false_or, ym_isBoard hM hW]
end Z
/-- ticks of a run go up -/
def y_mo (R : Nat → Nat) : Prop := (∀ k, k < R 0 → R (8 + 2 * k) < R 3) ∧ ∀ k l, k < l → l < R 0 → R (8 + 2 * k) ≤ R (8 + 2 * l)
theorem y_at_ge {b q R : Nat → Nat} {i to : Nat} : R 3 ≤ y_at b q i to R := by
  have mx : ∀ x z, x ≤ y_mx x z := fun x z => by unfold y_mx; split <;> omega
  have th : ∀ h c t, t ≤ y_th b q h c t := fun h c t => Nat.le_add_right _ _
  exact Nat.le_trans (mx _ (y_aw b q i)) (Nat.le_trans (th _ _ _) (mx _ _))
theorem y_go_mo {b g q R : Nat → Nat} {i to m : Nat} (hb : y_br b R m) (hm : m < 200) (hi : i < 60) (hm0 : y_mo R) : y_mo (y_go b g q i to R) := by
  have h0 := hb.1
  have ge := y_at_ge (b := b) (q := q) (R := R) (i := i) (to := to)
  unfold y_go
  split
  · generalize y_at b q i to R = t at *
    unfold y_set
    refine ⟨fun k hk => ?_, fun k l hk hl => ?_⟩
    · simp (disch := omega) only [y_ue, y_un] at hk ⊢
      by_cases e : k = R 0
      · subst e; simp (disch := omega) only [y_ue, y_un]; omega
      · have := hm0.1 k (by omega)
        simp (disch := omega) only [y_ue, y_un]; omega
    · simp (disch := omega) only [y_ue, y_un] at hl ⊢
      have h1 := hm0.1 k (by omega)
      by_cases e : l = R 0
      · subst e; simp (disch := omega) only [y_ue, y_un]; omega
      · have := hm0.2 k l hk (by omega)
        simp (disch := omega) only [y_ue, y_un]; omega
  · exact hm0
theorem y_go2_mo {b g q R : Nat → Nat} {s i to th m : Nat} (hW : y_W b) (hv : y_vg b s g) (hb : y_br b R m) (hm : m + 1 < 120) (hi : i < s) (hto : to < y_ho b) (hm0 : y_mo R) : y_mo (y_go2 b g q i to th R) := by
  have h60 := hv.1
  unfold y_go2
  split
  · exact y_go_mo (y_go_br hW hv hb (by omega) hi hto) (by omega) (by omega) (y_go_mo hb (by omega) (by omega) hm0)
  · exact hm0
theorem y_gf_mo {b g q k R : Nat → Nat} {s i m : Nat} (hW : y_W b) (hv : y_vg b s g) (hb : y_br b R m) (hm : m + 1 < 120) (hi : i < s) (hm0 : y_mo R) : y_mo (y_gf b g q k i R) := by
  have h60 := hv.1
  have li := hv.2 i hi
  unfold y_gf
  split
  · split
    · split
      · exact y_go2_mo hW hv hb hm hi li.1 hm0
      · exact y_go2_mo hW hv hb hm hi (by omega) hm0
    · exact y_go_mo hb (by omega) (by omega) hm0
  · split
    · exact y_go_mo hb (by omega) (by omega) hm0
    · exact hm0
theorem y_rl_mo {b g q k : Nat → Nat} {s red : Nat} (hW : y_W b) (hv : y_vg b s g) : ∀ m i R, i + m ≤ s → y_br b R (2 * i) → y_mo R → y_mo (y_rl b g q k red m i R) := by
  have hs := hv.1
  intro m
  induction m with
  | zero => intro i R _ _ h; exact h
  | succ m ih =>
    intro i R h hb hm0
    unfold y_rl
    refine ih (i + 1) _ (by omega) ?_ ?_
    · split
      · exact y_gf_br (m := 2 * i) hW hv hb (by omega) (by omega)
      · exact hb.up (by omega)
    · split
      · exact y_gf_mo hW hv hb (by omega) (by omega) hm0
      · exact hm0
theorem y_run_mo {b g q k : Nat → Nat} {s red : Nat} (hW : y_W b) (hv : y_vg b s g) (hq : y_vq b q) : y_mo (y_run b g q k red s) :=
  y_rl_mo hW hv s 0 _ (by omega) (y_R0_br hq) ⟨fun k hk => absurd hk (Nat.not_lt_zero _), fun k l _ hl => absurd hl (Nat.not_lt_zero _)⟩
def y_wh (R : Nat → Nat) (t : Nat) : Nat → Nat → Nat → Nat
  | 0, _, a => a
  | m + 1, k, a => if R (8 + 2 * k) ≤ t then y_wh R t m (k + 1) (R (9 + 2 * k)) else a
section Z
variable {σ τ : j_G}
theorem z_where (hR : j_Rel σ τ) (a1 a2 : Int32) : ∃ v σ1 τ1, f_X11_where a1 a2 σ = some (v, σ1) ∧ f_X12_where a1 a2 τ = some (v, τ1) ∧ j_Rel σ1 τ1 := by
  obtain ⟨b, hW, hN, hM, hK⟩ := id hR
  have h2 := hW.b2
  have hv := y_dg_vg hW (b 8)
  by_cases h : y_rg a1 (b 6)
  · by_cases h3 : y_rg a2 (b 2)
    · obtain ⟨p, hp, rfl⟩ := y_of _ _ h.1 h.2
      obtain ⟨t, ht, rfl⟩ := y_of _ _ h3.1 h3.2
      obtain ⟨σ1, e1, e2, e3, e4⟩ := yc_runOf hN hW hp
      obtain ⟨τ1, f1, f2, f3, f4, f5⟩ := ym_ras hM hW hp
      have hr := y_done hR e4 f5
      have br : y_br b (y_own b p) 120 := y_run_br hW hv (y_pqv hW hp)
      have mo : y_mo (y_own b p) := y_run_mo hW hv (y_pqv hW hp)
      have e28 := e2.2.2 4 (by omega)
      have e28' : σ1.1 28 4 = nI (b (96 + 5 * p + 4)) := e28
      generalize y_own b p = R at *
      have b0 := br.1
      have kc : ∀ m k n a, k + m = R 0 → m < n → p_X9_holeBehind_5 (nI t) σ1 n (nI a) (nI k) = some (nI (y_wh R t m k a)) := by
        intro m
        induction m with
        | zero =>
          intro k n a h hn
          obtain ⟨n, rfl⟩ := y_pos hn
          unfold p_X9_holeBehind_5 y_wh; simp (disch := omega) only [y_lit, y_n1, nI_add, pk_mul, j_lt, j_b1_s, j_b2_s, j_b3_s, j_b0_s, y_bo, y_bo1, y_bo0, y_i0, y_i1, Classical.not_not, nI_clamp, y_ix, y_lt, y_le, y_eq, y_nP, y_nPs, y_ltP, y_ltQ, y_ltPP, y_eqP, y_eqQ, y_eqPP, if_pos, if_neg, ite_true, ite_false, not_true_eq_false, not_false_eq_true, and_true, true_and, and_false, false_and, or_true, true_or, or_false, false_or, e3.1.1]
        | succ m ih =>
          intro k n a h hn
          obtain ⟨n, rfl⟩ := y_pos hn
          have ci := e3.2.1 k (by omega)
          have bi := br.2.2.2.2.2.1 k (by omega)
          unfold p_X9_holeBehind_5 y_wh; simp (disch := omega) only [y_lit, y_n1, nI_add, pk_mul, j_lt, j_b1_s, j_b2_s, j_b3_s, j_b0_s, y_bo, y_bo1, y_bo0, y_i0, y_i1, Classical.not_not, nI_clamp, y_ix, y_lt, y_le, y_eq, y_nP, y_nPs, y_ltP, y_ltQ, y_ltPP, y_eqP, y_eqQ, y_eqPP, if_pos, if_neg, ite_true, ite_false, not_true_eq_false, not_false_eq_true, and_true, true_and, and_false, false_and, or_true, true_or, or_false, false_or, e3.1.1, ci]
          by_cases c : R (8 + 2 * k) ≤ t
          · simp (disch := omega) only [y_lit, y_n1, nI_add, pk_mul, j_lt, j_b1_s, j_b2_s, j_b3_s, j_b0_s, y_bo, y_bo1, y_bo0, y_i0, y_i1, Classical.not_not, nI_clamp, y_ix, y_lt, y_le, y_eq, y_nP, y_nPs, y_ltP, y_ltQ, y_ltPP, y_eqP, y_eqQ, y_eqPP, if_pos, if_neg, ite_true, ite_false, not_true_eq_false, not_false_eq_true, and_true, true_and, and_false, false_and, or_true, true_or, or_false, false_or]
            exact ih (k + 1) n _ (by omega) (by omega)
          · simp (disch := omega) only [y_lit, y_n1, nI_add, pk_mul, j_lt, j_b1_s, j_b2_s, j_b3_s, j_b0_s, y_bo, y_bo1, y_bo0, y_i0, y_i1, Classical.not_not, nI_clamp, y_ix, y_lt, y_le, y_eq, y_nP, y_nPs, y_ltP, y_ltQ, y_ltPP, y_eqP, y_eqQ, y_eqPP, if_pos, if_neg, ite_true, ite_false, not_true_eq_false, not_false_eq_true, and_true, true_and, and_false, false_and, or_true, true_or, or_false, false_or]
      have sk : ∀ m k n a, k + m = R 0 → m < n → (∀ l, k ≤ l → l < R 0 → t < R (8 + 2 * l)) → p_X12_where_33 (nI t) τ1 n (nI a) (nI k) = some (nI a) := by
        intro m
        induction m with
        | zero =>
          intro k n a h hn _
          obtain ⟨n, rfl⟩ := y_pos hn
          unfold p_X12_where_33; simp (disch := omega) only [y_lit, y_n1, nI_add, pk_mul, j_lt, j_b1_s, j_b2_s, j_b3_s, j_b0_s, y_bo, y_bo1, y_bo0, y_i0, y_i1, Classical.not_not, nI_clamp, y_ix, y_lt, y_le, y_eq, y_nP, y_nPs, y_ltP, y_ltQ, y_ltPP, y_eqP, y_eqQ, y_eqPP, if_pos, if_neg, ite_true, ite_false, not_true_eq_false, not_false_eq_true, and_true, true_and, and_false, false_and, or_true, true_or, or_false, false_or, f3.1.1]
        | succ m ih =>
          intro k n a h hn hl
          obtain ⟨n, rfl⟩ := y_pos hn
          have ci := f3.2.1 k (by omega)
          have bi := br.2.2.2.2.2.1 k (by omega)
          have := hl k (by omega) (by omega)
          unfold p_X12_where_33; simp (disch := omega) only [y_lit, y_n1, nI_add, pk_mul, j_lt, j_b1_s, j_b2_s, j_b3_s, j_b0_s, y_bo, y_bo1, y_bo0, y_i0, y_i1, Classical.not_not, nI_clamp, y_ix, y_lt, y_le, y_eq, y_nP, y_nPs, y_ltP, y_ltQ, y_ltPP, y_eqP, y_eqQ, y_eqPP, if_pos, if_neg, ite_true, ite_false, not_true_eq_false, not_false_eq_true, and_true, true_and, and_false, false_and, or_true, true_or, or_false, false_or, f3.1.1, ci]
          exact ih (k + 1) n _ (by omega) (by omega) (fun l h1 h2 => hl l (by omega) h2)
      have km : ∀ m k n a, k + m = R 0 → m < n → p_X12_where_33 (nI t) τ1 n (nI a) (nI k) = some (nI (y_wh R t m k a)) := by
        intro m
        induction m with
        | zero =>
          intro k n a h hn
          obtain ⟨n, rfl⟩ := y_pos hn
          unfold p_X12_where_33 y_wh; simp (disch := omega) only [y_lit, y_n1, nI_add, pk_mul, j_lt, j_b1_s, j_b2_s, j_b3_s, j_b0_s, y_bo, y_bo1, y_bo0, y_i0, y_i1, Classical.not_not, nI_clamp, y_ix, y_lt, y_le, y_eq, y_nP, y_nPs, y_ltP, y_ltQ, y_ltPP, y_eqP, y_eqQ, y_eqPP, if_pos, if_neg, ite_true, ite_false, not_true_eq_false, not_false_eq_true, and_true, true_and, and_false, false_and, or_true, true_or, or_false, false_or, f3.1.1]
        | succ m ih =>
          intro k n a h hn
          by_cases c : R (8 + 2 * k) ≤ t
          · obtain ⟨n, rfl⟩ := y_pos hn
            have ci := f3.2.1 k (by omega)
            have bi := br.2.2.2.2.2.1 k (by omega)
            unfold p_X12_where_33 y_wh; simp (disch := omega) only [y_lit, y_n1, nI_add, pk_mul, j_lt, j_b1_s, j_b2_s, j_b3_s, j_b0_s, y_bo, y_bo1, y_bo0, y_i0, y_i1, Classical.not_not, nI_clamp, y_ix, y_lt, y_le, y_eq, y_nP, y_nPs, y_ltP, y_ltQ, y_ltPP, y_eqP, y_eqQ, y_eqPP, if_pos, if_neg, ite_true, ite_false, not_true_eq_false, not_false_eq_true, and_true, true_and, and_false, false_and, or_true, true_or, or_false, false_or, f3.1.1, ci]
            exact ih (k + 1) n _ (by omega) (by omega)
          · unfold y_wh
            rw [if_neg c]
            exact sk (m + 1) k n a h hn (fun l h1 h2 => by
              by_cases e : l = k
              · subst e; omega
              · have := mo.2 k l (by omega) h2; omega)
      refine ⟨nI (y_wh R t (R 0) 0 (b (96 + 5 * p + 4))), σ1, τ1, ?_, ?_, hr⟩
      · have k := kc (R 0) 0 j_F (b (96 + 5 * p + 4)) (by omega) (y_F (by omega))
        unfold f_X11_where f_X9_holeBehind; simp (disch := omega) only [y_lit, y_n1, nI_add, pk_mul, j_lt, j_b1_s, j_b2_s, j_b3_s, j_b0_s, y_bo, y_bo1, y_bo0, y_i0, y_i1, Classical.not_not, nI_clamp, y_ix, y_lt, y_le, y_eq, y_nP, y_nPs, y_ltP, y_ltQ, y_ltPP, y_eqP, y_eqQ, y_eqPP, if_pos, if_neg, ite_true, ite_false, not_true_eq_false, not_false_eq_true, and_true, true_and, and_false, false_and, or_true, true_or, or_false, false_or, yc_isTick hN hW, y_rn, e1, e28', k]
      · have k := km (R 0) 0 j_F (b (96 + 5 * p + 4)) (by omega) (y_F (by omega))
        unfold f_X12_where; simp (disch := omega) only [y_lit, y_n1, nI_add, pk_mul, j_lt, j_b1_s, j_b2_s, j_b3_s, j_b0_s, y_bo, y_bo1, y_bo0, y_i0, y_i1, Classical.not_not, nI_clamp, y_ix, y_lt, y_le, y_eq, y_nP, y_nPs, y_ltP, y_ltQ, y_ltPP, y_eqP, y_eqQ, y_eqPP, if_pos, if_neg, ite_true, ite_false, not_true_eq_false, not_false_eq_true, and_true, true_and, and_false, false_and, or_true, true_or, or_false, false_or, ym_isPlayer hM hW, ym_isTick hM hW, y_rn, if_pos h, f1, f4, k]
    · refine ⟨-2, σ, τ, ?_, ?_, hR⟩
      · unfold f_X11_where; simp (disch := omega) only [y_lit, y_n1, nI_add, pk_mul, j_lt, j_b1_s, j_b2_s, j_b3_s, j_b0_s, y_bo, y_bo1, y_bo0, y_i0, y_i1, Classical.not_not, nI_clamp, y_ix, y_lt, y_le, y_eq, y_nP, y_nPs, y_ltP, y_ltQ, y_ltPP, y_eqP, y_eqQ, y_eqPP, if_pos, if_neg, ite_true, ite_false, not_true_eq_false, not_false_eq_true, and_true, true_and, and_false, false_and, or_true, true_or, or_false, false_or, yc_isTick hN hW, h3]
      · unfold f_X12_where; simp (disch := omega) only [y_lit, y_n1, nI_add, pk_mul, j_lt, j_b1_s, j_b2_s, j_b3_s, j_b0_s, y_bo, y_bo1, y_bo0, y_i0, y_i1, Classical.not_not, nI_clamp, y_ix, y_lt, y_le, y_eq, y_nP, y_nPs, y_ltP, y_ltQ, y_ltPP, y_eqP, y_eqQ, y_eqPP, if_pos, if_neg, ite_true, ite_false, not_true_eq_false, not_false_eq_true, and_true, true_and, and_false, false_and, or_true, true_or, or_false, false_or, ym_isPlayer hM hW, ym_isTick hM hW, h, h3]
  · refine ⟨-2, σ, τ, ?_, ?_, hR⟩
    · unfold f_X11_where; rw [yc_unrun hN hW h]; simp (disch := omega) only [y_lit, y_n1, nI_add, pk_mul, j_lt, j_b1_s, j_b2_s, j_b3_s, j_b0_s, y_bo, y_bo1, y_bo0, y_i0, y_i1, Classical.not_not, nI_clamp, y_ix, y_lt, y_le, y_eq, y_nP, y_nPs, y_ltP, y_ltQ, y_ltPP, y_eqP, y_eqQ, y_eqPP, if_pos, if_neg, ite_true, ite_false, not_true_eq_false, not_false_eq_true, and_true, true_and, and_false, false_and, or_true, true_or, or_false, false_or, yc_isTick hN hW]
      split <;> rfl
    · unfold f_X12_where; simp (disch := omega) only [y_lit, y_n1, nI_add, pk_mul, j_lt, j_b1_s, j_b2_s, j_b3_s, j_b0_s, y_bo, y_bo1, y_bo0, y_i0, y_i1, Classical.not_not, nI_clamp, y_ix, y_lt, y_le, y_eq, y_nP, y_nPs, y_ltP, y_ltQ, y_ltPP, y_eqP, y_eqQ, y_eqPP, if_pos, if_neg, ite_true, ite_false, not_true_eq_false, not_false_eq_true, and_true, true_and, and_false, false_and, or_true, true_or, or_false, false_or, ym_isPlayer hM hW, h]
end Z
