/-! ===== what is up, how long nothing is ===== -/
theorem y_or {a c : Nat} : nI a ||| nI c = nI (a ||| c) := by
  apply Int32.toBitVec_inj.mp
  show BitVec.ofNat 32 a ||| BitVec.ofNat 32 c = BitVec.ofNat 32 (a ||| c)
  rw [BitVec.ofNat_or]
theorem y_and {a c : Nat} : nI a &&& nI c = nI (a &&& c) := by
  apply Int32.toBitVec_inj.mp
  show BitVec.ofNat 32 a &&& BitVec.ofNat 32 c = BitVec.ofNat 32 (a &&& c)
  rw [BitVec.ofNat_and]
theorem y_subsub {a c : Nat} (x : Int32) : x - nI a - nI c = x - nI (a + c) := by
  rw [← nI_add]
  apply Int32.toBitVec_inj.mp
  show x.toBitVec - (nI a).toBitVec - (nI c).toBitVec = x.toBitVec - ((nI a).toBitVec + (nI c).toBitVec)
  rw [BitVec.sub_sub]
def y_su (f : Nat → Nat) : Nat → Nat → Nat → Nat
  | 0, _, s => s
  | m + 1, i, s => y_su f m (i + 1) (s + f i)
theorem y_su_add {f : Nat → Nat} : ∀ m i s x, y_su f m i (s + x) = y_su f m i s + x := by
  intro m
  induction m with
  | zero => intro i s x; rfl
  | succ m ih => intro i s x; unfold y_su; rw [show s + x + f i = s + f i + x from by omega, ih]
theorem y_su_congr {f g : Nat → Nat} : ∀ m i s, (∀ j, i ≤ j → j < i + m → f j = g j) → y_su f m i s = y_su g m i s := by
  intro m
  induction m with
  | zero => intro i s _; rfl
  | succ m ih => intro i s h; unfold y_su; rw [h i (by omega) (by omega), ih _ _ (fun j h1 h2 => h j (by omega) (by omega))]
theorem y_su_le {f g : Nat → Nat} : ∀ m i s s', s ≤ s' → (∀ j, i ≤ j → j < i + m → f j ≤ g j) → y_su f m i s ≤ y_su g m i s' := by
  intro m
  induction m with
  | zero => intro i s s' h _; exact h
  | succ m ih => intro i s s' h hj; unfold y_su; exact ih _ _ _ (by have := hj i (by omega) (by omega); omega) (fun j h1 h2 => hj j (by omega) (by omega))
/-- the coming that is up, and 1 -/
def y_ui (b : Nat → Nat) (t : Nat) : Nat → Nat → Nat
  | 0, _ => 0
  | m + 1, i => if y_from b i ≤ t ∧ t ≤ y_last b i then i + 1 else y_ui b t m (i + 1)
theorem y_apart {b : Nat → Nat} (hW : y_W b) : ∀ d i, y_last b i < y_from b (i + d + 1) := by
  intro d
  induction d with
  | zero => intro i; show y_last b i < y_from b (i + 1); rw [y_from_s]; omega
  | succ d ih =>
    intro i
    have h1 := ih i
    have h2 := y_from_s b (i + d + 1)
    have h3 := y_last_le hW (i + d + 1)
    rw [show i + (d + 1) + 1 = i + d + 1 + 1 from by omega]
    omega
theorem y_apart2 {b : Nat → Nat} (hW : y_W b) {i j : Nat} (h : i < j) : y_last b i < y_from b j := by
  have := y_apart hW (j - i - 1) i
  rw [show i + (j - i - 1) + 1 = j from by omega] at this
  exact this
theorem y_ui_le {b : Nat → Nat} {t : Nat} : ∀ m i, y_ui b t m i = 0 ∨ (i < y_ui b t m i ∧ y_ui b t m i ≤ i + m) := by
  intro m
  induction m with
  | zero => intro i; exact Or.inl rfl
  | succ m ih =>
    intro i
    unfold y_ui
    split
    · omega
    · have := ih (i + 1); omega
theorem y_ui_no {b : Nat → Nat} {t : Nat} : ∀ m i, (∀ j, i ≤ j → j < i + m → t < y_from b j) → y_ui b t m i = 0 := by
  intro m
  induction m with
  | zero => intro i _; rfl
  | succ m ih =>
    intro i h
    unfold y_ui
    rw [if_neg (fun z => by have := h i (by omega) (by omega); omega)]
    exact ih (i + 1) (fun j h1 h2 => h j (by omega) (by omega))
/-- a coming's holes as bits -/
def y_hb (g : Nat → Nat) (i : Nat) : Nat := 2 ^ g (3 * i) ||| (if g (3 * i + 1) = 0 then 0 else 2 ^ (g (3 * i + 1) - 1))
def y_upb (g : Nat → Nat) (u : Nat) : Nat := if u = 0 then 0 else y_hb g (u - 1)
theorem y_hb_pos {g : Nat → Nat} {i : Nat} : 0 < y_hb g i := Nat.lt_of_lt_of_le (Nat.pow_pos (by omega)) Nat.left_le_or
theorem y_hb_lt {b g : Nat → Nat} {s i : Nat} (hW : y_W b) (hv : y_vg b s g) (hi : i < s) : y_hb g i < 4096 := by
  have h := hv.2 i hi
  have h4 := hW.ho
  unfold y_hb
  refine Nat.or_lt_two_pow (n := 12) (Nat.pow_lt_pow_right (by omega) (by omega)) ?_
  split
  · omega
  · exact Nat.pow_lt_pow_right (by omega) (by omega)
section C
variable {σ τ : j_G} {b g : Nat → Nat} {s t : Nat}
theorem yc_upIn (hc : y_cg σ b s g) (hv : y_vg b s g) (hW : y_W b) (ht : t < 1000) : f_X4_upIn (nI t) σ = some (nP (y_ui b t s 0)) := by
  have hs := hv.1
  have h2 := hW.b2
  have key : ∀ m i n, i + m = s → m < n → p_X4_upIn_2 (nI t) σ n (nI i) = some (nP (y_ui b t m i)) := by
    intro m
    induction m with
    | zero =>
      intro i n h hn
      obtain ⟨n, rfl⟩ := y_pos hn
      unfold p_X4_upIn_2 y_ui; simp (disch := omega) only [y_lit, y_n1, nI_add, pk_mul, j_lt, j_b1_s, j_b2_s, j_b3_s, j_b0_s, y_bo, y_bo1, y_bo0, y_i0, y_i1, Classical.not_not, nI_clamp, y_ix, y_lt, y_le, y_eq, y_nP, y_nPs, y_ltP, y_ltQ, y_ltPP, y_eqP, y_eqQ, y_eqPP, if_pos, if_neg, ite_true, ite_false, not_true_eq_false, not_false_eq_true, and_true, true_and, and_false, false_and, or_true, true_or, or_false, false_or, hc.1]
    | succ m ih =>
      intro i n h hn
      obtain ⟨n, rfl⟩ := y_pos hn
      have ci := hc.2 i (by omega)
      have vi := (hv.2 i (by omega)).2.2.2.2.2
      have le := y_last_le hW i
      unfold p_X4_upIn_2 y_ui; simp (disch := omega) only [y_lit, y_n1, nI_add, pk_mul, j_lt, j_b1_s, j_b2_s, j_b3_s, j_b0_s, y_bo, y_bo1, y_bo0, y_i0, y_i1, Classical.not_not, nI_clamp, y_ix, y_lt, y_le, y_eq, y_nP, y_nPs, y_ltP, y_ltQ, y_ltPP, y_eqP, y_eqQ, y_eqPP, if_pos, if_neg, ite_true, ite_false, not_true_eq_false, not_false_eq_true, and_true, true_and, and_false, false_and, or_true, true_or, or_false, false_or, hc.1, ci]
      rw [ih (i + 1) n (by omega) (by omega)]
      by_cases c : y_from b i ≤ t
      · by_cases c2 : t ≤ y_last b i
        · simp (disch := omega) only [y_lit, y_n1, nI_add, pk_mul, j_lt, j_b1_s, j_b2_s, j_b3_s, j_b0_s, y_bo, y_bo1, y_bo0, y_i0, y_i1, Classical.not_not, nI_clamp, y_ix, y_lt, y_le, y_eq, y_nP, y_nPs, y_ltP, y_ltQ, y_ltPP, y_eqP, y_eqQ, y_eqPP, if_pos, if_neg, ite_true, ite_false, not_true_eq_false, not_false_eq_true, and_true, true_and, and_false, false_and, or_true, true_or, or_false, false_or]
        · simp (disch := omega) only [y_lit, y_n1, nI_add, pk_mul, j_lt, j_b1_s, j_b2_s, j_b3_s, j_b0_s, y_bo, y_bo1, y_bo0, y_i0, y_i1, Classical.not_not, nI_clamp, y_ix, y_lt, y_le, y_eq, y_nP, y_nPs, y_ltP, y_ltQ, y_ltPP, y_eqP, y_eqQ, y_eqPP, if_pos, if_neg, ite_true, ite_false, not_true_eq_false, not_false_eq_true, and_true, true_and, and_false, false_and, or_true, true_or, or_false, false_or]
      · simp (disch := omega) only [y_lit, y_n1, nI_add, pk_mul, j_lt, j_b1_s, j_b2_s, j_b3_s, j_b0_s, y_bo, y_bo1, y_bo0, y_i0, y_i1, Classical.not_not, nI_clamp, y_ix, y_lt, y_le, y_eq, y_nP, y_nPs, y_ltP, y_ltQ, y_ltPP, y_eqP, y_eqQ, y_eqPP, if_pos, if_neg, ite_true, ite_false, not_true_eq_false, not_false_eq_true, and_true, true_and, and_false, false_and, or_true, true_or, or_false, false_or]
  unfold f_X4_upIn
  rw [y_lit]
  exact key s 0 j_F (by omega) (y_F (by omega))
theorem yc_holesOf (hc : y_cg σ b s g) (hv : y_vg b s g) (hW : y_W b) {i : Nat} (hi : i < s) : f_X4_holesOf (nI i) σ = some (nI (y_hb g i)) := by
  have hs := hv.1
  have h4 := hW.ho
  have ci := hc.2 i hi
  have vi := hv.2 i hi
  unfold f_X4_holesOf y_hb
  simp (disch := omega) only [y_lit, y_n1, nI_add, pk_mul, j_lt, j_b1_s, j_b2_s, j_b3_s, j_b0_s, y_bo, y_bo1, y_bo0, y_i0, y_i1, Classical.not_not, nI_clamp, y_ix, y_lt, y_le, y_eq, y_nP, y_nPs, y_ltP, y_ltQ, y_ltPP, y_eqP, y_eqQ, y_eqPP, if_pos, if_neg, ite_true, ite_false, not_true_eq_false, not_false_eq_true, and_true, true_and, and_false, false_and, or_true, true_or, or_false, false_or, yc_ghas hc hs, y_rn, ci]
  by_cases z : g (3 * i + 1) = 0
  · simp (disch := omega) only [y_lit, y_n1, nI_add, pk_mul, j_lt, j_b1_s, j_b2_s, j_b3_s, j_b0_s, y_bo, y_bo1, y_bo0, y_i0, y_i1, Classical.not_not, nI_clamp, y_ix, y_lt, y_le, y_eq, y_nP, y_nPs, y_ltP, y_ltQ, y_ltPP, y_eqP, y_eqQ, y_eqPP, if_pos, if_neg, ite_true, ite_false, not_true_eq_false, not_false_eq_true, and_true, true_and, and_false, false_and, or_true, true_or, or_false, false_or, y_shl, y_or]
  · obtain ⟨o, ho⟩ : ∃ o, g (3 * i + 1) = o + 1 := ⟨g (3 * i + 1) - 1, by omega⟩
    rw [ho, y_nPs]
    simp (disch := omega) only [y_lit, y_n1, nI_add, pk_mul, j_lt, j_b1_s, j_b2_s, j_b3_s, j_b0_s, y_bo, y_bo1, y_bo0, y_i0, y_i1, Classical.not_not, nI_clamp, y_ix, y_lt, y_le, y_eq, y_nP, y_nPs, y_ltP, y_ltQ, y_ltPP, y_eqP, y_eqQ, y_eqPP, if_pos, if_neg, ite_true, ite_false, not_true_eq_false, not_false_eq_true, and_true, true_and, and_false, false_and, or_true, true_or, or_false, false_or, y_shl, y_or, Nat.add_sub_cancel]
theorem ym_upIn (hg : y_mg τ b s g) (hv : y_vg b s g) (hW : y_W b) (ht : t < 1000) : f_X12_upIn (nI t) τ = some (nI (y_upb g (y_ui b t s 0))) := by
  have hs := hv.1
  have h2 := hW.b2
  have h4 := hW.ho
  have skip : ∀ m i n v, i + m = s → m < n → (∀ j, i ≤ j → j < s → t < y_from b j) → p_X12_upIn_4 (nI t) τ n (nI v) (nI i) = some (nI v) := by
    intro m
    induction m with
    | zero =>
      intro i n v h hn _
      obtain ⟨n, rfl⟩ := y_pos hn
      unfold p_X12_upIn_4; simp (disch := omega) only [y_lit, y_n1, nI_add, pk_mul, j_lt, j_b1_s, j_b2_s, j_b3_s, j_b0_s, y_bo, y_bo1, y_bo0, y_i0, y_i1, Classical.not_not, nI_clamp, y_ix, y_lt, y_le, y_eq, y_nP, y_nPs, y_ltP, y_ltQ, y_ltPP, y_eqP, y_eqQ, y_eqPP, if_pos, if_neg, ite_true, ite_false, not_true_eq_false, not_false_eq_true, and_true, true_and, and_false, false_and, or_true, true_or, or_false, false_or, hg.1]
    | succ m ih =>
      intro i n v h hn hj
      obtain ⟨n, rfl⟩ := y_pos hn
      have gi := hg.2 i (by omega)
      have vi := (hv.2 i (by omega)).2.2.2.2.2
      have le := y_last_le hW i
      have := hj i (by omega) (by omega)
      unfold p_X12_upIn_4; simp (disch := omega) only [y_lit, y_n1, nI_add, pk_mul, j_lt, j_b1_s, j_b2_s, j_b3_s, j_b0_s, y_bo, y_bo1, y_bo0, y_i0, y_i1, Classical.not_not, nI_clamp, y_ix, y_lt, y_le, y_eq, y_nP, y_nPs, y_ltP, y_ltQ, y_ltPP, y_eqP, y_eqQ, y_eqPP, if_pos, if_neg, ite_true, ite_false, not_true_eq_false, not_false_eq_true, and_true, true_and, and_false, false_and, or_true, true_or, or_false, false_or, hg.1, gi, y_in]
      exact ih (i + 1) n v (by omega) (by omega) (fun j h1 h2 => hj j (by omega) h2)
  have key : ∀ m i n, i + m = s → m < n → p_X12_upIn_4 (nI t) τ n (nI 0) (nI i) = some (nI (y_upb g (y_ui b t m i))) := by
    intro m
    induction m with
    | zero =>
      intro i n h hn
      obtain ⟨n, rfl⟩ := y_pos hn
      unfold p_X12_upIn_4 y_ui; simp (disch := omega) only [y_lit, y_n1, nI_add, pk_mul, j_lt, j_b1_s, j_b2_s, j_b3_s, j_b0_s, y_bo, y_bo1, y_bo0, y_i0, y_i1, Classical.not_not, nI_clamp, y_ix, y_lt, y_le, y_eq, y_nP, y_nPs, y_ltP, y_ltQ, y_ltPP, y_eqP, y_eqQ, y_eqPP, if_pos, if_neg, ite_true, ite_false, not_true_eq_false, not_false_eq_true, and_true, true_and, and_false, false_and, or_true, true_or, or_false, false_or, hg.1]; rfl
    | succ m ih =>
      intro i n h hn
      obtain ⟨n, rfl⟩ := y_pos hn
      have gi := hg.2 i (by omega)
      have vi := hv.2 i (by omega)
      have le := y_last_le hW i
      unfold p_X12_upIn_4 y_ui f_X12_inGame
      by_cases c : y_from b i ≤ t ∧ t ≤ y_last b i
      · have sk := fun v => skip m (i + 1) n v (by omega) (by omega) (fun j h1 h2 => by have := y_apart2 hW (show i < j by omega); omega)
        obtain ⟨c1, c2⟩ := c
        simp (disch := omega) only [y_lit, y_n1, nI_add, pk_mul, j_lt, j_b1_s, j_b2_s, j_b3_s, j_b0_s, y_bo, y_bo1, y_bo0, y_i0, y_i1, Classical.not_not, nI_clamp, y_ix, y_lt, y_le, y_eq, y_nP, y_nPs, y_ltP, y_ltQ, y_ltPP, y_eqP, y_eqQ, y_eqPP, if_pos, if_neg, ite_true, ite_false, not_true_eq_false, not_false_eq_true, and_true, true_and, and_false, false_and, or_true, true_or, or_false, false_or, hg.1, gi, y_in, Nat.add_zero, y_shl, y_or]
        unfold y_upb y_hb
        rw [if_neg (Nat.succ_ne_zero i), Nat.add_sub_cancel]
        by_cases z : g (3 * i + 1) = 0
        · simp (disch := omega) only [y_lit, y_n1, nI_add, pk_mul, j_lt, j_b1_s, j_b2_s, j_b3_s, j_b0_s, y_bo, y_bo1, y_bo0, y_i0, y_i1, Classical.not_not, nI_clamp, y_ix, y_lt, y_le, y_eq, y_nP, y_nPs, y_ltP, y_ltQ, y_ltPP, y_eqP, y_eqQ, y_eqPP, if_pos, if_neg, ite_true, ite_false, not_true_eq_false, not_false_eq_true, and_true, true_and, and_false, false_and, or_true, true_or, or_false, false_or, sk, Nat.zero_or, Nat.or_zero]
        · obtain ⟨o, ho⟩ : ∃ o, g (3 * i + 1) = o + 1 := ⟨g (3 * i + 1) - 1, by omega⟩
          rw [ho, y_nPs]
          simp (disch := omega) only [y_lit, y_n1, nI_add, pk_mul, j_lt, j_b1_s, j_b2_s, j_b3_s, j_b0_s, y_bo, y_bo1, y_bo0, y_i0, y_i1, Classical.not_not, nI_clamp, y_ix, y_lt, y_le, y_eq, y_nP, y_nPs, y_ltP, y_ltQ, y_ltPP, y_eqP, y_eqQ, y_eqPP, if_pos, if_neg, ite_true, ite_false, not_true_eq_false, not_false_eq_true, and_true, true_and, and_false, false_and, or_true, true_or, or_false, false_or, y_shl, y_or, sk, Nat.add_sub_cancel, Nat.zero_or]
      · rw [if_neg c]
        by_cases c1 : y_from b i ≤ t
        · have : ¬ t ≤ y_last b i := fun z => c ⟨c1, z⟩
          simp (disch := omega) only [y_lit, y_n1, nI_add, pk_mul, j_lt, j_b1_s, j_b2_s, j_b3_s, j_b0_s, y_bo, y_bo1, y_bo0, y_i0, y_i1, Classical.not_not, nI_clamp, y_ix, y_lt, y_le, y_eq, y_nP, y_nPs, y_ltP, y_ltQ, y_ltPP, y_eqP, y_eqQ, y_eqPP, if_pos, if_neg, ite_true, ite_false, not_true_eq_false, not_false_eq_true, and_true, true_and, and_false, false_and, or_true, true_or, or_false, false_or, hg.1, gi, y_in]
          exact ih (i + 1) n (by omega) (by omega)
        · simp (disch := omega) only [y_lit, y_n1, nI_add, pk_mul, j_lt, j_b1_s, j_b2_s, j_b3_s, j_b0_s, y_bo, y_bo1, y_bo0, y_i0, y_i1, Classical.not_not, nI_clamp, y_ix, y_lt, y_le, y_eq, y_nP, y_nPs, y_ltP, y_ltQ, y_ltPP, y_eqP, y_eqQ, y_eqPP, if_pos, if_neg, ite_true, ite_false, not_true_eq_false, not_false_eq_true, and_true, true_and, and_false, false_and, or_true, true_or, or_false, false_or, hg.1, gi, y_in]
          exact ih (i + 1) n (by omega) (by omega)
  unfold f_X12_upIn
  rw [y_lit, key s 0 j_F (by omega) (y_F (by omega))]
  rfl
end C
section Z
variable {σ τ : j_G}
theorem z_up (hR : j_Rel σ τ) (a1 : Int32) : ∃ v σ1 τ1, f_X11_up a1 σ = some (v, σ1) ∧ f_X12_up a1 τ = some (v, τ1) ∧ j_Rel σ1 τ1 := by
  obtain ⟨b, hW, hN, hM, hK⟩ := id hR
  have h2 := hW.b2
  have hv := y_dg_vg hW (b 8)
  have hs := hv.1
  by_cases h : y_rg a1 (b 2)
  · obtain ⟨t, ht, rfl⟩ := y_of _ _ h.1 h.2
    obtain ⟨σ1, e1, e2, e3⟩ := yc_dealt hN hW
    obtain ⟨τ1, f1, f2, f3⟩ := ym_laid hM hW
    have hr := y_done hR (e3.wide (by omega) (by omega)) f3
    refine ⟨nI (y_upb (y_dg b (b 8)) (y_ui b t (y_gs b) 0)), σ1, τ1, ?_, ?_, hr⟩
    · unfold f_X11_up; simp (disch := omega) only [y_lit, y_n1, nI_add, pk_mul, j_lt, j_b1_s, j_b2_s, j_b3_s, j_b0_s, y_bo, y_bo1, y_bo0, y_i0, y_i1, Classical.not_not, nI_clamp, y_ix, y_lt, y_le, y_eq, y_nP, y_nPs, y_ltP, y_ltQ, y_ltPP, y_eqP, y_eqQ, y_eqPP, if_pos, if_neg, ite_true, ite_false, not_true_eq_false, not_false_eq_true, and_true, true_and, and_false, false_and, or_true, true_or, or_false, false_or, yc_isTick hN hW, y_rn, e1, yc_upIn e2 hv hW, yc_ghas e2 hs]
      have le := y_ui_le (b := b) (t := t) (y_gs b) 0
      unfold y_upb
      by_cases z : y_ui b t (y_gs b) 0 = 0
      · rw [z, if_pos rfl, if_neg (fun q : y_rg (nP 0) _ => absurd q.1 (by decide))]
      · obtain ⟨u, hu⟩ : ∃ u, y_ui b t (y_gs b) 0 = u + 1 := ⟨y_ui b t (y_gs b) 0 - 1, by omega⟩
        rw [hu, y_nPs, if_neg (Nat.succ_ne_zero u), Nat.add_sub_cancel]
        simp (disch := omega) only [y_lit, y_n1, nI_add, pk_mul, j_lt, j_b1_s, j_b2_s, j_b3_s, j_b0_s, y_bo, y_bo1, y_bo0, y_i0, y_i1, Classical.not_not, nI_clamp, y_ix, y_lt, y_le, y_eq, y_nP, y_nPs, y_ltP, y_ltQ, y_ltPP, y_eqP, y_eqQ, y_eqPP, if_pos, if_neg, ite_true, ite_false, not_true_eq_false, not_false_eq_true, and_true, true_and, and_false, false_and, or_true, true_or, or_false, false_or, y_rn, yc_holesOf e2 hv hW]
    · unfold f_X12_up; simp (disch := omega) only [y_lit, y_n1, nI_add, pk_mul, j_lt, j_b1_s, j_b2_s, j_b3_s, j_b0_s, y_bo, y_bo1, y_bo0, y_i0, y_i1, Classical.not_not, nI_clamp, y_ix, y_lt, y_le, y_eq, y_nP, y_nPs, y_ltP, y_ltQ, y_ltPP, y_eqP, y_eqQ, y_eqPP, if_pos, if_neg, ite_true, ite_false, not_true_eq_false, not_false_eq_true, and_true, true_and, and_false, false_and, or_true, true_or, or_false, false_or, ym_isTick hM hW, y_rn, f1, ym_upIn f2.2 hv hW]
  · refine ⟨-2, σ, τ, ?_, ?_, hR⟩
    · unfold f_X11_up; simp (disch := omega) only [y_lit, y_n1, nI_add, pk_mul, j_lt, j_b1_s, j_b2_s, j_b3_s, j_b0_s, y_bo, y_bo1, y_bo0, y_i0, y_i1, Classical.not_not, nI_clamp, y_ix, y_lt, y_le, y_eq, y_nP, y_nPs, y_ltP, y_ltQ, y_ltPP, y_eqP, y_eqQ, y_eqPP, if_pos, if_neg, ite_true, ite_false, not_true_eq_false, not_false_eq_true, and_true, true_and, and_false, false_and, or_true, true_or, or_false, false_or, yc_isTick hN hW, h]
    · unfold f_X12_up; simp (disch := omega) only [y_lit, y_n1, nI_add, pk_mul, j_lt, j_b1_s, j_b2_s, j_b3_s, j_b0_s, y_bo, y_bo1, y_bo0, y_i0, y_i1, Classical.not_not, nI_clamp, y_ix, y_lt, y_le, y_eq, y_nP, y_nPs, y_ltP, y_ltQ, y_ltPP, y_eqP, y_eqQ, y_eqPP, if_pos, if_neg, ite_true, ite_false, not_true_eq_false, not_false_eq_true, and_true, true_and, and_false, false_and, or_true, true_or, or_false, false_or, ym_isTick hM hW, h]
end Z
