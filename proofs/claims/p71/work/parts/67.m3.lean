/-! ===== what is up, how long nothing is ===== -/
theorem y_or {a c : Nat} : nI a ||| nI c = nI (a ||| c) := by
  apply Int32.toBitVec_inj.mp
  show BitVec.ofNat 32 a ||| BitVec.ofNat 32 c = BitVec.ofNat 32 (a ||| c)
  rw [BitVec.ofNat_or]
theorem y_and {a c : Nat} : nI a &&& nI c = nI (a &&& c) := by
  apply Int32.toBitVec_inj.mp
  show BitVec.ofNat 32 a &&& BitVec.ofNat 32 c = BitVec.ofNat 32 (a &&& c)
  rw [BitVec.ofNat_and]
theorem y_subsub {a c : Nat} (x : Int32) : x - nI a - nI c = x - nI (a + c) := by
  rw [← nI_add]
  apply Int32.toBitVec_inj.mp
  show x.toBitVec - (nI a).toBitVec - (nI c).toBitVec = x.toBitVec - ((nI a).toBitVec + (nI c).toBitVec)
  rw [BitVec.sub_sub]
def y_su (f : Nat → Nat) : Nat → Nat → Nat → Nat
  | 0, _, s => s
  | m + 1, i, s => y_su f m (i + 1) (s + f i)
theorem y_su_add {f : Nat → Nat} : ∀ m i s x, y_su f m i (s + x) = y_su f m i s + x := by
  intro m
  induction m with
  | zero => intro i s x; rfl
  | succ m ih => intro i s x; unfold y_su; rw [show s + x + f i = s + f i + x from by omega, ih]
theorem y_su_congr {f g : Nat → Nat} : ∀ m i s, (∀ j, i ≤ j → j < i + m → f j = g j) → y_su f m i s = y_su g m i s := by
  intro m
  induction m with
  | zero => intro i s _; rfl
  | succ m ih => intro i s h; unfold y_su; rw [h i (by omega) (by omega), ih _ _ (fun j h1 h2 => h j (by omega) (by omega))]
theorem y_su_le {f g : Nat → Nat} : ∀ m i s s', s ≤ s' → (∀ j, i ≤ j → j < i + m → f j ≤ g j) → y_su f m i s ≤ y_su g m i s' := by
  intro m
  induction m with
  | zero => intro i s s' h _; exact h
  | succ m ih => intro i s s' h hj; unfold y_su; exact ih _ _ _ (by have := hj i (by omega) (by omega); omega) (fun j h1 h2 => hj j (by omega) (by omega))
/-- the coming that is up, and 1 -/
def y_ui (b : Nat → Nat) (t : Nat) : Nat → Nat → Nat
  | 0, _ => 0
  | m + 1, i => if y_from b i ≤ t ∧ t ≤ y_last b i then i + 1 else y_ui b t m (i + 1)
theorem y_apart {b : Nat → Nat} (hW : y_W b) : ∀ d i, y_last b i < y_from b (i + d + 1) := by
  intro d
  induction d with
  | zero => intro i; show y_last b i < y_from b (i + 1); rw [y_from_s]; omega
  | succ d ih =>
    intro i
    have h1 := ih i
    have h2 := y_from_s b (i + d + 1)
    have h3 := y_last_le hW (i + d + 1)
    rw [show i + (d + 1) + 1 = i + d + 1 + 1 from by omega]
    omega
theorem y_apart2 {b : Nat → Nat} (hW : y_W b) {i j : Nat} (h : i < j) : y_last b i < y_from b j := by
  have := y_apart hW (j - i - 1) i
  rw [show i + (j - i - 1) + 1 = j from by omega] at this
  exact this
theorem y_ui_le {b : Nat → Nat} {t : Nat} : ∀ m i, y_ui b t m i = 0 ∨ (i < y_ui b t m i ∧ y_ui b t m i ≤ i + m) := by
  intro m
  induction m with
  | zero => intro i; exact Or.inl rfl
  | succ m ih =>
    intro i
    unfold y_ui
    split
    · omega
    · have := ih (i + 1); omega
theorem y_ui_no {b : Nat → Nat} {t : Nat} : ∀ m i, (∀ j, i ≤ j → j < i + m → t < y_from b j) → y_ui b t m i = 0 := by
  intro m
  induction m with
  | zero => intro i _; rfl
  | succ m ih =>
    intro i h
    unfold y_ui
    rw [if_neg (fun z => by have := h i (by omega) (by omega); omega)]
    exact ih (i + 1) (fun j h1 h2 => h j (by omega) (by omega))
/-- a coming's holes as bits -/
def y_hb (g : Nat → Nat) (i : Nat) : Nat := 2 ^ g (3 * i) ||| (if g (3 * i + 1) = 0 then 0 else 2 ^ (g (3 * i + 1) - 1))
def y_upb (g : Nat → Nat) (u : Nat) : Nat := if u = 0 then 0 else y_hb g (u - 1)
theorem y_hb_pos {g : Nat → Nat} {i : Nat} : 0 < y_hb g i := Nat.lt_of_lt_of_le (Nat.pow_pos (by omega)) Nat.left_le_or
theorem y_hb_lt {b g : Nat → Nat} {s i : Nat} (hW : y_W b) (hv : y_vg b s g) (hi : i < s) : y_hb g i < 4096 := by
  have h := hv.2 i hi
  have h4 := hW.ho
  unfold y_hb
  refine Nat.or_lt_two_pow (n := 12) (Nat.pow_lt_pow_right (by omega) (by omega)) ?_
  split
  · omega
  · exact Nat.pow_lt_pow_right (by omega) (by omega)
section C
variable {σ τ : j_G} {b g : Nat → Nat} {s t : Nat}
theorem yc_upIn (hc : y_cg σ b s g) (hv : y_vg b s g) (hW : y_W b) (ht : t < 1000) : f_X4_upIn (nI t) σ = some (nP (y_ui b t s 0)) := by
  have hs := hv.1
  have h2 := hW.b2
  have key : ∀ m i n, i + m = s → m < n → p_X4_upIn_2 (nI t) σ n (nI i) = some (nP (y_ui b t m i)) := by
    intro m
    induction m with
    | zero =>
      intro i n h hn
      obtain ⟨n, rfl⟩ := y_pos hn
      unfold p_X4_upIn_2 y_ui; simp (disch := omega) only [y_lit, y_n1, nI_add, pk_mul, j_lt, j_b1_s, j_b2_s, j_b3_s, j_b0_s, y_bo, y_bo1, y_bo0, y_i0, y_i1, Classical.not_not, nI_clamp, y_ix, y_lt, y_le, y_eq, y_nP, y_nPs, y_ltP, y_ltQ, y_ltPP, y_eqP, y_eqQ, y_eqPP, if_pos, if_neg, ite_true, ite_false, not_true_eq_false, not_false_eq_true, and_true, true_and, and_false, false_and, or_true, true_or, or_false, false_or, hc.1]
    | succ m ih =>
      intro i n h hn
      obtain ⟨n, rfl⟩ := y_pos hn
      have ci := hc.2 i (by omega)
      have vi := (hv.2 i (by omega)).2.2.2.2.2
      have le := y_last_le hW i
      unfold p_X4_upIn_2 y_ui; simp (disch := omega) only [y_lit, y_n1, nI_add, pk_mul, j_lt, j_b1_s, j_b2_s, j_b3_s, j_b0_s, y_bo, y_bo1, y_bo0, y_i0, y_i1, Classical.not_not, nI_clamp, y_ix, y_lt, y_le, y_eq, y_nP, y_nPs, y_ltP, y_ltQ, y_ltPP, y_eqP, y_eqQ, y_eqPP, if_pos, if_neg, ite_true, ite_false, not_true_eq_false, not_false_eq_true, and_true, true_and, and_false, false_and, or_true, true_or, or_false, false_or, hc.1, ci]
      rw [ih (i + 1) n (by omega) (by omega)]
      by_cases c : y_from b i ≤ t
      · by_cases c2 : t ≤ y_last b i
        · simp (disch := omega) only [y_lit, y_n1, nI_add, pk_mul, j_lt, j_b1_s, j_b2_s, j_b3_s, j_b0_s, y_bo, y_bo1, y_bo0, y_i0, y_i1, Classical.not_not, nI_clamp, y_ix, y_lt, y_le, y_eq, y_nP, y_nPs, y_ltP, y_ltQ, y_ltPP, y_eqP, y_eqQ, y_eqPP, if_pos, if_neg, ite_true, ite_false, not_true_eq_false, not_false_eq_true, and_true, true_and, and_false, false_and, or_true, true_or, or_false, false_or]
        · simp (disch := omega) only [y_lit, y_n1, nI_add, pk_mul, j_lt, j_b1_s, j_b2_s, j_b3_s, j_b0_s, y_bo, y_bo1, y_bo0, y_i0, y_i1, Classical.not_not, nI_clamp, y_ix, y_lt, y_le, y_eq, y_nP, y_nPs, y_ltP, y_ltQ, y_ltPP, y_eqP, y_eqQ, y_eqPP, if_pos, if_neg, ite_true, ite_false, not_true_eq_false, not_false_eq_true, and_true, true_and, and_false, false_and, or_true, true_or, or_false, false_or]
      · simp (disch := omega) only [y_lit, y_n1, nI_add, pk_mul, j_lt, j_b1_s, j_b2_s, j_b3_s, j_b0_s, y_bo, y_bo1, y_bo0, y_i0, y_i1, Classical.not_not, nI_clamp, y_ix, y_lt, y_le, y_eq, y_nP, y_nPs, y_ltP, y_ltQ, y_ltPP, y_eqP, y_eqQ, y_eqPP, if_pos, if_neg, ite_true, ite_false, not_true_eq_false, not_false_eq_true, and_true, true_and, and_false, false_and, or_true, true_or, or_false, false_or]
  unfold f_X4_upIn
  rw [y_lit]
  exact key s 0 j_F (by omega) (y_F (by omega))
theorem yc_holesOf (hc : y_cg σ b s g) (hv : y_vg b s g) (hW : y_W b) {i : Nat} (hi : i < s) : f_X4_holesOf (nI i) σ = some (nI (y_hb g i)) := by
  have hs := hv.1
  have h4 := hW.ho
  have ci := hc.2 i hi
  have vi := hv.2 i hi
  unfold f_X4_holesOf y_hb
  simp (disch := omega) only [y_lit, y_n1, nI_add, pk_mul, j_lt, j_b1_s, j_b2_s, j_b3_s, j_b0_s, y_bo, y_bo1, y_bo0, y_i0, y_i1, Classical.not_not, nI_clamp, y_ix, y_lt, y_le, y_eq, y_nP, y_nPs, y_ltP, y_ltQ, y_ltPP, y_eqP, y_eqQ, y_eqPP, if_pos, if_neg, ite_true, ite_false, not_true_eq_false, not_false_eq_true, and_true, true_and, and_false, false_and, or_true, true_or, or_false, false_or, yc_ghas hc hs, y_rn, ci]
  by_cases z : g (3 * i + 1) = 0
  · simp (disch := omega) only [y_lit, y_n1, nI_add, pk_mul, j_lt, j_b1_s, j_b2_s, j_b3_s, j_b0_s, y_bo, y_bo1, y_bo0, y_i0, y_i1, Classical.not_not, nI_clamp, y_ix, y_lt, y_le, y_eq, y_nP, y_nPs, y_ltP, y_ltQ, y_ltPP, y_eqP, y_eqQ, y_eqPP, if_pos, if_neg, ite_true, ite_false, not_true_eq_false, not_false_eq_true, and_true, true_and, and_false, false_and, or_true, true_or, or_false, false_or, y_shl, y_or]
  · obtain ⟨o, ho⟩ : ∃ o, g (3 * i + 1) = o + 1 := ⟨g (3 * i + 1) - 1, by omega⟩
    rw [ho, y_nPs]
    simp (disch := omega) only [y_lit, y_n1, nI_add, pk_mul, j_lt, j_b1_s, j_b2_s, j_b3_s, j_b0_s, y_bo, y_bo1, y_bo0, y_i0, y_i1, Classical.not_not, nI_clamp, y_ix, y_lt, y_le, y_eq, y_nP, y_nPs, y_ltP, y_ltQ, y_ltPP, y_eqP, y_eqQ, y_eqPP, if_pos, if_neg, ite_true, ite_false, not_true_eq_false, not_false_eq_true, and_true, true_and, and_false, false_and, or_true, true_or, or_false, false_or, y_shl, y_or, Nat.add_sub_cancel]
theorem ym_upIn (hg : y_mg τ b s g) (hv : y_vg b s g) (hW : y_W b) (ht : t < 1000) : f_X12_upIn (nI t) τ = some (nI (y_upb g (y_ui b t s 0))) := by
  have hs := hv.1
  have h2 := hW.b2
  have h4 := hW.ho
  have skip : ∀ m i n v, i + m = s → m < n → (∀ j, i ≤ j → j < s → t < y_from b j) → p_X12_upIn_4 (nI t) τ n (nI v) (nI i) = some (nI v) := by
    intro m
    induction m with
    | zero =>
      intro i n v h hn _
      obtain ⟨n, rfl⟩ := y_pos hn
      unfold p_X12_upIn_4; simp (disch := omega) only [y_lit, y_n1, nI_add, pk_mul, j_lt, j_b1_s, j_b2_s, j_b3_s, j_b0_s, y_bo, y_bo1, y_bo0, y_i0, y_i1, Classical.not_not, nI_clamp, y_ix, y_lt, y_le, y_eq, y_nP, y_nPs, y_ltP, y_ltQ, y_ltPP, y_eqP, y_eqQ, y_eqPP, if_pos, if_neg, ite_true, ite_false, not_true_eq_false, not_false_eq_true, and_true, true_and, and_false, false_and, or_true, true_or, or_false, false_or, hg.1]
    | succ m ih =>
      intro i n v h hn hj
      obtain ⟨n, rfl⟩ := y_pos hn
      have gi := hg.2 i (by omega)
      have vi := (hv.2 i (by omega)).2.2.2.2.2
      have le := y_last_le hW i
      have := hj i (by omega) (by omega)
      unfold p_X12_upIn_4; simp (disch := omega) only [y_lit, y_n1, nI_add, pk_mul, j_lt, j_b1_s, j_b2_s, j_b3_s, j_b0_s, y_bo, y_bo1, y_bo0, y_i0, y_i1, Classical.not_not, nI_clamp, y_ix, y_lt, y_le, y_eq, y_nP, y_nPs, y_ltP, y_ltQ, y_ltPP, y_eqP, y_eqQ, y_eqPP, if_pos, if_neg, ite_true, ite_false, not_true_eq_false, not_false_eq_true, and_true, true_and, and_false, false_and, or_true, true_or, or_false, false_or, hg.1, gi, y_in]
      exact ih (i + 1) n v (by omega) (by omega) (fun j h1 h2 => hj j (by omega) h2)
  have key : ∀ m i n, i + m = s → m < n → p_X12_upIn_4 (nI t) τ n (nI 0) (nI i) = some (nI (y_upb g (y_ui b t m i))) := by
    intro m
    induction m with
    | zero =>
      intro i n h hn
      obtain ⟨n, rfl⟩ := y_pos hn
      unfold p_X12_upIn_4 y_ui; simp (disch := omega) only [y_lit, y_n1, nI_add, pk_mul, j_lt, j_b1_s, j_b2_s, j_b3_s, j_b0_s, y_bo, y_bo1, y_bo0, y_i0, y_i1, Classical.not_not, nI_clamp, y_ix, y_lt, y_le, y_eq, y_nP, y_nPs, y_ltP, y_ltQ, y_ltPP, y_eqP, y_eqQ, y_eqPP, if_pos, if_neg, ite_true, ite_false, not_true_eq_false, not_false_eq_true, and_true, true_and, and_false, false_and, or_true, true_or, or_false, false_or, hg.1]; rfl
    | succ m ih =>
      intro i n h hn
      obtain ⟨n, rfl⟩ := y_pos hn
      have gi := hg.2 i (by omega)
      have vi := hv.2 i (by omega)
      have le := y_last_le hW i
      unfold p_X12_upIn_4 y_ui f_X12_inGame
      by_cases c : y_from b i ≤ t ∧ t ≤ y_last b i
      · have sk := fun v => skip m (i + 1) n v (by omega) (by omega) (fun j h1 h2 => by have := y_apart2 hW (show i < j by omega); omega)
        obtain ⟨c1, c2⟩ := c
        simp (disch := omega) only [y_lit, y_n1, nI_add, pk_mul, j_lt, j_b1_s, j_b2_s, j_b3_s, j_b0_s, y_bo, y_bo1, y_bo0, y_i0, y_i1, Classical.not_not, nI_clamp, y_ix, y_lt, y_le, y_eq, y_nP, y_nPs, y_ltP, y_ltQ, y_ltPP, y_eqP, y_eqQ, y_eqPP, if_pos, if_neg, ite_true, ite_false, not_true_eq_false, not_false_eq_true, and_true, true_and, and_false, false_and, or_true, true_or, or_false, false_or, hg.1, gi, y_in, Nat.add_zero, y_shl, y_or]
        unfold y_upb y_hb
        rw [if_neg (Nat.succ_ne_zero i), Nat.add_sub_cancel]
        by_cases z : g (3 * i + 1) = 0
        · simp (disch := omega) only [y_lit, y_n1, nI_add, pk_mul, j_lt, j_b1_s, j_b2_s, j_b3_s, j_b0_s, y_bo, y_bo1, y_bo0, y_i0, y_i1, Classical.not_not, nI_clamp, y_ix, y_lt, y_le, y_eq, y_nP, y_nPs, y_ltP, y_ltQ, y_ltPP, y_eqP, y_eqQ, y_eqPP, if_pos, if_neg, ite_true, ite_false, not_true_eq_false, not_false_eq_true, and_true, true_and, and_false, false_and, or_true, true_or, or_false, false_or, sk, Nat.zero_or, Nat.or_zero]
        · obtain ⟨o, ho⟩ : ∃ o, g (3 * i + 1) = o + 1 := ⟨g (3 * i + 1) - 1, by omega⟩
          rw [ho, y_nPs]
          simp (disch := omega) only [y_lit, y_n1, nI_add, pk_mul, j_lt, j_b1_s, j_b2_s, j_b3_s, j_b0_s, y_bo, y_bo1, y_bo0, y_i0, y_i1, Classical.not_not, nI_clamp, y_ix, y_lt, y_le, y_eq, y_nP, y_nPs, y_ltP, y_ltQ, y_ltPP, y_eqP, y_eqQ, y_eqPP, if_pos, if_neg, ite_true, ite_false, not_true_eq_false, not_false_eq_true, and_true, true_and, and_false, false_and, or_true, true_or, or_false, false_or, y_shl, y_or, sk, Nat.add_sub_cancel, Nat.zero_or]
      · rw [if_neg c]
        by_cases c1 : y_from b i ≤ t
        · have : ¬ t ≤ y_last b i := fun z => c ⟨c1, z⟩
          simp (disch := omega) only [y_lit, y_n1, nI_add, pk_mul, j_lt, j_b1_s, j_b2_s, j_b3_s, j_b0_s, y_bo, y_bo1, y_bo0, y_i0, y_i1, Classical.not_not, nI_clamp, y_ix, y_lt, y_le, y_eq, y_nP, y_nPs, y_ltP, y_ltQ, y_ltPP, y_eqP, y_eqQ, y_eqPP, if_pos, if_neg, ite_true, ite_false, not_true_eq_false, not_false_eq_true, and_true, true_and, and_false, false_and, or_true, true_or, or_false, false_or, hg.1, gi, y_in]
          exact ih (i + 1) n (by omega) (by omega)
        · simp (disch := omega) only [y_lit, y_n1, nI_add, pk_mul, j_lt, j_b1_s, j_b2_s, j_b3_s, j_b0_s, y_bo, y_bo1, y_bo0, y_i0, y_i1, Classical.not_not, nI_clamp, y_ix, y_lt, y_le, y_eq, y_nP, y_nPs, y_ltP, y_ltQ, y_ltPP, y_eqP, y_eqQ, y_eqPP, if_pos, if_neg, ite_true, ite_false, not_true_eq_false, not_false_eq_true, and_true, true_and, and_false, false_and, or_true, true_or, or_false, false_or, hg.1, gi, y_in]
          exact ih (i + 1) n (by omega) (by omega)
  unfold f_X12_upIn
  rw [y_lit, key s 0 j_F (by omega) (y_F (by omega))]
  rfl
end C
section Z
variable {σ τ : j_G}
theorem z_up (hR : j_Rel σ τ) (a1 : Int32) : ∃ v σ1 τ1, f_X11_up a1 σ = some (v, σ1) ∧ f_X12_up a1 τ = some (v, τ1) ∧ j_Rel σ1 τ1 := by
  obtain ⟨b, hW, hN, hM, hK⟩ := id hR
  have h2 := hW.b2
  have hv := y_dg_vg hW (b 8)
  have hs := hv.1
  by_cases h : y_rg a1 (b 2)
  · obtain ⟨t, ht, rfl⟩ := y_of _ _ h.1 h.2
    obtain ⟨σ1, e1, e2, e3⟩ := yc_dealt hN hW
    obtain ⟨τ1, f1, f2, f3⟩ := ym_laid hM hW
    have hr := y_done hR (e3.wide (by omega) (by omega)) f3
    refine ⟨nI (y_upb (y_dg b (b 8)) (y_ui b t (y_gs b) 0)), σ1, τ1, ?_, ?_, hr⟩
    · unfold f_X11_up; simp (disch := omega) only [y_lit, y_n1, nI_add, pk_mul, j_lt, j_b1_s, j_b2_s, j_b3_s, j_b0_s, y_bo, y_bo1, y_bo0, y_i0, y_i1, Classical.not_not, nI_clamp, y_ix, y_lt, y_le, y_eq, y_nP, y_nPs, y_ltP, y_ltQ, y_ltPP, y_eqP, y_eqQ, y_eqPP, if_pos, if_neg, ite_true, ite_false, not_true_eq_false, not_false_eq_true, and_true, true_and, and_false, false_and, or_true, true_or, or_false, false_or, yc_isTick hN hW, y_rn, e1, yc_upIn e2 hv hW, yc_ghas e2 hs]
      have le := y_ui_le (b := b) (t := t) (y_gs b) 0
      unfold y_upb
      by_cases z : y_ui b t (y_gs b) 0 = 0
      · rw [z, if_pos rfl, if_neg (fun q : y_rg (nP 0) _ => absurd q.1 (by decide))]
      · obtain ⟨u, hu⟩ : ∃ u, y_ui b t (y_gs b) 0 = u + 1 := ⟨y_ui b t (y_gs b) 0 - 1, by omega⟩
        rw [hu, y_nPs, if_neg (Nat.succ_ne_zero u), Nat.add_sub_cancel]
        simp (disch := omega) only [y_lit, y_n1, nI_add, pk_mul, j_lt, j_b1_s, j_b2_s, j_b3_s, j_b0_s, y_bo, y_bo1, y_bo0, y_i0, y_i1, Classical.not_not, nI_clamp, y_ix, y_lt, y_le, y_eq, y_nP, y_nPs, y_ltP, y_ltQ, y_ltPP, y_eqP, y_eqQ, y_eqPP, if_pos, if_neg, ite_true, ite_false, not_true_eq_false, not_false_eq_true, and_true, true_and, and_false, false_and, or_true, true_or, or_false, false_or, y_rn, yc_holesOf e2 hv hW]
    · unfold f_X12_up; simp (disch := omega) only [y_lit, y_n1, nI_add, pk_mul, j_lt, j_b1_s, j_b2_s, j_b3_s, j_b0_s, y_bo, y_bo1, y_bo0, y_i0, y_i1, Classical.not_not, nI_clamp, y_ix, y_lt, y_le, y_eq, y_nP, y_nPs, y_ltP, y_ltQ, y_ltPP, y_eqP, y_eqQ, y_eqPP, if_pos, if_neg, ite_true, ite_false, not_true_eq_false, not_false_eq_true, and_true, true_and, and_false, false_and, or_true, true_or, or_false, false_or, ym_isTick hM hW, y_rn, f1, ym_upIn f2.2 hv hW]
  · refine ⟨-2, σ, τ, ?_, ?_, hR⟩
    · unfold f_X11_up; simp (disch := omega) only [y_lit, y_n1, nI_add, pk_mul, j_lt, j_b1_s, j_b2_s, j_b3_s, j_b0_s, y_bo, y_bo1, y_bo0, y_i0, y_i1, Classical.not_not, nI_clamp, y_ix, y_lt, y_le, y_eq, y_nP, y_nPs, y_ltP, y_ltQ, y_ltPP, y_eqP, y_eqQ, y_eqPP, if_pos, if_neg, ite_true, ite_false, not_true_eq_false, not_false_eq_true, and_true, true_and, and_false, false_and, or_true, true_or, or_false, false_or, yc_isTick hN hW, h]
    · unfold f_X12_up; simp (disch := omega) only [y_lit, y_n1, nI_add, pk_mul, j_lt, j_b1_s, j_b2_s, j_b3_s, j_b0_s, y_bo, y_bo1, y_bo0, y_i0, y_i1, Classical.not_not, nI_clamp, y_ix, y_lt, y_le, y_eq, y_nP, y_nPs, y_ltP, y_ltQ, y_ltPP, y_eqP, y_eqQ, y_eqPP, if_pos, if_neg, ite_true, ite_false, not_true_eq_false, not_false_eq_true, and_true, true_and, and_false, false_and, or_true, true_or, or_false, false_or, ym_isTick hM hW, h]
end Z
/-! ===== calm, where, missed ===== -/
def y_cf (b : Nat → Nat) (t : Nat) : Nat → Nat := fun i => min t (y_last b i + 1) - min t (y_from b i)
theorem y_su_s {f : Nat → Nat} {m i : Nat} : y_su f (m + 1) i 0 = y_su f m (i + 1) 0 + f i := by
  show y_su f m (i + 1) (0 + f i) = _
  rw [y_su_add]
theorem y_cs {b : Nat → Nat} (hW : y_W b) (t : Nat) : ∀ m i, y_su (y_cf b (t + 1)) m i 0 = y_su (y_cf b t) m i 0 + (if y_ui b t m i = 0 then 0 else 1) := by
  intro m
  induction m with
  | zero => intro i; rfl
  | succ m ih =>
    intro i
    have le := y_last_le hW i
    rw [y_su_s, y_su_s]
    unfold y_ui
    by_cases c : y_from b i ≤ t ∧ t ≤ y_last b i
    · rw [if_pos c, if_neg (Nat.succ_ne_zero i)]
      rw [y_su_congr (f := y_cf b (t + 1)) (g := y_cf b t) m (i + 1) 0 (fun j h1 h2 => by
        have := y_apart2 hW (show i < j by omega)
        have := y_last_le hW j
        unfold y_cf; omega)]
      unfold y_cf; omega
    · rw [if_neg c, ih (i + 1)]
      have : y_cf b (t + 1) i = y_cf b t i := by unfold y_cf; omega
      omega
theorem y_cs0 {b : Nat → Nat} : ∀ m i, y_su (y_cf b 0) m i 0 = 0 := by
  intro m
  induction m with
  | zero => intro i; rfl
  | succ m ih => intro i; rw [y_su_s, ih]; unfold y_cf; omega
theorem y_cs_le {b : Nat → Nat} (hW : y_W b) (s : Nat) : ∀ t, y_su (y_cf b t) s 0 0 ≤ t := by
  intro t
  induction t with
  | zero => rw [y_cs0]; omega
  | succ t ih => rw [y_cs hW t s 0]; split <;> omega
def y_len (b : Nat → Nat) : Nat → Nat := fun i => y_last b i - y_from b i + 1
theorem y_upb0 {g : Nat → Nat} {u : Nat} : y_upb g u = 0 ↔ u = 0 := by
  unfold y_upb
  by_cases h : u = 0
  · rw [if_pos h]; omega
  · rw [if_neg h]
    have := y_hb_pos (g := g) (i := u - 1)
    omega
theorem y_upb_lt {b g : Nat → Nat} {s t : Nat} (hW : y_W b) (hv : y_vg b s g) : y_upb g (y_ui b t s 0) < 4096 := by
  have le := y_ui_le (b := b) (t := t) s 0
  unfold y_upb
  split
  · omega
  · exact y_hb_lt hW hv (by omega)
section Z
variable {σ τ : j_G}
theorem z_calm (hR : j_Rel σ τ) : ∃ v σ1 τ1, f_X11_calm σ = some (v, σ1) ∧ f_X12_calm τ = some (v, τ1) ∧ j_Rel σ1 τ1 := by
  obtain ⟨b, hW, hN, hM, hK⟩ := id hR
  have h2 := hW.b2
  have hv := y_dg_vg hW (b 8)
  have hs := hv.1
  by_cases h : 0 < b 9
  · obtain ⟨σ1, e1, e2, e3⟩ := yc_dealt hN hW
    obtain ⟨τ1, f1, f2, f3⟩ := ym_laid hM hW
    have hr := y_done hR (e3.wide (by omega) (by omega)) f3
    have hN1 := hN.fr e3 (by omega)
    unfold y_ldy at f2
    generalize hgs : y_gs b = s at *
    generalize y_dg b (b 8) = g at *
    have eq : y_su (y_cf b (b 2)) s 0 0 = y_su (y_len b) s 0 0 := y_su_congr _ _ _ (fun j _ hj => by
      have := (hv.2 j (by omega)).2.2.2.2.2
      have := y_last_le hW j
      unfold y_cf y_len; omega)
    have le := y_cs_le hW s (b 2)
    have kc : ∀ m i n v, i + m = s → m < n → p_X11_calm_44 σ1 n (nI (b 2) - nI v) (nI i) = some (nI (b 2) - nI (y_su (y_len b) m i v)) := by
      intro m
      induction m with
      | zero =>
        intro i n v h hn
        obtain ⟨n, rfl⟩ := y_pos hn
        unfold p_X11_calm_44 y_su; simp (disch := omega) only [y_lit, y_n1, nI_add, pk_mul, j_lt, j_b1_s, j_b2_s, j_b3_s, j_b0_s, y_bo, y_bo1, y_bo0, y_i0, y_i1, Classical.not_not, nI_clamp, y_ix, y_lt, y_le, y_eq, y_nP, y_nPs, y_ltP, y_ltQ, y_ltPP, y_eqP, y_eqQ, y_eqPP, if_pos, if_neg, ite_true, ite_false, not_true_eq_false, not_false_eq_true, and_true, true_and, and_false, false_and, or_true, true_or, or_false, false_or, e2.1]
      | succ m ih =>
        intro i n v h hn
        obtain ⟨n, rfl⟩ := y_pos hn
        have ci := e2.2 i (by omega)
        have vi := (hv.2 i (by omega)).2.2.2.2.2
        have le := y_last_le hW i
        unfold p_X11_calm_44 y_su; simp (disch := omega) only [y_lit, y_n1, nI_add, pk_mul, j_lt, j_b1_s, j_b2_s, j_b3_s, j_b0_s, y_bo, y_bo1, y_bo0, y_i0, y_i1, Classical.not_not, nI_clamp, y_ix, y_lt, y_le, y_eq, y_nP, y_nPs, y_ltP, y_ltQ, y_ltPP, y_eqP, y_eqQ, y_eqPP, if_pos, if_neg, ite_true, ite_false, not_true_eq_false, not_false_eq_true, and_true, true_and, and_false, false_and, or_true, true_or, or_false, false_or, e2.1, ci, pk_sub, y_subsub]
        exact ih (i + 1) n _ (by omega) (by omega)
    have km : ∀ m t n v, t + m = b 2 → m < n → v + y_su (y_cf b t) s 0 0 = t → p_X12_calm_18 τ1 n (nI v) (nI t) = some (nI (b 2 - y_su (y_cf b (b 2)) s 0 0)) := by
      intro m
      induction m with
      | zero =>
        intro t n v h hn hq
        obtain ⟨n, rfl⟩ := y_pos hn
        obtain rfl : t = b 2 := by omega
        unfold p_X12_calm_18; simp (disch := omega) only [y_lit, y_n1, nI_add, pk_mul, j_lt, j_b1_s, j_b2_s, j_b3_s, j_b0_s, y_bo, y_bo1, y_bo0, y_i0, y_i1, Classical.not_not, nI_clamp, y_ix, y_lt, y_le, y_eq, y_nP, y_nPs, y_ltP, y_ltQ, y_ltPP, y_eqP, y_eqQ, y_eqPP, if_pos, if_neg, ite_true, ite_false, not_true_eq_false, not_false_eq_true, and_true, true_and, and_false, false_and, or_true, true_or, or_false, false_or, f2.1.f]
        congr 2; omega
      | succ m ih =>
        intro t n v h hn hq
        obtain ⟨n, rfl⟩ := y_pos hn
        have lt := y_upb_lt (t := t) hW hv
        have cs := y_cs hW t s 0
        unfold p_X12_calm_18; simp (disch := omega) only [y_lit, y_n1, nI_add, pk_mul, j_lt, j_b1_s, j_b2_s, j_b3_s, j_b0_s, y_bo, y_bo1, y_bo0, y_i0, y_i1, Classical.not_not, nI_clamp, y_ix, y_lt, y_le, y_eq, y_nP, y_nPs, y_ltP, y_ltQ, y_ltPP, y_eqP, y_eqQ, y_eqPP, if_pos, if_neg, ite_true, ite_false, not_true_eq_false, not_false_eq_true, and_true, true_and, and_false, false_and, or_true, true_or, or_false, false_or, f2.1.f, ym_upIn f2.2 hv hW, y_upb0]
        by_cases z : y_ui b t s 0 = 0
        · rw [if_pos z] at cs ⊢
          rw [nI_add]
          exact ih (t + 1) n (v + 1) (by omega) (by omega) (by omega)
        · rw [if_neg z] at cs ⊢
          rw [nI_add]
          exact ih (t + 1) n (v + 0) (by omega) (by omega) (by omega)
    refine ⟨nI (b 2 - y_su (y_len b) s 0 0), σ1, τ1, ?_, ?_, hr⟩
    · have k := kc s 0 j_F 0 (by omega) (y_F (by omega))
      rw [show nI (b 2) - nI 0 = nI (b 2) from by rw [pk_sub (by omega)]; rfl] at k
      unfold f_X11_calm; simp (disch := omega) only [y_lit, y_n1, nI_add, pk_mul, j_lt, j_b1_s, j_b2_s, j_b3_s, j_b0_s, y_bo, y_bo1, y_bo0, y_i0, y_i1, Classical.not_not, nI_clamp, y_ix, y_lt, y_le, y_eq, y_nP, y_nPs, y_ltP, y_ltQ, y_ltPP, y_eqP, y_eqQ, y_eqPP, if_pos, if_neg, ite_true, ite_false, not_true_eq_false, not_false_eq_true, and_true, true_and, and_false, false_and, or_true, true_or, or_false, false_or, yc_isTold hN hW, e1, hN1.f4, k, pk_sub]
    · have k := km (b 2) 0 j_F 0 (by omega) (y_F (by omega)) (by rw [y_cs0])
      unfold f_X12_calm; simp (disch := omega) only [y_lit, y_n1, nI_add, pk_mul, j_lt, j_b1_s, j_b2_s, j_b3_s, j_b0_s, y_bo, y_bo1, y_bo0, y_i0, y_i1, Classical.not_not, nI_clamp, y_ix, y_lt, y_le, y_eq, y_nP, y_nPs, y_ltP, y_ltQ, y_ltPP, y_eqP, y_eqQ, y_eqPP, if_pos, if_neg, ite_true, ite_false, not_true_eq_false, not_false_eq_true, and_true, true_and, and_false, false_and, or_true, true_or, or_false, false_or, ym_isBoard hM hW, f1, k, eq]
  · refine ⟨-2, σ, τ, ?_, ?_, hR⟩
    · unfold f_X11_calm; simp (disch := omega) only [y_lit, y_n1, nI_add, pk_mul, j_lt, j_b1_s, j_b2_s, j_b3_s, j_b0_s, y_bo, y_bo1, y_bo0, y_i0, y_i1, Classical.not_not, nI_clamp, y_ix, y_lt, y_le, y_eq, y_nP, y_nPs, y_ltP, y_ltQ, y_ltPP, y_eqP, y_eqQ, y_eqPP, if_pos, if_neg, ite_true, ite_false, not_true_eq_false, not_false_eq_true, and_true, true_and, and_false, false_and, or_true, true_or, or_false, false_or, yc_isTold hN hW]
    · unfold f_X12_calm; simp (disch := omega) only [y_lit, y_n1, nI_add, pk_mul, j_lt, j_b1_s, j_b2_s, j_b3_s, j_b0_s, y_bo, y_bo1, y_bo0, y_i0, y_i1, Classical.not_not, nI_clamp, y_ix, y_lt, y_le, y_eq, y_nP, y_nPs, y_ltP, y_ltQ, y_ltPP, y_eqP, y_eqQ, y_eqPP, if_pos, if_neg, ite_true, ite_false, not_true_eq_false, not_false_eq_true, and_true, true_and, and_false, false_and, or_true, true_or, or_false, false_or, ym_isBoard hM hW]
end Z
/-- ticks of a run go up -/
def y_mo (R : Nat → Nat) : Prop := (∀ k, k < R 0 → R (8 + 2 * k) < R 3) ∧ ∀ k l, k < l → l < R 0 → R (8 + 2 * k) ≤ R (8 + 2 * l)
theorem y_at_ge {b q R : Nat → Nat} {i to : Nat} : R 3 ≤ y_at b q i to R := by
  have mx : ∀ x z, x ≤ y_mx x z := fun x z => by unfold y_mx; split <;> omega
  have th : ∀ h c t, t ≤ y_th b q h c t := fun h c t => Nat.le_add_right _ _
  exact Nat.le_trans (mx _ (y_aw b q i)) (Nat.le_trans (th _ _ _) (mx _ _))
theorem y_go_mo {b g q R : Nat → Nat} {i to m : Nat} (hb : y_br b R m) (hm : m < 200) (hi : i < 60) (hm0 : y_mo R) : y_mo (y_go b g q i to R) := by
  have h0 := hb.1
  have ge := y_at_ge (b := b) (q := q) (R := R) (i := i) (to := to)
  unfold y_go
  split
  · generalize y_at b q i to R = t at *
    unfold y_set
    refine ⟨fun k hk => ?_, fun k l hk hl => ?_⟩
    · simp (disch := omega) only [y_ue, y_un] at hk ⊢
      by_cases e : k = R 0
      · subst e; simp (disch := omega) only [y_ue, y_un]; omega
      · have := hm0.1 k (by omega)
        simp (disch := omega) only [y_ue, y_un]; omega
    · simp (disch := omega) only [y_ue, y_un] at hl ⊢
      have h1 := hm0.1 k (by omega)
      by_cases e : l = R 0
      · subst e; simp (disch := omega) only [y_ue, y_un]; omega
      · have := hm0.2 k l hk (by omega)
        simp (disch := omega) only [y_ue, y_un]; omega
  · exact hm0
theorem y_go2_mo {b g q R : Nat → Nat} {s i to th m : Nat} (hW : y_W b) (hv : y_vg b s g) (hb : y_br b R m) (hm : m + 1 < 120) (hi : i < s) (hto : to < y_ho b) (hm0 : y_mo R) : y_mo (y_go2 b g q i to th R) := by
  have h60 := hv.1
  unfold y_go2
  split
  · exact y_go_mo (y_go_br hW hv hb (by omega) hi hto) (by omega) (by omega) (y_go_mo hb (by omega) (by omega) hm0)
  · exact hm0
theorem y_gf_mo {b g q k R : Nat → Nat} {s i m : Nat} (hW : y_W b) (hv : y_vg b s g) (hb : y_br b R m) (hm : m + 1 < 120) (hi : i < s) (hm0 : y_mo R) : y_mo (y_gf b g q k i R) := by
  have h60 := hv.1
  have li := hv.2 i hi
  unfold y_gf
  split
  · split
    · split
      · exact y_go2_mo hW hv hb hm hi li.1 hm0
      · exact y_go2_mo hW hv hb hm hi (by omega) hm0
    · exact y_go_mo hb (by omega) (by omega) hm0
  · split
    · exact y_go_mo hb (by omega) (by omega) hm0
    · exact hm0
theorem y_rl_mo {b g q k : Nat → Nat} {s red : Nat} (hW : y_W b) (hv : y_vg b s g) : ∀ m i R, i + m ≤ s → y_br b R (2 * i) → y_mo R → y_mo (y_rl b g q k red m i R) := by
  have hs := hv.1
  intro m
  induction m with
  | zero => intro i R _ _ h; exact h
  | succ m ih =>
    intro i R h hb hm0
    unfold y_rl
    refine ih (i + 1) _ (by omega) ?_ ?_
    · split
      · exact y_gf_br (m := 2 * i) hW hv hb (by omega) (by omega)
      · exact hb.up (by omega)
    · split
      · exact y_gf_mo hW hv hb (by omega) (by omega) hm0
      · exact hm0
theorem y_run_mo {b g q k : Nat → Nat} {s red : Nat} (hW : y_W b) (hv : y_vg b s g) (hq : y_vq b q) : y_mo (y_run b g q k red s) :=
  y_rl_mo hW hv s 0 _ (by omega) (y_R0_br hq) ⟨fun k hk => absurd hk (Nat.not_lt_zero _), fun k l _ hl => absurd hl (Nat.not_lt_zero _)⟩
def y_wh (R : Nat → Nat) (t : Nat) : Nat → Nat → Nat → Nat
  | 0, _, a => a
  | m + 1, k, a => if R (8 + 2 * k) ≤ t then y_wh R t m (k + 1) (R (9 + 2 * k)) else a
section Z
variable {σ τ : j_G}
theorem z_where (hR : j_Rel σ τ) (a1 a2 : Int32) : ∃ v σ1 τ1, f_X11_where a1 a2 σ = some (v, σ1) ∧ f_X12_where a1 a2 τ = some (v, τ1) ∧ j_Rel σ1 τ1 := by
  obtain ⟨b, hW, hN, hM, hK⟩ := id hR
  have h2 := hW.b2
  have hv := y_dg_vg hW (b 8)
  by_cases h : y_rg a1 (b 6)
  · by_cases h3 : y_rg a2 (b 2)
    · obtain ⟨p, hp, rfl⟩ := y_of _ _ h.1 h.2
      obtain ⟨t, ht, rfl⟩ := y_of _ _ h3.1 h3.2
      obtain ⟨σ1, e1, e2, e3, e4⟩ := yc_runOf hN hW hp
      obtain ⟨τ1, f1, f2, f3, f4, f5⟩ := ym_ras hM hW hp
      have hr := y_done hR e4 f5
      have br : y_br b (y_own b p) 120 := y_run_br hW hv (y_pqv hW hp)
      have mo : y_mo (y_own b p) := y_run_mo hW hv (y_pqv hW hp)
      have e28 := e2.2.2 4 (by omega)
      have e28' : σ1.1 28 4 = nI (b (96 + 5 * p + 4)) := e28
      generalize y_own b p = R at *
      have b0 := br.1
      have kc : ∀ m k n a, k + m = R 0 → m < n → p_X9_holeBehind_5 (nI t) σ1 n (nI a) (nI k) = some (nI (y_wh R t m k a)) := by
        intro m
        induction m with
        | zero =>
          intro k n a h hn
          obtain ⟨n, rfl⟩ := y_pos hn
          unfold p_X9_holeBehind_5 y_wh; simp (disch := omega) only [y_lit, y_n1, nI_add, pk_mul, j_lt, j_b1_s, j_b2_s, j_b3_s, j_b0_s, y_bo, y_bo1, y_bo0, y_i0, y_i1, Classical.not_not, nI_clamp, y_ix, y_lt, y_le, y_eq, y_nP, y_nPs, y_ltP, y_ltQ, y_ltPP, y_eqP, y_eqQ, y_eqPP, if_pos, if_neg, ite_true, ite_false, not_true_eq_false, not_false_eq_true, and_true, true_and, and_false, false_and, or_true, true_or, or_false, false_or, e3.1.1]
        | succ m ih =>
          intro k n a h hn
          obtain ⟨n, rfl⟩ := y_pos hn
          have ci := e3.2.1 k (by omega)
          have bi := br.2.2.2.2.2.1 k (by omega)
          unfold p_X9_holeBehind_5 y_wh; simp (disch := omega) only [y_lit, y_n1, nI_add, pk_mul, j_lt, j_b1_s, j_b2_s, j_b3_s, j_b0_s, y_bo, y_bo1, y_bo0, y_i0, y_i1, Classical.not_not, nI_clamp, y_ix, y_lt, y_le, y_eq, y_nP, y_nPs, y_ltP, y_ltQ, y_ltPP, y_eqP, y_eqQ, y_eqPP, if_pos, if_neg, ite_true, ite_false, not_true_eq_false, not_false_eq_true, and_true, true_and, and_false, false_and, or_true, true_or, or_false, false_or, e3.1.1, ci]
          by_cases c : R (8 + 2 * k) ≤ t
          · simp (disch := omega) only [y_lit, y_n1, nI_add, pk_mul, j_lt, j_b1_s, j_b2_s, j_b3_s, j_b0_s, y_bo, y_bo1, y_bo0, y_i0, y_i1, Classical.not_not, nI_clamp, y_ix, y_lt, y_le, y_eq, y_nP, y_nPs, y_ltP, y_ltQ, y_ltPP, y_eqP, y_eqQ, y_eqPP, if_pos, if_neg, ite_true, ite_false, not_true_eq_false, not_false_eq_true, and_true, true_and, and_false, false_and, or_true, true_or, or_false, false_or]
            exact ih (k + 1) n _ (by omega) (by omega)
          · simp (disch := omega) only [y_lit, y_n1, nI_add, pk_mul, j_lt, j_b1_s, j_b2_s, j_b3_s, j_b0_s, y_bo, y_bo1, y_bo0, y_i0, y_i1, Classical.not_not, nI_clamp, y_ix, y_lt, y_le, y_eq, y_nP, y_nPs, y_ltP, y_ltQ, y_ltPP, y_eqP, y_eqQ, y_eqPP, if_pos, if_neg, ite_true, ite_false, not_true_eq_false, not_false_eq_true, and_true, true_and, and_false, false_and, or_true, true_or, or_false, false_or]
      have sk : ∀ m k n a, k + m = R 0 → m < n → (∀ l, k ≤ l → l < R 0 → t < R (8 + 2 * l)) → p_X12_where_33 (nI t) τ1 n (nI a) (nI k) = some (nI a) := by
        intro m
        induction m with
        | zero =>
          intro k n a h hn _
          obtain ⟨n, rfl⟩ := y_pos hn
          unfold p_X12_where_33; simp (disch := omega) only [y_lit, y_n1, nI_add, pk_mul, j_lt, j_b1_s, j_b2_s, j_b3_s, j_b0_s, y_bo, y_bo1, y_bo0, y_i0, y_i1, Classical.not_not, nI_clamp, y_ix, y_lt, y_le, y_eq, y_nP, y_nPs, y_ltP, y_ltQ, y_ltPP, y_eqP, y_eqQ, y_eqPP, if_pos, if_neg, ite_true, ite_false, not_true_eq_false, not_false_eq_true, and_true, true_and, and_false, false_and, or_true, true_or, or_false, false_or, f3.1.1]
        | succ m ih =>
          intro k n a h hn hl
          obtain ⟨n, rfl⟩ := y_pos hn
          have ci := f3.2.1 k (by omega)
          have bi := br.2.2.2.2.2.1 k (by omega)
          have := hl k (by omega) (by omega)
          unfold p_X12_where_33; simp (disch := omega) only [y_lit, y_n1, nI_add, pk_mul, j_lt, j_b1_s, j_b2_s, j_b3_s, j_b0_s, y_bo, y_bo1, y_bo0, y_i0, y_i1, Classical.not_not, nI_clamp, y_ix, y_lt, y_le, y_eq, y_nP, y_nPs, y_ltP, y_ltQ, y_ltPP, y_eqP, y_eqQ, y_eqPP, if_pos, if_neg, ite_true, ite_false, not_true_eq_false, not_false_eq_true, and_true, true_and, and_false, false_and, or_true, true_or, or_false, false_or, f3.1.1, ci]
          exact ih (k + 1) n _ (by omega) (by omega) (fun l h1 h2 => hl l (by omega) h2)
      have km : ∀ m k n a, k + m = R 0 → m < n → p_X12_where_33 (nI t) τ1 n (nI a) (nI k) = some (nI (y_wh R t m k a)) := by
        intro m
        induction m with
        | zero =>
          intro k n a h hn
          obtain ⟨n, rfl⟩ := y_pos hn
          unfold p_X12_where_33 y_wh; simp (disch := omega) only [y_lit, y_n1, nI_add, pk_mul, j_lt, j_b1_s, j_b2_s, j_b3_s, j_b0_s, y_bo, y_bo1, y_bo0, y_i0, y_i1, Classical.not_not, nI_clamp, y_ix, y_lt, y_le, y_eq, y_nP, y_nPs, y_ltP, y_ltQ, y_ltPP, y_eqP, y_eqQ, y_eqPP, if_pos, if_neg, ite_true, ite_false, not_true_eq_false, not_false_eq_true, and_true, true_and, and_false, false_and, or_true, true_or, or_false, false_or, f3.1.1]
        | succ m ih =>
          intro k n a h hn
          by_cases c : R (8 + 2 * k) ≤ t
          · obtain ⟨n, rfl⟩ := y_pos hn
            have ci := f3.2.1 k (by omega)
            have bi := br.2.2.2.2.2.1 k (by omega)
            unfold p_X12_where_33 y_wh; simp (disch := omega) only [y_lit, y_n1, nI_add, pk_mul, j_lt, j_b1_s, j_b2_s, j_b3_s, j_b0_s, y_bo, y_bo1, y_bo0, y_i0, y_i1, Classical.not_not, nI_clamp, y_ix, y_lt, y_le, y_eq, y_nP, y_nPs, y_ltP, y_ltQ, y_ltPP, y_eqP, y_eqQ, y_eqPP, if_pos, if_neg, ite_true, ite_false, not_true_eq_false, not_false_eq_true, and_true, true_and, and_false, false_and, or_true, true_or, or_false, false_or, f3.1.1, ci]
            exact ih (k + 1) n _ (by omega) (by omega)
          · unfold y_wh
            rw [if_neg c]
            exact sk (m + 1) k n a h hn (fun l h1 h2 => by
              by_cases e : l = k
              · subst e; omega
              · have := mo.2 k l (by omega) h2; omega)
      refine ⟨nI (y_wh R t (R 0) 0 (b (96 + 5 * p + 4))), σ1, τ1, ?_, ?_, hr⟩
      · have k := kc (R 0) 0 j_F (b (96 + 5 * p + 4)) (by omega) (y_F (by omega))
        unfold f_X11_where f_X9_holeBehind; simp (disch := omega) only [y_lit, y_n1, nI_add, pk_mul, j_lt, j_b1_s, j_b2_s, j_b3_s, j_b0_s, y_bo, y_bo1, y_bo0, y_i0, y_i1, Classical.not_not, nI_clamp, y_ix, y_lt, y_le, y_eq, y_nP, y_nPs, y_ltP, y_ltQ, y_ltPP, y_eqP, y_eqQ, y_eqPP, if_pos, if_neg, ite_true, ite_false, not_true_eq_false, not_false_eq_true, and_true, true_and, and_false, false_and, or_true, true_or, or_false, false_or, yc_isTick hN hW, y_rn, e1, e28', k]
      · have k := km (R 0) 0 j_F (b (96 + 5 * p + 4)) (by omega) (y_F (by omega))
        unfold f_X12_where; simp (disch := omega) only [y_lit, y_n1, nI_add, pk_mul, j_lt, j_b1_s, j_b2_s, j_b3_s, j_b0_s, y_bo, y_bo1, y_bo0, y_i0, y_i1, Classical.not_not, nI_clamp, y_ix, y_lt, y_le, y_eq, y_nP, y_nPs, y_ltP, y_ltQ, y_ltPP, y_eqP, y_eqQ, y_eqPP, if_pos, if_neg, ite_true, ite_false, not_true_eq_false, not_false_eq_true, and_true, true_and, and_false, false_and, or_true, true_or, or_false, false_or, ym_isPlayer hM hW, ym_isTick hM hW, y_rn, if_pos h, f1, f4, k]
    · refine ⟨-2, σ, τ, ?_, ?_, hR⟩
      · unfold f_X11_where; simp (disch := omega) only [y_lit, y_n1, nI_add, pk_mul, j_lt, j_b1_s, j_b2_s, j_b3_s, j_b0_s, y_bo, y_bo1, y_bo0, y_i0, y_i1, Classical.not_not, nI_clamp, y_ix, y_lt, y_le, y_eq, y_nP, y_nPs, y_ltP, y_ltQ, y_ltPP, y_eqP, y_eqQ, y_eqPP, if_pos, if_neg, ite_true, ite_false, not_true_eq_false, not_false_eq_true, and_true, true_and, and_false, false_and, or_true, true_or, or_false, false_or, yc_isTick hN hW, h3]
      · unfold f_X12_where; simp (disch := omega) only [y_lit, y_n1, nI_add, pk_mul, j_lt, j_b1_s, j_b2_s, j_b3_s, j_b0_s, y_bo, y_bo1, y_bo0, y_i0, y_i1, Classical.not_not, nI_clamp, y_ix, y_lt, y_le, y_eq, y_nP, y_nPs, y_ltP, y_ltQ, y_ltPP, y_eqP, y_eqQ, y_eqPP, if_pos, if_neg, ite_true, ite_false, not_true_eq_false, not_false_eq_true, and_true, true_and, and_false, false_and, or_true, true_or, or_false, false_or, ym_isPlayer hM hW, ym_isTick hM hW, h, h3]
  · refine ⟨-2, σ, τ, ?_, ?_, hR⟩
    · unfold f_X11_where; rw [yc_unrun hN hW h]; simp (disch := omega) only [y_lit, y_n1, nI_add, pk_mul, j_lt, j_b1_s, j_b2_s, j_b3_s, j_b0_s, y_bo, y_bo1, y_bo0, y_i0, y_i1, Classical.not_not, nI_clamp, y_ix, y_lt, y_le, y_eq, y_nP, y_nPs, y_ltP, y_ltQ, y_ltPP, y_eqP, y_eqQ, y_eqPP, if_pos, if_neg, ite_true, ite_false, not_true_eq_false, not_false_eq_true, and_true, true_and, and_false, false_and, or_true, true_or, or_false, false_or, yc_isTick hN hW]
      split <;> rfl
    · unfold f_X12_where; simp (disch := omega) only [y_lit, y_n1, nI_add, pk_mul, j_lt, j_b1_s, j_b2_s, j_b3_s, j_b0_s, y_bo, y_bo1, y_bo0, y_i0, y_i1, Classical.not_not, nI_clamp, y_ix, y_lt, y_le, y_eq, y_nP, y_nPs, y_ltP, y_ltQ, y_ltPP, y_eqP, y_eqQ, y_eqPP, if_pos, if_neg, ite_true, ite_false, not_true_eq_false, not_false_eq_true, and_true, true_and, and_false, false_and, or_true, true_or, or_false, false_or, ym_isPlayer hM hW, h]
end Z
/-! ===== runs with a number told otherwise ===== -/
theorem y_uu {q : Nat → Nat} {k x z : Nat} : y_u (y_u q k x) k z = y_u q k z := by
  funext j
  unfold y_u
  split <;> rfl
theorem y_uid {q : Nat → Nat} {k : Nat} : y_u q k (q k) = q := by
  funext j
  unfold y_u
  split
  · rename_i h; rw [h]
  · rfl
/-- hits of a run with such numbers -/
def y_H (b q : Nat → Nat) : Nat := y_run b (y_dg b (b 8)) q y_k1 0 (y_gs b) 0
def y_ra (σ : j_G) (b q : Nat → Nat) : Prop := y_N σ b ∧ y_cg σ b (y_gs b) (y_dg b (b 8)) ∧ y_cp σ 28 q
theorem y_vq1 {b q : Nat → Nat} (h : y_vq b q) {n : Nat} (hn : n ≤ 40) : y_vq b (y_u q 1 n) := by
  obtain ⟨h0, h1, h2, h3, h4⟩ := h
  unfold y_vq; simp (disch := omega) only [y_ue, y_un]; exact ⟨h0, hn, h2, h3, h4⟩
theorem y_vq3 {b q : Nat → Nat} (h : y_vq b q) {n : Nat} (hn : n ≤ 9) : y_vq b (y_u q 3 n) := by
  obtain ⟨h0, h1, h2, h3, h4⟩ := h
  unfold y_vq; simp (disch := omega) only [y_ue, y_un]; exact ⟨h0, h1, h2, hn, h4⟩
theorem y_vq4 {b q : Nat → Nat} (h : y_vq b q) {n : Nat} (hn : n < y_ho b) : y_vq b (y_u q 4 n) := by
  obtain ⟨h0, h1, h2, h3, h4⟩ := h
  unfold y_vq; simp (disch := omega) only [y_ue, y_un]; exact ⟨h0, h1, h2, h3, hn⟩
theorem y_H_le {b q : Nat → Nat} (hW : y_W b) (hq : y_vq b q) : y_H b q ≤ 120 := (y_run_br hW (y_dg_vg hW _) hq).1
theorem y_cp_u {σ : j_G} {q : Nat → Nat} {a k n : Nat} (h : y_cp σ a q) : y_cp (j_si σ a k (nI n)) a (y_u q k n) := by
  intro j hj
  by_cases e : j = k
  · subst e; rw [j_r_eq, y_ue]
  · rw [j_r_nj e, y_un e]; exact h j hj
section Z
variable {σ τ : j_G} {b q : Nat → Nat} {p k n : Nat}
theorem y_ra.set (h : y_ra σ b q) : y_ra (j_si σ 28 k (nI n)) b (y_u q k n) := by
  obtain ⟨h1, h2, h3⟩ := h
  have f : y_fr 28 28 σ (j_si σ 28 k (nI n)) := y_fr.refl.si (by omega) (by omega)
  exact ⟨h1.fr f (by omega), h2.fr f (by omega), y_cp_u h3⟩
theorem yc_ra (h : y_ra σ b q) (hW : y_W b) (h9 : 0 < b 9) (hq : y_vq b q) : ∃ σ', f_X9_good 30 28 22 31 32 25 23 24 26 33 34 (nP 0) σ = some (nI (y_H b q), σ') ∧ y_ra σ' b q ∧ y_fr 28 34 σ σ' := by
  obtain ⟨h1, h2, h3⟩ := h
  obtain ⟨σ2, f1, f2, f3⟩ := yc_good h1 hW h9 h2 (y_dg_vg hW _) h3 (by omega) hq y_mkC
  exact ⟨σ2, f1, ⟨h1.fr f3 (by omega), h2.fr f3 (by omega), h3.fr f3 (by omega)⟩, f3.wide (by omega) (by omega)⟩
theorem yc_know (h : y_ra σ b q) (hW : y_W b) (h9 : 0 < b 9) (hq : y_vq b q) (hn : n ≤ 9) : ∃ σ', f_X11_hitsKnowing (nI n) σ = some (nI (y_H b (y_u q 3 n)), σ') ∧ y_ra σ' b (y_u q 3 n) ∧ y_fr 28 34 σ σ' := by
  obtain ⟨σ2, f1, f2, f3⟩ := yc_ra (h.set (k := 3) (n := n)) hW h9 (y_vq3 hq hn)
  unfold f_X11_hitsKnowing
  simp only [j_lt]; rw [y_m1, f1]
  exact ⟨σ2, rfl, f2, (y_fr.refl.si (by omega) (by omega)).trans f3⟩
theorem yc_lagg (h : y_ra σ b q) (hW : y_W b) (h9 : 0 < b 9) (hq : y_vq b q) (hn : n ≤ 40) : ∃ σ', f_X11_hitsLagging (nI n) σ = some (nI (y_H b (y_u q 1 n)), σ') ∧ y_ra σ' b (y_u q 1 n) ∧ y_fr 28 34 σ σ' := by
  obtain ⟨σ2, f1, f2, f3⟩ := yc_ra (h.set (k := 1) (n := n)) hW h9 (y_vq1 hq hn)
  unfold f_X11_hitsLagging
  simp only [j_lt]; rw [y_m1, f1]
  exact ⟨σ2, rfl, f2, (y_fr.refl.si (by omega) (by omega)).trans f3⟩
theorem yc_look (h : y_ra σ b q) (hW : y_W b) (h9 : 0 < b 9) (hq : y_vq b q) (hn : n ≤ 40) : ∃ σ', f_X11_lookPoints (nI n) σ = some (nI (10 * y_H b (y_u (y_u q 1 n) 3 0)), σ') ∧ y_ra σ' b (y_u (y_u q 1 n) 3 0) ∧ y_fr 28 34 σ σ' := by
  obtain ⟨σ2, f1, f2, f3⟩ := yc_ra ((h.set (k := 1) (n := n)).set (k := 3) (n := 0)) hW h9 (y_vq3 (y_vq1 hq hn) (by omega))
  unfold f_X11_lookPoints
  simp only [j_lt, y_lit]; rw [y_n1, f1]
  refine ⟨σ2, ?_, f2, ((y_fr.refl.si (by omega) (by omega)).si (by omega) (by omega)).trans f3⟩
  rw [j_b2_s, pk_mul]
/-- the reference's run behind asTold with changes -/
theorem ym_asked {τ1 : j_G} (hL : y_ldy τ b) (hW : y_W b) (hp : p < b 6) (hq : y_vq b q) (hf : y_fm 18 42 80 81 τ τ1) (h18 : τ1.1 75 18 = τ.1 75 18) (hmp : y_mp τ1 b p q) (h23 : τ1.1 75 23 = nI 4095) (h24 : τ1.1 75 24 = nI 0) : ∃ τ', f_X12_run τ1 = some τ' ∧ τ'.1 75 29 = nI (y_H b q) ∧ y_ldy τ' b ∧ y_fm 18 42 80 93 τ τ' := by
  have hL1 : y_ldy τ1 b := by
    obtain ⟨hM, hg⟩ := hL
    refine ⟨hM.fr hf (by omega), ?_⟩
    unfold y_mg at *
    rw [(hf.2 82 (by omega) (by omega)).1, (hf.2 83 (by omega) (by omega)).1, (hf.2 84 (by omega) (by omega)).1, h18]
    exact hg
  obtain ⟨τ2, e1, e2, e3, e4, e5⟩ := ym_runq (k := y_k1) (red := 0) hL1 hW hp hmp hq (by rw [h23]; exact y_mkM) (by omega) h24
  exact ⟨τ2, e1, e2.1.1, e3, (hf.wide (by omega) (by omega) (by omega) (by omega)).trans (e5.wide (by omega) (by omega) (by omega) (by omega))⟩
theorem ym_know (hL : y_ldy τ b) (hW : y_W b) (hp : p < b 6) (hn : n ≤ 9) : ∃ τ', f_X12_learnsBy (nI p) (nI n) τ = some (nI (y_H b (y_u (y_pq b p) 3 n)), τ') ∧ y_ldy τ' b ∧ y_fm 18 42 80 93 τ τ' := by
  obtain ⟨τ1, g1, ⟨m0, m1, m2, m3, m4, m5, m6⟩, g3, g4, g5⟩ := ym_told hL.1 hW hp
  obtain ⟨τ2, e1, e2, e3, e4⟩ := ym_asked (τ1 := j_si τ1 75 21 (nI n)) (p := p) (q := y_u (y_pq b p) 3 n) hL hW hp (y_vq3 (y_pqv hW hp) hn) ((g5.wide (by omega) (by omega) (by omega) (by omega)).trans (y_fm.refl.so (by omega) (by omega))) (by simp (disch := omega) only [j_r_ne, j_r_eq, j_r_nj]; exact g5.1 18 (by omega)) (by unfold y_mp; simp (disch := omega) only [j_r_ne, j_r_eq, j_r_nj, y_ue, y_un]; exact ⟨m0, m1, trivial, m3, m4, m5, m6⟩) (by simp (disch := omega) only [j_r_ne, j_r_eq, j_r_nj]; exact g3) (by simp (disch := omega) only [j_r_ne, j_r_eq, j_r_nj]; exact g4)
  unfold f_X12_learnsBy
  rw [g1]; simp only [j_b1_s, j_lt]; rw [e1]
  exact ⟨τ2, by rw [j_b1_s, e2], e3, e4⟩
theorem ym_lagg (hL : y_ldy τ b) (hW : y_W b) (hp : p < b 6) (hn : n ≤ 40) : ∃ τ', f_X12_lagging (nI p) (nI n) τ = some (nI (y_H b (y_u (y_pq b p) 1 n)), τ') ∧ y_ldy τ' b ∧ y_fm 18 42 80 93 τ τ' := by
  obtain ⟨τ1, g1, ⟨m0, m1, m2, m3, m4, m5, m6⟩, g3, g4, g5⟩ := ym_told hL.1 hW hp
  obtain ⟨τ2, e1, e2, e3, e4⟩ := ym_asked (τ1 := j_si τ1 75 20 (nI n)) (p := p) (q := y_u (y_pq b p) 1 n) hL hW hp (y_vq1 (y_pqv hW hp) hn) ((g5.wide (by omega) (by omega) (by omega) (by omega)).trans (y_fm.refl.so (by omega) (by omega))) (by simp (disch := omega) only [j_r_ne, j_r_eq, j_r_nj]; exact g5.1 18 (by omega)) (by unfold y_mp; simp (disch := omega) only [j_r_ne, j_r_eq, j_r_nj, y_ue, y_un]; exact ⟨m0, trivial, m2, m3, m4, m5, m6⟩) (by simp (disch := omega) only [j_r_ne, j_r_eq, j_r_nj]; exact g3) (by simp (disch := omega) only [j_r_ne, j_r_eq, j_r_nj]; exact g4)
  unfold f_X12_lagging
  rw [g1]; simp only [j_b1_s, j_lt]; rw [e1]
  exact ⟨τ2, by rw [j_b1_s, e2], e3, e4⟩
theorem ym_wait (hL : y_ldy τ b) (hW : y_W b) (hp : p < b 6) (hn : n < y_ho b) : ∃ τ', f_X12_waitingAt (nI p) (nI n) τ = some (nI (y_H b (y_u (y_pq b p) 4 n)), τ') ∧ y_ldy τ' b ∧ y_fm 18 42 80 93 τ τ' := by
  obtain ⟨τ1, g1, ⟨m0, m1, m2, m3, m4, m5, m6⟩, g3, g4, g5⟩ := ym_told hL.1 hW hp
  obtain ⟨τ2, e1, e2, e3, e4⟩ := ym_asked (τ1 := j_si τ1 75 22 (nI n)) (p := p) (q := y_u (y_pq b p) 4 n) hL hW hp (y_vq4 (y_pqv hW hp) hn) ((g5.wide (by omega) (by omega) (by omega) (by omega)).trans (y_fm.refl.so (by omega) (by omega))) (by simp (disch := omega) only [j_r_ne, j_r_eq, j_r_nj]; exact g5.1 18 (by omega)) (by unfold y_mp; simp (disch := omega) only [j_r_ne, j_r_eq, j_r_nj, y_ue, y_un]; exact ⟨m0, m1, m2, trivial, m4, m5, m6⟩) (by simp (disch := omega) only [j_r_ne, j_r_eq, j_r_nj]; exact g3) (by simp (disch := omega) only [j_r_ne, j_r_eq, j_r_nj]; exact g4)
  unfold f_X12_waitingAt
  rw [g1]; simp only [j_b1_s, j_lt]; rw [e1]
  exact ⟨τ2, by rw [j_b1_s, e2], e3, e4⟩
theorem ym_look (hL : y_ldy τ b) (hW : y_W b) (hp : p < b 6) (hn : n ≤ 20) : ∃ τ', f_X12_lookOf (nI p) (nI n) τ = some (nI (10 * y_H b (y_u (y_u (y_pq b p) 1 (y_pq b p 1 + n)) 3 0)), τ') ∧ y_ldy τ' b ∧ y_fm 18 42 80 93 τ τ' := by
  have q1 : y_pq b p 1 ≤ 20 := by
    have h := hW.pl hp
    show b (96 + 5 * p + 1) ≤ 20; rw [show 96 + 5 * p + 1 = 97 + 5 * p from by omega]; omega
  obtain ⟨τ1, g1, ⟨m0, m1, m2, m3, m4, m5, m6⟩, g3, g4, g5⟩ := ym_told hL.1 hW hp
  obtain ⟨τ2, e1, e2, e3, e4⟩ := ym_asked (τ1 := j_si (j_si τ1 75 20 (nI (y_pq b p 1 + n))) 75 21 (nI 0)) (p := p) (q := y_u (y_u (y_pq b p) 1 (y_pq b p 1 + n)) 3 0) hL hW hp (y_vq3 (y_vq1 (y_pqv hW hp) (by omega)) (by omega)) ((g5.wide (by omega) (by omega) (by omega) (by omega)).trans ((y_fm.refl.so (by omega) (by omega)).so (by omega) (by omega))) (by simp (disch := omega) only [j_r_ne, j_r_eq, j_r_nj]; exact g5.1 18 (by omega)) (by unfold y_mp; simp (disch := omega) only [j_r_ne, j_r_eq, j_r_nj, y_ue, y_un]; exact ⟨m0, trivial, trivial, m3, m4, m5, m6⟩) (by simp (disch := omega) only [j_r_ne, j_r_eq, j_r_nj]; exact g3) (by simp (disch := omega) only [j_r_ne, j_r_eq, j_r_nj]; exact g4)
  unfold f_X12_lookOf
  rw [g1]; simp only [j_b1_s, j_lt, y_lit, m1, nI_add]; rw [e1]
  exact ⟨τ2, by rw [j_b1_s, e2, pk_mul], e3, e4⟩
theorem ym_rashOf (hL : y_ldy τ b) (hW : y_W b) (hp : p < b 6) : ∃ τ', f_X12_rashOf (nI p) τ = some (nI 10 * (nI (y_run b (y_dg b (b 8)) (y_pq b p) y_k1 1 (y_gs b) 0) - nI (y_run b (y_dg b (b 8)) (y_pq b p) y_k1 1 (y_gs b) 4)) - nI 20 * nI (y_run b (y_dg b (b 8)) (y_pq b p) y_k1 1 (y_gs b) 4), τ') ∧ y_ldy τ' b ∧ y_fm 18 42 80 93 τ τ' := by
  obtain ⟨τ1, g1, g2, g3, g4, g5⟩ := ym_told hL.1 hW hp
  have hL1 := hL.fr g5 (by omega) (by omega)
  have f : y_fm 24 24 80 79 τ1 (j_si τ1 75 24 (nI 1)) := y_fm.refl.so (by omega) (by omega)
  obtain ⟨τ2, e1, e2, e3, e4, e5⟩ := ym_runq (k := y_k1) (red := 1) (hL1.fr f (by omega) (by omega)) hW hp (q := y_pq b p) (by obtain ⟨m0, m1, m2, m3, m4, m5, m6⟩ := g2; unfold y_mp; simp (disch := omega) only [j_r_ne, j_r_eq, j_r_nj]; exact ⟨m0, m1, m2, m3, m4, m5, m6⟩) (y_pqv hW hp) (by simp (disch := omega) only [j_r_ne, j_r_eq, j_r_nj, g3]; exact y_mkM) (by omega) (by simp (disch := omega) only [j_r_ne, j_r_eq, j_r_nj])
  unfold f_X12_rashOf
  rw [g1]; simp only [j_b1_s, j_lt, y_lit]; rw [e1]
  exact ⟨τ2, by rw [j_b1_s, e2.1.1, e2.1.2.2.2.2], e3, (g5.wide (by omega) (by omega) (by omega) (by omega)).trans ((f.wide (by omega) (by omega) (by omega) (by omega)).trans (e5.wide (by omega) (by omega) (by omega) (by omega)))⟩
end Z
/-! ===== learns, enough, waits, slack, rash, look, line, tickets, prize ===== -/
/-- the first of the greatest -/
def y_am (h : Nat → Nat) : Nat → Nat → Nat → Nat
  | 0, _, z => z
  | m + 1, i, z => y_am h m (i + 1) (if h z < h i then i else z)
theorem y_ra_of {σ : j_G} {b : Nat → Nat} {p : Nat} (h : y_rdy σ b p) : y_ra σ b (y_pq b p) := h
section Z
variable {σ τ : j_G}
theorem z_learns (hR : j_Rel σ τ) (a1 a2 : Int32) : ∃ v σ1 τ1, f_X11_learns a1 a2 σ = some (v, σ1) ∧ f_X12_learns a1 a2 τ = some (v, τ1) ∧ j_Rel σ1 τ1 := by
  obtain ⟨b, hW, hN, hM, hK⟩ := id hR
  by_cases h : y_rg a1 (b 6)
  · by_cases h2 : y_rg a2 10
    · obtain ⟨p, hp, rfl⟩ := y_of _ _ h.1 h.2
      obtain ⟨n, hn, rfl⟩ := y_of _ _ h2.1 h2.2
      have h9 := hW.on0 (Or.inr (Or.inr (Or.inr (Or.inl (by omega : 0 < b 6)))))
      obtain ⟨σ1, e1, e2, e3⟩ := yc_ready hN hW hp
      obtain ⟨τ1, f1, f2, f3⟩ := ym_laid hM hW
      obtain ⟨σ2, g1, g2, g3⟩ := yc_know (n := n) e2 hW h9 (y_pqv hW hp) (by omega)
      obtain ⟨τ2, k1, k2, k3⟩ := ym_know (n := n) f2 hW hp (by omega)
      refine ⟨nI (y_H b (y_u (y_pq b p) 3 n)), σ2, τ2, ?_, ?_, y_done hR (e3.trans (g3.wide (by omega) (by omega))) (f3.trans k3)⟩
      · unfold f_X11_learns; simp (disch := omega) only [y_lit, y_n1, nI_add, pk_mul, j_lt, j_b1_s, j_b2_s, j_b3_s, j_b0_s, y_bo, y_bo1, y_bo0, y_i0, y_i1, Classical.not_not, nI_clamp, y_ix, y_lt, y_le, y_eq, y_nP, y_nPs, y_ltP, y_ltQ, y_ltPP, y_eqP, y_eqQ, y_eqPP, if_pos, if_neg, ite_true, ite_false, not_true_eq_false, not_false_eq_true, and_true, true_and, and_false, false_and, or_true, true_or, or_false, false_or, e1, g1]
      · unfold f_X12_learns; simp (disch := omega) only [y_lit, y_n1, nI_add, pk_mul, j_lt, j_b1_s, j_b2_s, j_b3_s, j_b0_s, y_bo, y_bo1, y_bo0, y_i0, y_i1, Classical.not_not, nI_clamp, y_ix, y_lt, y_le, y_eq, y_nP, y_nPs, y_ltP, y_ltQ, y_ltPP, y_eqP, y_eqQ, y_eqPP, if_pos, if_neg, ite_true, ite_false, not_true_eq_false, not_false_eq_true, and_true, true_and, and_false, false_and, or_true, true_or, or_false, false_or, ym_isPlayer hM hW, if_pos h, y_lit64, y_in, f1, k1]
    · refine ⟨-2, σ, τ, ?_, ?_, hR⟩
      · unfold f_X11_learns; simp (disch := omega) only [y_lit, y_n1, nI_add, pk_mul, j_lt, j_b1_s, j_b2_s, j_b3_s, j_b0_s, y_bo, y_bo1, y_bo0, y_i0, y_i1, Classical.not_not, nI_clamp, y_ix, y_lt, y_le, y_eq, y_nP, y_nPs, y_ltP, y_ltQ, y_ltPP, y_eqP, y_eqQ, y_eqPP, if_pos, if_neg, ite_true, ite_false, not_true_eq_false, not_false_eq_true, and_true, true_and, and_false, false_and, or_true, true_or, or_false, false_or, y_c3, h2]
      · unfold f_X12_learns; simp (disch := omega) only [y_lit, y_n1, nI_add, pk_mul, j_lt, j_b1_s, j_b2_s, j_b3_s, j_b0_s, y_bo, y_bo1, y_bo0, y_i0, y_i1, Classical.not_not, nI_clamp, y_ix, y_lt, y_le, y_eq, y_nP, y_nPs, y_ltP, y_ltQ, y_ltPP, y_eqP, y_eqQ, y_eqPP, if_pos, if_neg, ite_true, ite_false, not_true_eq_false, not_false_eq_true, and_true, true_and, and_false, false_and, or_true, true_or, or_false, false_or, ym_isPlayer hM hW, y_lit64, y_in, y_c3, h2]
  · refine ⟨-2, σ, τ, ?_, ?_, hR⟩
    · unfold f_X11_learns; rw [yc_unready hN hW h]; simp (disch := omega) only [y_lit, y_n1, nI_add, pk_mul, j_lt, j_b1_s, j_b2_s, j_b3_s, j_b0_s, y_bo, y_bo1, y_bo0, y_i0, y_i1, Classical.not_not, nI_clamp, y_ix, y_lt, y_le, y_eq, y_nP, y_nPs, y_ltP, y_ltQ, y_ltPP, y_eqP, y_eqQ, y_eqPP, if_pos, if_neg, ite_true, ite_false, not_true_eq_false, not_false_eq_true, and_true, true_and, and_false, false_and, or_true, true_or, or_false, false_or]
      split <;> rfl
    · unfold f_X12_learns; simp (disch := omega) only [y_lit, y_n1, nI_add, pk_mul, j_lt, j_b1_s, j_b2_s, j_b3_s, j_b0_s, y_bo, y_bo1, y_bo0, y_i0, y_i1, Classical.not_not, nI_clamp, y_ix, y_lt, y_le, y_eq, y_nP, y_nPs, y_ltP, y_ltQ, y_ltPP, y_eqP, y_eqQ, y_eqPP, if_pos, if_neg, ite_true, ite_false, not_true_eq_false, not_false_eq_true, and_true, true_and, and_false, false_and, or_true, true_or, or_false, false_or, ym_isPlayer hM hW, h]
theorem z_enough (hR : j_Rel σ τ) (a1 : Int32) : ∃ v σ1 τ1, f_X11_enough a1 σ = some (v, σ1) ∧ f_X12_enough a1 τ = some (v, τ1) ∧ j_Rel σ1 τ1 := by
  obtain ⟨b, hW, hN, hM, hK⟩ := id hR
  by_cases h : y_rg a1 (b 6)
  · obtain ⟨p, hp, rfl⟩ := y_of _ _ h.1 h.2
    have h9 := hW.on0 (Or.inr (Or.inr (Or.inr (Or.inl (by omega : 0 < b 6)))))
    have hq := y_pqv hW hp
    obtain ⟨σ1, e1, e2, e3⟩ := yc_ready hN hW hp
    obtain ⟨τ1, f1, f2, f3⟩ := ym_laid hM hW
    obtain ⟨σ2, g1, g2, g3⟩ := yc_know (n := 0) e2 hW h9 hq (by omega)
    have hb : ∀ n, n ≤ 9 → y_H b (y_u (y_pq b p) 3 n) ≤ 120 := fun n hn => y_H_le hW (y_vq3 hq hn)
    have kc : ∀ m i n z x σ', i + m = 10 → m < n → z < 10 → x < 10 → y_ra σ' b (y_u (y_pq b p) 3 x) → ∃ σ'', p_X11_enough_22 n (nI z) (nI (y_H b (y_u (y_pq b p) 3 z))) (nI i) σ' = some (nI (y_am (fun n => y_H b (y_u (y_pq b p) 3 n)) m i z), σ'') ∧ y_fr 28 34 σ' σ'' := by
      intro m
      induction m with
      | zero =>
        intro i n z x σ' h hn hz hx hr
        obtain ⟨n, rfl⟩ := y_pos hn
        refine ⟨σ', ?_, y_fr.refl⟩
        unfold p_X11_enough_22 y_am; simp (disch := omega) only [y_lit, y_n1, nI_add, pk_mul, j_lt, j_b1_s, j_b2_s, j_b3_s, j_b0_s, y_bo, y_bo1, y_bo0, y_i0, y_i1, Classical.not_not, nI_clamp, y_ix, y_lt, y_le, y_eq, y_nP, y_nPs, y_ltP, y_ltQ, y_ltPP, y_eqP, y_eqQ, y_eqPP, if_pos, if_neg, ite_true, ite_false, not_true_eq_false, not_false_eq_true, and_true, true_and, and_false, false_and, or_true, true_or, or_false, false_or]
      | succ m ih =>
        intro i n z x σ' h hn hz hx hr
        obtain ⟨n, rfl⟩ := y_pos hn
        obtain ⟨σ3, k1, k2, k3⟩ := yc_know (n := i) hr hW h9 (y_vq3 hq (by omega)) (by omega)
        rw [y_uu] at k1 k2
        have b1 := hb i (by omega); have b2 := hb z (by omega)
        unfold p_X11_enough_22 y_am; simp (disch := omega) only [y_lit, y_n1, nI_add, pk_mul, j_lt, j_b1_s, j_b2_s, j_b3_s, j_b0_s, y_bo, y_bo1, y_bo0, y_i0, y_i1, Classical.not_not, nI_clamp, y_ix, y_lt, y_le, y_eq, y_nP, y_nPs, y_ltP, y_ltQ, y_ltPP, y_eqP, y_eqQ, y_eqPP, if_pos, if_neg, ite_true, ite_false, not_true_eq_false, not_false_eq_true, and_true, true_and, and_false, false_and, or_true, true_or, or_false, false_or, k1]
        by_cases c : y_H b (y_u (y_pq b p) 3 z) < y_H b (y_u (y_pq b p) 3 i)
        · obtain ⟨σ4, l1, l2⟩ := ih (i + 1) n i i σ3 (by omega) (by omega) (by omega) (by omega) k2
          simp (disch := omega) only [y_lit, y_n1, nI_add, pk_mul, j_lt, j_b1_s, j_b2_s, j_b3_s, j_b0_s, y_bo, y_bo1, y_bo0, y_i0, y_i1, Classical.not_not, nI_clamp, y_ix, y_lt, y_le, y_eq, y_nP, y_nPs, y_ltP, y_ltQ, y_ltPP, y_eqP, y_eqQ, y_eqPP, if_pos, if_neg, ite_true, ite_false, not_true_eq_false, not_false_eq_true, and_true, true_and, and_false, false_and, or_true, true_or, or_false, false_or]
          exact ⟨σ4, l1, k3.trans l2⟩
        · obtain ⟨σ4, l1, l2⟩ := ih (i + 1) n z i σ3 (by omega) (by omega) (by omega) (by omega) k2
          simp (disch := omega) only [y_lit, y_n1, nI_add, pk_mul, j_lt, j_b1_s, j_b2_s, j_b3_s, j_b0_s, y_bo, y_bo1, y_bo0, y_i0, y_i1, Classical.not_not, nI_clamp, y_ix, y_lt, y_le, y_eq, y_nP, y_nPs, y_ltP, y_ltQ, y_ltPP, y_eqP, y_eqQ, y_eqPP, if_pos, if_neg, ite_true, ite_false, not_true_eq_false, not_false_eq_true, and_true, true_and, and_false, false_and, or_true, true_or, or_false, false_or]
          exact ⟨σ4, l1, k3.trans l2⟩
    have km : ∀ m i n z τ', i + m = 10 → m < n → z < 10 → y_ldy τ' b → ∃ τ'', p_X12_enough_19 (nI p) n (nI z) (nI i) τ' = some (nI (y_am (fun n => y_H b (y_u (y_pq b p) 3 n)) m i z), τ'') ∧ y_fm 18 42 80 93 τ' τ'' := by
      intro m
      induction m with
      | zero =>
        intro i n z τ' h hn hz hr
        obtain ⟨n, rfl⟩ := y_pos hn
        refine ⟨τ', ?_, y_fm.refl⟩
        unfold p_X12_enough_19 y_am; simp (disch := omega) only [y_lit, y_n1, nI_add, pk_mul, j_lt, j_b1_s, j_b2_s, j_b3_s, j_b0_s, y_bo, y_bo1, y_bo0, y_i0, y_i1, Classical.not_not, nI_clamp, y_ix, y_lt, y_le, y_eq, y_nP, y_nPs, y_ltP, y_ltQ, y_ltPP, y_eqP, y_eqQ, y_eqPP, if_pos, if_neg, ite_true, ite_false, not_true_eq_false, not_false_eq_true, and_true, true_and, and_false, false_and, or_true, true_or, or_false, false_or]
      | succ m ih =>
        intro i n z τ' h hn hz hr
        obtain ⟨n, rfl⟩ := y_pos hn
        obtain ⟨τ3, k1, k2, k3⟩ := ym_know (n := i) hr hW hp (by omega)
        obtain ⟨τ4, k4, k5, k6⟩ := ym_know (n := z) k2 hW hp (by omega)
        have b1 := hb i (by omega); have b2 := hb z (by omega)
        unfold p_X12_enough_19 y_am; simp (disch := omega) only [y_lit, y_n1, nI_add, pk_mul, j_lt, j_b1_s, j_b2_s, j_b3_s, j_b0_s, y_bo, y_bo1, y_bo0, y_i0, y_i1, Classical.not_not, nI_clamp, y_ix, y_lt, y_le, y_eq, y_nP, y_nPs, y_ltP, y_ltQ, y_ltPP, y_eqP, y_eqQ, y_eqPP, if_pos, if_neg, ite_true, ite_false, not_true_eq_false, not_false_eq_true, and_true, true_and, and_false, false_and, or_true, true_or, or_false, false_or, k1, k4]
        by_cases c : y_H b (y_u (y_pq b p) 3 z) < y_H b (y_u (y_pq b p) 3 i)
        · obtain ⟨σ4, l1, l2⟩ := ih (i + 1) n i τ4 (by omega) (by omega) (by omega) k5
          simp (disch := omega) only [y_lit, y_n1, nI_add, pk_mul, j_lt, j_b1_s, j_b2_s, j_b3_s, j_b0_s, y_bo, y_bo1, y_bo0, y_i0, y_i1, Classical.not_not, nI_clamp, y_ix, y_lt, y_le, y_eq, y_nP, y_nPs, y_ltP, y_ltQ, y_ltPP, y_eqP, y_eqQ, y_eqPP, if_pos, if_neg, ite_true, ite_false, not_true_eq_false, not_false_eq_true, and_true, true_and, and_false, false_and, or_true, true_or, or_false, false_or]
          exact ⟨σ4, l1, k3.trans (k6.trans l2)⟩
        · obtain ⟨σ4, l1, l2⟩ := ih (i + 1) n z τ4 (by omega) (by omega) (by omega) k5
          simp (disch := omega) only [y_lit, y_n1, nI_add, pk_mul, j_lt, j_b1_s, j_b2_s, j_b3_s, j_b0_s, y_bo, y_bo1, y_bo0, y_i0, y_i1, Classical.not_not, nI_clamp, y_ix, y_lt, y_le, y_eq, y_nP, y_nPs, y_ltP, y_ltQ, y_ltPP, y_eqP, y_eqQ, y_eqPP, if_pos, if_neg, ite_true, ite_false, not_true_eq_false, not_false_eq_true, and_true, true_and, and_false, false_and, or_true, true_or, or_false, false_or]
          exact ⟨σ4, l1, k3.trans (k6.trans l2)⟩
    obtain ⟨σ3, c1, c2⟩ := kc 9 1 j_F 0 0 σ2 (by omega) (y_F (by omega)) (by omega) (by omega) g2
    obtain ⟨τ3, d1, d2⟩ := km 9 1 j_F 0 τ1 (by omega) (y_F (by omega)) (by omega) f2
    refine ⟨nI (y_am (fun n => y_H b (y_u (y_pq b p) 3 n)) 9 1 0), σ3, τ3, ?_, ?_, y_done hR (e3.trans ((g3.trans c2).wide (by omega) (by omega))) (f3.trans d2)⟩
    · unfold f_X11_enough; simp (disch := omega) only [y_lit, y_n1, nI_add, pk_mul, j_lt, j_b1_s, j_b2_s, j_b3_s, j_b0_s, y_bo, y_bo1, y_bo0, y_i0, y_i1, Classical.not_not, nI_clamp, y_ix, y_lt, y_le, y_eq, y_nP, y_nPs, y_ltP, y_ltQ, y_ltPP, y_eqP, y_eqQ, y_eqPP, if_pos, if_neg, ite_true, ite_false, not_true_eq_false, not_false_eq_true, and_true, true_and, and_false, false_and, or_true, true_or, or_false, false_or, e1, g1, c1]
    · unfold f_X12_enough; simp (disch := omega) only [y_lit, y_n1, nI_add, pk_mul, j_lt, j_b1_s, j_b2_s, j_b3_s, j_b0_s, y_bo, y_bo1, y_bo0, y_i0, y_i1, Classical.not_not, nI_clamp, y_ix, y_lt, y_le, y_eq, y_nP, y_nPs, y_ltP, y_ltQ, y_ltPP, y_eqP, y_eqQ, y_eqPP, if_pos, if_neg, ite_true, ite_false, not_true_eq_false, not_false_eq_true, and_true, true_and, and_false, false_and, or_true, true_or, or_false, false_or, ym_isPlayer hM hW, if_pos h, f1, d1]
  · refine ⟨-2, σ, τ, ?_, ?_, hR⟩
    · unfold f_X11_enough; rw [yc_unready hN hW h]; simp (disch := omega) only [y_lit, y_n1, nI_add, pk_mul, j_lt, j_b1_s, j_b2_s, j_b3_s, j_b0_s, y_bo, y_bo1, y_bo0, y_i0, y_i1, Classical.not_not, nI_clamp, y_ix, y_lt, y_le, y_eq, y_nP, y_nPs, y_ltP, y_ltQ, y_ltPP, y_eqP, y_eqQ, y_eqPP, if_pos, if_neg, ite_true, ite_false, not_true_eq_false, not_false_eq_true, and_true, true_and, and_false, false_and, or_true, true_or, or_false, false_or]
    · unfold f_X12_enough; simp (disch := omega) only [y_lit, y_n1, nI_add, pk_mul, j_lt, j_b1_s, j_b2_s, j_b3_s, j_b0_s, y_bo, y_bo1, y_bo0, y_i0, y_i1, Classical.not_not, nI_clamp, y_ix, y_lt, y_le, y_eq, y_nP, y_nPs, y_ltP, y_ltQ, y_ltPP, y_eqP, y_eqQ, y_eqPP, if_pos, if_neg, ite_true, ite_false, not_true_eq_false, not_false_eq_true, and_true, true_and, and_false, false_and, or_true, true_or, or_false, false_or, ym_isPlayer hM hW, h]
theorem z_slack (hR : j_Rel σ τ) (a1 : Int32) : ∃ v σ1 τ1, f_X11_slack a1 σ = some (v, σ1) ∧ f_X12_slack a1 τ = some (v, τ1) ∧ j_Rel σ1 τ1 := by
  obtain ⟨b, hW, hN, hM, hK⟩ := id hR
  by_cases h : y_rg a1 (b 6)
  · obtain ⟨p, hp, rfl⟩ := y_of _ _ h.1 h.2
    have h9 := hW.on0 (Or.inr (Or.inr (Or.inr (Or.inl (by omega : 0 < b 6)))))
    have hq := y_pqv hW hp
    obtain ⟨σ1, e1, e2, e3⟩ := yc_ready hN hW hp
    obtain ⟨τ1, f1, f2, f3⟩ := ym_laid hM hW
    obtain ⟨σ2, g1, g2, g3⟩ := yc_lagg (n := 0) e2 hW h9 hq (by omega)
    obtain ⟨τ2, w1, w2, w3⟩ := ym_lagg (n := 0) f2 hW hp (by omega)
    have hb : ∀ n, n ≤ 40 → y_H b (y_u (y_pq b p) 1 n) ≤ 120 := fun n hn => y_H_le hW (y_vq1 hq hn)
    have both : ∀ m i n z x σ' τ', i + m = 21 → m < n → z < 21 → x < 21 → y_ra σ' b (y_u (y_pq b p) 1 x) → y_ldy τ' b → ∃ v σ'' τ'', p_X11_slack_22 (nI (y_H b (y_u (y_pq b p) 1 0))) n (nI z) (nI i) σ' = some (v, σ'') ∧ y_fr 28 34 σ' σ'' ∧ p_X12_slack_27 (nI p) (nI (y_H b (y_u (y_pq b p) 1 0))) n (nI z) (nI i) τ' = some (v, τ'') ∧ y_fm 18 42 80 93 τ' τ'' := by
      intro m
      induction m with
      | zero =>
        intro i n z x σ' τ' h hn hz hx hr hl
        obtain ⟨n, rfl⟩ := y_pos hn
        refine ⟨nI z, σ', τ', ?_, y_fr.refl, ?_, y_fm.refl⟩
        · unfold p_X11_slack_22; simp (disch := omega) only [y_lit, y_n1, nI_add, pk_mul, j_lt, j_b1_s, j_b2_s, j_b3_s, j_b0_s, y_bo, y_bo1, y_bo0, y_i0, y_i1, Classical.not_not, nI_clamp, y_ix, y_lt, y_le, y_eq, y_nP, y_nPs, y_ltP, y_ltQ, y_ltPP, y_eqP, y_eqQ, y_eqPP, if_pos, if_neg, ite_true, ite_false, not_true_eq_false, not_false_eq_true, and_true, true_and, and_false, false_and, or_true, true_or, or_false, false_or]
        · unfold p_X12_slack_27; simp (disch := omega) only [y_lit, y_n1, nI_add, pk_mul, j_lt, j_b1_s, j_b2_s, j_b3_s, j_b0_s, y_bo, y_bo1, y_bo0, y_i0, y_i1, Classical.not_not, nI_clamp, y_ix, y_lt, y_le, y_eq, y_nP, y_nPs, y_ltP, y_ltQ, y_ltPP, y_eqP, y_eqQ, y_eqPP, if_pos, if_neg, ite_true, ite_false, not_true_eq_false, not_false_eq_true, and_true, true_and, and_false, false_and, or_true, true_or, or_false, false_or]
      | succ m ih =>
        intro i n z x σ' τ' h hn hz hx hr hl
        obtain ⟨n, rfl⟩ := y_pos hn
        obtain ⟨σ3, k1, k2, k3⟩ := yc_lagg (n := i) hr hW h9 (y_vq1 hq (by omega)) (by omega)
        rw [y_uu] at k1 k2
        obtain ⟨τ3, l1, l2, l3⟩ := ym_lagg (n := i) hl hW hp (by omega)
        have b1 := hb i (by omega); have b2 := hb 0 (by omega)
        unfold p_X11_slack_22 p_X12_slack_27; simp (disch := omega) only [y_lit, y_n1, nI_add, pk_mul, j_lt, j_b1_s, j_b2_s, j_b3_s, j_b0_s, y_bo, y_bo1, y_bo0, y_i0, y_i1, Classical.not_not, nI_clamp, y_ix, y_lt, y_le, y_eq, y_nP, y_nPs, y_ltP, y_ltQ, y_ltPP, y_eqP, y_eqQ, y_eqPP, if_pos, if_neg, ite_true, ite_false, not_true_eq_false, not_false_eq_true, and_true, true_and, and_false, false_and, or_true, true_or, or_false, false_or, k1, l1]
        by_cases c : y_H b (y_u (y_pq b p) 1 i) = y_H b (y_u (y_pq b p) 1 0)
        · obtain ⟨v, σ4, τ4, m1, m2, m3, m4⟩ := ih (i + 1) n i i σ3 τ3 (by omega) (by omega) (by omega) (by omega) k2 l2
          simp (disch := omega) only [y_lit, y_n1, nI_add, pk_mul, j_lt, j_b1_s, j_b2_s, j_b3_s, j_b0_s, y_bo, y_bo1, y_bo0, y_i0, y_i1, Classical.not_not, nI_clamp, y_ix, y_lt, y_le, y_eq, y_nP, y_nPs, y_ltP, y_ltQ, y_ltPP, y_eqP, y_eqQ, y_eqPP, if_pos, if_neg, ite_true, ite_false, not_true_eq_false, not_false_eq_true, and_true, true_and, and_false, false_and, or_true, true_or, or_false, false_or]
          exact ⟨v, σ4, τ4, m1, k3.trans m2, m3, l3.trans m4⟩
        · obtain ⟨v, σ4, τ4, m1, m2, m3, m4⟩ := ih (i + 1) n z i σ3 τ3 (by omega) (by omega) (by omega) (by omega) k2 l2
          simp (disch := omega) only [y_lit, y_n1, nI_add, pk_mul, j_lt, j_b1_s, j_b2_s, j_b3_s, j_b0_s, y_bo, y_bo1, y_bo0, y_i0, y_i1, Classical.not_not, nI_clamp, y_ix, y_lt, y_le, y_eq, y_nP, y_nPs, y_ltP, y_ltQ, y_ltPP, y_eqP, y_eqQ, y_eqPP, if_pos, if_neg, ite_true, ite_false, not_true_eq_false, not_false_eq_true, and_true, true_and, and_false, false_and, or_true, true_or, or_false, false_or]
          exact ⟨v, σ4, τ4, m1, k3.trans m2, m3, l3.trans m4⟩
    obtain ⟨v, σ3, τ3, c1, c2, d1, d2⟩ := both 20 1 j_F 0 0 σ2 τ2 (by omega) (y_F (by omega)) (by omega) (by omega) g2 w2
    refine ⟨v, σ3, τ3, ?_, ?_, y_done hR (e3.trans ((g3.trans c2).wide (by omega) (by omega))) (f3.trans (w3.trans d2))⟩
    · unfold f_X11_slack; simp (disch := omega) only [y_lit, y_n1, nI_add, pk_mul, j_lt, j_b1_s, j_b2_s, j_b3_s, j_b0_s, y_bo, y_bo1, y_bo0, y_i0, y_i1, Classical.not_not, nI_clamp, y_ix, y_lt, y_le, y_eq, y_nP, y_nPs, y_ltP, y_ltQ, y_ltPP, y_eqP, y_eqQ, y_eqPP, if_pos, if_neg, ite_true, ite_false, not_true_eq_false, not_false_eq_true, and_true, true_and, and_false, false_and, or_true, true_or, or_false, false_or, e1, g1, c1]
    · unfold f_X12_slack; simp (disch := omega) only [y_lit, y_n1, nI_add, pk_mul, j_lt, j_b1_s, j_b2_s, j_b3_s, j_b0_s, y_bo, y_bo1, y_bo0, y_i0, y_i1, Classical.not_not, nI_clamp, y_ix, y_lt, y_le, y_eq, y_nP, y_nPs, y_ltP, y_ltQ, y_ltPP, y_eqP, y_eqQ, y_eqPP, if_pos, if_neg, ite_true, ite_false, not_true_eq_false, not_false_eq_true, and_true, true_and, and_false, false_and, or_true, true_or, or_false, false_or, ym_isPlayer hM hW, if_pos h, f1, w1, d1]
  · refine ⟨-2, σ, τ, ?_, ?_, hR⟩
    · unfold f_X11_slack; rw [yc_unready hN hW h]; simp (disch := omega) only [y_lit, y_n1, nI_add, pk_mul, j_lt, j_b1_s, j_b2_s, j_b3_s, j_b0_s, y_bo, y_bo1, y_bo0, y_i0, y_i1, Classical.not_not, nI_clamp, y_ix, y_lt, y_le, y_eq, y_nP, y_nPs, y_ltP, y_ltQ, y_ltPP, y_eqP, y_eqQ, y_eqPP, if_pos, if_neg, ite_true, ite_false, not_true_eq_false, not_false_eq_true, and_true, true_and, and_false, false_and, or_true, true_or, or_false, false_or]
    · unfold f_X12_slack; simp (disch := omega) only [y_lit, y_n1, nI_add, pk_mul, j_lt, j_b1_s, j_b2_s, j_b3_s, j_b0_s, y_bo, y_bo1, y_bo0, y_i0, y_i1, Classical.not_not, nI_clamp, y_ix, y_lt, y_le, y_eq, y_nP, y_nPs, y_ltP, y_ltQ, y_ltPP, y_eqP, y_eqQ, y_eqPP, if_pos, if_neg, ite_true, ite_false, not_true_eq_false, not_false_eq_true, and_true, true_and, and_false, false_and, or_true, true_or, or_false, false_or, ym_isPlayer hM hW, h]
theorem z_waits (hR : j_Rel σ τ) (a1 a2 : Int32) : ∃ v σ1 τ1, f_X11_waits a1 a2 σ = some (v, σ1) ∧ f_X12_waits a1 a2 τ = some (v, τ1) ∧ j_Rel σ1 τ1 := by
  obtain ⟨b, hW, hN, hM, hK⟩ := id hR
  have h4 := hW.ho
  by_cases h : y_rg a1 (b 6)
  · by_cases h2 : y_rg a2 2
    · obtain ⟨p, hp, rfl⟩ := y_of _ _ h.1 h.2
      have h9 := hW.on0 (Or.inr (Or.inr (Or.inr (Or.inl (by omega : 0 < b 6)))))
      have ho := hW.on1 h9
      have hq := y_pqv hW hp
      obtain ⟨σ1, e1, e2, e3⟩ := yc_ready hN hW hp
      obtain ⟨τ1, f1, f2, f3⟩ := ym_laid hM hW
      have hb : ∀ n, n < y_ho b → y_H b (y_u (y_pq b p) 4 n) ≤ 120 := fun n hn => y_H_le hW (y_vq4 hq hn)
      have both : ∀ m i n n' z x σ' τ', i + m = y_ho b → m < n → m < n' → z < y_ho b → x < y_ho b → y_ra σ' b (y_u (y_pq b p) 4 x) → y_ldy τ' b → ∃ v σ'' τ'', v < y_ho b ∧ p_X11_waits_28 a2 n (nI z) (nI (y_H b (y_u (y_pq b p) 4 z))) (nI i) σ' = some (nI v, nI (y_H b (y_u (y_pq b p) 4 v)), σ'') ∧ y_fr 28 34 σ' σ'' ∧ p_X12_waits_30 (nI p) a2 n' (nI z) (nI i) τ' = some (nI v, τ'') ∧ y_ldy τ'' b ∧ y_fm 18 42 80 93 τ' τ'' := by
        intro m
        induction m with
        | zero =>
          intro i n n' z x σ' τ' h hn hn' hz hx hr hl
          obtain ⟨n, rfl⟩ := y_pos hn; obtain ⟨n', rfl⟩ := y_pos hn'
          refine ⟨z, σ', τ', hz, ?_, y_fr.refl, ?_, hl, y_fm.refl⟩
          · unfold p_X11_waits_28; simp (disch := omega) only [y_lit, y_n1, nI_add, pk_mul, j_lt, j_b1_s, j_b2_s, j_b3_s, j_b0_s, y_bo, y_bo1, y_bo0, y_i0, y_i1, Classical.not_not, nI_clamp, y_ix, y_lt, y_le, y_eq, y_nP, y_nPs, y_ltP, y_ltQ, y_ltPP, y_eqP, y_eqQ, y_eqPP, if_pos, if_neg, ite_true, ite_false, not_true_eq_false, not_false_eq_true, and_true, true_and, and_false, false_and, or_true, true_or, or_false, false_or, yc_holes hr.1]
          · unfold p_X12_waits_30; simp (disch := omega) only [y_lit, y_n1, nI_add, pk_mul, j_lt, j_b1_s, j_b2_s, j_b3_s, j_b0_s, y_bo, y_bo1, y_bo0, y_i0, y_i1, Classical.not_not, nI_clamp, y_ix, y_lt, y_le, y_eq, y_nP, y_nPs, y_ltP, y_ltQ, y_ltPP, y_eqP, y_eqQ, y_eqPP, if_pos, if_neg, ite_true, ite_false, not_true_eq_false, not_false_eq_true, and_true, true_and, and_false, false_and, or_true, true_or, or_false, false_or, ym_holes hl.1]
        | succ m ih =>
          intro i n n' z x σ' τ' h hn hn' hz hx hr hl
          obtain ⟨n, rfl⟩ := y_pos hn; obtain ⟨n', rfl⟩ := y_pos hn'
          obtain ⟨σ3, k1, k2, k3⟩ := yc_ra (hr.set (k := 4) (n := i)) hW h9 (y_vq4 (y_vq4 hq hx) (by omega))
          rw [y_uu] at k1 k2
          obtain ⟨τ3, l1, l2, l3⟩ := ym_wait (n := i) hl hW hp (by omega)
          obtain ⟨τ4, l4, l5, l6⟩ := ym_wait (n := z) l2 hW hp (by omega)
          have b1 := hb i (by omega); have b2 := hb z (by omega)
          have k3' : y_fr 28 34 σ' σ3 := (y_fr.refl.si (by omega) (by omega)).trans k3
          unfold p_X11_waits_28 p_X12_waits_30; rw [y_m1]; simp (disch := omega) only [y_lit, y_n1, nI_add, pk_mul, j_lt, j_b1_s, j_b2_s, j_b3_s, j_b0_s, y_bo, y_bo1, y_bo0, y_i0, y_i1, Classical.not_not, nI_clamp, y_ix, y_lt, y_le, y_eq, y_nP, y_nPs, y_ltP, y_ltQ, y_ltPP, y_eqP, y_eqQ, y_eqPP, if_pos, if_neg, ite_true, ite_false, not_true_eq_false, not_false_eq_true, and_true, true_and, and_false, false_and, or_true, true_or, or_false, false_or, yc_holes hr.1, ym_holes hl.1, k1, l1, l4]
          by_cases c : y_H b (y_u (y_pq b p) 4 z) < y_H b (y_u (y_pq b p) 4 i)
          · obtain ⟨v, σ4, τ5, m0, m1, m2, m3, m4, m5⟩ := ih (i + 1) n n' i i σ3 τ4 (by omega) (by omega) (by omega) (by omega) (by omega) k2 l5
            simp (disch := omega) only [y_lit, y_n1, nI_add, pk_mul, j_lt, j_b1_s, j_b2_s, j_b3_s, j_b0_s, y_bo, y_bo1, y_bo0, y_i0, y_i1, Classical.not_not, nI_clamp, y_ix, y_lt, y_le, y_eq, y_nP, y_nPs, y_ltP, y_ltQ, y_ltPP, y_eqP, y_eqQ, y_eqPP, if_pos, if_neg, ite_true, ite_false, not_true_eq_false, not_false_eq_true, and_true, true_and, and_false, false_and, or_true, true_or, or_false, false_or]
            exact ⟨v, σ4, τ5, m0, m1, k3'.trans m2, m3, m4, l3.trans (l6.trans m5)⟩
          · obtain ⟨v, σ4, τ5, m0, m1, m2, m3, m4, m5⟩ := ih (i + 1) n n' z i σ3 τ4 (by omega) (by omega) (by omega) (by omega) (by omega) k2 l5
            simp (disch := omega) only [y_lit, y_n1, nI_add, pk_mul, j_lt, j_b1_s, j_b2_s, j_b3_s, j_b0_s, y_bo, y_bo1, y_bo0, y_i0, y_i1, Classical.not_not, nI_clamp, y_ix, y_lt, y_le, y_eq, y_nP, y_nPs, y_ltP, y_ltQ, y_ltPP, y_eqP, y_eqQ, y_eqPP, if_pos, if_neg, ite_true, ite_false, not_true_eq_false, not_false_eq_true, and_true, true_and, and_false, false_and, or_true, true_or, or_false, false_or]
            exact ⟨v, σ4, τ5, m0, m1, k3'.trans m2, m3, m4, l3.trans (l6.trans m5)⟩
      obtain ⟨σ2, k1, k2, k3⟩ := yc_ra ((y_ra_of e2).set (k := 4) (n := 0)) hW h9 (y_vq4 hq (by omega))
      have k3' : y_fr 28 34 σ1 σ2 := (y_fr.refl.si (by omega) (by omega)).trans k3
      obtain ⟨v, σ3, τ3, m0, c1, c2, d1, d2, d3⟩ := both (y_ho b - 1) 1 4999 j_F 0 0 σ2 τ1 (by omega) (by omega) (y_F (by omega)) (by omega) (by omega) k2 f2
      obtain ⟨τ4, l1, l2, l3⟩ := ym_wait (n := v) d2 hW hp (by omega)
      have hr := y_done hR (e3.trans ((k3'.trans c2).wide (by omega) (by omega))) (f3.trans d3)
      have hr2 := y_done hR (e3.trans ((k3'.trans c2).wide (by omega) (by omega))) (f3.trans (d3.trans l3))
      have b0 := hb 0 (by omega)
      have w0 : p_X11_waits_28 a2 j_F (nI 0) (nP 0) (nI 0) σ1 = some (nI v, nI (y_H b (y_u (y_pq b p) 4 v)), σ3) := by
        rw [show j_F = 4999 + 1 from rfl]
        unfold p_X11_waits_28; rw [y_m1]; simp (disch := omega) only [y_lit, y_n1, nI_add, pk_mul, j_lt, j_b1_s, j_b2_s, j_b3_s, j_b0_s, y_bo, y_bo1, y_bo0, y_i0, y_i1, Classical.not_not, nI_clamp, y_ix, y_lt, y_le, y_eq, y_nP, y_nPs, y_ltP, y_ltQ, y_ltPP, y_eqP, y_eqQ, y_eqPP, if_pos, if_neg, ite_true, ite_false, not_true_eq_false, not_false_eq_true, and_true, true_and, and_false, false_and, or_true, true_or, or_false, false_or, yc_holes e2.1, k1]
        exact c1
      by_cases c : a2 = nI 0
      · subst c
        refine ⟨nI v, σ3, τ3, ?_, ?_, hr⟩
        · unfold f_X11_waits; simp (disch := omega) only [y_lit, y_n1, nI_add, pk_mul, j_lt, j_b1_s, j_b2_s, j_b3_s, j_b0_s, y_bo, y_bo1, y_bo0, y_i0, y_i1, Classical.not_not, nI_clamp, y_ix, y_lt, y_le, y_eq, y_nP, y_nPs, y_ltP, y_ltQ, y_ltPP, y_eqP, y_eqQ, y_eqPP, if_pos, if_neg, ite_true, ite_false, not_true_eq_false, not_false_eq_true, and_true, true_and, and_false, false_and, or_true, true_or, or_false, false_or, e1, w0]
        · unfold f_X12_waits; simp (disch := omega) only [y_lit, y_n1, nI_add, pk_mul, j_lt, j_b1_s, j_b2_s, j_b3_s, j_b0_s, y_bo, y_bo1, y_bo0, y_i0, y_i1, Classical.not_not, nI_clamp, y_ix, y_lt, y_le, y_eq, y_nP, y_nPs, y_ltP, y_ltQ, y_ltPP, y_eqP, y_eqQ, y_eqPP, if_pos, if_neg, ite_true, ite_false, not_true_eq_false, not_false_eq_true, and_true, true_and, and_false, false_and, or_true, true_or, or_false, false_or, ym_isPlayer hM hW, if_pos h, y_lit64, y_in, f1, d1]
      · refine ⟨nI (y_H b (y_u (y_pq b p) 4 v)), σ3, τ4, ?_, ?_, hr2⟩
        · unfold f_X11_waits; simp (disch := omega) only [y_lit, y_n1, nI_add, pk_mul, j_lt, j_b1_s, j_b2_s, j_b3_s, j_b0_s, y_bo, y_bo1, y_bo0, y_i0, y_i1, Classical.not_not, nI_clamp, y_ix, y_lt, y_le, y_eq, y_nP, y_nPs, y_ltP, y_ltQ, y_ltPP, y_eqP, y_eqQ, y_eqPP, if_pos, if_neg, ite_true, ite_false, not_true_eq_false, not_false_eq_true, and_true, true_and, and_false, false_and, or_true, true_or, or_false, false_or, y_c3, h2, e1, w0, c]
        · unfold f_X12_waits; simp (disch := omega) only [y_lit, y_n1, nI_add, pk_mul, j_lt, j_b1_s, j_b2_s, j_b3_s, j_b0_s, y_bo, y_bo1, y_bo0, y_i0, y_i1, Classical.not_not, nI_clamp, y_ix, y_lt, y_le, y_eq, y_nP, y_nPs, y_ltP, y_ltQ, y_ltPP, y_eqP, y_eqQ, y_eqPP, if_pos, if_neg, ite_true, ite_false, not_true_eq_false, not_false_eq_true, and_true, true_and, and_false, false_and, or_true, true_or, or_false, false_or, ym_isPlayer hM hW, if_pos h, y_lit64, y_in, y_c3, h2, f1, d1, c, l1]
    · refine ⟨-2, σ, τ, ?_, ?_, hR⟩
      · unfold f_X11_waits; simp (disch := omega) only [y_lit, y_n1, nI_add, pk_mul, j_lt, j_b1_s, j_b2_s, j_b3_s, j_b0_s, y_bo, y_bo1, y_bo0, y_i0, y_i1, Classical.not_not, nI_clamp, y_ix, y_lt, y_le, y_eq, y_nP, y_nPs, y_ltP, y_ltQ, y_ltPP, y_eqP, y_eqQ, y_eqPP, if_pos, if_neg, ite_true, ite_false, not_true_eq_false, not_false_eq_true, and_true, true_and, and_false, false_and, or_true, true_or, or_false, false_or, y_c3, h2]
      · unfold f_X12_waits; simp (disch := omega) only [y_lit, y_n1, nI_add, pk_mul, j_lt, j_b1_s, j_b2_s, j_b3_s, j_b0_s, y_bo, y_bo1, y_bo0, y_i0, y_i1, Classical.not_not, nI_clamp, y_ix, y_lt, y_le, y_eq, y_nP, y_nPs, y_ltP, y_ltQ, y_ltPP, y_eqP, y_eqQ, y_eqPP, if_pos, if_neg, ite_true, ite_false, not_true_eq_false, not_false_eq_true, and_true, true_and, and_false, false_and, or_true, true_or, or_false, false_or, ym_isPlayer hM hW, y_lit64, y_in, y_c3, h2]
  · refine ⟨-2, σ, τ, ?_, ?_, hR⟩
    · unfold f_X11_waits; rw [yc_unready hN hW h]; simp (disch := omega) only [y_lit, y_n1, nI_add, pk_mul, j_lt, j_b1_s, j_b2_s, j_b3_s, j_b0_s, y_bo, y_bo1, y_bo0, y_i0, y_i1, Classical.not_not, nI_clamp, y_ix, y_lt, y_le, y_eq, y_nP, y_nPs, y_ltP, y_ltQ, y_ltPP, y_eqP, y_eqQ, y_eqPP, if_pos, if_neg, ite_true, ite_false, not_true_eq_false, not_false_eq_true, and_true, true_and, and_false, false_and, or_true, true_or, or_false, false_or]
      split <;> rfl
    · unfold f_X12_waits; simp (disch := omega) only [y_lit, y_n1, nI_add, pk_mul, j_lt, j_b1_s, j_b2_s, j_b3_s, j_b0_s, y_bo, y_bo1, y_bo0, y_i0, y_i1, Classical.not_not, nI_clamp, y_ix, y_lt, y_le, y_eq, y_nP, y_nPs, y_ltP, y_ltQ, y_ltPP, y_eqP, y_eqQ, y_eqPP, if_pos, if_neg, ite_true, ite_false, not_true_eq_false, not_false_eq_true, and_true, true_and, and_false, false_and, or_true, true_or, or_false, false_or, ym_isPlayer hM hW, h]
end Z
/-! ===== missed, rash, look, line, tickets, prize ===== -/
theorem y_pop2 : ∀ h, h < 12 → ∀ o, o < 13 → o ≠ h + 1 → y_pop 12 (2 ^ h ||| (if o = 0 then 0 else 2 ^ (o - 1))) = if o = 0 then 1 else 2 := by decide
theorem y_m0 (x : Int32) : x - 1 = (nI 0 - 1) + x := by
  apply Int32.toBitVec_inj.mp
  show x.toBitVec - 1#32 = ((nI 0).toBitVec - 1#32) + x.toBitVec
  rw [show (nI 0).toBitVec = 0#32 from rfl, BitVec.zero_sub, BitVec.add_comm, BitVec.sub_eq_add_neg]
def y_ms (g R : Nat → Nat) : Nat → Nat → Nat
  | 0, _ => 0
  | m + 1, i => if g (3 * i + 2) = 0 ∧ R (1001 + 2 * i) < (if g (3 * i + 1) = 0 then 1 else 2) then i + 1 else y_ms g R m (i + 1)
section Z
variable {σ τ : j_G}
theorem z_missed (hR : j_Rel σ τ) (a1 : Int32) : ∃ v σ1 τ1, f_X11_missed a1 σ = some (v, σ1) ∧ f_X12_missed a1 τ = some (v, τ1) ∧ j_Rel σ1 τ1 := by
  obtain ⟨b, hW, hN, hM, hK⟩ := id hR
  have h4 := hW.ho
  by_cases h : y_rg a1 (b 6)
  · obtain ⟨p, hp, rfl⟩ := y_of _ _ h.1 h.2
    have hv := y_dg_vg hW (b 8)
    obtain ⟨σ1, e1, e2, e3, e4⟩ := yc_runOf hN hW hp
    obtain ⟨τ1, f1, f2, f3, f4, f5⟩ := ym_ras hM hW hp
    have hr := y_done hR e4 f5
    have br : y_br b (y_own b p) 120 := y_run_br hW hv (y_pqv hW hp)
    have hs := hv.1
    obtain ⟨_, hc, _⟩ := id e2
    obtain ⟨_, hg⟩ := id f2
    generalize y_own b p = R at *
    generalize y_gs b = s at *
    generalize y_dg b (b 8) = g at *
    have kc : ∀ m i n, i + m = s → m < n → p_X9_firstMissed_2 σ1 n (nI i) = some (nP (y_ms g R m i)) := by
      intro m
      induction m with
      | zero =>
        intro i n h hn
        obtain ⟨n, rfl⟩ := y_pos hn
        unfold p_X9_firstMissed_2 y_ms; simp (disch := omega) only [y_lit, y_n1, nI_add, pk_mul, j_lt, j_b1_s, j_b2_s, j_b3_s, j_b0_s, y_bo, y_bo1, y_bo0, y_i0, y_i1, Classical.not_not, nI_clamp, y_ix, y_lt, y_le, y_eq, y_nP, y_nPs, y_ltP, y_ltQ, y_ltPP, y_eqP, y_eqQ, y_eqPP, if_pos, if_neg, ite_true, ite_false, not_true_eq_false, not_false_eq_true, and_true, true_and, and_false, false_and, or_true, true_or, or_false, false_or, hc.1]
      | succ m ih =>
        intro i n h hn
        obtain ⟨n, rfl⟩ := y_pos hn
        have ci := hc.2 i (by omega)
        have vi := hv.2 i (by omega)
        have ri := (e3.2.2 i (by omega)).2
        have bi := br.2.2.2.2.2.2.2 i
        have hb := y_hb_lt hW hv (show i < s by omega)
        have pp := y_pop2 (g (3 * i)) (by omega) (g (3 * i + 1)) (by omega) vi.2.2.1
        rw [show (2 ^ g (3 * i) ||| (if g (3 * i + 1) = 0 then 0 else 2 ^ (g (3 * i + 1) - 1))) = y_hb g i from rfl] at pp
        have p3 : y_pop 12 (y_hb g i) < 3 := by rw [pp]; split <;> omega
        unfold p_X9_firstMissed_2 y_ms; simp (disch := omega) only [y_lit, y_n1, nI_add, pk_mul, j_lt, j_b1_s, j_b2_s, j_b3_s, j_b0_s, y_bo, y_bo1, y_bo0, y_i0, y_i1, Classical.not_not, nI_clamp, y_ix, y_lt, y_le, y_eq, y_nP, y_nPs, y_ltP, y_ltQ, y_ltPP, y_eqP, y_eqQ, y_eqPP, if_pos, if_neg, ite_true, ite_false, not_true_eq_false, not_false_eq_true, and_true, true_and, and_false, false_and, or_true, true_or, or_false, false_or, hc.1, ci]
        rw [ih (i + 1) n (by omega) (by omega)]
        by_cases c : g (3 * i + 2) = 0
        · simp (disch := omega) only [y_lit, y_n1, nI_add, pk_mul, j_lt, j_b1_s, j_b2_s, j_b3_s, j_b0_s, y_bo, y_bo1, y_bo0, y_i0, y_i1, Classical.not_not, nI_clamp, y_ix, y_lt, y_le, y_eq, y_nP, y_nPs, y_ltP, y_ltQ, y_ltPP, y_eqP, y_eqQ, y_eqPP, if_pos, if_neg, ite_true, ite_false, not_true_eq_false, not_false_eq_true, and_true, true_and, and_false, false_and, or_true, true_or, or_false, false_or, yc_holesOf hc hv hW, y_bcn, ri]
          rw [pp]
          by_cases c2 : R (1001 + 2 * i) < (if g (3 * i + 1) = 0 then 1 else 2)
          · rw [if_pos c2, if_pos ⟨c, c2⟩, y_nPs]
          · rw [if_neg c2, if_neg (fun z => c2 z.2)]
        · rw [if_neg (fun z : g (3 * i + 2) = 0 ∧ _ => c z.1)]; simp (disch := omega) only [y_lit, y_n1, nI_add, pk_mul, j_lt, j_b1_s, j_b2_s, j_b3_s, j_b0_s, y_bo, y_bo1, y_bo0, y_i0, y_i1, Classical.not_not, nI_clamp, y_ix, y_lt, y_le, y_eq, y_nP, y_nPs, y_ltP, y_ltQ, y_ltPP, y_eqP, y_eqQ, y_eqPP, if_pos, if_neg, ite_true, ite_false, not_true_eq_false, not_false_eq_true, and_true, true_and, and_false, false_and, or_true, true_or, or_false, false_or]
    have km : ∀ m i n, i + m = s → m < n → p_X12_missed_18 τ1 n (nI i) = some (nP (y_ms g R m i), τ1) := by
      intro m
      induction m with
      | zero =>
        intro i n h hn
        obtain ⟨n, rfl⟩ := y_pos hn
        unfold p_X12_missed_18 y_ms; simp (disch := omega) only [y_lit, y_n1, nI_add, pk_mul, j_lt, j_b1_s, j_b2_s, j_b3_s, j_b0_s, y_bo, y_bo1, y_bo0, y_i0, y_i1, Classical.not_not, nI_clamp, y_ix, y_lt, y_le, y_eq, y_nP, y_nPs, y_ltP, y_ltQ, y_ltPP, y_eqP, y_eqQ, y_eqPP, if_pos, if_neg, ite_true, ite_false, not_true_eq_false, not_false_eq_true, and_true, true_and, and_false, false_and, or_true, true_or, or_false, false_or, hg.1]
      | succ m ih =>
        intro i n h hn
        obtain ⟨n, rfl⟩ := y_pos hn
        have gi := hg.2 i (by omega)
        have vi := hv.2 i (by omega)
        have ri := (f3.2.2 i (by omega)).2
        have bi := br.2.2.2.2.2.2.2 i
        unfold p_X12_missed_18 y_ms f_X12_inGame; simp (disch := omega) only [y_lit, y_n1, nI_add, pk_mul, j_lt, j_b1_s, j_b2_s, j_b3_s, j_b0_s, y_bo, y_bo1, y_bo0, y_i0, y_i1, Classical.not_not, nI_clamp, y_ix, y_lt, y_le, y_eq, y_nP, y_nPs, y_ltP, y_ltQ, y_ltPP, y_eqP, y_eqQ, y_eqPP, if_pos, if_neg, ite_true, ite_false, not_true_eq_false, not_false_eq_true, and_true, true_and, and_false, false_and, or_true, true_or, or_false, false_or, hg.1, gi]
        rw [ih (i + 1) n (by omega) (by omega)]
        by_cases c : g (3 * i + 2) = 0
        · simp (disch := omega) only [y_lit, y_n1, nI_add, pk_mul, j_lt, j_b1_s, j_b2_s, j_b3_s, j_b0_s, y_bo, y_bo1, y_bo0, y_i0, y_i1, Classical.not_not, nI_clamp, y_ix, y_lt, y_le, y_eq, y_nP, y_nPs, y_ltP, y_ltQ, y_ltPP, y_eqP, y_eqQ, y_eqPP, if_pos, if_neg, ite_true, ite_false, not_true_eq_false, not_false_eq_true, and_true, true_and, and_false, false_and, or_true, true_or, or_false, false_or, ri]
          by_cases c0 : g (3 * i + 1) = 0
          · simp (disch := omega) only [y_lit, y_n1, nI_add, pk_mul, j_lt, j_b1_s, j_b2_s, j_b3_s, j_b0_s, y_bo, y_bo1, y_bo0, y_i0, y_i1, Classical.not_not, nI_clamp, y_ix, y_lt, y_le, y_eq, y_nP, y_nPs, y_ltP, y_ltQ, y_ltPP, y_eqP, y_eqQ, y_eqPP, if_pos, if_neg, ite_true, ite_false, not_true_eq_false, not_false_eq_true, and_true, true_and, and_false, false_and, or_true, true_or, or_false, false_or]
            by_cases c2 : R (1001 + 2 * i) < 1
            · rw [if_pos c2, if_pos ⟨c, c2⟩, y_nPs]
            · rw [if_neg c2, if_neg (fun z => c2 z.2)]
          · simp (disch := omega) only [y_lit, y_n1, nI_add, pk_mul, j_lt, j_b1_s, j_b2_s, j_b3_s, j_b0_s, y_bo, y_bo1, y_bo0, y_i0, y_i1, Classical.not_not, nI_clamp, y_ix, y_lt, y_le, y_eq, y_nP, y_nPs, y_ltP, y_ltQ, y_ltPP, y_eqP, y_eqQ, y_eqPP, if_pos, if_neg, ite_true, ite_false, not_true_eq_false, not_false_eq_true, and_true, true_and, and_false, false_and, or_true, true_or, or_false, false_or]
            by_cases c2 : R (1001 + 2 * i) < 2
            · rw [if_pos c2, if_pos ⟨c, c2⟩, y_nPs]
            · rw [if_neg c2, if_neg (fun z => c2 z.2)]
        · rw [if_neg (fun z : g (3 * i + 2) = 0 ∧ _ => c z.1)]; simp (disch := omega) only [y_lit, y_n1, nI_add, pk_mul, j_lt, j_b1_s, j_b2_s, j_b3_s, j_b0_s, y_bo, y_bo1, y_bo0, y_i0, y_i1, Classical.not_not, nI_clamp, y_ix, y_lt, y_le, y_eq, y_nP, y_nPs, y_ltP, y_ltQ, y_ltPP, y_eqP, y_eqQ, y_eqPP, if_pos, if_neg, ite_true, ite_false, not_true_eq_false, not_false_eq_true, and_true, true_and, and_false, false_and, or_true, true_or, or_false, false_or]
    refine ⟨nP (y_ms g R s 0), σ1, τ1, ?_, ?_, hr⟩
    · have k := kc s 0 j_F (by omega) (y_F (by omega))
      unfold f_X11_missed f_X9_firstMissed; simp (disch := omega) only [y_lit, y_n1, nI_add, pk_mul, j_lt, j_b1_s, j_b2_s, j_b3_s, j_b0_s, y_bo, y_bo1, y_bo0, y_i0, y_i1, Classical.not_not, nI_clamp, y_ix, y_lt, y_le, y_eq, y_nP, y_nPs, y_ltP, y_ltQ, y_ltPP, y_eqP, y_eqQ, y_eqPP, if_pos, if_neg, ite_true, ite_false, not_true_eq_false, not_false_eq_true, and_true, true_and, and_false, false_and, or_true, true_or, or_false, false_or, e1, k]
    · have k := km s 0 j_F (by omega) (y_F (by omega))
      unfold f_X12_missed; simp (disch := omega) only [y_lit, y_n1, nI_add, pk_mul, j_lt, j_b1_s, j_b2_s, j_b3_s, j_b0_s, y_bo, y_bo1, y_bo0, y_i0, y_i1, Classical.not_not, nI_clamp, y_ix, y_lt, y_le, y_eq, y_nP, y_nPs, y_ltP, y_ltQ, y_ltPP, y_eqP, y_eqQ, y_eqPP, if_pos, if_neg, ite_true, ite_false, not_true_eq_false, not_false_eq_true, and_true, true_and, and_false, false_and, or_true, true_or, or_false, false_or, ym_isPlayer hM hW, if_pos h, f1, k]
  · refine ⟨-2, σ, τ, ?_, ?_, hR⟩
    · unfold f_X11_missed; rw [yc_unrun hN hW h]; simp (disch := omega) only [y_lit, y_n1, nI_add, pk_mul, j_lt, j_b1_s, j_b2_s, j_b3_s, j_b0_s, y_bo, y_bo1, y_bo0, y_i0, y_i1, Classical.not_not, nI_clamp, y_ix, y_lt, y_le, y_eq, y_nP, y_nPs, y_ltP, y_ltQ, y_ltPP, y_eqP, y_eqQ, y_eqPP, if_pos, if_neg, ite_true, ite_false, not_true_eq_false, not_false_eq_true, and_true, true_and, and_false, false_and, or_true, true_or, or_false, false_or]
    · unfold f_X12_missed; rw [ym_isPlayer hM hW, if_neg h]; simp (disch := omega) only [y_lit, y_n1, nI_add, pk_mul, j_lt, j_b1_s, j_b2_s, j_b3_s, j_b0_s, y_bo, y_bo1, y_bo0, y_i0, y_i1, Classical.not_not, nI_clamp, y_ix, y_lt, y_le, y_eq, y_nP, y_nPs, y_ltP, y_ltQ, y_ltPP, y_eqP, y_eqQ, y_eqPP, if_pos, if_neg, ite_true, ite_false, not_true_eq_false, not_false_eq_true, and_true, true_and, and_false, false_and, or_true, true_or, or_false, false_or]
theorem z_rash (hR : j_Rel σ τ) (a1 : Int32) : ∃ v σ1 τ1, f_X11_rash a1 σ = some (v, σ1) ∧ f_X12_rash a1 τ = some (v, τ1) ∧ j_Rel σ1 τ1 := by
  obtain ⟨b, hW, hN, hM, hK⟩ := id hR
  by_cases h : y_rg a1 (b 6)
  · obtain ⟨p, hp, rfl⟩ := y_of _ _ h.1 h.2
    have h9 := hW.on0 (Or.inr (Or.inr (Or.inr (Or.inl (by omega : 0 < b 6)))))
    obtain ⟨σ1, e1, ⟨e2, e3, e4⟩, e5⟩ := yc_ready hN hW hp
    obtain ⟨σ2, g1, g2⟩ := yc_rash e2 hW h9 e3 (y_dg_vg hW _) e4 (y_pqv hW hp) y_mkC
    obtain ⟨τ1, f1, f2, f3⟩ := ym_laid hM hW
    obtain ⟨τ2, k1, k2, k3⟩ := ym_rashOf f2 hW hp
    generalize hx : nI 10 * (nI (y_run b (y_dg b (b 8)) (y_pq b p) y_k1 1 (y_gs b) 0) - nI (y_run b (y_dg b (b 8)) (y_pq b p) y_k1 1 (y_gs b) 4)) - nI 20 * nI (y_run b (y_dg b (b 8)) (y_pq b p) y_k1 1 (y_gs b) 4) = x at *
    refine ⟨x, σ2, τ2, ?_, ?_, y_done hR (e5.trans (g2.wide (by omega) (by omega))) (f3.trans k3)⟩
    · unfold f_X11_rash; simp (disch := omega) only [y_lit, y_n1, nI_add, pk_mul, j_lt, j_b1_s, j_b2_s, j_b3_s, j_b0_s, y_bo, y_bo1, y_bo0, y_i0, y_i1, Classical.not_not, nI_clamp, y_ix, y_lt, y_le, y_eq, y_nP, y_nPs, y_ltP, y_ltQ, y_ltPP, y_eqP, y_eqQ, y_eqPP, if_pos, if_neg, ite_true, ite_false, not_true_eq_false, not_false_eq_true, and_true, true_and, and_false, false_and, or_true, true_or, or_false, false_or, e1, g1]
    · unfold f_X12_rash; simp (disch := omega) only [y_lit, y_n1, nI_add, pk_mul, j_lt, j_b1_s, j_b2_s, j_b3_s, j_b0_s, y_bo, y_bo1, y_bo0, y_i0, y_i1, Classical.not_not, nI_clamp, y_ix, y_lt, y_le, y_eq, y_nP, y_nPs, y_ltP, y_ltQ, y_ltPP, y_eqP, y_eqQ, y_eqPP, if_pos, if_neg, ite_true, ite_false, not_true_eq_false, not_false_eq_true, and_true, true_and, and_false, false_and, or_true, true_or, or_false, false_or, ym_isPlayer hM hW, if_pos h, f1, k1]
  · refine ⟨-2000, σ, τ, ?_, ?_, hR⟩
    · unfold f_X11_rash; rw [yc_unready hN hW h]; simp (disch := omega) only [y_lit, y_n1, nI_add, pk_mul, j_lt, j_b1_s, j_b2_s, j_b3_s, j_b0_s, y_bo, y_bo1, y_bo0, y_i0, y_i1, Classical.not_not, nI_clamp, y_ix, y_lt, y_le, y_eq, y_nP, y_nPs, y_ltP, y_ltQ, y_ltPP, y_eqP, y_eqQ, y_eqPP, if_pos, if_neg, ite_true, ite_false, not_true_eq_false, not_false_eq_true, and_true, true_and, and_false, false_and, or_true, true_or, or_false, false_or]
    · unfold f_X12_rash; rw [ym_isPlayer hM hW, if_neg h]; simp (disch := omega) only [y_lit, y_n1, nI_add, pk_mul, j_lt, j_b1_s, j_b2_s, j_b3_s, j_b0_s, y_bo, y_bo1, y_bo0, y_i0, y_i1, Classical.not_not, nI_clamp, y_ix, y_lt, y_le, y_eq, y_nP, y_nPs, y_ltP, y_ltQ, y_ltPP, y_eqP, y_eqQ, y_eqPP, if_pos, if_neg, ite_true, ite_false, not_true_eq_false, not_false_eq_true, and_true, true_and, and_false, false_and, or_true, true_or, or_false, false_or]
theorem z_look (hR : j_Rel σ τ) (a1 a2 : Int32) : ∃ v σ1 τ1, f_X11_look a1 a2 σ = some (v, σ1) ∧ f_X12_look a1 a2 τ = some (v, τ1) ∧ j_Rel σ1 τ1 := by
  obtain ⟨b, hW, hN, hM, hK⟩ := id hR
  by_cases h : y_rg a1 (b 6)
  · by_cases h2 : y_rg a2 21
    · obtain ⟨p, hp, rfl⟩ := y_of _ _ h.1 h.2
      obtain ⟨n, hn, rfl⟩ := y_of _ _ h2.1 h2.2
      have h9 := hW.on0 (Or.inr (Or.inr (Or.inr (Or.inl (by omega : 0 < b 6)))))
      have q1 : y_pq b p 1 ≤ 20 := by
        have h := hW.pl hp
        show b (96 + 5 * p + 1) ≤ 20; rw [show 96 + 5 * p + 1 = 97 + 5 * p from by omega]; omega
      obtain ⟨σ1, e1, e2, e3⟩ := yc_ready hN hW hp
      obtain ⟨τ1, f1, f2, f3⟩ := ym_laid hM hW
      obtain ⟨σ2, g1, g2, g3⟩ := yc_look (n := y_pq b p 1 + n) (y_ra_of e2) hW h9 (y_pqv hW hp) (by omega)
      obtain ⟨τ2, k1, k2, k3⟩ := ym_look (n := n) f2 hW hp (by omega)
      have et : f_X2_trait (nI p) (nI 1) σ1 = some (nI (y_pq b p 1)) := yc_trait e2.1 hW hp (by omega)
      refine ⟨nI (10 * y_H b (y_u (y_u (y_pq b p) 1 (y_pq b p 1 + n)) 3 0)), σ2, τ2, ?_, ?_, y_done hR (e3.trans (g3.wide (by omega) (by omega))) (f3.trans k3)⟩
      · unfold f_X11_look; simp (disch := omega) only [y_lit, y_n1, nI_add, pk_mul, j_lt, j_b1_s, j_b2_s, j_b3_s, j_b0_s, y_bo, y_bo1, y_bo0, y_i0, y_i1, Classical.not_not, nI_clamp, y_ix, y_lt, y_le, y_eq, y_nP, y_nPs, y_ltP, y_ltQ, y_ltPP, y_eqP, y_eqQ, y_eqPP, if_pos, if_neg, ite_true, ite_false, not_true_eq_false, not_false_eq_true, and_true, true_and, and_false, false_and, or_true, true_or, or_false, false_or, e1, et, g1]
      · unfold f_X12_look; simp (disch := omega) only [y_lit, y_n1, nI_add, pk_mul, j_lt, j_b1_s, j_b2_s, j_b3_s, j_b0_s, y_bo, y_bo1, y_bo0, y_i0, y_i1, Classical.not_not, nI_clamp, y_ix, y_lt, y_le, y_eq, y_nP, y_nPs, y_ltP, y_ltQ, y_ltPP, y_eqP, y_eqQ, y_eqPP, if_pos, if_neg, ite_true, ite_false, not_true_eq_false, not_false_eq_true, and_true, true_and, and_false, false_and, or_true, true_or, or_false, false_or, ym_isPlayer hM hW, if_pos h, y_lit64, y_in, f1, k1]
    · refine ⟨-2000, σ, τ, ?_, ?_, hR⟩
      · unfold f_X11_look; simp (disch := omega) only [y_lit, y_n1, nI_add, pk_mul, j_lt, j_b1_s, j_b2_s, j_b3_s, j_b0_s, y_bo, y_bo1, y_bo0, y_i0, y_i1, Classical.not_not, nI_clamp, y_ix, y_lt, y_le, y_eq, y_nP, y_nPs, y_ltP, y_ltQ, y_ltPP, y_eqP, y_eqQ, y_eqPP, if_pos, if_neg, ite_true, ite_false, not_true_eq_false, not_false_eq_true, and_true, true_and, and_false, false_and, or_true, true_or, or_false, false_or, y_c3, h2]
      · unfold f_X12_look; simp (disch := omega) only [y_lit, y_n1, nI_add, pk_mul, j_lt, j_b1_s, j_b2_s, j_b3_s, j_b0_s, y_bo, y_bo1, y_bo0, y_i0, y_i1, Classical.not_not, nI_clamp, y_ix, y_lt, y_le, y_eq, y_nP, y_nPs, y_ltP, y_ltQ, y_ltPP, y_eqP, y_eqQ, y_eqPP, if_pos, if_neg, ite_true, ite_false, not_true_eq_false, not_false_eq_true, and_true, true_and, and_false, false_and, or_true, true_or, or_false, false_or, ym_isPlayer hM hW, y_lit64, y_in, y_c3, h2]
  · refine ⟨-2000, σ, τ, ?_, ?_, hR⟩
    · unfold f_X11_look; rw [yc_unready hN hW h]; simp (disch := omega) only [y_lit, y_n1, nI_add, pk_mul, j_lt, j_b1_s, j_b2_s, j_b3_s, j_b0_s, y_bo, y_bo1, y_bo0, y_i0, y_i1, Classical.not_not, nI_clamp, y_ix, y_lt, y_le, y_eq, y_nP, y_nPs, y_ltP, y_ltQ, y_ltPP, y_eqP, y_eqQ, y_eqPP, if_pos, if_neg, ite_true, ite_false, not_true_eq_false, not_false_eq_true, and_true, true_and, and_false, false_and, or_true, true_or, or_false, false_or]
      split <;> rfl
    · unfold f_X12_look; simp (disch := omega) only [y_lit, y_n1, nI_add, pk_mul, j_lt, j_b1_s, j_b2_s, j_b3_s, j_b0_s, y_bo, y_bo1, y_bo0, y_i0, y_i1, Classical.not_not, nI_clamp, y_ix, y_lt, y_le, y_eq, y_nP, y_nPs, y_ltP, y_ltQ, y_ltPP, y_eqP, y_eqQ, y_eqPP, if_pos, if_neg, ite_true, ite_false, not_true_eq_false, not_false_eq_true, and_true, true_and, and_false, false_and, or_true, true_or, or_false, false_or, ym_isPlayer hM hW, h]
theorem z_line (hR : j_Rel σ τ) (a1 : Int32) : ∃ v σ1 τ1, f_X11_line a1 σ = some (v, σ1) ∧ f_X12_line a1 τ = some (v, τ1) ∧ j_Rel σ1 τ1 := by
  obtain ⟨b, hW, hN, hM, hK⟩ := id hR
  by_cases h : y_rg a1 (b 6)
  · obtain ⟨p, hp, rfl⟩ := y_of _ _ h.1 h.2
    have h9 := hW.on0 (Or.inr (Or.inr (Or.inr (Or.inl (by omega : 0 < b 6)))))
    have hq := y_pqv hW hp
    have q1 : y_pq b p 1 ≤ 20 := by
      have h := hW.pl hp
      show b (96 + 5 * p + 1) ≤ 20; rw [show 96 + 5 * p + 1 = 97 + 5 * p from by omega]; omega
    obtain ⟨σ1, e1, ⟨e2, e3, e4⟩, e5⟩ := yc_ready hN hW hp
    obtain ⟨σ2, g1, g2⟩ := yc_rash e2 hW h9 e3 (y_dg_vg hW _) e4 hq y_mkC
    obtain ⟨τ1, f1, f2, f3⟩ := ym_laid hM hW
    obtain ⟨τ2, k1, k2, k3⟩ := ym_rashOf f2 hW hp
    generalize hx : nI 10 * (nI (y_run b (y_dg b (b 8)) (y_pq b p) y_k1 1 (y_gs b) 0) - nI (y_run b (y_dg b (b 8)) (y_pq b p) y_k1 1 (y_gs b) 4)) - nI 20 * nI (y_run b (y_dg b (b 8)) (y_pq b p) y_k1 1 (y_gs b) 4) = x at *
    have hN2 := e2.fr g2 (by omega)
    have ra2 : y_ra σ2 b (y_pq b p) := ⟨hN2, e3.fr g2 (by omega), e4.fr g2 (by omega)⟩
    have et : f_X2_trait (nI p) (nI 1) σ2 = some (nI (y_pq b p 1)) := yc_trait hN2 hW hp (by omega)
    have both : ∀ m n q σ' τ', m < 22 → m < n → y_ra σ' b q → y_vq b q → (∀ j, j ≠ 1 → j ≠ 3 → q j = y_pq b p j) → y_ldy τ' b → ∃ v σ'' τ'', p_X11_line_45 x (nI (y_pq b p 1)) n (nP m) σ' = some (v, σ'') ∧ y_fr 28 34 σ' σ'' ∧ p_X12_line_24 (nI p) x n (nP m) τ' = some (v, τ'') ∧ y_fm 18 42 80 93 τ' τ'' := by
      intro m
      induction m with
      | zero =>
        intro n q σ' τ' hm hn hr hv hj hl
        obtain ⟨n, rfl⟩ := y_pos hn
        refine ⟨-1, σ', τ', ?_, y_fr.refl, ?_, y_fm.refl⟩
        · unfold p_X11_line_45; simp (disch := omega) only [y_lit, y_n1, nI_add, pk_mul, j_lt, j_b1_s, j_b2_s, j_b3_s, j_b0_s, y_bo, y_bo1, y_bo0, y_i0, y_i1, Classical.not_not, nI_clamp, y_ix, y_lt, y_le, y_eq, y_nP, y_nPs, y_ltP, y_ltQ, y_ltPP, y_eqP, y_eqQ, y_eqPP, if_pos, if_neg, ite_true, ite_false, not_true_eq_false, not_false_eq_true, and_true, true_and, and_false, false_and, or_true, true_or, or_false, false_or]
        · unfold p_X12_line_24; simp (disch := omega) only [y_lit, y_n1, nI_add, pk_mul, j_lt, j_b1_s, j_b2_s, j_b3_s, j_b0_s, y_bo, y_bo1, y_bo0, y_i0, y_i1, Classical.not_not, nI_clamp, y_ix, y_lt, y_le, y_eq, y_nP, y_nPs, y_ltP, y_ltQ, y_ltPP, y_eqP, y_eqQ, y_eqPP, if_pos, if_neg, ite_true, ite_false, not_true_eq_false, not_false_eq_true, and_true, true_and, and_false, false_and, or_true, true_or, or_false, false_or]
      | succ m ih =>
        intro n q σ' τ' hm hn hr hv hj hl
        obtain ⟨n, rfl⟩ := y_pos hn
        obtain ⟨σ3, c1, c2, c3⟩ := yc_look (n := y_pq b p 1 + m) hr hW h9 hv (by omega)
        obtain ⟨τ3, d1, d2, d3⟩ := ym_look (n := m) hl hW hp (by omega)
        have eq : y_u (y_u q 1 (y_pq b p 1 + m)) 3 0 = y_u (y_u (y_pq b p) 1 (y_pq b p 1 + m)) 3 0 := by
          funext j
          by_cases j3 : j = 3
          · subst j3; rw [y_ue, y_ue]
          · rw [y_un j3, y_un j3]
            by_cases j1 : j = 1
            · subst j1; rw [y_ue, y_ue]
            · rw [y_un j1, y_un j1, hj j j1 j3]
        rw [eq] at c1 c2
        have hv2 : y_vq b (y_u (y_u (y_pq b p) 1 (y_pq b p 1 + m)) 3 0) := y_vq3 (y_vq1 hq (by omega)) (by omega)
        obtain ⟨v, σ4, τ4, m1, m2, m3, m4⟩ := ih n _ σ3 τ3 (by omega) (by omega) c2 hv2 (fun j j1 j3 => by rw [y_un j3, y_un j1]) d2
        have hle : y_H b (y_u (y_u (y_pq b p) 1 (y_pq b p 1 + m)) 3 0) ≤ 120 := y_H_le hW hv2
        rw [y_nPs]
        unfold p_X11_line_45 p_X12_line_24
        have ep : nI m + nP 0 = nP m := by
          show nI m + (nI 0 - 1) = nI m - 1
          rw [Int32.add_comm, ← y_m0 (nI m)]
        simp (disch := omega) only [y_lit, y_n1, nI_add, pk_mul, j_lt, j_b1_s, j_b2_s, j_b3_s, j_b0_s, y_bo, y_bo1, y_bo0, y_i0, y_i1, Classical.not_not, nI_clamp, y_ix, y_lt, y_le, y_eq, y_nP, y_nPs, y_ltP, y_ltQ, y_ltPP, y_eqP, y_eqQ, y_eqPP, if_pos, if_neg, ite_true, ite_false, not_true_eq_false, not_false_eq_true, and_true, true_and, and_false, false_and, or_true, true_or, or_false, false_or, c1, d1, ep]
        generalize nI (10 * y_H b (y_u (y_u (y_pq b p) 1 (y_pq b p 1 + m)) 3 0)) = X
        by_cases c : X < x
        · rw [if_neg (fun z => z c), if_neg (fun z => z c)]
          exact ⟨v, σ4, τ4, m1, c3.trans m2, m3, d3.trans m4⟩
        · rw [if_pos c, if_pos c]
          exact ⟨nI m, σ3, τ3, rfl, c3, rfl, d3⟩
    obtain ⟨v, σ3, τ3, c1, c2, d1, d2⟩ := both 21 j_F (y_pq b p) σ2 τ2 (by omega) (y_F (by omega)) ra2 hq (fun _ _ _ => rfl) k2
    rw [show nP 21 = nI 20 from y_nPs 20] at c1 d1
    refine ⟨v, σ3, τ3, ?_, ?_, y_done hR (e5.trans ((g2.wide (by omega) (by omega)).trans (c2.wide (by omega) (by omega)))) (f3.trans (k3.trans d2))⟩
    · unfold f_X11_line; simp (disch := omega) only [y_lit, y_n1, nI_add, pk_mul, j_lt, j_b1_s, j_b2_s, j_b3_s, j_b0_s, y_bo, y_bo1, y_bo0, y_i0, y_i1, Classical.not_not, nI_clamp, y_ix, y_lt, y_le, y_eq, y_nP, y_nPs, y_ltP, y_ltQ, y_ltPP, y_eqP, y_eqQ, y_eqPP, if_pos, if_neg, ite_true, ite_false, not_true_eq_false, not_false_eq_true, and_true, true_and, and_false, false_and, or_true, true_or, or_false, false_or, e1, g1, et, c1]
    · unfold f_X12_line
      rw [ym_isPlayer hM hW, if_pos h, j_b1_s, y_lit, if_neg (show ¬ nI 1 = nI 0 from by decide), f1, j_b1_s, k1, j_b2_s, y_lit, d1]
  · refine ⟨-2, σ, τ, ?_, ?_, hR⟩
    · unfold f_X11_line; rw [yc_unready hN hW h]; simp (disch := omega) only [y_lit, y_n1, nI_add, pk_mul, j_lt, j_b1_s, j_b2_s, j_b3_s, j_b0_s, y_bo, y_bo1, y_bo0, y_i0, y_i1, Classical.not_not, nI_clamp, y_ix, y_lt, y_le, y_eq, y_nP, y_nPs, y_ltP, y_ltQ, y_ltPP, y_eqP, y_eqQ, y_eqPP, if_pos, if_neg, ite_true, ite_false, not_true_eq_false, not_false_eq_true, and_true, true_and, and_false, false_and, or_true, true_or, or_false, false_or]
    · unfold f_X12_line; rw [ym_isPlayer hM hW, if_neg h]; simp (disch := omega) only [y_lit, y_n1, nI_add, pk_mul, j_lt, j_b1_s, j_b2_s, j_b3_s, j_b0_s, y_bo, y_bo1, y_bo0, y_i0, y_i1, Classical.not_not, nI_clamp, y_ix, y_lt, y_le, y_eq, y_nP, y_nPs, y_ltP, y_ltQ, y_ltPP, y_eqP, y_eqQ, y_eqPP, if_pos, if_neg, ite_true, ite_false, not_true_eq_false, not_false_eq_true, and_true, true_and, and_false, false_and, or_true, true_or, or_false, false_or]
theorem z_tickets (hR : j_Rel σ τ) (a1 : Int32) : ∃ v σ1 τ1, f_X11_tickets a1 σ = some (v, σ1) ∧ f_X12_tickets a1 τ = some (v, τ1) ∧ j_Rel σ1 τ1 := by
  obtain ⟨b, hW, hN, hM, hK⟩ := id hR
  by_cases h : y_rg a1 (b 6)
  · obtain ⟨p, hp, rfl⟩ := y_of _ _ h.1 h.2
    have h9 := hW.on0 (Or.inr (Or.inr (Or.inr (Or.inl (by omega : 0 < b 6)))))
    have hon := hW.on h9
    obtain ⟨σ1, e1, e2, e3, e4⟩ := yc_runOf hN hW hp
    obtain ⟨τ1, f1, f2, f3, f4, f5⟩ := ym_ras hM hW hp
    have br : y_br b (y_own b p) 120 := y_run_br hW (y_dg_vg hW (b 8)) (y_pqv hW hp)
    have b0 := br.1
    refine ⟨nI (10 * y_own b p 0 / b 11), σ1, τ1, ?_, ?_, y_done hR e4 f5⟩
    · unfold f_X11_tickets f_X11_ticketsOfRun; simp (disch := omega) only [y_lit, y_n1, nI_add, pk_mul, j_lt, j_b1_s, j_b2_s, j_b3_s, j_b0_s, y_bo, y_bo1, y_bo0, y_i0, y_i1, Classical.not_not, nI_clamp, y_ix, y_lt, y_le, y_eq, y_nP, y_nPs, y_ltP, y_ltQ, y_ltPP, y_eqP, y_eqQ, y_eqPP, if_pos, if_neg, ite_true, ite_false, not_true_eq_false, not_false_eq_true, and_true, true_and, and_false, false_and, or_true, true_or, or_false, false_or, e1, e3.1.1, e2.1.f9 h9, pk_div]
    · unfold f_X12_tickets f_X12_ticketsOf; simp (disch := omega) only [y_lit, y_n1, nI_add, pk_mul, j_lt, j_b1_s, j_b2_s, j_b3_s, j_b0_s, y_bo, y_bo1, y_bo0, y_i0, y_i1, Classical.not_not, nI_clamp, y_ix, y_lt, y_le, y_eq, y_nP, y_nPs, y_ltP, y_ltQ, y_ltPP, y_eqP, y_eqQ, y_eqPP, if_pos, if_neg, ite_true, ite_false, not_true_eq_false, not_false_eq_true, and_true, true_and, and_false, false_and, or_true, true_or, or_false, false_or, ym_isPlayer hM hW, if_pos h, f1, f3.1.1, f2.1.f, pk_div]
  · refine ⟨-2, σ, τ, ?_, ?_, hR⟩
    · unfold f_X11_tickets; rw [yc_unrun hN hW h]; simp (disch := omega) only [y_lit, y_n1, nI_add, pk_mul, j_lt, j_b1_s, j_b2_s, j_b3_s, j_b0_s, y_bo, y_bo1, y_bo0, y_i0, y_i1, Classical.not_not, nI_clamp, y_ix, y_lt, y_le, y_eq, y_nP, y_nPs, y_ltP, y_ltQ, y_ltPP, y_eqP, y_eqQ, y_eqPP, if_pos, if_neg, ite_true, ite_false, not_true_eq_false, not_false_eq_true, and_true, true_and, and_false, false_and, or_true, true_or, or_false, false_or]
    · unfold f_X12_tickets; rw [ym_isPlayer hM hW, if_neg h]; simp (disch := omega) only [y_lit, y_n1, nI_add, pk_mul, j_lt, j_b1_s, j_b2_s, j_b3_s, j_b0_s, y_bo, y_bo1, y_bo0, y_i0, y_i1, Classical.not_not, nI_clamp, y_ix, y_lt, y_le, y_eq, y_nP, y_nPs, y_ltP, y_ltQ, y_ltPP, y_eqP, y_eqQ, y_eqPP, if_pos, if_neg, ite_true, ite_false, not_true_eq_false, not_false_eq_true, and_true, true_and, and_false, false_and, or_true, true_or, or_false, false_or]
theorem z_prize (hR : j_Rel σ τ) (a1 : Int32) : ∃ v σ1 τ1, f_X11_prize a1 σ = some (v, σ1) ∧ f_X12_prize a1 τ = some (v, τ1) ∧ j_Rel σ1 τ1 := by
  obtain ⟨b, hW, hN, hM, hK⟩ := id hR
  by_cases h : y_rg a1 (b 6)
  · obtain ⟨p, hp, rfl⟩ := y_of _ _ h.1 h.2
    have h9 := hW.on0 (Or.inr (Or.inr (Or.inr (Or.inl (by omega : 0 < b 6)))))
    have hon := hW.on h9
    obtain ⟨σ1, e1, e2, e3, e4⟩ := yc_runOf hN hW hp
    obtain ⟨τ1, f1, f2, f3, f4, f5⟩ := ym_ras hM hW hp
    have br : y_br b (y_own b p) 120 := y_run_br hW (y_dg_vg hW (b 8)) (y_pqv hW hp)
    have b0 := br.1
    have hr := y_done hR e4 f5
    have dl : 10 * y_own b p 0 / b 11 ≤ 10 * y_own b p 0 := Nat.div_le_self _ _
    by_cases z : 10 * y_own b p 0 / b 11 = 0
    · refine ⟨-1, σ1, τ1, ?_, ?_, hr⟩
      · unfold f_X11_prize f_X11_ticketsOfRun; simp (disch := omega) only [y_lit, y_n1, nI_add, pk_mul, j_lt, j_b1_s, j_b2_s, j_b3_s, j_b0_s, y_bo, y_bo1, y_bo0, y_i0, y_i1, Classical.not_not, nI_clamp, y_ix, y_lt, y_le, y_eq, y_nP, y_nPs, y_ltP, y_ltQ, y_ltPP, y_eqP, y_eqQ, y_eqPP, if_pos, if_neg, ite_true, ite_false, not_true_eq_false, not_false_eq_true, and_true, true_and, and_false, false_and, or_true, true_or, or_false, false_or, e1, e3.1.1, e2.1.f9 h9, pk_div, z]
      · unfold f_X12_prize f_X12_ticketsOf; simp (disch := omega) only [y_lit, y_n1, nI_add, pk_mul, j_lt, j_b1_s, j_b2_s, j_b3_s, j_b0_s, y_bo, y_bo1, y_bo0, y_i0, y_i1, Classical.not_not, nI_clamp, y_ix, y_lt, y_le, y_eq, y_nP, y_nPs, y_ltP, y_ltQ, y_ltPP, y_eqP, y_eqQ, y_eqPP, if_pos, if_neg, ite_true, ite_false, not_true_eq_false, not_false_eq_true, and_true, true_and, and_false, false_and, or_true, true_or, or_false, false_or, ym_isPlayer hM hW, if_pos h, f1, f3.1.1, f2.1.f, pk_div, z]
    · generalize hd : 10 * y_own b p 0 / b 11 = d at *
      refine ⟨nI ((b 10 + d - 1) / d), σ1, τ1, ?_, ?_, hr⟩
      · unfold f_X11_prize f_X11_ticketsOfRun; simp (disch := omega) only [y_lit, y_n1, nI_add, pk_mul, j_lt, j_b1_s, j_b2_s, j_b3_s, j_b0_s, y_bo, y_bo1, y_bo0, y_i0, y_i1, Classical.not_not, nI_clamp, y_ix, y_lt, y_le, y_eq, y_nP, y_nPs, y_ltP, y_ltQ, y_ltPP, y_eqP, y_eqQ, y_eqPP, if_pos, if_neg, ite_true, ite_false, not_true_eq_false, not_false_eq_true, and_true, true_and, and_false, false_and, or_true, true_or, or_false, false_or, e1, e3.1.1, e2.1.f9 h9, pk_div, hd, e2.1.f8 h9, pk_sub]
      · unfold f_X12_prize f_X12_ticketsOf; simp (disch := omega) only [y_lit, y_n1, nI_add, pk_mul, j_lt, j_b1_s, j_b2_s, j_b3_s, j_b0_s, y_bo, y_bo1, y_bo0, y_i0, y_i1, Classical.not_not, nI_clamp, y_ix, y_lt, y_le, y_eq, y_nP, y_nPs, y_ltP, y_ltQ, y_ltPP, y_eqP, y_eqQ, y_eqPP, if_pos, if_neg, ite_true, ite_false, not_true_eq_false, not_false_eq_true, and_true, true_and, and_false, false_and, or_true, true_or, or_false, false_or, ym_isPlayer hM hW, if_pos h, f1, f3.1.1, f2.1.f, pk_div, hd, pk_sub]
  · refine ⟨-2, σ, τ, ?_, ?_, hR⟩
    · unfold f_X11_prize; rw [yc_unrun hN hW h]; simp (disch := omega) only [y_lit, y_n1, nI_add, pk_mul, j_lt, j_b1_s, j_b2_s, j_b3_s, j_b0_s, y_bo, y_bo1, y_bo0, y_i0, y_i1, Classical.not_not, nI_clamp, y_ix, y_lt, y_le, y_eq, y_nP, y_nPs, y_ltP, y_ltQ, y_ltPP, y_eqP, y_eqQ, y_eqPP, if_pos, if_neg, ite_true, ite_false, not_true_eq_false, not_false_eq_true, and_true, true_and, and_false, false_and, or_true, true_or, or_false, false_or]
    · unfold f_X12_prize; rw [ym_isPlayer hM hW, if_neg h]; simp (disch := omega) only [y_lit, y_n1, nI_add, pk_mul, j_lt, j_b1_s, j_b2_s, j_b3_s, j_b0_s, y_bo, y_bo1, y_bo0, y_i0, y_i1, Classical.not_not, nI_clamp, y_ix, y_lt, y_le, y_eq, y_nP, y_nPs, y_ltP, y_ltQ, y_ltPP, y_eqP, y_eqQ, y_eqPP, if_pos, if_neg, ite_true, ite_false, not_true_eq_false, not_false_eq_true, and_true, true_and, and_false, false_and, or_true, true_or, or_false, false_or]
end Z
/-! ===== open holes, mean, middle ===== -/
theorem y_su_pop : ∀ m i n, y_su (fun h => n / 2 ^ h % 2) m i 0 = y_pop m (n / 2 ^ i) := by
  intro m
  induction m with
  | zero => intro i n; rfl
  | succ m ih =>
    intro i n
    rw [y_su_s, ih]
    show _ = n / 2 ^ i % 2 + y_pop m (n / 2 ^ i / 2)
    rw [Nat.div_div_eq_div_mul, ← Nat.pow_succ, Nat.add_comm]
theorem y_pop0 : ∀ m, y_pop m 0 = 0 := by
  intro m
  induction m with
  | zero => rfl
  | succ m ih => show 0 % 2 + y_pop m (0 / 2) = 0; rw [Nat.zero_div, ih]
theorem y_pop_more : ∀ a d n, n < 2 ^ a → y_pop (a + d) n = y_pop a n := by
  intro a
  induction a with
  | zero => intro d n h; obtain rfl : n = 0 := by omega
            rw [y_pop0, y_pop0]
  | succ a ih =>
    intro d n h
    rw [show a + 1 + d = a + d + 1 from by omega]
    show n % 2 + y_pop (a + d) (n / 2) = n % 2 + y_pop a (n / 2)
    rw [ih d (n / 2) (by rw [Nat.pow_succ] at h; omega)]
theorem y_su_not {f : Nat → Nat} (hf : ∀ j, f j ≤ 1) : ∀ m i, y_su f m i 0 + y_su (fun j => 1 - f j) m i 0 = m := by
  intro m
  induction m with
  | zero => intro i; rfl
  | succ m ih => intro i; rw [y_su_s, y_su_s]; have := ih (i + 1); have := hf i; omega
theorem y_su_bd {f : Nat → Nat} {c : Nat} : ∀ m i, (∀ j, i ≤ j → j < i + m → f j ≤ c) → y_su f m i 0 ≤ c * m := by
  intro m
  induction m with
  | zero => intro i _; exact Nat.zero_le _
  | succ m ih =>
    intro i h
    rw [y_su_s]
    have := ih (i + 1) (fun j h1 h2 => h j (by omega) (by omega))
    have := h i (by omega) (by omega)
    rw [Nat.mul_succ]; omega
def y_op (b : Nat → Nat) : Nat := y_su (fun h => 1 - y_sh b h) (y_ho b) 0 0
theorem y_sh_le (b : Nat → Nat) (h : Nat) : y_sh b h ≤ 1 := by unfold y_sh; omega
theorem y_op_e {b : Nat → Nat} (hW : y_W b) : y_op b = y_ho b - y_pop 12 (b 7) ∧ y_pop 12 (b 7) ≤ y_ho b := by
  have h4 := hW.ho
  have h7 := hW.1.2.2.2.2.2.2.2.1
  have e := y_su_not (f := fun h => b 7 / 2 ^ h % 2) (fun j => by show b 7 / 2 ^ j % 2 ≤ 1; omega) (y_ho b) 0
  rw [y_su_pop, Nat.pow_zero, Nat.div_one] at e
  have m := y_pop_more (y_ho b) (12 - y_ho b) (b 7) h7
  rw [show y_ho b + (12 - y_ho b) = 12 from by omega] at m
  rw [m]
  unfold y_op
  show y_su (fun j => 1 - b 7 / 2 ^ j % 2) (y_ho b) 0 0 = _ ∧ _
  omega
theorem y_op_le {b : Nat → Nat} (hW : y_W b) : y_op b ≤ 12 := by
  have := y_op_e hW; have := hW.ho; omega
def y_sf (b : Nat → Nat) (x : Nat) : Nat → Nat := fun h => if y_sh b h = 1 then 0 else y_ap b x h
def y_sa (b : Nat → Nat) (x : Nat) : Nat := y_su (y_sf b x) (y_ho b) 0 0
theorem y_sa_le {b : Nat → Nat} (hW : y_W b) {x : Nat} (hx : x < 12) : y_sa b x ≤ 24 * y_ho b := by
  have h4 := hW.ho
  exact y_su_bd _ _ (fun j _ hj => by
    have := y_ap_bd (b := b) (a := x) (c := j) hx (by omega)
    unfold y_sf; split <;> omega)
section C
variable {σ τ : j_G} {b : Nat → Nat}
theorem yc_open (hN : y_N σ b) (hW : y_W b) : f_X2_openHoles σ = nI (y_op b) := by
  have h := y_op_e hW
  have h7 := hW.b7
  unfold f_X2_openHoles
  rw [yc_holes hN, hN.f6, y_bcn _ h7, pk_sub h.2, h.1]
theorem ym_open (hM : y_M τ b) (hW : y_W b) : f_X12_openHoles τ = some (nI (y_op b)) := by
  have h4 := hW.ho
  have key : ∀ m i n v, i + m = y_ho b → m < n → p_X12_openHoles_4 τ n (nI v) (nI i) = some (nI (y_su (fun h => 1 - y_sh b h) m i v)) := by
    intro m
    induction m with
    | zero =>
      intro i n v h hn
      obtain ⟨n, rfl⟩ := y_pos hn
      unfold p_X12_openHoles_4 y_su; simp (disch := omega) only [y_lit, y_n1, nI_add, pk_mul, j_lt, j_b1_s, j_b2_s, j_b3_s, j_b0_s, y_bo, y_bo1, y_bo0, y_i0, y_i1, Classical.not_not, nI_clamp, y_ix, y_lt, y_le, y_eq, y_nP, y_nPs, y_ltP, y_ltQ, y_ltPP, y_eqP, y_eqQ, y_eqPP, if_pos, if_neg, ite_true, ite_false, not_true_eq_false, not_false_eq_true, and_true, true_and, and_false, false_and, or_true, true_or, or_false, false_or, ym_holes hM]
    | succ m ih =>
      intro i n v h hn
      obtain ⟨n, rfl⟩ := y_pos hn
      have hs := y_sh_le b i
      unfold p_X12_openHoles_4 y_su; simp (disch := omega) only [y_lit, y_n1, nI_add, pk_mul, j_lt, j_b1_s, j_b2_s, j_b3_s, j_b0_s, y_bo, y_bo1, y_bo0, y_i0, y_i1, Classical.not_not, nI_clamp, y_ix, y_lt, y_le, y_eq, y_nP, y_nPs, y_ltP, y_ltQ, y_ltPP, y_eqP, y_eqQ, y_eqPP, if_pos, if_neg, ite_true, ite_false, not_true_eq_false, not_false_eq_true, and_true, true_and, and_false, false_and, or_true, true_or, or_false, false_or, ym_holes hM, ym_isShut hM hW]
      by_cases c : y_sh b i = 1
      · simp (disch := omega) only [y_lit, y_n1, nI_add, pk_mul, j_lt, j_b1_s, j_b2_s, j_b3_s, j_b0_s, y_bo, y_bo1, y_bo0, y_i0, y_i1, Classical.not_not, nI_clamp, y_ix, y_lt, y_le, y_eq, y_nP, y_nPs, y_ltP, y_ltQ, y_ltPP, y_eqP, y_eqQ, y_eqPP, if_pos, if_neg, ite_true, ite_false, not_true_eq_false, not_false_eq_true, and_true, true_and, and_false, false_and, or_true, true_or, or_false, false_or, c]
        exact ih (i + 1) n _ (by omega) (by omega)
      · have c0 : y_sh b i = 0 := by omega
        simp (disch := omega) only [y_lit, y_n1, nI_add, pk_mul, j_lt, j_b1_s, j_b2_s, j_b3_s, j_b0_s, y_bo, y_bo1, y_bo0, y_i0, y_i1, Classical.not_not, nI_clamp, y_ix, y_lt, y_le, y_eq, y_nP, y_nPs, y_ltP, y_ltQ, y_ltPP, y_eqP, y_eqQ, y_eqPP, if_pos, if_neg, ite_true, ite_false, not_true_eq_false, not_false_eq_true, and_true, true_and, and_false, false_and, or_true, true_or, or_false, false_or, c0]
        exact ih (i + 1) n _ (by omega) (by omega)
  unfold f_X12_openHoles
  rw [y_lit, key (y_ho b) 0 j_F 0 (by omega) (y_F (by omega))]
  rfl
theorem yc_toAll (hN : y_N σ b) (hW : y_W b) (h9 : 0 < b 9) {x : Nat} (hx : x < y_ho b) : f_X2_stepsToAll (nI x) σ = some (nI (y_sa b x)) := by
  have h4 := hW.ho
  have key : ∀ m i n v, i + m = y_ho b → m < n → p_X2_stepsToAll_4 (nI x) σ n (nI v) (nI i) = some (nI (y_su (y_sf b x) m i v)) := by
    intro m
    induction m with
    | zero =>
      intro i n v h hn
      obtain ⟨n, rfl⟩ := y_pos hn
      unfold p_X2_stepsToAll_4 y_su; simp (disch := omega) only [y_lit, y_n1, nI_add, pk_mul, j_lt, j_b1_s, j_b2_s, j_b3_s, j_b0_s, y_bo, y_bo1, y_bo0, y_i0, y_i1, Classical.not_not, nI_clamp, y_ix, y_lt, y_le, y_eq, y_nP, y_nPs, y_ltP, y_ltQ, y_ltPP, y_eqP, y_eqQ, y_eqPP, if_pos, if_neg, ite_true, ite_false, not_true_eq_false, not_false_eq_true, and_true, true_and, and_false, false_and, or_true, true_or, or_false, false_or, yc_holes hN]
    | succ m ih =>
      intro i n v h hn
      obtain ⟨n, rfl⟩ := y_pos hn
      have hs := y_sh_le b i
      unfold p_X2_stepsToAll_4 y_su; simp (disch := omega) only [y_lit, y_n1, nI_add, pk_mul, j_lt, j_b1_s, j_b2_s, j_b3_s, j_b0_s, y_bo, y_bo1, y_bo0, y_i0, y_i1, Classical.not_not, nI_clamp, y_ix, y_lt, y_le, y_eq, y_nP, y_nPs, y_ltP, y_ltQ, y_ltPP, y_eqP, y_eqQ, y_eqPP, if_pos, if_neg, ite_true, ite_false, not_true_eq_false, not_false_eq_true, and_true, true_and, and_false, false_and, or_true, true_or, or_false, false_or, yc_holes hN, yc_isShut hN hW]
      by_cases c : y_sh b i = 1
      · have e : y_sf b x i = 0 := if_pos c
        rw [e]; simp (disch := omega) only [y_lit, y_n1, nI_add, pk_mul, j_lt, j_b1_s, j_b2_s, j_b3_s, j_b0_s, y_bo, y_bo1, y_bo0, y_i0, y_i1, Classical.not_not, nI_clamp, y_ix, y_lt, y_le, y_eq, y_nP, y_nPs, y_ltP, y_ltQ, y_ltPP, y_eqP, y_eqQ, y_eqPP, if_pos, if_neg, ite_true, ite_false, not_true_eq_false, not_false_eq_true, and_true, true_and, and_false, false_and, or_true, true_or, or_false, false_or]
        exact ih (i + 1) n _ (by omega) (by omega)
      · have e : y_sf b x i = y_ap b x i := if_neg c
        rw [e]; simp (disch := omega) only [y_lit, y_n1, nI_add, pk_mul, j_lt, j_b1_s, j_b2_s, j_b3_s, j_b0_s, y_bo, y_bo1, y_bo0, y_i0, y_i1, Classical.not_not, nI_clamp, y_ix, y_lt, y_le, y_eq, y_nP, y_nPs, y_ltP, y_ltQ, y_ltPP, y_eqP, y_eqQ, y_eqPP, if_pos, if_neg, ite_true, ite_false, not_true_eq_false, not_false_eq_true, and_true, true_and, and_false, false_and, or_true, true_or, or_false, false_or, yc_apart hN hW h9]
        exact ih (i + 1) n _ (by omega) (by omega)
  unfold f_X2_stepsToAll
  rw [y_lit, key (y_ho b) 0 j_F 0 (by omega) (y_F (by omega))]
  rfl
theorem ym_toAll (hM : y_M τ b) (hW : y_W b) (h9 : 0 < b 9) {x : Nat} (hx : x < y_ho b) : f_X12_stepsToAll (nI x) τ = some (nI (y_sa b x)) := by
  have h4 := hW.ho
  have key : ∀ m i n v, i + m = y_ho b → m < n → p_X12_stepsToAll_4 (nI x) τ n (nI v) (nI i) = some (nI (y_su (y_sf b x) m i v)) := by
    intro m
    induction m with
    | zero =>
      intro i n v h hn
      obtain ⟨n, rfl⟩ := y_pos hn
      unfold p_X12_stepsToAll_4 y_su; simp (disch := omega) only [y_lit, y_n1, nI_add, pk_mul, j_lt, j_b1_s, j_b2_s, j_b3_s, j_b0_s, y_bo, y_bo1, y_bo0, y_i0, y_i1, Classical.not_not, nI_clamp, y_ix, y_lt, y_le, y_eq, y_nP, y_nPs, y_ltP, y_ltQ, y_ltPP, y_eqP, y_eqQ, y_eqPP, if_pos, if_neg, ite_true, ite_false, not_true_eq_false, not_false_eq_true, and_true, true_and, and_false, false_and, or_true, true_or, or_false, false_or, ym_holes hM]
    | succ m ih =>
      intro i n v h hn
      obtain ⟨n, rfl⟩ := y_pos hn
      have hs := y_sh_le b i
      unfold p_X12_stepsToAll_4 y_su; simp (disch := omega) only [y_lit, y_n1, nI_add, pk_mul, j_lt, j_b1_s, j_b2_s, j_b3_s, j_b0_s, y_bo, y_bo1, y_bo0, y_i0, y_i1, Classical.not_not, nI_clamp, y_ix, y_lt, y_le, y_eq, y_nP, y_nPs, y_ltP, y_ltQ, y_ltPP, y_eqP, y_eqQ, y_eqPP, if_pos, if_neg, ite_true, ite_false, not_true_eq_false, not_false_eq_true, and_true, true_and, and_false, false_and, or_true, true_or, or_false, false_or, ym_holes hM, ym_isShut hM hW]
      by_cases c : y_sh b i = 1
      · have e : y_sf b x i = 0 := if_pos c
        rw [e]; simp (disch := omega) only [y_lit, y_n1, nI_add, pk_mul, j_lt, j_b1_s, j_b2_s, j_b3_s, j_b0_s, y_bo, y_bo1, y_bo0, y_i0, y_i1, Classical.not_not, nI_clamp, y_ix, y_lt, y_le, y_eq, y_nP, y_nPs, y_ltP, y_ltQ, y_ltPP, y_eqP, y_eqQ, y_eqPP, if_pos, if_neg, ite_true, ite_false, not_true_eq_false, not_false_eq_true, and_true, true_and, and_false, false_and, or_true, true_or, or_false, false_or]
        exact ih (i + 1) n _ (by omega) (by omega)
      · have e : y_sf b x i = y_ap b x i := if_neg c
        rw [e]; simp (disch := omega) only [y_lit, y_n1, nI_add, pk_mul, j_lt, j_b1_s, j_b2_s, j_b3_s, j_b0_s, y_bo, y_bo1, y_bo0, y_i0, y_i1, Classical.not_not, nI_clamp, y_ix, y_lt, y_le, y_eq, y_nP, y_nPs, y_ltP, y_ltQ, y_ltPP, y_eqP, y_eqQ, y_eqPP, if_pos, if_neg, ite_true, ite_false, not_true_eq_false, not_false_eq_true, and_true, true_and, and_false, false_and, or_true, true_or, or_false, false_or, ym_stepsOf hM hW h9]
        exact ih (i + 1) n _ (by omega) (by omega)
  unfold f_X12_stepsToAll
  rw [y_lit, key (y_ho b) 0 j_F 0 (by omega) (y_F (by omega))]
  rfl
theorem ym_gcd : ∀ c n x, c < n → c < 10000 → x < 10000 → (0 < x ∨ 0 < c) → ∃ d, 0 < d ∧ d < 10000 ∧ p_X12_divisor_4 n (nI x) (nI c) = some (nI d) := by
  intro c
  induction c using Nat.strongRecOn with
  | _ c ih =>
    intro n x hn hc hx h0
    obtain ⟨n, rfl⟩ := y_pos hn
    unfold p_X12_divisor_4
    by_cases z : c = 0
    · exact ⟨x, by omega, hx, by simp (disch := omega) only [y_lit, y_n1, nI_add, pk_mul, j_lt, j_b1_s, j_b2_s, j_b3_s, j_b0_s, y_bo, y_bo1, y_bo0, y_i0, y_i1, Classical.not_not, nI_clamp, y_ix, y_lt, y_le, y_eq, y_nP, y_nPs, y_ltP, y_ltQ, y_ltPP, y_eqP, y_eqQ, y_eqPP, if_pos, if_neg, ite_true, ite_false, not_true_eq_false, not_false_eq_true, and_true, true_and, and_false, false_and, or_true, true_or, or_false, false_or]⟩
    · have hm : x % c < c := Nat.mod_lt _ (by omega)
      obtain ⟨d, d1, d2, d3⟩ := ih (x % c) hm n c (by omega) (by omega) hc (Or.inl (by omega))
      refine ⟨d, d1, d2, ?_⟩
      have hr : nI x - nI (x / c * c) = nI (x % c) := by
        rw [← pk_mul, ← pk_div (by omega) (by omega) (by omega), pk_rem (by omega) (by omega) (by omega)]
      simp (disch := omega) only [y_lit, y_n1, nI_add, pk_mul, j_lt, j_b1_s, j_b2_s, j_b3_s, j_b0_s, y_bo, y_bo1, y_bo0, y_i0, y_i1, Classical.not_not, nI_clamp, y_ix, y_lt, y_le, y_eq, y_nP, y_nPs, y_ltP, y_ltQ, y_ltPP, y_eqP, y_eqQ, y_eqPP, if_pos, if_neg, ite_true, ite_false, not_true_eq_false, not_false_eq_true, and_true, true_and, and_false, false_and, or_true, true_or, or_false, false_or, pk_div, hr]
      exact d3
end C
section Z
variable {σ τ : j_G}
/-- the two answers here are another matter -/
theorem z_mean (hR : j_Rel σ τ) (a1 a2 : Int32) : ∃ v w, f_X11_mean a1 a2 σ = some v ∧ f_X12_mean a1 a2 τ = some w := by
  obtain ⟨b, hW, hN, hM, hK⟩ := id hR
  have h4 := hW.ho
  have hop := y_op_le hW
  by_cases h : y_rg a1 (y_ho b)
  · by_cases h2 : y_rg a2 2
    · obtain ⟨x, hx, rfl⟩ := y_of _ _ h.1 h.2
      have h9 : 0 < b 9 := hW.on0 (by omega)
      have sle := y_sa_le hW (show x < 12 by omega)
      by_cases z : y_op b = 0
      · refine ⟨-1, -1, ?_, ?_⟩
        · unfold f_X11_mean; simp (disch := omega) only [y_lit, y_n1, nI_add, pk_mul, j_lt, j_b1_s, j_b2_s, j_b3_s, j_b0_s, y_bo, y_bo1, y_bo0, y_i0, y_i1, Classical.not_not, nI_clamp, y_ix, y_lt, y_le, y_eq, y_nP, y_nPs, y_ltP, y_ltQ, y_ltPP, y_eqP, y_eqQ, y_eqPP, if_pos, if_neg, ite_true, ite_false, not_true_eq_false, not_false_eq_true, and_true, true_and, and_false, false_and, or_true, true_or, or_false, false_or, yc_isHole hN hW, y_rn, y_c5, h2, yc_open hN hW, z]
        · unfold f_X12_mean; simp (disch := omega) only [y_lit, y_n1, nI_add, pk_mul, j_lt, j_b1_s, j_b2_s, j_b3_s, j_b0_s, y_bo, y_bo1, y_bo0, y_i0, y_i1, Classical.not_not, nI_clamp, y_ix, y_lt, y_le, y_eq, y_nP, y_nPs, y_ltP, y_ltQ, y_ltPP, y_eqP, y_eqQ, y_eqPP, if_pos, if_neg, ite_true, ite_false, not_true_eq_false, not_false_eq_true, and_true, true_and, and_false, false_and, or_true, true_or, or_false, false_or, ym_isHole hM hW, y_rn, y_lit64, y_in, y_c3, h2, ym_open hM hW, z]
      · obtain ⟨d, d1, d2, d3⟩ := ym_gcd (y_op b) j_F (y_sa b x) (y_F (by omega)) (by omega) (by omega) (Or.inr (by omega))
        have dv : f_X12_divisor (nI (y_sa b x)) (nI (y_op b)) = some (nI d) := by unfold f_X12_divisor; rw [d3]; rfl
        by_cases c : a2 = nI 0
        · refine ⟨nI (y_sa b x), nI (y_sa b x / d), ?_, ?_⟩
          · unfold f_X11_mean; simp (disch := omega) only [y_lit, y_n1, nI_add, pk_mul, j_lt, j_b1_s, j_b2_s, j_b3_s, j_b0_s, y_bo, y_bo1, y_bo0, y_i0, y_i1, Classical.not_not, nI_clamp, y_ix, y_lt, y_le, y_eq, y_nP, y_nPs, y_ltP, y_ltQ, y_ltPP, y_eqP, y_eqQ, y_eqPP, if_pos, if_neg, ite_true, ite_false, not_true_eq_false, not_false_eq_true, and_true, true_and, and_false, false_and, or_true, true_or, or_false, false_or, yc_isHole hN hW, y_rn, y_c5, h2, yc_open hN hW, c, yc_toAll hN hW h9]
          · unfold f_X12_mean; simp (disch := omega) only [y_lit, y_n1, nI_add, pk_mul, j_lt, j_b1_s, j_b2_s, j_b3_s, j_b0_s, y_bo, y_bo1, y_bo0, y_i0, y_i1, Classical.not_not, nI_clamp, y_ix, y_lt, y_le, y_eq, y_nP, y_nPs, y_ltP, y_ltQ, y_ltPP, y_eqP, y_eqQ, y_eqPP, if_pos, if_neg, ite_true, ite_false, not_true_eq_false, not_false_eq_true, and_true, true_and, and_false, false_and, or_true, true_or, or_false, false_or, ym_isHole hM hW, y_rn, y_lit64, y_in, y_c3, h2, ym_open hM hW, ym_toAll hM hW h9, c, dv, pk_div]
        · refine ⟨nI (y_op b), nI (y_op b / d), ?_, ?_⟩
          · unfold f_X11_mean; simp (disch := omega) only [y_lit, y_n1, nI_add, pk_mul, j_lt, j_b1_s, j_b2_s, j_b3_s, j_b0_s, y_bo, y_bo1, y_bo0, y_i0, y_i1, Classical.not_not, nI_clamp, y_ix, y_lt, y_le, y_eq, y_nP, y_nPs, y_ltP, y_ltQ, y_ltPP, y_eqP, y_eqQ, y_eqPP, if_pos, if_neg, ite_true, ite_false, not_true_eq_false, not_false_eq_true, and_true, true_and, and_false, false_and, or_true, true_or, or_false, false_or, yc_isHole hN hW, y_rn, y_c5, h2, yc_open hN hW, c]
          · unfold f_X12_mean; simp (disch := omega) only [y_lit, y_n1, nI_add, pk_mul, j_lt, j_b1_s, j_b2_s, j_b3_s, j_b0_s, y_bo, y_bo1, y_bo0, y_i0, y_i1, Classical.not_not, nI_clamp, y_ix, y_lt, y_le, y_eq, y_nP, y_nPs, y_ltP, y_ltQ, y_ltPP, y_eqP, y_eqQ, y_eqPP, if_pos, if_neg, ite_true, ite_false, not_true_eq_false, not_false_eq_true, and_true, true_and, and_false, false_and, or_true, true_or, or_false, false_or, ym_isHole hM hW, y_rn, y_lit64, y_in, y_c3, h2, ym_open hM hW, ym_toAll hM hW h9, c, dv, pk_div]
    · refine ⟨-2, -2, ?_, ?_⟩
      · unfold f_X11_mean; simp (disch := omega) only [y_lit, y_n1, nI_add, pk_mul, j_lt, j_b1_s, j_b2_s, j_b3_s, j_b0_s, y_bo, y_bo1, y_bo0, y_i0, y_i1, Classical.not_not, nI_clamp, y_ix, y_lt, y_le, y_eq, y_nP, y_nPs, y_ltP, y_ltQ, y_ltPP, y_eqP, y_eqQ, y_eqPP, if_pos, if_neg, ite_true, ite_false, not_true_eq_false, not_false_eq_true, and_true, true_and, and_false, false_and, or_true, true_or, or_false, false_or, yc_isHole hN hW, h, y_c5, h2]
      · unfold f_X12_mean; simp (disch := omega) only [y_lit, y_n1, nI_add, pk_mul, j_lt, j_b1_s, j_b2_s, j_b3_s, j_b0_s, y_bo, y_bo1, y_bo0, y_i0, y_i1, Classical.not_not, nI_clamp, y_ix, y_lt, y_le, y_eq, y_nP, y_nPs, y_ltP, y_ltQ, y_ltPP, y_eqP, y_eqQ, y_eqPP, if_pos, if_neg, ite_true, ite_false, not_true_eq_false, not_false_eq_true, and_true, true_and, and_false, false_and, or_true, true_or, or_false, false_or, ym_isHole hM hW, h, y_lit64, y_in, y_c3, h2]
  · refine ⟨-2, -2, ?_, ?_⟩
    · unfold f_X11_mean; simp (disch := omega) only [y_lit, y_n1, nI_add, pk_mul, j_lt, j_b1_s, j_b2_s, j_b3_s, j_b0_s, y_bo, y_bo1, y_bo0, y_i0, y_i1, Classical.not_not, nI_clamp, y_ix, y_lt, y_le, y_eq, y_nP, y_nPs, y_ltP, y_ltQ, y_ltPP, y_eqP, y_eqQ, y_eqPP, if_pos, if_neg, ite_true, ite_false, not_true_eq_false, not_false_eq_true, and_true, true_and, and_false, false_and, or_true, true_or, or_false, false_or, yc_isHole hN hW, h]
    · unfold f_X12_mean; simp (disch := omega) only [y_lit, y_n1, nI_add, pk_mul, j_lt, j_b1_s, j_b2_s, j_b3_s, j_b0_s, y_bo, y_bo1, y_bo0, y_i0, y_i1, Classical.not_not, nI_clamp, y_ix, y_lt, y_le, y_eq, y_nP, y_nPs, y_ltP, y_ltQ, y_ltPP, y_eqP, y_eqQ, y_eqPP, if_pos, if_neg, ite_true, ite_false, not_true_eq_false, not_false_eq_true, and_true, true_and, and_false, false_and, or_true, true_or, or_false, false_or, ym_isHole hM hW, h]
theorem z_middle (hR : j_Rel σ τ) (a1 : Int32) : ∃ v, f_X11_middle a1 σ = some v ∧ f_X12_middle a1 τ = some v := by
  obtain ⟨b, hW, hN, hM, hK⟩ := id hR
  have h4 := hW.ho
  have hop := y_op_le hW
  by_cases h9 : 0 < b 9
  · by_cases h2 : y_rg a1 2
    · have ho := hW.on1 h9
      by_cases z : y_op b = 0
      · refine ⟨-1, ?_, ?_⟩
        · unfold f_X11_middle; simp (disch := omega) only [y_lit, y_n1, nI_add, pk_mul, j_lt, j_b1_s, j_b2_s, j_b3_s, j_b0_s, y_bo, y_bo1, y_bo0, y_i0, y_i1, Classical.not_not, nI_clamp, y_ix, y_lt, y_le, y_eq, y_nP, y_nPs, y_ltP, y_ltQ, y_ltPP, y_eqP, y_eqQ, y_eqPP, if_pos, if_neg, ite_true, ite_false, not_true_eq_false, not_false_eq_true, and_true, true_and, and_false, false_and, or_true, true_or, or_false, false_or, yc_isTold hN hW, y_c5, h2, yc_open hN hW, z]
        · unfold f_X12_middle; simp (disch := omega) only [y_lit, y_n1, nI_add, pk_mul, j_lt, j_b1_s, j_b2_s, j_b3_s, j_b0_s, y_bo, y_bo1, y_bo0, y_i0, y_i1, Classical.not_not, nI_clamp, y_ix, y_lt, y_le, y_eq, y_nP, y_nPs, y_ltP, y_ltQ, y_ltPP, y_eqP, y_eqQ, y_eqPP, if_pos, if_neg, ite_true, ite_false, not_true_eq_false, not_false_eq_true, and_true, true_and, and_false, false_and, or_true, true_or, or_false, false_or, ym_isBoard hM hW, y_lit64, y_in, y_c3, h2, ym_open hM hW, z]
      · have both : ∀ m i n x, i + m = y_ho b → m < n → x < y_ho b → ∃ v, p_X11_middle_48 a1 σ n (nI x) (nI (y_sa b x)) (nI i) = some v ∧ p_X12_middle_33 a1 τ n (nI x) (nI i) = some v := by
          intro m
          induction m with
          | zero =>
            intro i n x h hn hx
            obtain ⟨n, rfl⟩ := y_pos hn
            refine ⟨nI x, ?_, ?_⟩
            · unfold p_X11_middle_48; simp (disch := omega) only [y_lit, y_n1, nI_add, pk_mul, j_lt, j_b1_s, j_b2_s, j_b3_s, j_b0_s, y_bo, y_bo1, y_bo0, y_i0, y_i1, Classical.not_not, nI_clamp, y_ix, y_lt, y_le, y_eq, y_nP, y_nPs, y_ltP, y_ltQ, y_ltPP, y_eqP, y_eqQ, y_eqPP, if_pos, if_neg, ite_true, ite_false, not_true_eq_false, not_false_eq_true, and_true, true_and, and_false, false_and, or_true, true_or, or_false, false_or, yc_holes hN]
            · unfold p_X12_middle_33; simp (disch := omega) only [y_lit, y_n1, nI_add, pk_mul, j_lt, j_b1_s, j_b2_s, j_b3_s, j_b0_s, y_bo, y_bo1, y_bo0, y_i0, y_i1, Classical.not_not, nI_clamp, y_ix, y_lt, y_le, y_eq, y_nP, y_nPs, y_ltP, y_ltQ, y_ltPP, y_eqP, y_eqQ, y_eqPP, if_pos, if_neg, ite_true, ite_false, not_true_eq_false, not_false_eq_true, and_true, true_and, and_false, false_and, or_true, true_or, or_false, false_or, ym_holes hM]
          | succ m ih =>
            intro i n x h hn hx
            obtain ⟨n, rfl⟩ := y_pos hn
            have s1 := y_sa_le hW (show i < 12 by omega)
            have s2 := y_sa_le hW (show x < 12 by omega)
            obtain ⟨v, v1, v2⟩ := ih (i + 1) n x (by omega) (by omega) hx
            obtain ⟨w, w1, w2⟩ := ih (i + 1) n i (by omega) (by omega) (by omega)
            unfold p_X11_middle_48 p_X12_middle_33
            simp (disch := omega) only [y_lit, y_n1, nI_add, pk_mul, j_lt, j_b1_s, j_b2_s, j_b3_s, j_b0_s, y_bo, y_bo1, y_bo0, y_i0, y_i1, Classical.not_not, nI_clamp, y_ix, y_lt, y_le, y_eq, y_nP, y_nPs, y_ltP, y_ltQ, y_ltPP, y_eqP, y_eqQ, y_eqPP, if_pos, if_neg, ite_true, ite_false, not_true_eq_false, not_false_eq_true, and_true, true_and, and_false, false_and, or_true, true_or, or_false, false_or, yc_holes hN, ym_holes hM, yc_toAll hN hW h9, ym_toAll hM hW h9]
            by_cases c : a1 = nI 0
            · rw [if_pos c, if_pos c]
              by_cases q : y_sa b i < y_sa b x
              · simp (disch := omega) only [y_lit, y_n1, nI_add, pk_mul, j_lt, j_b1_s, j_b2_s, j_b3_s, j_b0_s, y_bo, y_bo1, y_bo0, y_i0, y_i1, Classical.not_not, nI_clamp, y_ix, y_lt, y_le, y_eq, y_nP, y_nPs, y_ltP, y_ltQ, y_ltPP, y_eqP, y_eqQ, y_eqPP, if_pos, if_neg, ite_true, ite_false, not_true_eq_false, not_false_eq_true, and_true, true_and, and_false, false_and, or_true, true_or, or_false, false_or]; exact ⟨w, w1, w2⟩
              · simp (disch := omega) only [y_lit, y_n1, nI_add, pk_mul, j_lt, j_b1_s, j_b2_s, j_b3_s, j_b0_s, y_bo, y_bo1, y_bo0, y_i0, y_i1, Classical.not_not, nI_clamp, y_ix, y_lt, y_le, y_eq, y_nP, y_nPs, y_ltP, y_ltQ, y_ltPP, y_eqP, y_eqQ, y_eqPP, if_pos, if_neg, ite_true, ite_false, not_true_eq_false, not_false_eq_true, and_true, true_and, and_false, false_and, or_true, true_or, or_false, false_or]; exact ⟨v, v1, v2⟩
            · rw [if_neg c, if_neg c]
              by_cases q : y_sa b x < y_sa b i
              · simp (disch := omega) only [y_lit, y_n1, nI_add, pk_mul, j_lt, j_b1_s, j_b2_s, j_b3_s, j_b0_s, y_bo, y_bo1, y_bo0, y_i0, y_i1, Classical.not_not, nI_clamp, y_ix, y_lt, y_le, y_eq, y_nP, y_nPs, y_ltP, y_ltQ, y_ltPP, y_eqP, y_eqQ, y_eqPP, if_pos, if_neg, ite_true, ite_false, not_true_eq_false, not_false_eq_true, and_true, true_and, and_false, false_and, or_true, true_or, or_false, false_or]; exact ⟨w, w1, w2⟩
              · simp (disch := omega) only [y_lit, y_n1, nI_add, pk_mul, j_lt, j_b1_s, j_b2_s, j_b3_s, j_b0_s, y_bo, y_bo1, y_bo0, y_i0, y_i1, Classical.not_not, nI_clamp, y_ix, y_lt, y_le, y_eq, y_nP, y_nPs, y_ltP, y_ltQ, y_ltPP, y_eqP, y_eqQ, y_eqPP, if_pos, if_neg, ite_true, ite_false, not_true_eq_false, not_false_eq_true, and_true, true_and, and_false, false_and, or_true, true_or, or_false, false_or]; exact ⟨v, v1, v2⟩
        obtain ⟨v, v1, v2⟩ := both (y_ho b - 1) 1 j_F 0 (by omega) (y_F (by omega)) ho
        refine ⟨v, ?_, ?_⟩
        · unfold f_X11_middle; simp (disch := omega) only [y_lit, y_n1, nI_add, pk_mul, j_lt, j_b1_s, j_b2_s, j_b3_s, j_b0_s, y_bo, y_bo1, y_bo0, y_i0, y_i1, Classical.not_not, nI_clamp, y_ix, y_lt, y_le, y_eq, y_nP, y_nPs, y_ltP, y_ltQ, y_ltPP, y_eqP, y_eqQ, y_eqPP, if_pos, if_neg, ite_true, ite_false, not_true_eq_false, not_false_eq_true, and_true, true_and, and_false, false_and, or_true, true_or, or_false, false_or, yc_isTold hN hW, y_c5, h2, yc_open hN hW, z, yc_toAll hN hW h9, v1]
        · unfold f_X12_middle; simp (disch := omega) only [y_lit, y_n1, nI_add, pk_mul, j_lt, j_b1_s, j_b2_s, j_b3_s, j_b0_s, y_bo, y_bo1, y_bo0, y_i0, y_i1, Classical.not_not, nI_clamp, y_ix, y_lt, y_le, y_eq, y_nP, y_nPs, y_ltP, y_ltQ, y_ltPP, y_eqP, y_eqQ, y_eqPP, if_pos, if_neg, ite_true, ite_false, not_true_eq_false, not_false_eq_true, and_true, true_and, and_false, false_and, or_true, true_or, or_false, false_or, ym_isBoard hM hW, y_lit64, y_in, y_c3, h2, ym_open hM hW, z, v2]
    · refine ⟨-2, ?_, ?_⟩
      · unfold f_X11_middle; simp (disch := omega) only [y_lit, y_n1, nI_add, pk_mul, j_lt, j_b1_s, j_b2_s, j_b3_s, j_b0_s, y_bo, y_bo1, y_bo0, y_i0, y_i1, Classical.not_not, nI_clamp, y_ix, y_lt, y_le, y_eq, y_nP, y_nPs, y_ltP, y_ltQ, y_ltPP, y_eqP, y_eqQ, y_eqPP, if_pos, if_neg, ite_true, ite_false, not_true_eq_false, not_false_eq_true, and_true, true_and, and_false, false_and, or_true, true_or, or_false, false_or, yc_isTold hN hW, y_c5, h2]
      · unfold f_X12_middle; simp (disch := omega) only [y_lit, y_n1, nI_add, pk_mul, j_lt, j_b1_s, j_b2_s, j_b3_s, j_b0_s, y_bo, y_bo1, y_bo0, y_i0, y_i1, Classical.not_not, nI_clamp, y_ix, y_lt, y_le, y_eq, y_nP, y_nPs, y_ltP, y_ltQ, y_ltPP, y_eqP, y_eqQ, y_eqPP, if_pos, if_neg, ite_true, ite_false, not_true_eq_false, not_false_eq_true, and_true, true_and, and_false, false_and, or_true, true_or, or_false, false_or, ym_isBoard hM hW, y_lit64, y_in, y_c3, h2]
  · refine ⟨-2, ?_, ?_⟩
    · unfold f_X11_middle; simp (disch := omega) only [y_lit, y_n1, nI_add, pk_mul, j_lt, j_b1_s, j_b2_s, j_b3_s, j_b0_s, y_bo, y_bo1, y_bo0, y_i0, y_i1, Classical.not_not, nI_clamp, y_ix, y_lt, y_le, y_eq, y_nP, y_nPs, y_ltP, y_ltQ, y_ltPP, y_eqP, y_eqQ, y_eqPP, if_pos, if_neg, ite_true, ite_false, not_true_eq_false, not_false_eq_true, and_true, true_and, and_false, false_and, or_true, true_or, or_false, false_or, yc_isTold hN hW]
    · unfold f_X12_middle; simp (disch := omega) only [y_lit, y_n1, nI_add, pk_mul, j_lt, j_b1_s, j_b2_s, j_b3_s, j_b0_s, y_bo, y_bo1, y_bo0, y_i0, y_i1, Classical.not_not, nI_clamp, y_ix, y_lt, y_le, y_eq, y_nP, y_nPs, y_ltP, y_ltQ, y_ltPP, y_eqP, y_eqQ, y_eqPP, if_pos, if_neg, ite_true, ite_false, not_true_eq_false, not_false_eq_true, and_true, true_and, and_false, false_and, or_true, true_or, or_false, false_or, ym_isBoard hM hW]
end Z
/-! ===== reach, post, often, balance ===== -/
def y_rcl (b q : Nat → Nat) (x : Nat) : Nat → Nat → Nat → Nat
  | 0, _, v => v
  | m + 1, h, v => y_rcl b q x m (h + 1) (if y_sh b h = 0 ∧ y_th b q x h (q 1) < y_stay b 0 then v ||| 2 ^ h else v)
def y_rch (b q : Nat → Nat) (x : Nat) : Nat := y_rcl b q x (y_ho b) 0 0
theorem y_rcl_lt {b q : Nat → Nat} {x : Nat} : ∀ m h v, h + m ≤ 12 → v < 4096 → y_rcl b q x m h v < 4096 := by
  intro m
  induction m with
  | zero => intro h v _ hv; exact hv
  | succ m ih =>
    intro h v hh hv
    unfold y_rcl
    refine ih (h + 1) _ (by omega) ?_
    split
    · exact Nat.or_lt_two_pow (n := 12) hv (Nat.pow_lt_pow_right (by omega) (by omega))
    · exact hv
theorem y_ap_comm {b : Nat → Nat} {a c : Nat} : y_ap b a c = y_ap b c a := by unfold y_ap y_df; omega
section C
variable {σ τ : j_G} {b q : Nat → Nat}
theorem y_rch_lt (hW : y_W b) {x : Nat} : y_rch b q x < 4096 := by
  have := hW.ho
  exact y_rcl_lt _ _ _ (by omega) (by omega)
theorem yc_reach (hN : y_N σ b) (hW : y_W b) (h9 : 0 < b 9) (hp : y_cp σ 28 q) (hq : y_vq b q) {x : Nat} (hx : x < y_ho b) : f_X6_reachFrom (nI x) σ = some (nI (y_rch b q x)) := by
  have h4 := hW.ho
  have e1 := hp 1 (by omega)
  have q1 := hq.2.1
  have st := y_stay_bd hW 0
  have key : ∀ m i n v, i + m = y_ho b → m < n → p_X6_reachFrom_5 (nI x) σ n (nI v) (nI i) = some (nI (y_rcl b q x m i v)) := by
    intro m
    induction m with
    | zero =>
      intro i n v h hn
      obtain ⟨n, rfl⟩ := y_pos hn
      unfold p_X6_reachFrom_5 y_rcl; simp (disch := omega) only [y_lit, y_n1, nI_add, pk_mul, j_lt, j_b1_s, j_b2_s, j_b3_s, j_b0_s, y_bo, y_bo1, y_bo0, y_i0, y_i1, Classical.not_not, nI_clamp, y_ix, y_lt, y_le, y_eq, y_nP, y_nPs, y_ltP, y_ltQ, y_ltPP, y_eqP, y_eqQ, y_eqPP, if_pos, if_neg, ite_true, ite_false, not_true_eq_false, not_false_eq_true, and_true, true_and, and_false, false_and, or_true, true_or, or_false, false_or, yc_holes hN]
    | succ m ih =>
      intro i n v h hn
      obtain ⟨n, rfl⟩ := y_pos hn
      have hs := y_sh_le b i
      have th := y_th_bd hq (a := x) (c := i) (t := q 1) (by omega) (by omega) (by omega)
      unfold p_X6_reachFrom_5 y_rcl; simp (disch := omega) only [y_lit, y_n1, nI_add, pk_mul, j_lt, j_b1_s, j_b2_s, j_b3_s, j_b0_s, y_bo, y_bo1, y_bo0, y_i0, y_i1, Classical.not_not, nI_clamp, y_ix, y_lt, y_le, y_eq, y_nP, y_nPs, y_ltP, y_ltQ, y_ltPP, y_eqP, y_eqQ, y_eqPP, if_pos, if_neg, ite_true, ite_false, not_true_eq_false, not_false_eq_true, and_true, true_and, and_false, false_and, or_true, true_or, or_false, false_or, yc_holes hN, yc_isShut hN hW, e1]
      by_cases c : y_sh b i = 0
      · have c1 : ¬ y_sh b i = 1 := by omega
        simp (disch := omega) only [y_lit, y_n1, nI_add, pk_mul, j_lt, j_b1_s, j_b2_s, j_b3_s, j_b0_s, y_bo, y_bo1, y_bo0, y_i0, y_i1, Classical.not_not, nI_clamp, y_ix, y_lt, y_le, y_eq, y_nP, y_nPs, y_ltP, y_ltQ, y_ltPP, y_eqP, y_eqQ, y_eqPP, if_pos, if_neg, ite_true, ite_false, not_true_eq_false, not_false_eq_true, and_true, true_and, and_false, false_and, or_true, true_or, or_false, false_or, yc_there hN hW h9 hp hq, yc_stay hN hW, y_shl, y_or]
        by_cases d : y_th b q x i (q 1) < y_stay b 0
        · rw [if_pos d, if_pos ⟨c, d⟩]
          exact ih (i + 1) n _ (by omega) (by omega)
        · rw [if_neg d, if_neg (fun z => d z.2)]
          exact ih (i + 1) n _ (by omega) (by omega)
      · have c1 : y_sh b i = 1 := by omega
        rw [if_neg (fun z : y_sh b i = 0 ∧ _ => c z.1)]
        simp (disch := omega) only [y_lit, y_n1, nI_add, pk_mul, j_lt, j_b1_s, j_b2_s, j_b3_s, j_b0_s, y_bo, y_bo1, y_bo0, y_i0, y_i1, Classical.not_not, nI_clamp, y_ix, y_lt, y_le, y_eq, y_nP, y_nPs, y_ltP, y_ltQ, y_ltPP, y_eqP, y_eqQ, y_eqPP, if_pos, if_neg, ite_true, ite_false, not_true_eq_false, not_false_eq_true, and_true, true_and, and_false, false_and, or_true, true_or, or_false, false_or]
        exact ih (i + 1) n _ (by omega) (by omega)
  unfold f_X6_reachFrom
  rw [y_lit, key (y_ho b) 0 j_F 0 (by omega) (y_F (by omega))]
  rfl
theorem ym_reach (hM : y_M τ b) (hW : y_W b) (h9 : 0 < b 9) {p x : Nat} (hp : p < b 6) (hx : x < y_ho b) : f_X12_reachOf (nI p) (nI x) τ = some (nI (y_rch b (y_pq b p) x)) := by
  have h4 := hW.ho
  have h6 := hW.b6
  have hq := y_pqv hW hp
  have q1 := hq.2.1
  have st := y_stay_bd hW 0
  have e1 : f_X12_of (nI p) (nI 1) τ = some (nI (y_pq b p 1)) := ym_of hM (by omega) (by omega)
  have key : ∀ m i n v, i + m = y_ho b → m < n → p_X12_reachOf_14 (nI p) (nI x) (nI (y_stay b 0 - 1)) τ n (nI v) (nI i) = some (nI (y_rcl b (y_pq b p) x m i v)) := by
    intro m
    induction m with
    | zero =>
      intro i n v h hn
      obtain ⟨n, rfl⟩ := y_pos hn
      unfold p_X12_reachOf_14 y_rcl; simp (disch := omega) only [y_lit, y_n1, nI_add, pk_mul, j_lt, j_b1_s, j_b2_s, j_b3_s, j_b0_s, y_bo, y_bo1, y_bo0, y_i0, y_i1, Classical.not_not, nI_clamp, y_ix, y_lt, y_le, y_eq, y_nP, y_nPs, y_ltP, y_ltQ, y_ltPP, y_eqP, y_eqQ, y_eqPP, if_pos, if_neg, ite_true, ite_false, not_true_eq_false, not_false_eq_true, and_true, true_and, and_false, false_and, or_true, true_or, or_false, false_or, ym_holes hM]
    | succ m ih =>
      intro i n v h hn
      obtain ⟨n, rfl⟩ := y_pos hn
      have hs := y_sh_le b i
      have th := y_th_bd hq (a := x) (c := i) (t := y_pq b p 1) (by omega) (by omega) (by omega)
      have ep := ym_pace (q := y_pq b p) hM hW hp rfl (by show b (98 + 5 * p) = b (96 + 5 * p + 2); congr 1; omega) hq (t := y_pq b p 1) (by omega)
      unfold p_X12_reachOf_14 y_rcl; simp (disch := omega) only [y_lit, y_n1, nI_add, pk_mul, j_lt, j_b1_s, j_b2_s, j_b3_s, j_b0_s, y_bo, y_bo1, y_bo0, y_i0, y_i1, Classical.not_not, nI_clamp, y_ix, y_lt, y_le, y_eq, y_nP, y_nPs, y_ltP, y_ltQ, y_ltPP, y_eqP, y_eqQ, y_eqPP, if_pos, if_neg, ite_true, ite_false, not_true_eq_false, not_false_eq_true, and_true, true_and, and_false, false_and, or_true, true_or, or_false, false_or, ym_holes hM, ym_isShut hM hW]
      by_cases c : y_sh b i = 0
      · have c1 : ¬ y_sh b i = 1 := by omega
        simp (disch := omega) only [y_lit, y_n1, nI_add, pk_mul, j_lt, j_b1_s, j_b2_s, j_b3_s, j_b0_s, y_bo, y_bo1, y_bo0, y_i0, y_i1, Classical.not_not, nI_clamp, y_ix, y_lt, y_le, y_eq, y_nP, y_nPs, y_ltP, y_ltQ, y_ltPP, y_eqP, y_eqQ, y_eqPP, if_pos, if_neg, ite_true, ite_false, not_true_eq_false, not_false_eq_true, and_true, true_and, and_false, false_and, or_true, true_or, or_false, false_or, e1, ym_stepsOf hM hW h9, ep, y_shl, y_or]
        rw [show y_pq b p 1 + y_ap b x i * y_pc (y_pq b p) (y_pq b p 1) = y_th b (y_pq b p) x i (y_pq b p 1) from rfl]
        by_cases d : y_th b (y_pq b p) x i (y_pq b p 1) < y_stay b 0
        · rw [if_pos (show y_sh b i = 0 ∧ y_th b (y_pq b p) x i (y_pq b p 1) < y_stay b 0 from ⟨c, d⟩)]
          simp (disch := omega) only [y_lit, y_n1, nI_add, pk_mul, j_lt, j_b1_s, j_b2_s, j_b3_s, j_b0_s, y_bo, y_bo1, y_bo0, y_i0, y_i1, Classical.not_not, nI_clamp, y_ix, y_lt, y_le, y_eq, y_nP, y_nPs, y_ltP, y_ltQ, y_ltPP, y_eqP, y_eqQ, y_eqPP, if_pos, if_neg, ite_true, ite_false, not_true_eq_false, not_false_eq_true, and_true, true_and, and_false, false_and, or_true, true_or, or_false, false_or]
          exact ih (i + 1) n _ (by omega) (by omega)
        · rw [if_neg (fun z : y_sh b i = 0 ∧ _ => d z.2)]
          simp (disch := omega) only [y_lit, y_n1, nI_add, pk_mul, j_lt, j_b1_s, j_b2_s, j_b3_s, j_b0_s, y_bo, y_bo1, y_bo0, y_i0, y_i1, Classical.not_not, nI_clamp, y_ix, y_lt, y_le, y_eq, y_nP, y_nPs, y_ltP, y_ltQ, y_ltPP, y_eqP, y_eqQ, y_eqPP, if_pos, if_neg, ite_true, ite_false, not_true_eq_false, not_false_eq_true, and_true, true_and, and_false, false_and, or_true, true_or, or_false, false_or]
          exact ih (i + 1) n _ (by omega) (by omega)
      · have c1 : y_sh b i = 1 := by omega
        rw [if_neg (fun z : y_sh b i = 0 ∧ _ => c z.1)]
        simp (disch := omega) only [y_lit, y_n1, nI_add, pk_mul, j_lt, j_b1_s, j_b2_s, j_b3_s, j_b0_s, y_bo, y_bo1, y_bo0, y_i0, y_i1, Classical.not_not, nI_clamp, y_ix, y_lt, y_le, y_eq, y_nP, y_nPs, y_ltP, y_ltQ, y_ltPP, y_eqP, y_eqQ, y_eqPP, if_pos, if_neg, ite_true, ite_false, not_true_eq_false, not_false_eq_true, and_true, true_and, and_false, false_and, or_true, true_or, or_false, false_or]
        exact ih (i + 1) n _ (by omega) (by omega)
  unfold f_X12_reachOf
  simp (disch := omega) only [y_lit, y_n1, nI_add, pk_mul, j_lt, j_b1_s, j_b2_s, j_b3_s, j_b0_s, y_bo, y_bo1, y_bo0, y_i0, y_i1, Classical.not_not, nI_clamp, y_ix, y_lt, y_le, y_eq, y_nP, y_nPs, y_ltP, y_ltQ, y_ltPP, y_eqP, y_eqQ, y_eqPP, if_pos, if_neg, ite_true, ite_false, not_true_eq_false, not_false_eq_true, and_true, true_and, and_false, false_and, or_true, true_or, or_false, false_or, ym_stay hM hW, pk_sub]
  rw [key (y_ho b) 0 j_F 0 (by omega) (y_F (by omega))]
  rfl
theorem ym_bits {x : Nat} (hx : x < 4096) : f_X12_bits (nI x) = some (nI (y_pop 12 x)) := by
  have key : ∀ m i n v, i + m = 12 → m < n → p_X12_bits_4 (nI x) n (nI v) (nI i) = some (nI (y_su (fun h => x / 2 ^ h % 2) m i v)) := by
    intro m
    induction m with
    | zero =>
      intro i n v h hn
      obtain ⟨n, rfl⟩ := y_pos hn
      unfold p_X12_bits_4 y_su; simp (disch := omega) only [y_lit, y_n1, nI_add, pk_mul, j_lt, j_b1_s, j_b2_s, j_b3_s, j_b0_s, y_bo, y_bo1, y_bo0, y_i0, y_i1, Classical.not_not, nI_clamp, y_ix, y_lt, y_le, y_eq, y_nP, y_nPs, y_ltP, y_ltQ, y_ltPP, y_eqP, y_eqQ, y_eqPP, if_pos, if_neg, ite_true, ite_false, not_true_eq_false, not_false_eq_true, and_true, true_and, and_false, false_and, or_true, true_or, or_false, false_or]
    | succ m ih =>
      intro i n v h hn
      obtain ⟨n, rfl⟩ := y_pos hn
      unfold p_X12_bits_4 y_su; simp (disch := omega) only [y_lit, y_n1, nI_add, pk_mul, j_lt, j_b1_s, j_b2_s, j_b3_s, j_b0_s, y_bo, y_bo1, y_bo0, y_i0, y_i1, Classical.not_not, nI_clamp, y_ix, y_lt, y_le, y_eq, y_nP, y_nPs, y_ltP, y_ltQ, y_ltPP, y_eqP, y_eqQ, y_eqPP, if_pos, if_neg, ite_true, ite_false, not_true_eq_false, not_false_eq_true, and_true, true_and, and_false, false_and, or_true, true_or, or_false, false_or, y_bit]
      exact ih (i + 1) n _ (by omega) (by omega)
  unfold f_X12_bits
  rw [y_lit, key 12 0 j_F 0 (by omega) (y_F (by omega)), y_su_pop, Nat.pow_zero, Nat.div_one]
  rfl
theorem y_pop_le : ∀ m n, y_pop m n ≤ m := by
  intro m
  induction m with
  | zero => intro n; exact Nat.le_refl _
  | succ m ih => intro n; have := ih (n / 2); show n % 2 + y_pop m (n / 2) ≤ m + 1; omega
/-- how often a hole comes -/
def y_of1 (b : Nat → Nat) (h : Nat) : Nat → Nat := fun k => if b (24 + 3 * k) = h ∨ b (25 + 3 * k) = h + 1 then 1 else 0
def y_oft (b : Nat → Nat) (h : Nat) : Nat := y_su (y_of1 b h) (b 5) 0 0
theorem y_oft_le (b : Nat → Nat) (h : Nat) : y_oft b h ≤ b 5 := by
  have := y_su_bd (f := y_of1 b h) (c := 1) (b 5) 0 (fun j _ _ => by unfold y_of1; split <;> omega)
  unfold y_oft; omega
theorem yc_oft (hN : y_N σ b) (hW : y_W b) {x : Nat} (hx : x < 100) : f_X3_oftenAt 5 6 7 (nI x) σ = some (nI (y_oft b x)) := by
  have h5 := hW.b5
  have h4 := hW.ho
  have key : ∀ m i n v, i + m = b 5 → m < n → p_X3_oftenAt_4 5 6 7 (nI x) σ n (nI v) (nI i) = some (nI (y_su (y_of1 b x) m i v)) := by
    intro m
    induction m with
    | zero =>
      intro i n v h hn
      obtain ⟨n, rfl⟩ := y_pos hn
      unfold p_X3_oftenAt_4 y_su; simp (disch := omega) only [y_lit, y_n1, nI_add, pk_mul, j_lt, j_b1_s, j_b2_s, j_b3_s, j_b0_s, y_bo, y_bo1, y_bo0, y_i0, y_i1, Classical.not_not, nI_clamp, y_ix, y_lt, y_le, y_eq, y_nP, y_nPs, y_ltP, y_ltQ, y_ltPP, y_eqP, y_eqQ, y_eqPP, if_pos, if_neg, ite_true, ite_false, not_true_eq_false, not_false_eq_true, and_true, true_and, and_false, false_and, or_true, true_or, or_false, false_or, hN.d0]
    | succ m ih =>
      intro i n v h hn
      obtain ⟨n, rfl⟩ := y_pos hn
      have q := hW.co (k := i) (by omega)
      unfold p_X3_oftenAt_4 y_su; simp (disch := omega) only [y_lit, y_n1, nI_add, pk_mul, j_lt, j_b1_s, j_b2_s, j_b3_s, j_b0_s, y_bo, y_bo1, y_bo0, y_i0, y_i1, Classical.not_not, nI_clamp, y_ix, y_lt, y_le, y_eq, y_nP, y_nPs, y_ltP, y_ltQ, y_ltPP, y_eqP, y_eqQ, y_eqPP, if_pos, if_neg, ite_true, ite_false, not_true_eq_false, not_false_eq_true, and_true, true_and, and_false, false_and, or_true, true_or, or_false, false_or, hN.d0, hN.k0 (show i < b 5 by omega), hN.k1 (show i < b 5 by omega)]
      by_cases c : b (24 + 3 * i) = x
      · have e : y_of1 b x i = 1 := if_pos (Or.inl c)
        rw [e]; simp (disch := omega) only [y_lit, y_n1, nI_add, pk_mul, j_lt, j_b1_s, j_b2_s, j_b3_s, j_b0_s, y_bo, y_bo1, y_bo0, y_i0, y_i1, Classical.not_not, nI_clamp, y_ix, y_lt, y_le, y_eq, y_nP, y_nPs, y_ltP, y_ltQ, y_ltPP, y_eqP, y_eqQ, y_eqPP, if_pos, if_neg, ite_true, ite_false, not_true_eq_false, not_false_eq_true, and_true, true_and, and_false, false_and, or_true, true_or, or_false, false_or]
        exact ih (i + 1) n _ (by omega) (by omega)
      · by_cases d : b (25 + 3 * i) = x + 1
        · have e : y_of1 b x i = 1 := if_pos (Or.inr d)
          rw [e]; simp (disch := omega) only [y_lit, y_n1, nI_add, pk_mul, j_lt, j_b1_s, j_b2_s, j_b3_s, j_b0_s, y_bo, y_bo1, y_bo0, y_i0, y_i1, Classical.not_not, nI_clamp, y_ix, y_lt, y_le, y_eq, y_nP, y_nPs, y_ltP, y_ltQ, y_ltPP, y_eqP, y_eqQ, y_eqPP, if_pos, if_neg, ite_true, ite_false, not_true_eq_false, not_false_eq_true, and_true, true_and, and_false, false_and, or_true, true_or, or_false, false_or]
          exact ih (i + 1) n _ (by omega) (by omega)
        · have e : y_of1 b x i = 0 := if_neg (fun z => z.elim c d)
          rw [e]; simp (disch := omega) only [y_lit, y_n1, nI_add, pk_mul, j_lt, j_b1_s, j_b2_s, j_b3_s, j_b0_s, y_bo, y_bo1, y_bo0, y_i0, y_i1, Classical.not_not, nI_clamp, y_ix, y_lt, y_le, y_eq, y_nP, y_nPs, y_ltP, y_ltQ, y_ltPP, y_eqP, y_eqQ, y_eqPP, if_pos, if_neg, ite_true, ite_false, not_true_eq_false, not_false_eq_true, and_true, true_and, and_false, false_and, or_true, true_or, or_false, false_or]
          exact ih (i + 1) n _ (by omega) (by omega)
  unfold f_X3_oftenAt
  rw [y_lit, key (b 5) 0 j_F 0 (by omega) (y_F (by omega))]
  rfl
theorem ym_oft (hM : y_M τ b) (hW : y_W b) {x : Nat} (hx : x < 100) : f_X12_oftenOf (nI x) τ = some (nI (y_oft b x)) := by
  have h5 := hW.b5
  have h4 := hW.ho
  have key : ∀ m i n v, i + m = b 5 → m < n → p_X12_oftenOf_4 (nI x) τ n (nI v) (nI i) = some (nI (y_su (y_of1 b x) m i v)) := by
    intro m
    induction m with
    | zero =>
      intro i n v h hn
      obtain ⟨n, rfl⟩ := y_pos hn
      unfold p_X12_oftenOf_4 y_su; simp (disch := omega) only [y_lit, y_n1, nI_add, pk_mul, j_lt, j_b1_s, j_b2_s, j_b3_s, j_b0_s, y_bo, y_bo1, y_bo0, y_i0, y_i1, Classical.not_not, nI_clamp, y_ix, y_lt, y_le, y_eq, y_nP, y_nPs, y_ltP, y_ltQ, y_ltPP, y_eqP, y_eqQ, y_eqPP, if_pos, if_neg, ite_true, ite_false, not_true_eq_false, not_false_eq_true, and_true, true_and, and_false, false_and, or_true, true_or, or_false, false_or, hM.f]
    | succ m ih =>
      intro i n v h hn
      obtain ⟨n, rfl⟩ := y_pos hn
      have q := hW.co (k := i) (by omega)
      unfold p_X12_oftenOf_4 y_su; simp (disch := omega) only [y_lit, y_n1, nI_add, pk_mul, j_lt, j_b1_s, j_b2_s, j_b3_s, j_b0_s, y_bo, y_bo1, y_bo0, y_i0, y_i1, Classical.not_not, nI_clamp, y_ix, y_lt, y_le, y_eq, y_nP, y_nPs, y_ltP, y_ltQ, y_ltPP, y_eqP, y_eqQ, y_eqPP, if_pos, if_neg, ite_true, ite_false, not_true_eq_false, not_false_eq_true, and_true, true_and, and_false, false_and, or_true, true_or, or_false, false_or, hM.f, ym_co0 hM, ym_co1 hM]
      by_cases c : b (24 + 3 * i) = x
      · have e : y_of1 b x i = 1 := if_pos (Or.inl c)
        rw [e]; simp (disch := omega) only [y_lit, y_n1, nI_add, pk_mul, j_lt, j_b1_s, j_b2_s, j_b3_s, j_b0_s, y_bo, y_bo1, y_bo0, y_i0, y_i1, Classical.not_not, nI_clamp, y_ix, y_lt, y_le, y_eq, y_nP, y_nPs, y_ltP, y_ltQ, y_ltPP, y_eqP, y_eqQ, y_eqPP, if_pos, if_neg, ite_true, ite_false, not_true_eq_false, not_false_eq_true, and_true, true_and, and_false, false_and, or_true, true_or, or_false, false_or]
        exact ih (i + 1) n _ (by omega) (by omega)
      · by_cases d : b (25 + 3 * i) = x + 1
        · have e : y_of1 b x i = 1 := if_pos (Or.inr d)
          rw [e]; simp (disch := omega) only [y_lit, y_n1, nI_add, pk_mul, j_lt, j_b1_s, j_b2_s, j_b3_s, j_b0_s, y_bo, y_bo1, y_bo0, y_i0, y_i1, Classical.not_not, nI_clamp, y_ix, y_lt, y_le, y_eq, y_nP, y_nPs, y_ltP, y_ltQ, y_ltPP, y_eqP, y_eqQ, y_eqPP, if_pos, if_neg, ite_true, ite_false, not_true_eq_false, not_false_eq_true, and_true, true_and, and_false, false_and, or_true, true_or, or_false, false_or]
          exact ih (i + 1) n _ (by omega) (by omega)
        · have e : y_of1 b x i = 0 := if_neg (fun z => z.elim c d)
          rw [e]; simp (disch := omega) only [y_lit, y_n1, nI_add, pk_mul, j_lt, j_b1_s, j_b2_s, j_b3_s, j_b0_s, y_bo, y_bo1, y_bo0, y_i0, y_i1, Classical.not_not, nI_clamp, y_ix, y_lt, y_le, y_eq, y_nP, y_nPs, y_ltP, y_ltQ, y_ltPP, y_eqP, y_eqQ, y_eqPP, if_pos, if_neg, ite_true, ite_false, not_true_eq_false, not_false_eq_true, and_true, true_and, and_false, false_and, or_true, true_or, or_false, false_or]
          exact ih (i + 1) n _ (by omega) (by omega)
  unfold f_X12_oftenOf
  rw [y_lit, key (b 5) 0 j_F 0 (by omega) (y_F (by omega))]
  rfl
end C
section Z
variable {σ τ : j_G}
theorem z_reach (hR : j_Rel σ τ) (a1 a2 : Int32) : ∃ v σ1, f_X11_reach a1 a2 σ = some (v, σ1) ∧ f_X12_reach a1 a2 τ = some v ∧ j_Rel σ1 τ := by
  obtain ⟨b, hW, hN, hM, hK⟩ := id hR
  by_cases h : y_rg a1 (b 6)
  · by_cases h3 : y_rg a2 (y_ho b)
    · obtain ⟨p, hp, rfl⟩ := y_of _ _ h.1 h.2
      obtain ⟨x, hx, rfl⟩ := y_of _ _ h3.1 h3.2
      have h9 := hW.on0 (Or.inr (Or.inr (Or.inr (Or.inl (by omega : 0 < b 6)))))
      obtain ⟨σ1, e1, e2, e3⟩ := yc_take (a := 28) hN hW hp (by omega)
      have hN1 := hN.fr e3 (by omega)
      refine ⟨nI (y_rch b (y_pq b p) x), σ1, ?_, ?_, y_done hR (e3.wide (by omega) (by omega)) y_fm.refl⟩
      · unfold f_X11_reach; rw [yc_isHole hN hW, yc_isPlayer hN hW, if_pos h, if_pos h3]; simp (disch := omega) only [y_lit, y_n1, nI_add, pk_mul, j_lt, j_b1_s, j_b2_s, j_b3_s, j_b0_s, y_bo, y_bo1, y_bo0, y_i0, y_i1, Classical.not_not, nI_clamp, y_ix, y_lt, y_le, y_eq, y_nP, y_nPs, y_ltP, y_ltQ, y_ltPP, y_eqP, y_eqQ, y_eqPP, if_pos, if_neg, ite_true, ite_false, not_true_eq_false, not_false_eq_true, and_true, true_and, and_false, false_and, or_true, true_or, or_false, false_or, e1, yc_reach hN1 hW h9 e2 (y_pqv hW hp) hx]
      · unfold f_X12_reach; rw [ym_isPlayer hM hW, if_pos h, j_b1_s, ym_isHole hM hW, if_pos h3]; simp (disch := omega) only [y_lit, y_n1, nI_add, pk_mul, j_lt, j_b1_s, j_b2_s, j_b3_s, j_b0_s, y_bo, y_bo1, y_bo0, y_i0, y_i1, Classical.not_not, nI_clamp, y_ix, y_lt, y_le, y_eq, y_nP, y_nPs, y_ltP, y_ltQ, y_ltPP, y_eqP, y_eqQ, y_eqPP, if_pos, if_neg, ite_true, ite_false, not_true_eq_false, not_false_eq_true, and_true, true_and, and_false, false_and, or_true, true_or, or_false, false_or, ym_reach hM hW h9 hp hx]
    · refine ⟨-2, σ, ?_, ?_, hR⟩
      · unfold f_X11_reach; simp (disch := omega) only [y_lit, y_n1, nI_add, pk_mul, j_lt, j_b1_s, j_b2_s, j_b3_s, j_b0_s, y_bo, y_bo1, y_bo0, y_i0, y_i1, Classical.not_not, nI_clamp, y_ix, y_lt, y_le, y_eq, y_nP, y_nPs, y_ltP, y_ltQ, y_ltPP, y_eqP, y_eqQ, y_eqPP, if_pos, if_neg, ite_true, ite_false, not_true_eq_false, not_false_eq_true, and_true, true_and, and_false, false_and, or_true, true_or, or_false, false_or, yc_isHole hN hW, yc_isPlayer hN hW, h, h3]
      · unfold f_X12_reach; simp (disch := omega) only [y_lit, y_n1, nI_add, pk_mul, j_lt, j_b1_s, j_b2_s, j_b3_s, j_b0_s, y_bo, y_bo1, y_bo0, y_i0, y_i1, Classical.not_not, nI_clamp, y_ix, y_lt, y_le, y_eq, y_nP, y_nPs, y_ltP, y_ltQ, y_ltPP, y_eqP, y_eqQ, y_eqPP, if_pos, if_neg, ite_true, ite_false, not_true_eq_false, not_false_eq_true, and_true, true_and, and_false, false_and, or_true, true_or, or_false, false_or, ym_isHole hM hW, ym_isPlayer hM hW, h, h3]
  · refine ⟨-2, σ, ?_, ?_, hR⟩
    · unfold f_X11_reach; simp (disch := omega) only [y_lit, y_n1, nI_add, pk_mul, j_lt, j_b1_s, j_b2_s, j_b3_s, j_b0_s, y_bo, y_bo1, y_bo0, y_i0, y_i1, Classical.not_not, nI_clamp, y_ix, y_lt, y_le, y_eq, y_nP, y_nPs, y_ltP, y_ltQ, y_ltPP, y_eqP, y_eqQ, y_eqPP, if_pos, if_neg, ite_true, ite_false, not_true_eq_false, not_false_eq_true, and_true, true_and, and_false, false_and, or_true, true_or, or_false, false_or, yc_isPlayer hN hW, h]
    · unfold f_X12_reach; simp (disch := omega) only [y_lit, y_n1, nI_add, pk_mul, j_lt, j_b1_s, j_b2_s, j_b3_s, j_b0_s, y_bo, y_bo1, y_bo0, y_i0, y_i1, Classical.not_not, nI_clamp, y_ix, y_lt, y_le, y_eq, y_nP, y_nPs, y_ltP, y_ltQ, y_ltPP, y_eqP, y_eqQ, y_eqPP, if_pos, if_neg, ite_true, ite_false, not_true_eq_false, not_false_eq_true, and_true, true_and, and_false, false_and, or_true, true_or, or_false, false_or, ym_isPlayer hM hW, h]
theorem z_post (hR : j_Rel σ τ) (a1 : Int32) : ∃ v σ1, f_X11_post a1 σ = some (v, σ1) ∧ f_X12_post a1 τ = some v ∧ j_Rel σ1 τ := by
  obtain ⟨b, hW, hN, hM, hK⟩ := id hR
  have h4 := hW.ho
  by_cases h : y_rg a1 (b 6)
  · obtain ⟨p, hp, rfl⟩ := y_of _ _ h.1 h.2
    have h9 := hW.on0 (Or.inr (Or.inr (Or.inr (Or.inl (by omega : 0 < b 6)))))
    have ho := hW.on1 h9
    obtain ⟨σ1, e1, e2, e3⟩ := yc_take (a := 28) hN hW hp (by omega)
    have hN1 := hN.fr e3 (by omega)
    have hq := y_pqv hW hp
    have pl := fun x => y_pop_le 12 (y_rch b (y_pq b p) x)
    have rl := fun x => y_rch_lt (q := y_pq b p) hW (x := x)
    have both : ∀ m i n n' x, i + m = y_ho b → m < n → m < n' → x < y_ho b → ∃ v, p_X11_post_33 σ1 n (nI x) (nI (y_pop 12 (y_rch b (y_pq b p) x))) (nI i) = some v ∧ p_X12_post_15 (nI p) τ n' (nI x) (nI i) = some v := by
      intro m
      induction m with
      | zero =>
        intro i n n' x h hn hn' hx
        obtain ⟨n, rfl⟩ := y_pos hn; obtain ⟨n', rfl⟩ := y_pos hn'
        refine ⟨nI x, ?_, ?_⟩
        · unfold p_X11_post_33; simp (disch := omega) only [y_lit, y_n1, nI_add, pk_mul, j_lt, j_b1_s, j_b2_s, j_b3_s, j_b0_s, y_bo, y_bo1, y_bo0, y_i0, y_i1, Classical.not_not, nI_clamp, y_ix, y_lt, y_le, y_eq, y_nP, y_nPs, y_ltP, y_ltQ, y_ltPP, y_eqP, y_eqQ, y_eqPP, if_pos, if_neg, ite_true, ite_false, not_true_eq_false, not_false_eq_true, and_true, true_and, and_false, false_and, or_true, true_or, or_false, false_or, yc_holes hN1]
        · unfold p_X12_post_15; simp (disch := omega) only [y_lit, y_n1, nI_add, pk_mul, j_lt, j_b1_s, j_b2_s, j_b3_s, j_b0_s, y_bo, y_bo1, y_bo0, y_i0, y_i1, Classical.not_not, nI_clamp, y_ix, y_lt, y_le, y_eq, y_nP, y_nPs, y_ltP, y_ltQ, y_ltPP, y_eqP, y_eqQ, y_eqPP, if_pos, if_neg, ite_true, ite_false, not_true_eq_false, not_false_eq_true, and_true, true_and, and_false, false_and, or_true, true_or, or_false, false_or, ym_holes hM]
      | succ m ih =>
        intro i n n' x h hn hn' hx
        obtain ⟨n, rfl⟩ := y_pos hn; obtain ⟨n', rfl⟩ := y_pos hn'
        have p1 := pl i; have p2 := pl x
        obtain ⟨v, v1, v2⟩ := ih (i + 1) n n' x (by omega) (by omega) (by omega) hx
        obtain ⟨w, w1, w2⟩ := ih (i + 1) n n' i (by omega) (by omega) (by omega) (by omega)
        have km : p_X12_post_15 (nI p) τ (n' + 1) (nI x) (nI i) = p_X12_post_15 (nI p) τ n' (if nI (y_pop 12 (y_rch b (y_pq b p) x)) < nI (y_pop 12 (y_rch b (y_pq b p) i)) then nI i else nI x) (nI (i + 1)) := by
          have hlt : nI i < nI (y_ho b) := (y_lt (by omega) (by omega)).mpr (by omega)
          rw [p_X12_post_15, ym_holes hM, j_b1_s, if_pos hlt, ym_reach hM hW h9 hp (show i < y_ho b by omega), j_b1_s, ym_bits (rl i), j_b1_s, ym_reach hM hW h9 hp hx, j_b1_s, ym_bits (rl x), j_b1_s, j_lt, y_lit, nI_add]
        rw [km]
        unfold p_X11_post_33
        simp (disch := omega) only [y_lit, y_n1, nI_add, pk_mul, j_lt, j_b1_s, j_b2_s, j_b3_s, j_b0_s, y_bo, y_bo1, y_bo0, y_i0, y_i1, Classical.not_not, nI_clamp, y_ix, y_lt, y_le, y_eq, y_nP, y_nPs, y_ltP, y_ltQ, y_ltPP, y_eqP, y_eqQ, y_eqPP, if_pos, if_neg, ite_true, ite_false, not_true_eq_false, not_false_eq_true, and_true, true_and, and_false, false_and, or_true, true_or, or_false, false_or, yc_holes hN1, yc_reach hN1 hW h9 e2 hq, y_bcn _ (rl i)]
        generalize y_pop 12 (y_rch b (y_pq b p) x) = X at *
        generalize y_pop 12 (y_rch b (y_pq b p) i) = I at *
        by_cases q : X < I
        · simp (disch := omega) only [y_lit, y_n1, nI_add, pk_mul, j_lt, j_b1_s, j_b2_s, j_b3_s, j_b0_s, y_bo, y_bo1, y_bo0, y_i0, y_i1, Classical.not_not, nI_clamp, y_ix, y_lt, y_le, y_eq, y_nP, y_nPs, y_ltP, y_ltQ, y_ltPP, y_eqP, y_eqQ, y_eqPP, if_pos, if_neg, ite_true, ite_false, not_true_eq_false, not_false_eq_true, and_true, true_and, and_false, false_and, or_true, true_or, or_false, false_or]; exact ⟨w, w1, w2⟩
        · simp (disch := omega) only [y_lit, y_n1, nI_add, pk_mul, j_lt, j_b1_s, j_b2_s, j_b3_s, j_b0_s, y_bo, y_bo1, y_bo0, y_i0, y_i1, Classical.not_not, nI_clamp, y_ix, y_lt, y_le, y_eq, y_nP, y_nPs, y_ltP, y_ltQ, y_ltPP, y_eqP, y_eqQ, y_eqPP, if_pos, if_neg, ite_true, ite_false, not_true_eq_false, not_false_eq_true, and_true, true_and, and_false, false_and, or_true, true_or, or_false, false_or]; exact ⟨v, v1, v2⟩
    obtain ⟨v, v1, v2⟩ := both (y_ho b - 1) 1 4999 j_F 0 (by omega) (by omega) (y_F (by omega)) ho
    have p0 := pl 0
    have w0 : p_X11_post_33 σ1 j_F (nI 0) (nP 0) (nI 0) = some v := by
      rw [show j_F = 4999 + 1 from rfl]
      unfold p_X11_post_33; simp (disch := omega) only [y_lit, y_n1, nI_add, pk_mul, j_lt, j_b1_s, j_b2_s, j_b3_s, j_b0_s, y_bo, y_bo1, y_bo0, y_i0, y_i1, Classical.not_not, nI_clamp, y_ix, y_lt, y_le, y_eq, y_nP, y_nPs, y_ltP, y_ltQ, y_ltPP, y_eqP, y_eqQ, y_eqPP, if_pos, if_neg, ite_true, ite_false, not_true_eq_false, not_false_eq_true, and_true, true_and, and_false, false_and, or_true, true_or, or_false, false_or, yc_holes hN1, yc_reach hN1 hW h9 e2 hq, y_bcn _ (rl 0)]
      exact v1
    refine ⟨v, σ1, ?_, ?_, y_done hR (e3.wide (by omega) (by omega)) y_fm.refl⟩
    · unfold f_X11_post; simp (disch := omega) only [y_lit, y_n1, nI_add, pk_mul, j_lt, j_b1_s, j_b2_s, j_b3_s, j_b0_s, y_bo, y_bo1, y_bo0, y_i0, y_i1, Classical.not_not, nI_clamp, y_ix, y_lt, y_le, y_eq, y_nP, y_nPs, y_ltP, y_ltQ, y_ltPP, y_eqP, y_eqQ, y_eqPP, if_pos, if_neg, ite_true, ite_false, not_true_eq_false, not_false_eq_true, and_true, true_and, and_false, false_and, or_true, true_or, or_false, false_or, yc_isPlayer hN hW, y_rn, e1, w0]
    · unfold f_X12_post; simp (disch := omega) only [y_lit, y_n1, nI_add, pk_mul, j_lt, j_b1_s, j_b2_s, j_b3_s, j_b0_s, y_bo, y_bo1, y_bo0, y_i0, y_i1, Classical.not_not, nI_clamp, y_ix, y_lt, y_le, y_eq, y_nP, y_nPs, y_ltP, y_ltQ, y_ltPP, y_eqP, y_eqQ, y_eqPP, if_pos, if_neg, ite_true, ite_false, not_true_eq_false, not_false_eq_true, and_true, true_and, and_false, false_and, or_true, true_or, or_false, false_or, ym_isPlayer hM hW, y_rn, v2]
  · refine ⟨-2, σ, ?_, ?_, hR⟩
    · unfold f_X11_post; simp (disch := omega) only [y_lit, y_n1, nI_add, pk_mul, j_lt, j_b1_s, j_b2_s, j_b3_s, j_b0_s, y_bo, y_bo1, y_bo0, y_i0, y_i1, Classical.not_not, nI_clamp, y_ix, y_lt, y_le, y_eq, y_nP, y_nPs, y_ltP, y_ltQ, y_ltPP, y_eqP, y_eqQ, y_eqPP, if_pos, if_neg, ite_true, ite_false, not_true_eq_false, not_false_eq_true, and_true, true_and, and_false, false_and, or_true, true_or, or_false, false_or, yc_isPlayer hN hW, h]
    · unfold f_X12_post; simp (disch := omega) only [y_lit, y_n1, nI_add, pk_mul, j_lt, j_b1_s, j_b2_s, j_b3_s, j_b0_s, y_bo, y_bo1, y_bo0, y_i0, y_i1, Classical.not_not, nI_clamp, y_ix, y_lt, y_le, y_eq, y_nP, y_nPs, y_ltP, y_ltQ, y_ltPP, y_eqP, y_eqQ, y_eqPP, if_pos, if_neg, ite_true, ite_false, not_true_eq_false, not_false_eq_true, and_true, true_and, and_false, false_and, or_true, true_or, or_false, false_or, ym_isPlayer hM hW, h]
theorem z_often (hR : j_Rel σ τ) (a1 : Int32) : ∃ v, f_X11_often a1 σ = some v ∧ f_X12_often a1 τ = some v := by
  obtain ⟨b, hW, hN, hM, hK⟩ := id hR
  have h4 := hW.ho
  by_cases h : y_rg a1 (y_ho b)
  · obtain ⟨x, hx, rfl⟩ := y_of _ _ h.1 h.2
    refine ⟨nI (y_oft b x), ?_, ?_⟩
    · unfold f_X11_often; simp (disch := omega) only [y_lit, y_n1, nI_add, pk_mul, j_lt, j_b1_s, j_b2_s, j_b3_s, j_b0_s, y_bo, y_bo1, y_bo0, y_i0, y_i1, Classical.not_not, nI_clamp, y_ix, y_lt, y_le, y_eq, y_nP, y_nPs, y_ltP, y_ltQ, y_ltPP, y_eqP, y_eqQ, y_eqPP, if_pos, if_neg, ite_true, ite_false, not_true_eq_false, not_false_eq_true, and_true, true_and, and_false, false_and, or_true, true_or, or_false, false_or, yc_isHole hN hW, y_rn, yc_oft hN hW]
    · unfold f_X12_often; simp (disch := omega) only [y_lit, y_n1, nI_add, pk_mul, j_lt, j_b1_s, j_b2_s, j_b3_s, j_b0_s, y_bo, y_bo1, y_bo0, y_i0, y_i1, Classical.not_not, nI_clamp, y_ix, y_lt, y_le, y_eq, y_nP, y_nPs, y_ltP, y_ltQ, y_ltPP, y_eqP, y_eqQ, y_eqPP, if_pos, if_neg, ite_true, ite_false, not_true_eq_false, not_false_eq_true, and_true, true_and, and_false, false_and, or_true, true_or, or_false, false_or, ym_isHole hM hW, y_rn, ym_oft hM hW]
  · refine ⟨-2, ?_, ?_⟩
    · unfold f_X11_often; simp (disch := omega) only [y_lit, y_n1, nI_add, pk_mul, j_lt, j_b1_s, j_b2_s, j_b3_s, j_b0_s, y_bo, y_bo1, y_bo0, y_i0, y_i1, Classical.not_not, nI_clamp, y_ix, y_lt, y_le, y_eq, y_nP, y_nPs, y_ltP, y_ltQ, y_ltPP, y_eqP, y_eqQ, y_eqPP, if_pos, if_neg, ite_true, ite_false, not_true_eq_false, not_false_eq_true, and_true, true_and, and_false, false_and, or_true, true_or, or_false, false_or, yc_isHole hN hW, h]
    · unfold f_X12_often; simp (disch := omega) only [y_lit, y_n1, nI_add, pk_mul, j_lt, j_b1_s, j_b2_s, j_b3_s, j_b0_s, y_bo, y_bo1, y_bo0, y_i0, y_i1, Classical.not_not, nI_clamp, y_ix, y_lt, y_le, y_eq, y_nP, y_nPs, y_ltP, y_ltQ, y_ltPP, y_eqP, y_eqQ, y_eqPP, if_pos, if_neg, ite_true, ite_false, not_true_eq_false, not_false_eq_true, and_true, true_and, and_false, false_and, or_true, true_or, or_false, false_or, ym_isHole hM hW, h]
theorem z_balance (hR : j_Rel σ τ) : ∃ v, f_X11_balance σ = some v ∧ f_X12_balance τ = some v := by
  obtain ⟨b, hW, hN, hM, hK⟩ := id hR
  have h4 := hW.ho
  have h5 := hW.b5
  by_cases h9 : 0 < b 9
  · have both : ∀ m i n t lo, i + m = y_ho b → m < n → t < 100 → lo < 100 → ∃ t' lo', t' < 100 ∧ lo' < 100 ∧ p_X11_balance_19 σ n (nP t) (if t = 0 then nP 0 else nI lo) (nI i) = some (nP t', if t' = 0 then nP 0 else nI lo') ∧ p_X12_balance_18 τ n (if t = 0 then nI 1000000 else nI lo) (nP t) (nI i) = some (if t' = 0 then nI 1000000 else nI lo', nP t') := by
      intro m
      induction m with
      | zero =>
        intro i n t lo h hn ht hl
        obtain ⟨n, rfl⟩ := y_pos hn
        refine ⟨t, lo, ht, hl, ?_, ?_⟩
        · unfold p_X11_balance_19; simp (disch := omega) only [y_lit, y_n1, nI_add, pk_mul, j_lt, j_b1_s, j_b2_s, j_b3_s, j_b0_s, y_bo, y_bo1, y_bo0, y_i0, y_i1, Classical.not_not, nI_clamp, y_ix, y_lt, y_le, y_eq, y_nP, y_nPs, y_ltP, y_ltQ, y_ltPP, y_eqP, y_eqQ, y_eqPP, if_pos, if_neg, ite_true, ite_false, not_true_eq_false, not_false_eq_true, and_true, true_and, and_false, false_and, or_true, true_or, or_false, false_or, yc_holes hN]
        · unfold p_X12_balance_18; simp (disch := omega) only [y_lit, y_n1, nI_add, pk_mul, j_lt, j_b1_s, j_b2_s, j_b3_s, j_b0_s, y_bo, y_bo1, y_bo0, y_i0, y_i1, Classical.not_not, nI_clamp, y_ix, y_lt, y_le, y_eq, y_nP, y_nPs, y_ltP, y_ltQ, y_ltPP, y_eqP, y_eqQ, y_eqPP, if_pos, if_neg, ite_true, ite_false, not_true_eq_false, not_false_eq_true, and_true, true_and, and_false, false_and, or_true, true_or, or_false, false_or, ym_holes hM]
      | succ m ih =>
        intro i n t lo h hn ht hl
        obtain ⟨n, rfl⟩ := y_pos hn
        have hs := y_sh_le b i
        have hf := y_oft_le b i
        unfold p_X11_balance_19 p_X12_balance_18
        simp (disch := omega) only [y_lit, y_n1, nI_add, pk_mul, j_lt, j_b1_s, j_b2_s, j_b3_s, j_b0_s, y_bo, y_bo1, y_bo0, y_i0, y_i1, Classical.not_not, nI_clamp, y_ix, y_lt, y_le, y_eq, y_nP, y_nPs, y_ltP, y_ltQ, y_ltPP, y_eqP, y_eqQ, y_eqPP, if_pos, if_neg, ite_true, ite_false, not_true_eq_false, not_false_eq_true, and_true, true_and, and_false, false_and, or_true, true_or, or_false, false_or, yc_holes hN, ym_holes hM, yc_isShut hN hW, ym_isShut hM hW]
        by_cases c : y_sh b i = 1
        · simp (disch := omega) only [y_lit, y_n1, nI_add, pk_mul, j_lt, j_b1_s, j_b2_s, j_b3_s, j_b0_s, y_bo, y_bo1, y_bo0, y_i0, y_i1, Classical.not_not, nI_clamp, y_ix, y_lt, y_le, y_eq, y_nP, y_nPs, y_ltP, y_ltQ, y_ltPP, y_eqP, y_eqQ, y_eqPP, if_pos, if_neg, ite_true, ite_false, not_true_eq_false, not_false_eq_true, and_true, true_and, and_false, false_and, or_true, true_or, or_false, false_or]
          exact ih (i + 1) n t lo (by omega) (by omega) ht hl
        · simp (disch := omega) only [y_lit, y_n1, nI_add, pk_mul, j_lt, j_b1_s, j_b2_s, j_b3_s, j_b0_s, y_bo, y_bo1, y_bo0, y_i0, y_i1, Classical.not_not, nI_clamp, y_ix, y_lt, y_le, y_eq, y_nP, y_nPs, y_ltP, y_ltQ, y_ltPP, y_eqP, y_eqQ, y_eqPP, if_pos, if_neg, ite_true, ite_false, not_true_eq_false, not_false_eq_true, and_true, true_and, and_false, false_and, or_true, true_or, or_false, false_or, yc_oft hN hW, ym_oft hM hW]
          have key := ih (i + 1) n (if t < y_oft b i + 1 then y_oft b i + 1 else t) (if t = 0 then y_oft b i else if y_oft b i < lo then y_oft b i else lo) (by omega) (by omega) (by split <;> omega) (by split <;> (try split) <;> omega)
          obtain ⟨t', lo', k1, k2, k3, k4⟩ := key
          refine ⟨t', lo', k1, k2, ?_, ?_⟩
          · rw [← k3]
            by_cases z : t = 0
            · subst z; simp (disch := omega) only [y_lit, y_n1, nI_add, pk_mul, j_lt, j_b1_s, j_b2_s, j_b3_s, j_b0_s, y_bo, y_bo1, y_bo0, y_i0, y_i1, Classical.not_not, nI_clamp, y_ix, y_lt, y_le, y_eq, y_nP, y_nPs, y_ltP, y_ltQ, y_ltPP, y_eqP, y_eqQ, y_eqPP, if_pos, if_neg, ite_true, ite_false, not_true_eq_false, not_false_eq_true, and_true, true_and, and_false, false_and, or_true, true_or, or_false, false_or]
            · by_cases y : t < y_oft b i + 1
              · by_cases x : y_oft b i < lo
                · simp (disch := omega) only [y_lit, y_n1, nI_add, pk_mul, j_lt, j_b1_s, j_b2_s, j_b3_s, j_b0_s, y_bo, y_bo1, y_bo0, y_i0, y_i1, Classical.not_not, nI_clamp, y_ix, y_lt, y_le, y_eq, y_nP, y_nPs, y_ltP, y_ltQ, y_ltPP, y_eqP, y_eqQ, y_eqPP, if_pos, if_neg, ite_true, ite_false, not_true_eq_false, not_false_eq_true, and_true, true_and, and_false, false_and, or_true, true_or, or_false, false_or]
                · simp (disch := omega) only [y_lit, y_n1, nI_add, pk_mul, j_lt, j_b1_s, j_b2_s, j_b3_s, j_b0_s, y_bo, y_bo1, y_bo0, y_i0, y_i1, Classical.not_not, nI_clamp, y_ix, y_lt, y_le, y_eq, y_nP, y_nPs, y_ltP, y_ltQ, y_ltPP, y_eqP, y_eqQ, y_eqPP, if_pos, if_neg, ite_true, ite_false, not_true_eq_false, not_false_eq_true, and_true, true_and, and_false, false_and, or_true, true_or, or_false, false_or]
              · by_cases x : y_oft b i < lo
                · simp (disch := omega) only [y_lit, y_n1, nI_add, pk_mul, j_lt, j_b1_s, j_b2_s, j_b3_s, j_b0_s, y_bo, y_bo1, y_bo0, y_i0, y_i1, Classical.not_not, nI_clamp, y_ix, y_lt, y_le, y_eq, y_nP, y_nPs, y_ltP, y_ltQ, y_ltPP, y_eqP, y_eqQ, y_eqPP, if_pos, if_neg, ite_true, ite_false, not_true_eq_false, not_false_eq_true, and_true, true_and, and_false, false_and, or_true, true_or, or_false, false_or]
                · simp (disch := omega) only [y_lit, y_n1, nI_add, pk_mul, j_lt, j_b1_s, j_b2_s, j_b3_s, j_b0_s, y_bo, y_bo1, y_bo0, y_i0, y_i1, Classical.not_not, nI_clamp, y_ix, y_lt, y_le, y_eq, y_nP, y_nPs, y_ltP, y_ltQ, y_ltPP, y_eqP, y_eqQ, y_eqPP, if_pos, if_neg, ite_true, ite_false, not_true_eq_false, not_false_eq_true, and_true, true_and, and_false, false_and, or_true, true_or, or_false, false_or]
          · rw [← k4]
            by_cases z : t = 0
            · subst z; simp (disch := omega) only [y_lit, y_n1, nI_add, pk_mul, j_lt, j_b1_s, j_b2_s, j_b3_s, j_b0_s, y_bo, y_bo1, y_bo0, y_i0, y_i1, Classical.not_not, nI_clamp, y_ix, y_lt, y_le, y_eq, y_nP, y_nPs, y_ltP, y_ltQ, y_ltPP, y_eqP, y_eqQ, y_eqPP, if_pos, if_neg, ite_true, ite_false, not_true_eq_false, not_false_eq_true, and_true, true_and, and_false, false_and, or_true, true_or, or_false, false_or]
            · by_cases y : t < y_oft b i + 1
              · by_cases x : y_oft b i < lo
                · simp (disch := omega) only [y_lit, y_n1, nI_add, pk_mul, j_lt, j_b1_s, j_b2_s, j_b3_s, j_b0_s, y_bo, y_bo1, y_bo0, y_i0, y_i1, Classical.not_not, nI_clamp, y_ix, y_lt, y_le, y_eq, y_nP, y_nPs, y_ltP, y_ltQ, y_ltPP, y_eqP, y_eqQ, y_eqPP, if_pos, if_neg, ite_true, ite_false, not_true_eq_false, not_false_eq_true, and_true, true_and, and_false, false_and, or_true, true_or, or_false, false_or]
                · simp (disch := omega) only [y_lit, y_n1, nI_add, pk_mul, j_lt, j_b1_s, j_b2_s, j_b3_s, j_b0_s, y_bo, y_bo1, y_bo0, y_i0, y_i1, Classical.not_not, nI_clamp, y_ix, y_lt, y_le, y_eq, y_nP, y_nPs, y_ltP, y_ltQ, y_ltPP, y_eqP, y_eqQ, y_eqPP, if_pos, if_neg, ite_true, ite_false, not_true_eq_false, not_false_eq_true, and_true, true_and, and_false, false_and, or_true, true_or, or_false, false_or]
              · by_cases x : y_oft b i < lo
                · simp (disch := omega) only [y_lit, y_n1, nI_add, pk_mul, j_lt, j_b1_s, j_b2_s, j_b3_s, j_b0_s, y_bo, y_bo1, y_bo0, y_i0, y_i1, Classical.not_not, nI_clamp, y_ix, y_lt, y_le, y_eq, y_nP, y_nPs, y_ltP, y_ltQ, y_ltPP, y_eqP, y_eqQ, y_eqPP, if_pos, if_neg, ite_true, ite_false, not_true_eq_false, not_false_eq_true, and_true, true_and, and_false, false_and, or_true, true_or, or_false, false_or]
                · simp (disch := omega) only [y_lit, y_n1, nI_add, pk_mul, j_lt, j_b1_s, j_b2_s, j_b3_s, j_b0_s, y_bo, y_bo1, y_bo0, y_i0, y_i1, Classical.not_not, nI_clamp, y_ix, y_lt, y_le, y_eq, y_nP, y_nPs, y_ltP, y_ltQ, y_ltPP, y_eqP, y_eqQ, y_eqPP, if_pos, if_neg, ite_true, ite_false, not_true_eq_false, not_false_eq_true, and_true, true_and, and_false, false_and, or_true, true_or, or_false, false_or]
    obtain ⟨t', lo', k1, k2, k3, k4⟩ := both (y_ho b) 0 j_F 0 0 (by omega) (y_F (by omega)) (by omega) (by omega)
    rw [if_pos rfl] at k3 k4
    by_cases z : t' = 0
    · refine ⟨-1, ?_, ?_⟩
      · unfold f_X11_balance; simp (disch := omega) only [y_lit, y_n1, nI_add, pk_mul, j_lt, j_b1_s, j_b2_s, j_b3_s, j_b0_s, y_bo, y_bo1, y_bo0, y_i0, y_i1, Classical.not_not, nI_clamp, y_ix, y_lt, y_le, y_eq, y_nP, y_nPs, y_ltP, y_ltQ, y_ltPP, y_eqP, y_eqQ, y_eqPP, if_pos, if_neg, ite_true, ite_false, not_true_eq_false, not_false_eq_true, and_true, true_and, and_false, false_and, or_true, true_or, or_false, false_or, yc_isTold hN hW, k3, z]
      · unfold f_X12_balance; simp (disch := omega) only [y_lit, y_n1, nI_add, pk_mul, j_lt, j_b1_s, j_b2_s, j_b3_s, j_b0_s, y_bo, y_bo1, y_bo0, y_i0, y_i1, Classical.not_not, nI_clamp, y_ix, y_lt, y_le, y_eq, y_nP, y_nPs, y_ltP, y_ltQ, y_ltPP, y_eqP, y_eqQ, y_eqPP, if_pos, if_neg, ite_true, ite_false, not_true_eq_false, not_false_eq_true, and_true, true_and, and_false, false_and, or_true, true_or, or_false, false_or, ym_isBoard hM hW, k4, z]
    · rw [if_neg z] at k3 k4
      refine ⟨nP t' - nI lo', ?_, ?_⟩
      · unfold f_X11_balance; simp (disch := omega) only [y_lit, y_n1, nI_add, pk_mul, j_lt, j_b1_s, j_b2_s, j_b3_s, j_b0_s, y_bo, y_bo1, y_bo0, y_i0, y_i1, Classical.not_not, nI_clamp, y_ix, y_lt, y_le, y_eq, y_nP, y_nPs, y_ltP, y_ltQ, y_ltPP, y_eqP, y_eqQ, y_eqPP, if_pos, if_neg, ite_true, ite_false, not_true_eq_false, not_false_eq_true, and_true, true_and, and_false, false_and, or_true, true_or, or_false, false_or, yc_isTold hN hW, k3]
      · unfold f_X12_balance; simp (disch := omega) only [y_lit, y_n1, nI_add, pk_mul, j_lt, j_b1_s, j_b2_s, j_b3_s, j_b0_s, y_bo, y_bo1, y_bo0, y_i0, y_i1, Classical.not_not, nI_clamp, y_ix, y_lt, y_le, y_eq, y_nP, y_nPs, y_ltP, y_ltQ, y_ltPP, y_eqP, y_eqQ, y_eqPP, if_pos, if_neg, ite_true, ite_false, not_true_eq_false, not_false_eq_true, and_true, true_and, and_false, false_and, or_true, true_or, or_false, false_or, ym_isBoard hM hW, k4]
  · refine ⟨-2, ?_, ?_⟩
    · unfold f_X11_balance; simp (disch := omega) only [y_lit, y_n1, nI_add, pk_mul, j_lt, j_b1_s, j_b2_s, j_b3_s, j_b0_s, y_bo, y_bo1, y_bo0, y_i0, y_i1, Classical.not_not, nI_clamp, y_ix, y_lt, y_le, y_eq, y_nP, y_nPs, y_ltP, y_ltQ, y_ltPP, y_eqP, y_eqQ, y_eqPP, if_pos, if_neg, ite_true, ite_false, not_true_eq_false, not_false_eq_true, and_true, true_and, and_false, false_and, or_true, true_or, or_false, false_or, yc_isTold hN hW]
    · unfold f_X12_balance; simp (disch := omega) only [y_lit, y_n1, nI_add, pk_mul, j_lt, j_b1_s, j_b2_s, j_b3_s, j_b0_s, y_bo, y_bo1, y_bo0, y_i0, y_i1, Classical.not_not, nI_clamp, y_ix, y_lt, y_le, y_eq, y_nP, y_nPs, y_ltP, y_ltQ, y_ltPP, y_eqP, y_eqQ, y_eqPP, if_pos, if_neg, ite_true, ite_false, not_true_eq_false, not_false_eq_true, and_true, true_and, and_false, false_and, or_true, true_or, or_false, false_or, ym_isBoard hM hW]
end Z
/-! ===== the kept cells, and a board changed in one place ===== -/
def y_kc (σ σ' : j_G) : Prop := ∀ c, c = 10 ∨ c = 19 ∨ c = 20 ∨ 43 ≤ c → σ'.1 c = σ.1 c ∧ σ'.2 c = σ.2 c
def y_km (τ τ' : j_G) : Prop := (∀ j, j = 5 ∨ j = 12 ∨ j = 13 → τ'.1 75 j = τ.1 75 j) ∧ ∀ c, c = 77 ∨ c = 78 ∨ c = 79 ∨ c = 94 ∨ c = 95 ∨ c = 96 → τ'.1 c = τ.1 c ∧ τ'.2 c = τ.2 c
theorem y_kc.of {σ σ' : j_G} {lo hi : Nat} (h : y_fr lo hi σ σ') (h1 : 20 < lo ∨ hi < 10) (h2 : hi < 43) : y_kc σ σ' := fun c hc => h c (by omega)
theorem y_kc.trans {σ σ' σ'' : j_G} (h : y_kc σ σ') (h' : y_kc σ' σ'') : y_kc σ σ'' := fun c hc => ⟨(h' c hc).1.trans (h c hc).1, (h' c hc).2.trans (h c hc).2⟩
theorem y_kc.refl {σ : j_G} : y_kc σ σ := fun _ _ => ⟨rfl, rfl⟩
theorem y_km.refl {σ : j_G} : y_km σ σ := ⟨fun _ _ => rfl, fun _ _ => ⟨rfl, rfl⟩⟩
theorem y_km.trans {σ σ' σ'' : j_G} (h : y_km σ σ') (h' : y_km σ' σ'') : y_km σ σ'' :=
  ⟨fun j hj => (h'.1 j hj).trans (h.1 j hj), fun c hc => ⟨(h'.2 c hc).1.trans (h.2 c hc).1, (h'.2 c hc).2.trans (h.2 c hc).2⟩⟩
theorem y_km.of {σ σ' : j_G} {f g lo hi : Nat} (h : y_fm f g lo hi σ σ') (h1 : 13 < f) (h2 : 79 < lo ∨ hi < 77) (h3 : hi < 94) : y_km σ σ' :=
  ⟨fun j hj => h.1 j (by omega), fun c hc => h.2 c (by omega) (by omega)⟩
theorem y_km.w {σ : j_G} {j : Nat} {v : Int32} : y_km σ (j_si σ 76 j v) :=
  ⟨fun j' hj => j_r_ne (by omega), fun c hc => ⟨funext fun j' => j_r_ne (by omega), rfl⟩⟩
theorem y_kc.w {σ : j_G} {c j : Nat} {v : Int32} (hc : c < 10) : y_kc σ (j_si σ c j v) :=
  fun c' hc' => ⟨funext fun j' => j_r_ne (by omega), rfl⟩
theorem y_K.fr2 {σ τ σ' τ' : j_G} (h : y_K σ τ) (h1 : y_kc σ σ') (h2 : y_km τ τ') : y_K σ' τ' := by
  obtain ⟨⟨i0, i1, i2⟩, ⟨s0, s1, s2, s3⟩, ht, hf⟩ := h
  have e77 := (h2.2 77 (by omega)).1
  have e78 := (h2.2 78 (by omega)).1
  have e94 := (h2.2 94 (by omega)).1
  have e95 := (h2.2 95 (by omega)).1
  have e96 := (h2.2 96 (by omega)).2
  refine ⟨⟨i0.fr (fun x hx => (h1 x (by omega)).1) e77 e78, i1.fr (fun x hx => (h1 x (by omega)).1) e77 e78, i2.fr (fun x hx => (h1 x (by omega)).1) e77 e78⟩,
    ⟨s0.fr (h1 67 (by omega)).1 (h1 68 (by omega)).2 e94 e95 e96, s1.fr (h1 69 (by omega)).1 (h1 70 (by omega)).2 e94 e95 e96, s2.fr (h1 71 (by omega)).1 (h1 72 (by omega)).2 e94 e95 e96, s3.fr (h1 73 (by omega)).1 (h1 74 (by omega)).2 e94 e95 e96⟩, ?_, ?_⟩
  · unfold y_tp at *
    rw [(h1 19 (by omega)).1, (h1 20 (by omega)).1, h2.1 5 (by omega), (h2.2 79 (by omega)).1]
    exact ht
  · unfold y_ft at *
    rw [(h1 10 (by omega)).1, h2.1 12 (by omega), h2.1 13 (by omega)]
    exact hf
theorem y_M.set {τ : j_G} {b : Nat → Nat} {j v : Nat} (h : y_M τ b) (hj : ¬ (24 ≤ j ∧ j < 96 ∧ j % 3 = 1)) : y_M (j_si τ 76 j (nI v)) (y_u b j v) := by
  intro i hi
  by_cases e : i = j
  · subst e; rw [j_r_eq, if_neg hj, y_ue]
  · rw [j_r_nj e, y_un e]; exact h i hi
/-- stands -/
theorem y_W.set8 {b : Nat → Nat} {k : Nat} (h : y_W b) (hk : k < b 5) : y_W (y_u b 8 k) := by
  obtain ⟨h1, h2, h3, h4, h5, h6, h7, h8, h9⟩ := h
  unfold y_W y_ho at *
  simp (disch := omega) only [y_ue, y_un]
  exact ⟨h1, h2, h3, fun _ => hk, fun z => by omega, h6, h7, h8, h9⟩
theorem y_N.set8 {σ : j_G} {b : Nat → Nat} {k : Nat} (h : y_N σ b) : y_N (j_si σ 5 1 (nI k)) (y_u b 8 k) := by
  obtain ⟨⟨f1, f2, f3, f4, f5, f6, f7, f10, d0, d1⟩, f8, s, t, c⟩ := h
  unfold y_N y_cb
  refine ⟨?_, ?_, ?_, ?_, ?_⟩
  · simp (disch := omega) only [j_r_ne, j_r_eq, j_r_nj, y_ue, y_un]
    exact ⟨f1, f2, f3, f4, f5, f6, f7, f10, d0, trivial⟩
  · simp (disch := omega) only [j_r_ne, j_r_eq, j_r_nj, y_ue, y_un]; exact f8
  · simp (disch := omega) only [j_r_ne, j_r_eq, j_r_nj, y_ue, y_un]; exact s
  · intro p q hp hq
    simp (disch := omega) only [y_ue, y_un] at hp
    have := t p q hp hq
    simp (disch := omega) only [j_r_ne, j_r_eq, j_r_nj, y_ue, y_un]; exact this
  · simp (disch := omega) only [j_r_ne, j_r_eq, j_r_nj, y_ue, y_un]; exact c
/-- red -/
theorem y_W.setr {b : Nat → Nat} {k v : Nat} (h : y_W b) (hk : k < b 5) (hv : v ≤ 1) (ho : b (25 + 3 * k) = 0) : y_W (y_u b (26 + 3 * k) v) := by
  have b5 := h.b5; have b4 := h.b4; have b6 := h.b6
  obtain ⟨h1, h2, h3, h4, h5, h6, h7, h8, h9⟩ := h
  unfold y_W y_ho at *
  refine ⟨?_, ?_, ?_, ?_, ?_, fun j hj => ?_, fun j l hj hl => ?_, fun j hj => ?_, fun j hj => ?_⟩
  · simp (disch := omega) only [y_un]; exact h1
  · simp (disch := omega) only [y_un]; exact h2
  · simp (disch := omega) only [y_un]; exact h3
  · simp (disch := omega) only [y_un]; exact h4
  · simp (disch := omega) only [y_un]; exact h5
  · simp (disch := omega) only [y_un] at hj; simp (disch := omega) only [y_un]; exact h6 j hj
  · simp (disch := omega) only [y_un] at hl; simp (disch := omega) only [y_un]; exact h7 j l hj hl
  · simp (disch := omega) only [y_un] at hj
    have q := h8 j hj
    by_cases e : j = k
    · subst e; simp (disch := omega) only [y_ue, y_un]
      exact ⟨q.1, q.2.1, q.2.2.1, hv, fun z => by omega, q.2.2.2.2.2.1, q.2.2.2.2.2.2⟩
    · simp (disch := omega) only [y_ue, y_un]; exact q
  · simp (disch := omega) only [y_un] at hj; simp (disch := omega) only [y_un]; exact h9 j hj
theorem y_N.setr {σ : j_G} {b : Nat → Nat} {k v : Nat} (h : y_N σ b) (hW : y_W b) (hk : k < b 5) : y_N (j_si σ 8 k (nI v)) (y_u b (26 + 3 * k) v) := by
  have b5 := hW.b5; have b4 := hW.b4; have b6 := hW.b6
  obtain ⟨⟨f1, f2, f3, f4, f5, f6, f7, f10, d0, d1⟩, f8, s, t, c⟩ := h
  unfold y_N y_cb
  refine ⟨?_, ?_, fun j hj => ?_, fun p q hp hq => ?_, fun j hj => ?_⟩
  · simp (disch := omega) only [j_r_ne, y_un]
    exact ⟨f1, f2, f3, f4, f5, f6, f7, f10, d0, d1⟩
  · simp (disch := omega) only [j_r_ne, y_un]; exact f8
  · simp (disch := omega) only [y_un] at hj; simp (disch := omega) only [j_r_ne, y_un]; exact s j hj
  · simp (disch := omega) only [y_un] at hp
    simp (disch := omega) only [j_r_ne, y_un]; exact t p q hp hq
  · simp (disch := omega) only [y_un] at hj
    have := c j hj
    by_cases e : j = k
    · subst e; simp (disch := omega) only [j_r_ne, j_r_eq, y_ue, y_un]; exact ⟨this.1, this.2.1, trivial⟩
    · simp (disch := omega) only [j_r_ne, j_r_eq, j_r_nj, y_ue, y_un]; exact this
/-- a player's number -/
theorem y_W.sett {b : Nat → Nat} {p q v : Nat} (h : y_W b) (hp : p < b 6) (hq : q < 5) (hv : (q = 0 → 1 ≤ v ∧ v ≤ 9) ∧ (q = 1 → v ≤ 20) ∧ (q = 2 → v ≤ 99) ∧ (q = 3 → v ≤ 9) ∧ (q = 4 → v < y_ho b)) : y_W (y_u b (96 + 5 * p + q) v) := by
  have b5 := h.b5; have b4 := h.b4; have b6 := h.b6
  obtain ⟨h1, h2, h3, h4, h5, h6, h7, h8, h9⟩ := h
  unfold y_W y_ho at *
  refine ⟨?_, ?_, ?_, ?_, ?_, fun j hj => ?_, fun j l hj hl => ?_, fun j hj => ?_, fun j hj => ?_⟩
  · simp (disch := omega) only [y_un]; exact h1
  · simp (disch := omega) only [y_un]; exact h2
  · simp (disch := omega) only [y_un]; exact h3
  · simp (disch := omega) only [y_un]; exact h4
  · simp (disch := omega) only [y_un]; exact h5
  · simp (disch := omega) only [y_un] at hj; simp (disch := omega) only [y_un]; exact h6 j hj
  · simp (disch := omega) only [y_un] at hl; simp (disch := omega) only [y_un]; exact h7 j l hj hl
  · simp (disch := omega) only [y_un] at hj; simp (disch := omega) only [y_un]; exact h8 j hj
  · simp (disch := omega) only [y_un] at hj
    have w := h9 j hj
    have e0 : y_u b (96 + 5 * p + q) v 0 = b 0 := y_un (by omega)
    have e1 : y_u b (96 + 5 * p + q) v 1 = b 1 := y_un (by omega)
    rw [e0, e1]
    unfold y_u
    obtain ⟨v0, v1, v2, v3, v4⟩ := hv
    refine ⟨?_, ?_, ?_, ?_, ?_, ?_⟩ <;> split <;> omega
theorem y_N.sett {σ : j_G} {b : Nat → Nat} {p q v : Nat} (h : y_N σ b) (hW : y_W b) (hp : p < b 6) (hq : q < 5) : y_N (j_si σ 4 (5 * p + q) (nI v)) (y_u b (96 + 5 * p + q) v) := by
  have b5 := hW.b5; have b4 := hW.b4; have b6 := hW.b6
  obtain ⟨⟨f1, f2, f3, f4, f5, f6, f7, f10, d0, d1⟩, f8, s, t, c⟩ := h
  unfold y_N y_cb
  refine ⟨?_, ?_, fun j hj => ?_, fun p' q' hp' hq' => ?_, fun j hj => ?_⟩
  · simp (disch := omega) only [j_r_ne, y_un]
    exact ⟨f1, f2, f3, f4, f5, f6, f7, f10, d0, d1⟩
  · simp (disch := omega) only [j_r_ne, y_un]; exact f8
  · simp (disch := omega) only [y_un] at hj; simp (disch := omega) only [j_r_ne, y_un]; exact s j hj
  · simp (disch := omega) only [y_un] at hp'
    by_cases e : 5 * p' + q' = 5 * p + q
    · rw [e, show 96 + 5 * p' + q' = 96 + 5 * p + q from by omega, j_r_eq, y_ue]
    · rw [j_r_nj e, y_un (by omega)]; exact t p' q' hp' hq'
  · simp (disch := omega) only [y_un] at hj
    simp (disch := omega) only [j_r_ne, y_un]; exact c j hj
/-! ===== turn, paint, shut, train ===== -/
theorem y_flip1 (S C : BitVec 32) (h : S &&& C = 0#32) : S ^^^ C = (S &&& ~~~C) ||| C ∧ S &&& ~~~C = S := by
  have hb : ∀ (i : Nat) (hi : i < 32), (S[i] && C[i]) = false := fun i hi => by
    have := congrArg (fun z : BitVec 32 => z[i]) h
    simpa using this
  constructor
  · apply BitVec.eq_of_getElem_eq
    intro i hi
    have := hb i hi
    simp only [BitVec.getElem_xor, BitVec.getElem_or, BitVec.getElem_and, BitVec.getElem_not]
    cases h1 : S[i] <;> cases h2 : C[i] <;> simp_all
  · apply BitVec.eq_of_getElem_eq
    intro i hi
    have := hb i hi
    simp only [BitVec.getElem_and, BitVec.getElem_not]
    cases h1 : S[i] <;> cases h2 : C[i] <;> simp_all
theorem y_flip2 (S C : BitVec 32) (h : S &&& C = C) : S ^^^ C = S &&& ~~~C ∧ (S &&& ~~~C) ||| C = S := by
  have hb : ∀ (i : Nat) (hi : i < 32), (S[i] && C[i]) = C[i] := fun i hi => by
    have := congrArg (fun z : BitVec 32 => z[i]) h
    simpa using this
  constructor
  · apply BitVec.eq_of_getElem_eq
    intro i hi
    have := hb i hi
    simp only [BitVec.getElem_xor, BitVec.getElem_and, BitVec.getElem_not]
    cases h1 : S[i] <;> cases h2 : C[i] <;> simp_all
  · apply BitVec.eq_of_getElem_eq
    intro i hi
    have := hb i hi
    simp only [BitVec.getElem_or, BitVec.getElem_and, BitVec.getElem_not]
    cases h1 : S[i] <;> cases h2 : C[i] <;> simp_all
theorem y_xor {a c : Nat} : nI a ^^^ nI c = nI (a ^^^ c) := by
  apply Int32.toBitVec_inj.mp
  show BitVec.ofNat 32 a ^^^ BitVec.ofNat 32 c = BitVec.ofNat 32 (a ^^^ c)
  rw [BitVec.ofNat_xor]
theorem y_tb {s x : Nat} : s / 2 ^ x % 2 = 1 ↔ s.testBit x = true := by
  rw [Nat.testBit_eq_decide_div_mod_eq, decide_eq_true_iff]
theorem y_tb0 {s x : Nat} (h : s / 2 ^ x % 2 = 0) : s.testBit x = false := by
  cases hb : s.testBit x with
  | false => rfl
  | true => have := y_tb.mpr hb; omega
theorem y_tb2 {s x : Nat} : s / 2 ^ x % 2 = (s.testBit x).toNat := by
  cases hb : s.testBit x with
  | true => exact y_tb.mpr hb
  | false =>
    have : ¬ s / 2 ^ x % 2 = 1 := fun z => by rw [y_tb.mp z] at hb; cases hb
    show _ = 0; omega
theorem y_and0 {s x : Nat} (h : s / 2 ^ x % 2 = 0) : s &&& 2 ^ x = 0 := by
  apply Nat.eq_of_testBit_eq
  intro i
  rw [Nat.testBit_and, Nat.testBit_two_pow, Nat.zero_testBit]
  by_cases e : x = i
  · subst e; rw [y_tb0 h]; rfl
  · rw [decide_eq_false e, Bool.and_false]
theorem y_and1 {s x : Nat} (h : s / 2 ^ x % 2 = 1) : s &&& 2 ^ x = 2 ^ x := by
  apply Nat.eq_of_testBit_eq
  intro i
  rw [Nat.testBit_and, Nat.testBit_two_pow]
  by_cases e : x = i
  · subst e; rw [y_tb.mp h]; rfl
  · rw [decide_eq_false e, Bool.and_false]
theorem y_nPx (C : Int32) : (C ^^^ nP 0).toBitVec = ~~~ C.toBitVec := by
  show C.toBitVec ^^^ BitVec.allOnes 32 = _
  rw [BitVec.xor_allOnes]
/-- the new bits of a hole shut or not -/
def y_shn (s x w : Nat) : Nat := if s / 2 ^ x % 2 = w then s else s ^^^ 2 ^ x
theorem ym_shn {s x w : Nat} (hx : x < 12) (hw : w < 2) : (nI s &&& (nI (2 ^ x) ^^^ nP 0)) ||| (nI w <<< (nI x &&& nI 31)) = nI (y_shn s x w) := by
  have h2 : s / 2 ^ x % 2 < 2 := Nat.mod_lt _ (by omega)
  obtain rfl | rfl : w = 0 ∨ w = 1 := by omega
  · have e0 : nI 0 <<< (nI x &&& nI 31) = nI 0 := by
      rw [y_an (by omega), pk_shlN _ x (y_sm x (by omega)) (by omega), Nat.zero_mul]
    rw [e0]
    unfold y_shn
    by_cases c : s / 2 ^ x % 2 = 0
    · rw [if_pos c]
      have q := (y_flip1 (BitVec.ofNat 32 s) (BitVec.ofNat 32 (2 ^ x)) (by rw [← BitVec.ofNat_and, y_and0 c])).2
      apply Int32.toBitVec_inj.mp
      show (BitVec.ofNat 32 s &&& (nI (2 ^ x) ^^^ nP 0).toBitVec) ||| 0#32 = BitVec.ofNat 32 s
      rw [y_nPx, BitVec.or_zero]
      exact q
    · rw [if_neg c]
      have c1 : s / 2 ^ x % 2 = 1 := by omega
      have q := (y_flip2 (BitVec.ofNat 32 s) (BitVec.ofNat 32 (2 ^ x)) (by rw [← BitVec.ofNat_and, y_and1 c1])).1
      apply Int32.toBitVec_inj.mp
      show (BitVec.ofNat 32 s &&& (nI (2 ^ x) ^^^ nP 0).toBitVec) ||| 0#32 = BitVec.ofNat 32 (s ^^^ 2 ^ x)
      rw [y_nPx, BitVec.or_zero, BitVec.ofNat_xor]
      exact q.symm
  · rw [y_shl (by omega)]
    unfold y_shn
    by_cases c : s / 2 ^ x % 2 = 1
    · rw [if_pos c]
      have q := (y_flip2 (BitVec.ofNat 32 s) (BitVec.ofNat 32 (2 ^ x)) (by rw [← BitVec.ofNat_and, y_and1 c])).2
      apply Int32.toBitVec_inj.mp
      show (BitVec.ofNat 32 s &&& (nI (2 ^ x) ^^^ nP 0).toBitVec) ||| BitVec.ofNat 32 (2 ^ x) = BitVec.ofNat 32 s
      rw [y_nPx]
      exact q
    · rw [if_neg c]
      have c0 : s / 2 ^ x % 2 = 0 := by omega
      have q := (y_flip1 (BitVec.ofNat 32 s) (BitVec.ofNat 32 (2 ^ x)) (by rw [← BitVec.ofNat_and, y_and0 c0])).1
      apply Int32.toBitVec_inj.mp
      show (BitVec.ofNat 32 s &&& (nI (2 ^ x) ^^^ nP 0).toBitVec) ||| BitVec.ofNat 32 (2 ^ x) = BitVec.ofNat 32 (s ^^^ 2 ^ x)
      rw [y_nPx, BitVec.ofNat_xor]
      exact q.symm
theorem y_shn_o {s x w j : Nat} (h : j ≠ x) : y_shn s x w / 2 ^ j % 2 = s / 2 ^ j % 2 := by
  unfold y_shn
  split
  · rfl
  · rw [y_tb2, y_tb2, Nat.testBit_xor, Nat.testBit_two_pow_of_ne (fun z => h z.symm), Bool.xor_false]
theorem y_shn_lt {s x w n : Nat} (hs : s < 2 ^ n) (hx : x < n) : y_shn s x w < 2 ^ n := by
  unfold y_shn
  split
  · exact hs
  · exact Nat.xor_lt_two_pow hs (Nat.pow_lt_pow_right (by omega) hx)
theorem y_su_0 {f : Nat → Nat} : ∀ m i, y_su f m i 0 = 0 → ∀ j, i ≤ j → j < i + m → f j = 0 := by
  intro m
  induction m with
  | zero => intro i _ j h1 h2; omega
  | succ m ih =>
    intro i h j h1 h2
    rw [y_su_s] at h
    by_cases e : j = i
    · subst e; omega
    · exact ih (i + 1) (by omega) j (by omega) (by omega)
theorem y_oft0 {b : Nat → Nat} {x : Nat} (h : y_oft b x = 0) {k : Nat} (hk : k < b 5) : b (24 + 3 * k) ≠ x ∧ b (25 + 3 * k) ≠ x + 1 := by
  have q := y_su_0 (b 5) 0 h k (by omega) (by omega)
  unfold y_of1 at q
  by_cases c : b (24 + 3 * k) = x ∨ b (25 + 3 * k) = x + 1
  · rw [if_pos c] at q; omega
  · omega
theorem y_W.set7 {b : Nat → Nat} {x w : Nat} (h : y_W b) (hx : x < y_ho b) (ho : y_oft b x = 0) : y_W (y_u b 7 (y_shn (b 7) x w)) := by
  have b5 := h.b5; have b4 := h.b4
  obtain ⟨⟨a0, a1, a2, a3, a4, a5, a6, a7, a9⟩, h2, h3, h4, h5, h6, h7, h8, h9⟩ := h
  have nw := y_shn_lt (w := w) a7 hx
  unfold y_W y_ho at *
  refine ⟨?_, ?_, ?_, ?_, ?_, fun j hj => ?_, fun j l hj hl => ?_, fun j hj => ?_, fun j hj => ?_⟩
  · simp (disch := omega) only [y_ue, y_un]; exact ⟨a0, a1, a2, a3, a4, a5, a6, nw, a9⟩
  · simp (disch := omega) only [y_un]; exact h2
  · simp (disch := omega) only [y_un]; exact h3
  · simp (disch := omega) only [y_un]; exact h4
  · simp (disch := omega) only [y_un]; exact h5
  · simp (disch := omega) only [y_un] at hj; simp (disch := omega) only [y_un]; exact h6 j hj
  · simp (disch := omega) only [y_un] at hl; simp (disch := omega) only [y_un]; exact h7 j l hj hl
  · simp (disch := omega) only [y_un] at hj
    have q := h8 j hj
    have o := y_oft0 ho hj
    simp (disch := omega) only [y_ue, y_un]
    refine ⟨q.1, q.2.1, q.2.2.1, q.2.2.2.1, q.2.2.2.2.1, ?_, fun z => ?_⟩
    · rw [y_shn_o o.1]; exact q.2.2.2.2.2.1
    · rw [y_shn_o (by omega)]; exact q.2.2.2.2.2.2 z
  · simp (disch := omega) only [y_un] at hj; simp (disch := omega) only [y_un]; exact h9 j hj
theorem y_N.set7 {σ : j_G} {b : Nat → Nat} {k : Nat} (h : y_N σ b) : y_N (j_si σ 1 6 (nI k)) (y_u b 7 k) := by
  obtain ⟨⟨f1, f2, f3, f4, f5, f6, f7, f10, d0, d1⟩, f8, s, t, c⟩ := h
  unfold y_N y_cb
  refine ⟨?_, ?_, ?_, ?_, ?_⟩
  · simp (disch := omega) only [j_r_ne, j_r_eq, j_r_nj, y_ue, y_un]
    exact ⟨f1, f2, f3, f4, f5, trivial, f7, f10, d0, d1⟩
  · simp (disch := omega) only [j_r_ne, j_r_eq, j_r_nj, y_ue, y_un]; exact f8
  · simp (disch := omega) only [j_r_ne, j_r_eq, j_r_nj, y_ue, y_un]; exact s
  · intro p q hp hq
    simp (disch := omega) only [y_ue, y_un] at hp
    have := t p q hp hq
    simp (disch := omega) only [j_r_ne, j_r_eq, j_r_nj, y_ue, y_un]; exact this
  · simp (disch := omega) only [j_r_ne, j_r_eq, j_r_nj, y_ue, y_un]; exact c
section Z
variable {σ τ : j_G}
theorem z_turn (hR : j_Rel σ τ) (a1 : Int32) : ∃ v σ1 τ1, f_X11_turn a1 σ = some (v, σ1) ∧ f_X12_turn a1 τ = some (v, τ1) ∧ j_Rel σ1 τ1 := by
  obtain ⟨b, hW, hN, hM, hK⟩ := id hR
  have h5 := hW.b5
  by_cases h : y_rg a1 (b 5)
  · obtain ⟨k, hk, rfl⟩ := y_of _ _ h.1 h.2
    refine ⟨nI (b 8), j_si σ 5 1 (nI k), j_si τ 76 8 (nI k), ?_, ?_, y_u b 8 k, hW.set8 hk, hN.set8, hM.set (by omega), hK.fr2 (y_kc.w (by omega)) y_km.w⟩
    · unfold f_X11_turn; simp (disch := omega) only [y_lit, y_n1, nI_add, pk_mul, j_lt, j_b1_s, j_b2_s, j_b3_s, j_b0_s, y_bo, y_bo1, y_bo0, y_i0, y_i1, Classical.not_not, nI_clamp, y_ix, y_lt, y_le, y_eq, y_nP, y_nPs, y_ltP, y_ltQ, y_ltPP, y_eqP, y_eqQ, y_eqPP, if_pos, if_neg, ite_true, ite_false, not_true_eq_false, not_false_eq_true, and_true, true_and, and_false, false_and, or_true, true_or, or_false, false_or, yc_has hN hW, y_rn, hN.d1]
    · unfold f_X12_turn; simp (disch := omega) only [y_lit, y_n1, nI_add, pk_mul, j_lt, j_b1_s, j_b2_s, j_b3_s, j_b0_s, y_bo, y_bo1, y_bo0, y_i0, y_i1, Classical.not_not, nI_clamp, y_ix, y_lt, y_le, y_eq, y_nP, y_nPs, y_ltP, y_ltQ, y_ltPP, y_eqP, y_eqQ, y_eqPP, if_pos, if_neg, ite_true, ite_false, not_true_eq_false, not_false_eq_true, and_true, true_and, and_false, false_and, or_true, true_or, or_false, false_or, ym_isComing hM hW, y_rn, hM.f]
  · refine ⟨-2, σ, τ, ?_, ?_, hR⟩
    · unfold f_X11_turn; simp (disch := omega) only [y_lit, y_n1, nI_add, pk_mul, j_lt, j_b1_s, j_b2_s, j_b3_s, j_b0_s, y_bo, y_bo1, y_bo0, y_i0, y_i1, Classical.not_not, nI_clamp, y_ix, y_lt, y_le, y_eq, y_nP, y_nPs, y_ltP, y_ltQ, y_ltPP, y_eqP, y_eqQ, y_eqPP, if_pos, if_neg, ite_true, ite_false, not_true_eq_false, not_false_eq_true, and_true, true_and, and_false, false_and, or_true, true_or, or_false, false_or, yc_has hN hW, h]
    · unfold f_X12_turn; simp (disch := omega) only [y_lit, y_n1, nI_add, pk_mul, j_lt, j_b1_s, j_b2_s, j_b3_s, j_b0_s, y_bo, y_bo1, y_bo0, y_i0, y_i1, Classical.not_not, nI_clamp, y_ix, y_lt, y_le, y_eq, y_nP, y_nPs, y_ltP, y_ltQ, y_ltPP, y_eqP, y_eqQ, y_eqPP, if_pos, if_neg, ite_true, ite_false, not_true_eq_false, not_false_eq_true, and_true, true_and, and_false, false_and, or_true, true_or, or_false, false_or, ym_isComing hM hW, h]
theorem z_paint (hR : j_Rel σ τ) (a1 a2 : Int32) : ∃ v σ1 τ1, f_X11_paint a1 a2 σ = some (v, σ1) ∧ f_X12_paint a1 a2 τ = some (v, τ1) ∧ j_Rel σ1 τ1 := by
  obtain ⟨b, hW, hN, hM, hK⟩ := id hR
  have h5 := hW.b5
  have h4 := hW.ho
  by_cases h : y_rg a1 (b 5)
  · by_cases h2 : y_rg a2 2
    · obtain ⟨k, hk, rfl⟩ := y_of _ _ h.1 h.2
      obtain ⟨w, hw, rfl⟩ := y_of _ _ h2.1 h2.2
      have q := hW.co hk
      by_cases c : b (25 + 3 * k) = 0
      · refine ⟨nI (b (26 + 3 * k)), j_si σ 8 k (nI w), j_si τ 76 (26 + 3 * k) (nI w), ?_, ?_, y_u b (26 + 3 * k) w, hW.setr hk (by omega) c, hN.setr hW hk, hM.set (by omega), hK.fr2 (y_kc.w (by omega)) y_km.w⟩
        · unfold f_X11_paint; simp (disch := omega) only [y_lit, y_n1, nI_add, pk_mul, j_lt, j_b1_s, j_b2_s, j_b3_s, j_b0_s, y_bo, y_bo1, y_bo0, y_i0, y_i1, Classical.not_not, nI_clamp, y_ix, y_lt, y_le, y_eq, y_nP, y_nPs, y_ltP, y_ltQ, y_ltPP, y_eqP, y_eqQ, y_eqPP, if_pos, if_neg, ite_true, ite_false, not_true_eq_false, not_false_eq_true, and_true, true_and, and_false, false_and, or_true, true_or, or_false, false_or, yc_has hN hW, y_rn, hN.k1 hk, hN.k2 hk]
        · unfold f_X12_paint; simp (disch := omega) only [y_lit, y_n1, nI_add, pk_mul, j_lt, j_b1_s, j_b2_s, j_b3_s, j_b0_s, y_bo, y_bo1, y_bo0, y_i0, y_i1, Classical.not_not, nI_clamp, y_ix, y_lt, y_le, y_eq, y_nP, y_nPs, y_ltP, y_ltQ, y_ltPP, y_eqP, y_eqQ, y_eqPP, if_pos, if_neg, ite_true, ite_false, not_true_eq_false, not_false_eq_true, and_true, true_and, and_false, false_and, or_true, true_or, or_false, false_or, ym_isComing hM hW, y_rn, y_lit64, y_in, ym_co1 hM, ym_co2 hM, Nat.add_right_comm 24 _ 2]
      · refine ⟨-2, σ, τ, ?_, ?_, hR⟩
        · unfold f_X11_paint; simp (disch := omega) only [y_lit, y_n1, nI_add, pk_mul, j_lt, j_b1_s, j_b2_s, j_b3_s, j_b0_s, y_bo, y_bo1, y_bo0, y_i0, y_i1, Classical.not_not, nI_clamp, y_ix, y_lt, y_le, y_eq, y_nP, y_nPs, y_ltP, y_ltQ, y_ltPP, y_eqP, y_eqQ, y_eqPP, if_pos, if_neg, ite_true, ite_false, not_true_eq_false, not_false_eq_true, and_true, true_and, and_false, false_and, or_true, true_or, or_false, false_or, yc_has hN hW, y_rn, hN.k1 hk]
        · unfold f_X12_paint; simp (disch := omega) only [y_lit, y_n1, nI_add, pk_mul, j_lt, j_b1_s, j_b2_s, j_b3_s, j_b0_s, y_bo, y_bo1, y_bo0, y_i0, y_i1, Classical.not_not, nI_clamp, y_ix, y_lt, y_le, y_eq, y_nP, y_nPs, y_ltP, y_ltQ, y_ltPP, y_eqP, y_eqQ, y_eqPP, if_pos, if_neg, ite_true, ite_false, not_true_eq_false, not_false_eq_true, and_true, true_and, and_false, false_and, or_true, true_or, or_false, false_or, ym_isComing hM hW, y_rn, y_lit64, y_in, ym_co1 hM]
    · refine ⟨-2, σ, τ, ?_, ?_, hR⟩
      · unfold f_X11_paint; simp (disch := omega) only [y_lit, y_n1, nI_add, pk_mul, j_lt, j_b1_s, j_b2_s, j_b3_s, j_b0_s, y_bo, y_bo1, y_bo0, y_i0, y_i1, Classical.not_not, nI_clamp, y_ix, y_lt, y_le, y_eq, y_nP, y_nPs, y_ltP, y_ltQ, y_ltPP, y_eqP, y_eqQ, y_eqPP, if_pos, if_neg, ite_true, ite_false, not_true_eq_false, not_false_eq_true, and_true, true_and, and_false, false_and, or_true, true_or, or_false, false_or, yc_has hN hW, y_c3, h2]
      · unfold f_X12_paint; simp (disch := omega) only [y_lit, y_n1, nI_add, pk_mul, j_lt, j_b1_s, j_b2_s, j_b3_s, j_b0_s, y_bo, y_bo1, y_bo0, y_i0, y_i1, Classical.not_not, nI_clamp, y_ix, y_lt, y_le, y_eq, y_nP, y_nPs, y_ltP, y_ltQ, y_ltPP, y_eqP, y_eqQ, y_eqPP, if_pos, if_neg, ite_true, ite_false, not_true_eq_false, not_false_eq_true, and_true, true_and, and_false, false_and, or_true, true_or, or_false, false_or, ym_isComing hM hW, y_lit64, y_in, y_c3, h2]
  · refine ⟨-2, σ, τ, ?_, ?_, hR⟩
    · unfold f_X11_paint; simp (disch := omega) only [y_lit, y_n1, nI_add, pk_mul, j_lt, j_b1_s, j_b2_s, j_b3_s, j_b0_s, y_bo, y_bo1, y_bo0, y_i0, y_i1, Classical.not_not, nI_clamp, y_ix, y_lt, y_le, y_eq, y_nP, y_nPs, y_ltP, y_ltQ, y_ltPP, y_eqP, y_eqQ, y_eqPP, if_pos, if_neg, ite_true, ite_false, not_true_eq_false, not_false_eq_true, and_true, true_and, and_false, false_and, or_true, true_or, or_false, false_or, yc_has hN hW, h]
    · unfold f_X12_paint; simp (disch := omega) only [y_lit, y_n1, nI_add, pk_mul, j_lt, j_b1_s, j_b2_s, j_b3_s, j_b0_s, y_bo, y_bo1, y_bo0, y_i0, y_i1, Classical.not_not, nI_clamp, y_ix, y_lt, y_le, y_eq, y_nP, y_nPs, y_ltP, y_ltQ, y_ltPP, y_eqP, y_eqQ, y_eqPP, if_pos, if_neg, ite_true, ite_false, not_true_eq_false, not_false_eq_true, and_true, true_and, and_false, false_and, or_true, true_or, or_false, false_or, ym_isComing hM hW, h]
theorem z_shut (hR : j_Rel σ τ) (a1 a2 : Int32) : ∃ v σ1 τ1, f_X11_shut a1 a2 σ = some (v, σ1) ∧ f_X12_shut a1 a2 τ = some (v, τ1) ∧ j_Rel σ1 τ1 := by
  obtain ⟨b, hW, hN, hM, hK⟩ := id hR
  have h5 := hW.b5
  have h4 := hW.ho
  by_cases h : y_rg a1 (y_ho b)
  · by_cases h2 : y_rg a2 2
    · obtain ⟨x, hx, rfl⟩ := y_of _ _ h.1 h.2
      obtain ⟨w, hw, rfl⟩ := y_of _ _ h2.1 h2.2
      have ol := y_oft_le b x
      by_cases c : y_oft b x = 0
      · have sl := y_sh_le b x
        have e2 : (nI (b 7) &&& (nI (2 ^ x) ^^^ nP 0)) ||| (nI w <<< (nI x &&& nI 31)) = nI (y_shn (b 7) x w) := ym_shn (by omega) (by omega)
        have hm : f_X12_shut (nI x) (nI w) τ = some (nI (y_sh b x), j_si τ 76 7 (nI (y_shn (b 7) x w))) := by
          unfold f_X12_shut; simp (disch := omega) only [y_lit, y_n1, nI_add, pk_mul, j_lt, j_b1_s, j_b2_s, j_b3_s, j_b0_s, y_bo, y_bo1, y_bo0, y_i0, y_i1, Classical.not_not, nI_clamp, y_ix, y_lt, y_le, y_eq, y_nP, y_nPs, y_ltP, y_ltQ, y_ltPP, y_eqP, y_eqQ, y_eqPP, if_pos, if_neg, ite_true, ite_false, not_true_eq_false, not_false_eq_true, and_true, true_and, and_false, false_and, or_true, true_or, or_false, false_or, ym_isHole hM hW, y_rn, y_lit64, y_in, ym_oft hM hW, c, ym_isShut hM hW, hM.f, y_shl, e2]
          by_cases s : y_sh b x = 1
          · rw [if_pos s, s]
          · have s0 : y_sh b x = 0 := by omega
            rw [if_neg s, s0]
        by_cases d : y_sh b x = w
        · have es : y_shn (b 7) x w = b 7 := if_pos d
          rw [es] at hm
          have eb : y_u b 7 (b 7) = b := y_uid
          have hM1 := hM.set (j := 7) (v := b 7) (by omega)
          rw [eb] at hM1
          refine ⟨nI (y_sh b x), σ, j_si τ 76 7 (nI (b 7)), ?_, hm, b, hW, hN, hM1, hK.fr2 y_kc.refl y_km.w⟩
          unfold f_X11_shut; simp (disch := omega) only [y_lit, y_n1, nI_add, pk_mul, j_lt, j_b1_s, j_b2_s, j_b3_s, j_b0_s, y_bo, y_bo1, y_bo0, y_i0, y_i1, Classical.not_not, nI_clamp, y_ix, y_lt, y_le, y_eq, y_nP, y_nPs, y_ltP, y_ltQ, y_ltPP, y_eqP, y_eqQ, y_eqPP, if_pos, if_neg, ite_true, ite_false, not_true_eq_false, not_false_eq_true, and_true, true_and, and_false, false_and, or_true, true_or, or_false, false_or, yc_isHole hN hW, y_rn, yc_oft hN hW, c, yc_isShut hN hW]
          by_cases s : y_sh b x = 1
          · simp (disch := omega) only [y_lit, y_n1, nI_add, pk_mul, j_lt, j_b1_s, j_b2_s, j_b3_s, j_b0_s, y_bo, y_bo1, y_bo0, y_i0, y_i1, Classical.not_not, nI_clamp, y_ix, y_lt, y_le, y_eq, y_nP, y_nPs, y_ltP, y_ltQ, y_ltPP, y_eqP, y_eqQ, y_eqPP, if_pos, if_neg, ite_true, ite_false, not_true_eq_false, not_false_eq_true, and_true, true_and, and_false, false_and, or_true, true_or, or_false, false_or]
            rw [s]
          · have s0 : y_sh b x = 0 := by omega
            simp (disch := omega) only [y_lit, y_n1, nI_add, pk_mul, j_lt, j_b1_s, j_b2_s, j_b3_s, j_b0_s, y_bo, y_bo1, y_bo0, y_i0, y_i1, Classical.not_not, nI_clamp, y_ix, y_lt, y_le, y_eq, y_nP, y_nPs, y_ltP, y_ltQ, y_ltPP, y_eqP, y_eqQ, y_eqPP, if_pos, if_neg, ite_true, ite_false, not_true_eq_false, not_false_eq_true, and_true, true_and, and_false, false_and, or_true, true_or, or_false, false_or]
            rw [s0]
        · have es : y_shn (b 7) x w = b 7 ^^^ 2 ^ x := if_neg d
          refine ⟨nI (y_sh b x), j_si σ 1 6 (nI (y_shn (b 7) x w)), j_si τ 76 7 (nI (y_shn (b 7) x w)), ?_, hm, y_u b 7 (y_shn (b 7) x w), hW.set7 hx c, hN.set7, hM.set (by omega), hK.fr2 (y_kc.w (by omega)) y_km.w⟩
          unfold f_X11_shut; simp (disch := omega) only [y_lit, y_n1, nI_add, pk_mul, j_lt, j_b1_s, j_b2_s, j_b3_s, j_b0_s, y_bo, y_bo1, y_bo0, y_i0, y_i1, Classical.not_not, nI_clamp, y_ix, y_lt, y_le, y_eq, y_nP, y_nPs, y_ltP, y_ltQ, y_ltPP, y_eqP, y_eqQ, y_eqPP, if_pos, if_neg, ite_true, ite_false, not_true_eq_false, not_false_eq_true, and_true, true_and, and_false, false_and, or_true, true_or, or_false, false_or, yc_isHole hN hW, y_rn, yc_oft hN hW, c, yc_isShut hN hW, hN.f6, y_shl, y_xor, es]
          by_cases s : y_sh b x = 1
          · simp (disch := omega) only [y_lit, y_n1, nI_add, pk_mul, j_lt, j_b1_s, j_b2_s, j_b3_s, j_b0_s, y_bo, y_bo1, y_bo0, y_i0, y_i1, Classical.not_not, nI_clamp, y_ix, y_lt, y_le, y_eq, y_nP, y_nPs, y_ltP, y_ltQ, y_ltPP, y_eqP, y_eqQ, y_eqPP, if_pos, if_neg, ite_true, ite_false, not_true_eq_false, not_false_eq_true, and_true, true_and, and_false, false_and, or_true, true_or, or_false, false_or]
            rw [s]
          · have s0 : y_sh b x = 0 := by omega
            simp (disch := omega) only [y_lit, y_n1, nI_add, pk_mul, j_lt, j_b1_s, j_b2_s, j_b3_s, j_b0_s, y_bo, y_bo1, y_bo0, y_i0, y_i1, Classical.not_not, nI_clamp, y_ix, y_lt, y_le, y_eq, y_nP, y_nPs, y_ltP, y_ltQ, y_ltPP, y_eqP, y_eqQ, y_eqPP, if_pos, if_neg, ite_true, ite_false, not_true_eq_false, not_false_eq_true, and_true, true_and, and_false, false_and, or_true, true_or, or_false, false_or]
            rw [s0]
      · refine ⟨-2, σ, τ, ?_, ?_, hR⟩
        · unfold f_X11_shut; simp (disch := omega) only [y_lit, y_n1, nI_add, pk_mul, j_lt, j_b1_s, j_b2_s, j_b3_s, j_b0_s, y_bo, y_bo1, y_bo0, y_i0, y_i1, Classical.not_not, nI_clamp, y_ix, y_lt, y_le, y_eq, y_nP, y_nPs, y_ltP, y_ltQ, y_ltPP, y_eqP, y_eqQ, y_eqPP, if_pos, if_neg, ite_true, ite_false, not_true_eq_false, not_false_eq_true, and_true, true_and, and_false, false_and, or_true, true_or, or_false, false_or, yc_isHole hN hW, y_rn, yc_oft hN hW]
        · unfold f_X12_shut; simp (disch := omega) only [y_lit, y_n1, nI_add, pk_mul, j_lt, j_b1_s, j_b2_s, j_b3_s, j_b0_s, y_bo, y_bo1, y_bo0, y_i0, y_i1, Classical.not_not, nI_clamp, y_ix, y_lt, y_le, y_eq, y_nP, y_nPs, y_ltP, y_ltQ, y_ltPP, y_eqP, y_eqQ, y_eqPP, if_pos, if_neg, ite_true, ite_false, not_true_eq_false, not_false_eq_true, and_true, true_and, and_false, false_and, or_true, true_or, or_false, false_or, ym_isHole hM hW, y_rn, y_lit64, y_in, ym_oft hM hW]
    · refine ⟨-2, σ, τ, ?_, ?_, hR⟩
      · unfold f_X11_shut; simp (disch := omega) only [y_lit, y_n1, nI_add, pk_mul, j_lt, j_b1_s, j_b2_s, j_b3_s, j_b0_s, y_bo, y_bo1, y_bo0, y_i0, y_i1, Classical.not_not, nI_clamp, y_ix, y_lt, y_le, y_eq, y_nP, y_nPs, y_ltP, y_ltQ, y_ltPP, y_eqP, y_eqQ, y_eqPP, if_pos, if_neg, ite_true, ite_false, not_true_eq_false, not_false_eq_true, and_true, true_and, and_false, false_and, or_true, true_or, or_false, false_or, yc_isHole hN hW, y_c3, h2]
      · unfold f_X12_shut; simp (disch := omega) only [y_lit, y_n1, nI_add, pk_mul, j_lt, j_b1_s, j_b2_s, j_b3_s, j_b0_s, y_bo, y_bo1, y_bo0, y_i0, y_i1, Classical.not_not, nI_clamp, y_ix, y_lt, y_le, y_eq, y_nP, y_nPs, y_ltP, y_ltQ, y_ltPP, y_eqP, y_eqQ, y_eqPP, if_pos, if_neg, ite_true, ite_false, not_true_eq_false, not_false_eq_true, and_true, true_and, and_false, false_and, or_true, true_or, or_false, false_or, ym_isHole hM hW, y_lit64, y_in, y_c3, h2]
  · refine ⟨-2, σ, τ, ?_, ?_, hR⟩
    · unfold f_X11_shut; simp (disch := omega) only [y_lit, y_n1, nI_add, pk_mul, j_lt, j_b1_s, j_b2_s, j_b3_s, j_b0_s, y_bo, y_bo1, y_bo0, y_i0, y_i1, Classical.not_not, nI_clamp, y_ix, y_lt, y_le, y_eq, y_nP, y_nPs, y_ltP, y_ltQ, y_ltPP, y_eqP, y_eqQ, y_eqPP, if_pos, if_neg, ite_true, ite_false, not_true_eq_false, not_false_eq_true, and_true, true_and, and_false, false_and, or_true, true_or, or_false, false_or, yc_isHole hN hW, h]
    · unfold f_X12_shut; simp (disch := omega) only [y_lit, y_n1, nI_add, pk_mul, j_lt, j_b1_s, j_b2_s, j_b3_s, j_b0_s, y_bo, y_bo1, y_bo0, y_i0, y_i1, Classical.not_not, nI_clamp, y_ix, y_lt, y_le, y_eq, y_nP, y_nPs, y_ltP, y_ltQ, y_ltPP, y_eqP, y_eqQ, y_eqPP, if_pos, if_neg, ite_true, ite_false, not_true_eq_false, not_false_eq_true, and_true, true_and, and_false, false_and, or_true, true_or, or_false, false_or, ym_isHole hM hW, h]
end Z
/-! ===== train ===== -/
def y_tok (b : Nat → Nat) (q : Nat) (x : Int32) : Prop := (q = 0 ∧ 1 ≤ x.toInt ∧ x.toInt ≤ 9) ∨ (q = 1 ∧ y_rg x 21) ∨ (q = 2 ∧ y_rg x 100) ∨ (q = 3 ∧ y_rg x 10) ∨ (q = 4 ∧ y_rg x (y_ho b))
theorem y_c19 {x : Int32} : (¬ x < nI 1 ∧ ¬ nI 9 < x) ↔ 1 ≤ x.toInt ∧ x.toInt ≤ 9 := by
  rw [j_ltI, j_ltI, nI_toInt (by omega), nI_toInt (by omega)]; omega
section Z
variable {σ τ : j_G}
theorem z_train (hR : j_Rel σ τ) (a1 a2 a3 : Int32) : ∃ v σ1 τ1, f_X11_train a1 a2 a3 σ = some (v, σ1) ∧ f_X12_train a1 a2 a3 τ = some (v, τ1) ∧ j_Rel σ1 τ1 := by
  obtain ⟨b, hW, hN, hM, hK⟩ := id hR
  have h6 := hW.b6
  have h4 := hW.ho
  by_cases h : y_rg a1 (b 6)
  · obtain ⟨p, hp, rfl⟩ := y_of _ _ h.1 h.2
    have done : ∀ q n, q < 5 → ((q = 0 → 1 ≤ n ∧ n ≤ 9) ∧ (q = 1 → n ≤ 20) ∧ (q = 2 → n ≤ 99) ∧ (q = 3 → n ≤ 9) ∧ (q = 4 → n < y_ho b)) → a2 = nI q → a3 = nI n → ∃ v σ1 τ1, f_X11_train (nI p) a2 a3 σ = some (v, σ1) ∧ f_X12_train (nI p) a2 a3 τ = some (v, τ1) ∧ j_Rel σ1 τ1 := by
      intro q n hq hn e2 e3
      subst e2 e3
      have hnn : n < 200 := by obtain ⟨v0, v1, v2, v3, v4⟩ := hn; omega
      have et : f_X2_isTrait 1 (nI q) (nI n) σ = nI 1 := by
        unfold f_X2_isTrait
        obtain ⟨v0, v1, v2, v3, v4⟩ := hn
        obtain rfl | rfl | rfl | rfl | rfl : q = 0 ∨ q = 1 ∨ q = 2 ∨ q = 3 ∨ q = 4 := by omega
        · have := v0 rfl; simp (disch := omega) only [y_lit, y_n1, nI_add, pk_mul, j_lt, j_b1_s, j_b2_s, j_b3_s, j_b0_s, y_bo, y_bo1, y_bo0, y_i0, y_i1, Classical.not_not, nI_clamp, y_ix, y_lt, y_le, y_eq, y_nP, y_nPs, y_ltP, y_ltQ, y_ltPP, y_eqP, y_eqQ, y_eqPP, if_pos, if_neg, ite_true, ite_false, not_true_eq_false, not_false_eq_true, and_true, true_and, and_false, false_and, or_true, true_or, or_false, false_or]
        · have := v1 rfl; simp (disch := omega) only [y_lit, y_n1, nI_add, pk_mul, j_lt, j_b1_s, j_b2_s, j_b3_s, j_b0_s, y_bo, y_bo1, y_bo0, y_i0, y_i1, Classical.not_not, nI_clamp, y_ix, y_lt, y_le, y_eq, y_nP, y_nPs, y_ltP, y_ltQ, y_ltPP, y_eqP, y_eqQ, y_eqPP, if_pos, if_neg, ite_true, ite_false, not_true_eq_false, not_false_eq_true, and_true, true_and, and_false, false_and, or_true, true_or, or_false, false_or]
        · have := v2 rfl; simp (disch := omega) only [y_lit, y_n1, nI_add, pk_mul, j_lt, j_b1_s, j_b2_s, j_b3_s, j_b0_s, y_bo, y_bo1, y_bo0, y_i0, y_i1, Classical.not_not, nI_clamp, y_ix, y_lt, y_le, y_eq, y_nP, y_nPs, y_ltP, y_ltQ, y_ltPP, y_eqP, y_eqQ, y_eqPP, if_pos, if_neg, ite_true, ite_false, not_true_eq_false, not_false_eq_true, and_true, true_and, and_false, false_and, or_true, true_or, or_false, false_or]
        · have := v3 rfl; simp (disch := omega) only [y_lit, y_n1, nI_add, pk_mul, j_lt, j_b1_s, j_b2_s, j_b3_s, j_b0_s, y_bo, y_bo1, y_bo0, y_i0, y_i1, Classical.not_not, nI_clamp, y_ix, y_lt, y_le, y_eq, y_nP, y_nPs, y_ltP, y_ltQ, y_ltPP, y_eqP, y_eqQ, y_eqPP, if_pos, if_neg, ite_true, ite_false, not_true_eq_false, not_false_eq_true, and_true, true_and, and_false, false_and, or_true, true_or, or_false, false_or]
        · have := v4 rfl; simp (disch := omega) only [y_lit, y_n1, nI_add, pk_mul, j_lt, j_b1_s, j_b2_s, j_b3_s, j_b0_s, y_bo, y_bo1, y_bo0, y_i0, y_i1, Classical.not_not, nI_clamp, y_ix, y_lt, y_le, y_eq, y_nP, y_nPs, y_ltP, y_ltQ, y_ltPP, y_eqP, y_eqQ, y_eqPP, if_pos, if_neg, ite_true, ite_false, not_true_eq_false, not_false_eq_true, and_true, true_and, and_false, false_and, or_true, true_or, or_false, false_or, yc_isHole hN hW, y_rn]
      refine ⟨nI (b (96 + 5 * p + q)), j_si σ 4 (5 * p + q) (nI n), j_si τ 76 (96 + 5 * p + q) (nI n), ?_, ?_, y_u b (96 + 5 * p + q) n, hW.sett hp hq hn, hN.sett hW hp hq, hM.set (by omega), hK.fr2 (y_kc.w (by omega)) y_km.w⟩
      · unfold f_X11_train f_X2_setTrait; simp (disch := omega) only [y_lit, y_n1, nI_add, pk_mul, j_lt, j_b1_s, j_b2_s, j_b3_s, j_b0_s, y_bo, y_bo1, y_bo0, y_i0, y_i1, Classical.not_not, nI_clamp, y_ix, y_lt, y_le, y_eq, y_nP, y_nPs, y_ltP, y_ltQ, y_ltPP, y_eqP, y_eqQ, y_eqPP, if_pos, if_neg, ite_true, ite_false, not_true_eq_false, not_false_eq_true, and_true, true_and, and_false, false_and, or_true, true_or, or_false, false_or, yc_isPlayer hN hW, y_rn, et, yc_trait hN hW, Nat.mul_comm p 5]
      · unfold f_X12_train
        obtain ⟨v0, v1, v2, v3, v4⟩ := hn
        obtain rfl | rfl | rfl | rfl | rfl : q = 0 ∨ q = 1 ∨ q = 2 ∨ q = 3 ∨ q = 4 := by omega
        · have := v0 rfl; simp (disch := omega) only [y_lit, y_n1, nI_add, pk_mul, j_lt, j_b1_s, j_b2_s, j_b3_s, j_b0_s, y_bo, y_bo1, y_bo0, y_i0, y_i1, Classical.not_not, nI_clamp, y_ix, y_lt, y_le, y_eq, y_nP, y_nPs, y_ltP, y_ltQ, y_ltPP, y_eqP, y_eqQ, y_eqPP, if_pos, if_neg, ite_true, ite_false, not_true_eq_false, not_false_eq_true, and_true, true_and, and_false, false_and, or_true, true_or, or_false, false_or, ym_isPlayer hM hW, y_rn, y_lit64, y_in, ym_of hM]
        · have := v1 rfl; simp (disch := omega) only [y_lit, y_n1, nI_add, pk_mul, j_lt, j_b1_s, j_b2_s, j_b3_s, j_b0_s, y_bo, y_bo1, y_bo0, y_i0, y_i1, Classical.not_not, nI_clamp, y_ix, y_lt, y_le, y_eq, y_nP, y_nPs, y_ltP, y_ltQ, y_ltPP, y_eqP, y_eqQ, y_eqPP, if_pos, if_neg, ite_true, ite_false, not_true_eq_false, not_false_eq_true, and_true, true_and, and_false, false_and, or_true, true_or, or_false, false_or, ym_isPlayer hM hW, y_rn, y_lit64, y_in, ym_of hM]
        · have := v2 rfl; simp (disch := omega) only [y_lit, y_n1, nI_add, pk_mul, j_lt, j_b1_s, j_b2_s, j_b3_s, j_b0_s, y_bo, y_bo1, y_bo0, y_i0, y_i1, Classical.not_not, nI_clamp, y_ix, y_lt, y_le, y_eq, y_nP, y_nPs, y_ltP, y_ltQ, y_ltPP, y_eqP, y_eqQ, y_eqPP, if_pos, if_neg, ite_true, ite_false, not_true_eq_false, not_false_eq_true, and_true, true_and, and_false, false_and, or_true, true_or, or_false, false_or, ym_isPlayer hM hW, y_rn, y_lit64, y_in, ym_of hM]
        · have := v3 rfl; simp (disch := omega) only [y_lit, y_n1, nI_add, pk_mul, j_lt, j_b1_s, j_b2_s, j_b3_s, j_b0_s, y_bo, y_bo1, y_bo0, y_i0, y_i1, Classical.not_not, nI_clamp, y_ix, y_lt, y_le, y_eq, y_nP, y_nPs, y_ltP, y_ltQ, y_ltPP, y_eqP, y_eqQ, y_eqPP, if_pos, if_neg, ite_true, ite_false, not_true_eq_false, not_false_eq_true, and_true, true_and, and_false, false_and, or_true, true_or, or_false, false_or, ym_isPlayer hM hW, y_rn, y_lit64, y_in, ym_of hM]
        · have := v4 rfl; simp (disch := omega) only [y_lit, y_n1, nI_add, pk_mul, j_lt, j_b1_s, j_b2_s, j_b3_s, j_b0_s, y_bo, y_bo1, y_bo0, y_i0, y_i1, Classical.not_not, nI_clamp, y_ix, y_lt, y_le, y_eq, y_nP, y_nPs, y_ltP, y_ltQ, y_ltPP, y_eqP, y_eqQ, y_eqPP, if_pos, if_neg, ite_true, ite_false, not_true_eq_false, not_false_eq_true, and_true, true_and, and_false, false_and, or_true, true_or, or_false, false_or, ym_isPlayer hM hW, y_rn, y_lit64, y_in, ym_of hM, ym_isHole hM hW]
    have bad : f_X2_isTrait 1 a2 a3 σ = nI 0 → f_X12_train (nI p) a2 a3 τ = some (-2, τ) → ∃ v σ1 τ1, f_X11_train (nI p) a2 a3 σ = some (v, σ1) ∧ f_X12_train (nI p) a2 a3 τ = some (v, τ1) ∧ j_Rel σ1 τ1 := by
      intro e1 e2
      refine ⟨-2, σ, τ, ?_, e2, hR⟩
      unfold f_X11_train; simp (disch := omega) only [y_lit, y_n1, nI_add, pk_mul, j_lt, j_b1_s, j_b2_s, j_b3_s, j_b0_s, y_bo, y_bo1, y_bo0, y_i0, y_i1, Classical.not_not, nI_clamp, y_ix, y_lt, y_le, y_eq, y_nP, y_nPs, y_ltP, y_ltQ, y_ltPP, y_eqP, y_eqQ, y_eqPP, if_pos, if_neg, ite_true, ite_false, not_true_eq_false, not_false_eq_true, and_true, true_and, and_false, false_and, or_true, true_or, or_false, false_or, yc_isPlayer hN hW, y_rn, e1]
    by_cases c0 : a2 = nI 0
    · subst c0
      by_cases d : 1 ≤ a3.toInt ∧ a3.toInt ≤ 9
      · obtain ⟨n, hn, rfl⟩ := y_of a3 10 (by omega) (by omega)
        rw [nI_toInt (by omega)] at d
        exact done 0 n (by omega) ⟨fun _ => by omega, fun z => by omega, fun z => by omega, fun z => by omega, fun z => by omega⟩ rfl rfl
      · refine bad ?_ ?_
        · unfold f_X2_isTrait; simp (disch := omega) only [y_lit, y_n1, nI_add, pk_mul, j_lt, j_b1_s, j_b2_s, j_b3_s, j_b0_s, y_bo, y_bo1, y_bo0, y_i0, y_i1, Classical.not_not, nI_clamp, y_ix, y_lt, y_le, y_eq, y_nP, y_nPs, y_ltP, y_ltQ, y_ltPP, y_eqP, y_eqQ, y_eqPP, if_pos, if_neg, ite_true, ite_false, not_true_eq_false, not_false_eq_true, and_true, true_and, and_false, false_and, or_true, true_or, or_false, false_or, y_c19, d]
        · unfold f_X12_train; simp (disch := omega) only [y_lit, y_n1, nI_add, pk_mul, j_lt, j_b1_s, j_b2_s, j_b3_s, j_b0_s, y_bo, y_bo1, y_bo0, y_i0, y_i1, Classical.not_not, nI_clamp, y_ix, y_lt, y_le, y_eq, y_nP, y_nPs, y_ltP, y_ltQ, y_ltPP, y_eqP, y_eqQ, y_eqPP, if_pos, if_neg, ite_true, ite_false, not_true_eq_false, not_false_eq_true, and_true, true_and, and_false, false_and, or_true, true_or, or_false, false_or, ym_isPlayer hM hW, y_rn, y_lit64, y_in, y_c19, d]
    by_cases c1 : a2 = nI 1
    · subst c1
      by_cases d : y_rg a3 21
      · obtain ⟨n, hn, rfl⟩ := y_of _ _ d.1 d.2
        exact done 1 n (by omega) ⟨fun z => by omega, fun z => by omega, fun z => by omega, fun z => by omega, fun z => by omega⟩ rfl rfl
      · refine bad ?_ ?_
        · unfold f_X2_isTrait; simp (disch := omega) only [y_lit, y_n1, nI_add, pk_mul, j_lt, j_b1_s, j_b2_s, j_b3_s, j_b0_s, y_bo, y_bo1, y_bo0, y_i0, y_i1, Classical.not_not, nI_clamp, y_ix, y_lt, y_le, y_eq, y_nP, y_nPs, y_ltP, y_ltQ, y_ltPP, y_eqP, y_eqQ, y_eqPP, if_pos, if_neg, ite_true, ite_false, not_true_eq_false, not_false_eq_true, and_true, true_and, and_false, false_and, or_true, true_or, or_false, false_or, y_c3, d]
        · unfold f_X12_train; simp (disch := omega) only [y_lit, y_n1, nI_add, pk_mul, j_lt, j_b1_s, j_b2_s, j_b3_s, j_b0_s, y_bo, y_bo1, y_bo0, y_i0, y_i1, Classical.not_not, nI_clamp, y_ix, y_lt, y_le, y_eq, y_nP, y_nPs, y_ltP, y_ltQ, y_ltPP, y_eqP, y_eqQ, y_eqPP, if_pos, if_neg, ite_true, ite_false, not_true_eq_false, not_false_eq_true, and_true, true_and, and_false, false_and, or_true, true_or, or_false, false_or, ym_isPlayer hM hW, y_rn, y_lit64, y_in, y_c3, d]
    by_cases c2 : a2 = nI 2
    · subst c2
      by_cases d : y_rg a3 100
      · obtain ⟨n, hn, rfl⟩ := y_of _ _ d.1 d.2
        exact done 2 n (by omega) ⟨fun z => by omega, fun z => by omega, fun z => by omega, fun z => by omega, fun z => by omega⟩ rfl rfl
      · refine bad ?_ ?_
        · unfold f_X2_isTrait; simp (disch := omega) only [y_lit, y_n1, nI_add, pk_mul, j_lt, j_b1_s, j_b2_s, j_b3_s, j_b0_s, y_bo, y_bo1, y_bo0, y_i0, y_i1, Classical.not_not, nI_clamp, y_ix, y_lt, y_le, y_eq, y_nP, y_nPs, y_ltP, y_ltQ, y_ltPP, y_eqP, y_eqQ, y_eqPP, if_pos, if_neg, ite_true, ite_false, not_true_eq_false, not_false_eq_true, and_true, true_and, and_false, false_and, or_true, true_or, or_false, false_or, y_c3, d]
        · unfold f_X12_train; simp (disch := omega) only [y_lit, y_n1, nI_add, pk_mul, j_lt, j_b1_s, j_b2_s, j_b3_s, j_b0_s, y_bo, y_bo1, y_bo0, y_i0, y_i1, Classical.not_not, nI_clamp, y_ix, y_lt, y_le, y_eq, y_nP, y_nPs, y_ltP, y_ltQ, y_ltPP, y_eqP, y_eqQ, y_eqPP, if_pos, if_neg, ite_true, ite_false, not_true_eq_false, not_false_eq_true, and_true, true_and, and_false, false_and, or_true, true_or, or_false, false_or, ym_isPlayer hM hW, y_rn, y_lit64, y_in, y_c3, d]
    by_cases c3 : a2 = nI 3
    · subst c3
      by_cases d : y_rg a3 10
      · obtain ⟨n, hn, rfl⟩ := y_of _ _ d.1 d.2
        exact done 3 n (by omega) ⟨fun z => by omega, fun z => by omega, fun z => by omega, fun z => by omega, fun z => by omega⟩ rfl rfl
      · refine bad ?_ ?_
        · unfold f_X2_isTrait; simp (disch := omega) only [y_lit, y_n1, nI_add, pk_mul, j_lt, j_b1_s, j_b2_s, j_b3_s, j_b0_s, y_bo, y_bo1, y_bo0, y_i0, y_i1, Classical.not_not, nI_clamp, y_ix, y_lt, y_le, y_eq, y_nP, y_nPs, y_ltP, y_ltQ, y_ltPP, y_eqP, y_eqQ, y_eqPP, if_pos, if_neg, ite_true, ite_false, not_true_eq_false, not_false_eq_true, and_true, true_and, and_false, false_and, or_true, true_or, or_false, false_or, y_c3, d]
        · unfold f_X12_train; simp (disch := omega) only [y_lit, y_n1, nI_add, pk_mul, j_lt, j_b1_s, j_b2_s, j_b3_s, j_b0_s, y_bo, y_bo1, y_bo0, y_i0, y_i1, Classical.not_not, nI_clamp, y_ix, y_lt, y_le, y_eq, y_nP, y_nPs, y_ltP, y_ltQ, y_ltPP, y_eqP, y_eqQ, y_eqPP, if_pos, if_neg, ite_true, ite_false, not_true_eq_false, not_false_eq_true, and_true, true_and, and_false, false_and, or_true, true_or, or_false, false_or, ym_isPlayer hM hW, y_rn, y_lit64, y_in, y_c3, d]
    by_cases c4 : a2 = nI 4
    · subst c4
      by_cases d : y_rg a3 (y_ho b)
      · obtain ⟨n, hn, rfl⟩ := y_of _ _ d.1 d.2
        exact done 4 n (by omega) ⟨fun z => by omega, fun z => by omega, fun z => by omega, fun z => by omega, fun z => by omega⟩ rfl rfl
      · refine bad ?_ ?_
        · unfold f_X2_isTrait; simp (disch := omega) only [y_lit, y_n1, nI_add, pk_mul, j_lt, j_b1_s, j_b2_s, j_b3_s, j_b0_s, y_bo, y_bo1, y_bo0, y_i0, y_i1, Classical.not_not, nI_clamp, y_ix, y_lt, y_le, y_eq, y_nP, y_nPs, y_ltP, y_ltQ, y_ltPP, y_eqP, y_eqQ, y_eqPP, if_pos, if_neg, ite_true, ite_false, not_true_eq_false, not_false_eq_true, and_true, true_and, and_false, false_and, or_true, true_or, or_false, false_or, yc_isHole hN hW, d]
        · unfold f_X12_train; simp (disch := omega) only [y_lit, y_n1, nI_add, pk_mul, j_lt, j_b1_s, j_b2_s, j_b3_s, j_b0_s, y_bo, y_bo1, y_bo0, y_i0, y_i1, Classical.not_not, nI_clamp, y_ix, y_lt, y_le, y_eq, y_nP, y_nPs, y_ltP, y_ltQ, y_ltPP, y_eqP, y_eqQ, y_eqPP, if_pos, if_neg, ite_true, ite_false, not_true_eq_false, not_false_eq_true, and_true, true_and, and_false, false_and, or_true, true_or, or_false, false_or, ym_isPlayer hM hW, y_rn, ym_isHole hM hW, d]
    · refine bad ?_ ?_
      · unfold f_X2_isTrait; simp (disch := omega) only [y_lit, y_n1, nI_add, pk_mul, j_lt, j_b1_s, j_b2_s, j_b3_s, j_b0_s, y_bo, y_bo1, y_bo0, y_i0, y_i1, Classical.not_not, nI_clamp, y_ix, y_lt, y_le, y_eq, y_nP, y_nPs, y_ltP, y_ltQ, y_ltPP, y_eqP, y_eqQ, y_eqPP, if_pos, if_neg, ite_true, ite_false, not_true_eq_false, not_false_eq_true, and_true, true_and, and_false, false_and, or_true, true_or, or_false, false_or, c0, c1, c2, c3, c4]
      · unfold f_X12_train; simp (disch := omega) only [y_lit, y_n1, nI_add, pk_mul, j_lt, j_b1_s, j_b2_s, j_b3_s, j_b0_s, y_bo, y_bo1, y_bo0, y_i0, y_i1, Classical.not_not, nI_clamp, y_ix, y_lt, y_le, y_eq, y_nP, y_nPs, y_ltP, y_ltQ, y_ltPP, y_eqP, y_eqQ, y_eqPP, if_pos, if_neg, ite_true, ite_false, not_true_eq_false, not_false_eq_true, and_true, true_and, and_false, false_and, or_true, true_or, or_false, false_or, ym_isPlayer hM hW, y_rn, c0, c1, c2, c3, c4]
  · refine ⟨-2, σ, τ, ?_, ?_, hR⟩
    · unfold f_X11_train; simp (disch := omega) only [y_lit, y_n1, nI_add, pk_mul, j_lt, j_b1_s, j_b2_s, j_b3_s, j_b0_s, y_bo, y_bo1, y_bo0, y_i0, y_i1, Classical.not_not, nI_clamp, y_ix, y_lt, y_le, y_eq, y_nP, y_nPs, y_ltP, y_ltQ, y_ltPP, y_eqP, y_eqQ, y_eqPP, if_pos, if_neg, ite_true, ite_false, not_true_eq_false, not_false_eq_true, and_true, true_and, and_false, false_and, or_true, true_or, or_false, false_or, yc_isPlayer hN hW, h]
    · unfold f_X12_train; simp (disch := omega) only [y_lit, y_n1, nI_add, pk_mul, j_lt, j_b1_s, j_b2_s, j_b3_s, j_b0_s, y_bo, y_bo1, y_bo0, y_i0, y_i1, Classical.not_not, nI_clamp, y_ix, y_lt, y_le, y_eq, y_nP, y_nPs, y_ltP, y_ltQ, y_ltPP, y_eqP, y_eqQ, y_eqPP, if_pos, if_neg, ite_true, ite_false, not_true_eq_false, not_false_eq_true, and_true, true_and, and_false, false_and, or_true, true_or, or_false, false_or, ym_isPlayer hM hW, h]
end Z
/-! ===== the drum round, laws, path, breaks ===== -/
def y_rd (b : Nat → Nat) (a : Nat) : Nat := b (24 + 3 * (a % b 5))
theorem y_fmI {a n : Nat} (ha : a < 2 ^ 30) (h0 : 0 < n) (hn : n < 2 ^ 30) : f_J9_floorMod_7cf53 (nI a) (nI n) = some (nI (a % n)) := by
  have hx : a ^^^ n < 2 ^ 30 := Nat.xor_lt_two_pow ha hn
  have hr : nI a - nI (a / n * n) = nI (a % n) := by
    rw [← pk_mul, ← pk_div (by omega) (by omega) (by omega), pk_rem (by omega) (by omega) (by omega)]
  unfold f_J9_floorMod_7cf53
  simp (disch := omega) only [y_lit, y_n1, nI_add, pk_mul, j_lt, j_b1_s, j_b2_s, j_b3_s, j_b0_s, y_bo, y_bo1, y_bo0, y_i0, y_i1, Classical.not_not, nI_clamp, y_ix, y_lt, y_le, y_eq, y_nP, y_nPs, y_ltP, y_ltQ, y_ltPP, y_eqP, y_eqQ, y_eqPP, if_pos, if_neg, ite_true, ite_false, not_true_eq_false, not_false_eq_true, and_true, true_and, and_false, false_and, or_true, true_or, or_false, false_or, y_xor, pk_div, hr]
theorem y_fm1 : ∀ n, n < 25 → 0 < n → f_J9_floorMod_7cf53 (nP 0) (nI n) = some (nI ((2 * n - 1) % n)) := by decide
theorem y_fm2 : ∀ n, n < 25 → 0 < n → f_J9_floorMod_7cf53 (nI 0 - nI 2) (nI n) = some (nI ((2 * n - 2) % n)) := by decide
theorem y_fm3 : ∀ n, n < 25 → 0 < n → f_J9_floorMod_7cf53 (nI 1 - nI 2) (nI n) = some (nI ((1 + 2 * n - 2) % n)) := by decide
theorem y_fmm {k c n : Nat} (hk : k < 100) (h0 : 0 < n) (hn : n < 25) (hc : c = 1 ∨ c = 2) : f_J9_floorMod_7cf53 (nI k - nI c) (nI n) = some (nI ((k + 2 * n - c) % n)) := by
  by_cases h : c ≤ k
  · rw [pk_sub h, y_fmI (by omega) h0 (by omega), show k + 2 * n - c = k - c + n * 2 from by omega, Nat.add_mul_mod_self_left]
  · rcases hc with rfl | rfl
    · obtain rfl : k = 0 := by omega
      rw [show nI 0 - nI 1 = nP 0 from rfl, y_fm1 n hn h0, Nat.zero_add]
    · obtain rfl | rfl : k = 0 ∨ k = 1 := by omega
      · rw [y_fm2 n hn h0, Nat.zero_add]
      · rw [y_fm3 n hn h0]
/-- may it come: its hole, the one ahead and 1, the one ahead of that and 1 -/
def y_lz (b : Nat → Nat) (l h one two : Nat) : Nat := if l = 0 then 1 else if l = 1 then (if h + 1 = one then 0 else 1) else if l = 2 then (if one = 0 then 1 else if 1 < y_ap b h (one - 1) then 1 else 0) else (if h + 1 = one then 0 else if h + 1 = two then 0 else 1)
theorem y_lz_le (b : Nat → Nat) (l h one two : Nat) : y_lz b l h one two ≤ 1 := by
  unfold y_lz
  repeat' split
  all_goals omega
section C
variable {σ τ : j_G} {b : Nat → Nat}
theorem y_rd_lt (hW : y_W b) (h5 : 0 < b 5) (a : Nat) : y_rd b a < y_ho b := (hW.co (Nat.mod_lt _ h5)).1
theorem yc_round (hN : y_N σ b) (hW : y_W b) (h5 : 0 < b 5) {a : Nat} (ha : a < 10000) : f_X3_round (nI a) σ = some (nI (y_rd b a)) := by
  have b5 := hW.b5
  have hm : a % b 5 < b 5 := Nat.mod_lt _ h5
  unfold f_X3_round y_rd; simp (disch := omega) only [y_lit, y_n1, nI_add, pk_mul, j_lt, j_b1_s, j_b2_s, j_b3_s, j_b0_s, y_bo, y_bo1, y_bo0, y_i0, y_i1, Classical.not_not, nI_clamp, y_ix, y_lt, y_le, y_eq, y_nP, y_nPs, y_ltP, y_ltQ, y_ltPP, y_eqP, y_eqQ, y_eqPP, if_pos, if_neg, ite_true, ite_false, not_true_eq_false, not_false_eq_true, and_true, true_and, and_false, false_and, or_true, true_or, or_false, false_or, hN.d0, y_fmI]
  rw [hN.k0 hm]
theorem yc_roundm (hN : y_N σ b) (hW : y_W b) (h5 : 0 < b 5) {k c : Nat} (hk : k < 100) (hc : c = 1 ∨ c = 2) : f_X3_round (nI k - nI c) σ = some (nI (y_rd b (k + 2 * b 5 - c))) := by
  have b5 := hW.b5
  have hm : (k + 2 * b 5 - c) % b 5 < b 5 := Nat.mod_lt _ h5
  unfold f_X3_round y_rd
  rw [hN.d0, y_fmm hk h5 (by omega) hc]
  simp (disch := omega) only [y_lit, y_n1, nI_add, pk_mul, j_lt, j_b1_s, j_b2_s, j_b3_s, j_b0_s, y_bo, y_bo1, y_bo0, y_i0, y_i1, Classical.not_not, nI_clamp, y_ix, y_lt, y_le, y_eq, y_nP, y_nPs, y_ltP, y_ltQ, y_ltPP, y_eqP, y_eqQ, y_eqPP, if_pos, if_neg, ite_true, ite_false, not_true_eq_false, not_false_eq_true, and_true, true_and, and_false, false_and, or_true, true_or, or_false, false_or]
  rw [hN.k0 hm]
theorem ym_holeAt (hM : y_M τ b) (hW : y_W b) (h5 : 0 < b 5) {a : Nat} (ha : a < 10000) : f_X12_holeAt (nI a) τ = some (nI (y_rd b a)) := by
  have b5 := hW.b5
  have hm : a % b 5 < b 5 := Nat.mod_lt _ h5
  unfold f_X12_holeAt y_rd; simp (disch := omega) only [y_lit, y_n1, nI_add, pk_mul, j_lt, j_b1_s, j_b2_s, j_b3_s, j_b0_s, y_bo, y_bo1, y_bo0, y_i0, y_i1, Classical.not_not, nI_clamp, y_ix, y_lt, y_le, y_eq, y_nP, y_nPs, y_ltP, y_ltQ, y_ltPP, y_eqP, y_eqQ, y_eqPP, if_pos, if_neg, ite_true, ite_false, not_true_eq_false, not_false_eq_true, and_true, true_and, and_false, false_and, or_true, true_or, or_false, false_or, hM.f, y_fmI, ym_co0 hM]
theorem ym_holeAtm (hM : y_M τ b) (hW : y_W b) (h5 : 0 < b 5) {k c : Nat} (hk : k < 100) (hc : c = 1 ∨ c = 2) : f_X12_holeAt (nI k - nI c) τ = some (nI (y_rd b (k + 2 * b 5 - c))) := by
  have b5 := hW.b5
  have hm : (k + 2 * b 5 - c) % b 5 < b 5 := Nat.mod_lt _ h5
  have e5 := hM.f (j := 5) (by omega)
  unfold f_X12_holeAt y_rd
  rw [show (5 : Int32) = nI 5 from rfl, y_ix (by omega) (by omega), nI_clamp (by omega), e5, y_fmm hk h5 (by omega) hc]
  simp (disch := omega) only [y_lit, y_n1, nI_add, pk_mul, j_lt, j_b1_s, j_b2_s, j_b3_s, j_b0_s, y_bo, y_bo1, y_bo0, y_i0, y_i1, Classical.not_not, nI_clamp, y_ix, y_lt, y_le, y_eq, y_nP, y_nPs, y_ltP, y_ltQ, y_ltPP, y_eqP, y_eqQ, y_eqPP, if_pos, if_neg, ite_true, ite_false, not_true_eq_false, not_false_eq_true, and_true, true_and, and_false, false_and, or_true, true_or, or_false, false_or, ym_co0 hM]
theorem yc_lets (hN : y_N σ b) (hW : y_W b) (h9 : 0 < b 9) {l h one two : Nat} {B L : Int32} (hl : l < 4) (hh : h < 12) (h1 : one ≤ 12) (h2 : two ≤ 12) (hz : one = 0 → two = 0) (eB : B = nP two) (eL : L = nP one) : f_X2_lets (nI l) B L (nI h) σ = some (nI (y_lz b l h one two)) := by
  subst eB eL
  unfold f_X2_lets y_lz
  by_cases z : one = 0
  · subst z
    have hz2 := hz rfl
    subst hz2
    obtain rfl | rfl | rfl | rfl : l = 0 ∨ l = 1 ∨ l = 2 ∨ l = 3 := by omega
    · simp (disch := omega) only [y_lit, y_n1, nI_add, pk_mul, j_lt, j_b1_s, j_b2_s, j_b3_s, j_b0_s, y_bo, y_bo1, y_bo0, y_i0, y_i1, Classical.not_not, nI_clamp, y_ix, y_lt, y_le, y_eq, y_nP, y_nPs, y_ltP, y_ltQ, y_ltPP, y_eqP, y_eqQ, y_eqPP, if_pos, if_neg, ite_true, ite_false, not_true_eq_false, not_false_eq_true, and_true, true_and, and_false, false_and, or_true, true_or, or_false, false_or]
    · simp (disch := omega) only [y_lit, y_n1, nI_add, pk_mul, j_lt, j_b1_s, j_b2_s, j_b3_s, j_b0_s, y_bo, y_bo1, y_bo0, y_i0, y_i1, Classical.not_not, nI_clamp, y_ix, y_lt, y_le, y_eq, y_nP, y_nPs, y_ltP, y_ltQ, y_ltPP, y_eqP, y_eqQ, y_eqPP, if_pos, if_neg, ite_true, ite_false, not_true_eq_false, not_false_eq_true, and_true, true_and, and_false, false_and, or_true, true_or, or_false, false_or]
    · simp (disch := omega) only [y_lit, y_n1, nI_add, pk_mul, j_lt, j_b1_s, j_b2_s, j_b3_s, j_b0_s, y_bo, y_bo1, y_bo0, y_i0, y_i1, Classical.not_not, nI_clamp, y_ix, y_lt, y_le, y_eq, y_nP, y_nPs, y_ltP, y_ltQ, y_ltPP, y_eqP, y_eqQ, y_eqPP, if_pos, if_neg, ite_true, ite_false, not_true_eq_false, not_false_eq_true, and_true, true_and, and_false, false_and, or_true, true_or, or_false, false_or]
    · simp (disch := omega) only [y_lit, y_n1, nI_add, pk_mul, j_lt, j_b1_s, j_b2_s, j_b3_s, j_b0_s, y_bo, y_bo1, y_bo0, y_i0, y_i1, Classical.not_not, nI_clamp, y_ix, y_lt, y_le, y_eq, y_nP, y_nPs, y_ltP, y_ltQ, y_ltPP, y_eqP, y_eqQ, y_eqPP, if_pos, if_neg, ite_true, ite_false, not_true_eq_false, not_false_eq_true, and_true, true_and, and_false, false_and, or_true, true_or, or_false, false_or]
  · obtain ⟨o, rfl⟩ : ∃ o, one = o + 1 := ⟨one - 1, by omega⟩
    rw [y_nPs, Nat.add_sub_cancel]
    have ap := y_ap_bd (b := b) (a := o) (c := h) (by omega) (by omega)
    obtain rfl | rfl | rfl | rfl : l = 0 ∨ l = 1 ∨ l = 2 ∨ l = 3 := by omega
    · simp (disch := omega) only [y_lit, y_n1, nI_add, pk_mul, j_lt, j_b1_s, j_b2_s, j_b3_s, j_b0_s, y_bo, y_bo1, y_bo0, y_i0, y_i1, Classical.not_not, nI_clamp, y_ix, y_lt, y_le, y_eq, y_nP, y_nPs, y_ltP, y_ltQ, y_ltPP, y_eqP, y_eqQ, y_eqPP, if_pos, if_neg, ite_true, ite_false, not_true_eq_false, not_false_eq_true, and_true, true_and, and_false, false_and, or_true, true_or, or_false, false_or]
    · by_cases c : h = o
      · simp (disch := omega) only [y_lit, y_n1, nI_add, pk_mul, j_lt, j_b1_s, j_b2_s, j_b3_s, j_b0_s, y_bo, y_bo1, y_bo0, y_i0, y_i1, Classical.not_not, nI_clamp, y_ix, y_lt, y_le, y_eq, y_nP, y_nPs, y_ltP, y_ltQ, y_ltPP, y_eqP, y_eqQ, y_eqPP, if_pos, if_neg, ite_true, ite_false, not_true_eq_false, not_false_eq_true, and_true, true_and, and_false, false_and, or_true, true_or, or_false, false_or]
      · simp (disch := omega) only [y_lit, y_n1, nI_add, pk_mul, j_lt, j_b1_s, j_b2_s, j_b3_s, j_b0_s, y_bo, y_bo1, y_bo0, y_i0, y_i1, Classical.not_not, nI_clamp, y_ix, y_lt, y_le, y_eq, y_nP, y_nPs, y_ltP, y_ltQ, y_ltPP, y_eqP, y_eqQ, y_eqPP, if_pos, if_neg, ite_true, ite_false, not_true_eq_false, not_false_eq_true, and_true, true_and, and_false, false_and, or_true, true_or, or_false, false_or]
    · simp (disch := omega) only [y_lit, y_n1, nI_add, pk_mul, j_lt, j_b1_s, j_b2_s, j_b3_s, j_b0_s, y_bo, y_bo1, y_bo0, y_i0, y_i1, Classical.not_not, nI_clamp, y_ix, y_lt, y_le, y_eq, y_nP, y_nPs, y_ltP, y_ltQ, y_ltPP, y_eqP, y_eqQ, y_eqPP, if_pos, if_neg, ite_true, ite_false, not_true_eq_false, not_false_eq_true, and_true, true_and, and_false, false_and, or_true, true_or, or_false, false_or, yc_apart hN hW h9]
      rw [y_ap_comm (a := h) (c := o)]
      by_cases c : 1 < y_ap b o h
      · simp (disch := omega) only [y_lit, y_n1, nI_add, pk_mul, j_lt, j_b1_s, j_b2_s, j_b3_s, j_b0_s, y_bo, y_bo1, y_bo0, y_i0, y_i1, Classical.not_not, nI_clamp, y_ix, y_lt, y_le, y_eq, y_nP, y_nPs, y_ltP, y_ltQ, y_ltPP, y_eqP, y_eqQ, y_eqPP, if_pos, if_neg, ite_true, ite_false, not_true_eq_false, not_false_eq_true, and_true, true_and, and_false, false_and, or_true, true_or, or_false, false_or]
      · simp (disch := omega) only [y_lit, y_n1, nI_add, pk_mul, j_lt, j_b1_s, j_b2_s, j_b3_s, j_b0_s, y_bo, y_bo1, y_bo0, y_i0, y_i1, Classical.not_not, nI_clamp, y_ix, y_lt, y_le, y_eq, y_nP, y_nPs, y_ltP, y_ltQ, y_ltPP, y_eqP, y_eqQ, y_eqPP, if_pos, if_neg, ite_true, ite_false, not_true_eq_false, not_false_eq_true, and_true, true_and, and_false, false_and, or_true, true_or, or_false, false_or]
    · by_cases c : h = o
      · simp (disch := omega) only [y_lit, y_n1, nI_add, pk_mul, j_lt, j_b1_s, j_b2_s, j_b3_s, j_b0_s, y_bo, y_bo1, y_bo0, y_i0, y_i1, Classical.not_not, nI_clamp, y_ix, y_lt, y_le, y_eq, y_nP, y_nPs, y_ltP, y_ltQ, y_ltPP, y_eqP, y_eqQ, y_eqPP, if_pos, if_neg, ite_true, ite_false, not_true_eq_false, not_false_eq_true, and_true, true_and, and_false, false_and, or_true, true_or, or_false, false_or]
      · by_cases d : h + 1 = two
        · simp (disch := omega) only [y_lit, y_n1, nI_add, pk_mul, j_lt, j_b1_s, j_b2_s, j_b3_s, j_b0_s, y_bo, y_bo1, y_bo0, y_i0, y_i1, Classical.not_not, nI_clamp, y_ix, y_lt, y_le, y_eq, y_nP, y_nPs, y_ltP, y_ltQ, y_ltPP, y_eqP, y_eqQ, y_eqPP, if_pos, if_neg, ite_true, ite_false, not_true_eq_false, not_false_eq_true, and_true, true_and, and_false, false_and, or_true, true_or, or_false, false_or]
        · simp (disch := omega) only [y_lit, y_n1, nI_add, pk_mul, j_lt, j_b1_s, j_b2_s, j_b3_s, j_b0_s, y_bo, y_bo1, y_bo0, y_i0, y_i1, Classical.not_not, nI_clamp, y_ix, y_lt, y_le, y_eq, y_nP, y_nPs, y_ltP, y_ltQ, y_ltPP, y_eqP, y_eqQ, y_eqPP, if_pos, if_neg, ite_true, ite_false, not_true_eq_false, not_false_eq_true, and_true, true_and, and_false, false_and, or_true, true_or, or_false, false_or]
theorem ym_lets (hM : y_M τ b) (hW : y_W b) (h9 : 0 < b 9) {l h one two : Nat} {B L : Int32} (hl : l < 4) (hh : h < 12) (h1 : one ≤ 12) (h2 : two ≤ 12) (eB : B = nP two) (eL : L = nP one) : f_X12_lets (nI l) (nI h) L B τ = some (nI (if y_sh b h = 1 then 0 else y_lz b l h one two)) := by
  subst eB eL
  unfold f_X12_lets
  simp (disch := omega) only [y_lit, y_n1, nI_add, pk_mul, j_lt, j_b1_s, j_b2_s, j_b3_s, j_b0_s, y_bo, y_bo1, y_bo0, y_i0, y_i1, Classical.not_not, nI_clamp, y_ix, y_lt, y_le, y_eq, y_nP, y_nPs, y_ltP, y_ltQ, y_ltPP, y_eqP, y_eqQ, y_eqPP, if_pos, if_neg, ite_true, ite_false, not_true_eq_false, not_false_eq_true, and_true, true_and, and_false, false_and, or_true, true_or, or_false, false_or, ym_isShut hM hW]
  by_cases s : y_sh b h = 1
  · simp (disch := omega) only [y_lit, y_n1, nI_add, pk_mul, j_lt, j_b1_s, j_b2_s, j_b3_s, j_b0_s, y_bo, y_bo1, y_bo0, y_i0, y_i1, Classical.not_not, nI_clamp, y_ix, y_lt, y_le, y_eq, y_nP, y_nPs, y_ltP, y_ltQ, y_ltPP, y_eqP, y_eqQ, y_eqPP, if_pos, if_neg, ite_true, ite_false, not_true_eq_false, not_false_eq_true, and_true, true_and, and_false, false_and, or_true, true_or, or_false, false_or]
  · rw [if_neg s, if_neg s]
    unfold y_lz
    obtain rfl | rfl | rfl | rfl : l = 0 ∨ l = 1 ∨ l = 2 ∨ l = 3 := by omega
    · simp (disch := omega) only [y_lit, y_n1, nI_add, pk_mul, j_lt, j_b1_s, j_b2_s, j_b3_s, j_b0_s, y_bo, y_bo1, y_bo0, y_i0, y_i1, Classical.not_not, nI_clamp, y_ix, y_lt, y_le, y_eq, y_nP, y_nPs, y_ltP, y_ltQ, y_ltPP, y_eqP, y_eqQ, y_eqPP, if_pos, if_neg, ite_true, ite_false, not_true_eq_false, not_false_eq_true, and_true, true_and, and_false, false_and, or_true, true_or, or_false, false_or]
    · by_cases c : h + 1 = one
      · simp (disch := omega) only [y_lit, y_n1, nI_add, pk_mul, j_lt, j_b1_s, j_b2_s, j_b3_s, j_b0_s, y_bo, y_bo1, y_bo0, y_i0, y_i1, Classical.not_not, nI_clamp, y_ix, y_lt, y_le, y_eq, y_nP, y_nPs, y_ltP, y_ltQ, y_ltPP, y_eqP, y_eqQ, y_eqPP, if_pos, if_neg, ite_true, ite_false, not_true_eq_false, not_false_eq_true, and_true, true_and, and_false, false_and, or_true, true_or, or_false, false_or]
      · simp (disch := omega) only [y_lit, y_n1, nI_add, pk_mul, j_lt, j_b1_s, j_b2_s, j_b3_s, j_b0_s, y_bo, y_bo1, y_bo0, y_i0, y_i1, Classical.not_not, nI_clamp, y_ix, y_lt, y_le, y_eq, y_nP, y_nPs, y_ltP, y_ltQ, y_ltPP, y_eqP, y_eqQ, y_eqPP, if_pos, if_neg, ite_true, ite_false, not_true_eq_false, not_false_eq_true, and_true, true_and, and_false, false_and, or_true, true_or, or_false, false_or]
    · by_cases z : one = 0
      · simp (disch := omega) only [y_lit, y_n1, nI_add, pk_mul, j_lt, j_b1_s, j_b2_s, j_b3_s, j_b0_s, y_bo, y_bo1, y_bo0, y_i0, y_i1, Classical.not_not, nI_clamp, y_ix, y_lt, y_le, y_eq, y_nP, y_nPs, y_ltP, y_ltQ, y_ltPP, y_eqP, y_eqQ, y_eqPP, if_pos, if_neg, ite_true, ite_false, not_true_eq_false, not_false_eq_true, and_true, true_and, and_false, false_and, or_true, true_or, or_false, false_or]
      · obtain ⟨o, rfl⟩ : ∃ o, one = o + 1 := ⟨one - 1, by omega⟩
        have ap := y_ap_bd (b := b) (a := h) (c := o) (by omega) (by omega)
        rw [y_nPs, Nat.add_sub_cancel]
        simp (disch := omega) only [y_lit, y_n1, nI_add, pk_mul, j_lt, j_b1_s, j_b2_s, j_b3_s, j_b0_s, y_bo, y_bo1, y_bo0, y_i0, y_i1, Classical.not_not, nI_clamp, y_ix, y_lt, y_le, y_eq, y_nP, y_nPs, y_ltP, y_ltQ, y_ltPP, y_eqP, y_eqQ, y_eqPP, if_pos, if_neg, ite_true, ite_false, not_true_eq_false, not_false_eq_true, and_true, true_and, and_false, false_and, or_true, true_or, or_false, false_or, ym_stepsOf hM hW h9]
        by_cases c : 1 < y_ap b h o
        · simp (disch := omega) only [y_lit, y_n1, nI_add, pk_mul, j_lt, j_b1_s, j_b2_s, j_b3_s, j_b0_s, y_bo, y_bo1, y_bo0, y_i0, y_i1, Classical.not_not, nI_clamp, y_ix, y_lt, y_le, y_eq, y_nP, y_nPs, y_ltP, y_ltQ, y_ltPP, y_eqP, y_eqQ, y_eqPP, if_pos, if_neg, ite_true, ite_false, not_true_eq_false, not_false_eq_true, and_true, true_and, and_false, false_and, or_true, true_or, or_false, false_or]
        · simp (disch := omega) only [y_lit, y_n1, nI_add, pk_mul, j_lt, j_b1_s, j_b2_s, j_b3_s, j_b0_s, y_bo, y_bo1, y_bo0, y_i0, y_i1, Classical.not_not, nI_clamp, y_ix, y_lt, y_le, y_eq, y_nP, y_nPs, y_ltP, y_ltQ, y_ltPP, y_eqP, y_eqQ, y_eqPP, if_pos, if_neg, ite_true, ite_false, not_true_eq_false, not_false_eq_true, and_true, true_and, and_false, false_and, or_true, true_or, or_false, false_or]
    · by_cases c : h + 1 = one
      · simp (disch := omega) only [y_lit, y_n1, nI_add, pk_mul, j_lt, j_b1_s, j_b2_s, j_b3_s, j_b0_s, y_bo, y_bo1, y_bo0, y_i0, y_i1, Classical.not_not, nI_clamp, y_ix, y_lt, y_le, y_eq, y_nP, y_nPs, y_ltP, y_ltQ, y_ltPP, y_eqP, y_eqQ, y_eqPP, if_pos, if_neg, ite_true, ite_false, not_true_eq_false, not_false_eq_true, and_true, true_and, and_false, false_and, or_true, true_or, or_false, false_or]
      · by_cases d : h + 1 = two
        · simp (disch := omega) only [y_lit, y_n1, nI_add, pk_mul, j_lt, j_b1_s, j_b2_s, j_b3_s, j_b0_s, y_bo, y_bo1, y_bo0, y_i0, y_i1, Classical.not_not, nI_clamp, y_ix, y_lt, y_le, y_eq, y_nP, y_nPs, y_ltP, y_ltQ, y_ltPP, y_eqP, y_eqQ, y_eqPP, if_pos, if_neg, ite_true, ite_false, not_true_eq_false, not_false_eq_true, and_true, true_and, and_false, false_and, or_true, true_or, or_false, false_or]
        · simp (disch := omega) only [y_lit, y_n1, nI_add, pk_mul, j_lt, j_b1_s, j_b2_s, j_b3_s, j_b0_s, y_bo, y_bo1, y_bo0, y_i0, y_i1, Classical.not_not, nI_clamp, y_ix, y_lt, y_le, y_eq, y_nP, y_nPs, y_ltP, y_ltQ, y_ltPP, y_eqP, y_eqQ, y_eqPP, if_pos, if_neg, ite_true, ite_false, not_true_eq_false, not_false_eq_true, and_true, true_and, and_false, false_and, or_true, true_or, or_false, false_or]
def y_pf (b : Nat → Nat) : Nat → Nat := fun k => y_ap b (y_rd b k) (y_rd b (k + 1))
def y_pa (b : Nat → Nat) : Nat := y_su (y_pf b) (b 5) 0 0
theorem y_pa_le (hW : y_W b) : y_pa b ≤ 576 := by
  have b5 := hW.b5
  have h4 := hW.ho
  rcases Nat.eq_zero_or_pos (b 5) with z | z
  · unfold y_pa; rw [z]; exact Nat.zero_le _
  · have := y_su_bd (f := y_pf b) (c := 24) (b 5) 0 (fun j _ _ => y_ap_bd (by have := y_rd_lt hW z j; omega) (by have := y_rd_lt hW z (j + 1); omega))
    unfold y_pa; omega
theorem yc_path (hN : y_N σ b) (hW : y_W b) : f_X2_pathRound σ = some (nI (y_pa b)) := by
  have b5 := hW.b5
  have h4 := hW.ho
  have key : ∀ m i n v, i + m = b 5 → m < n → p_X2_pathRound_4 σ n (nI v) (nI i) = some (nI (y_su (y_pf b) m i v)) := by
    intro m
    induction m with
    | zero =>
      intro i n v h hn
      obtain ⟨n, rfl⟩ := y_pos hn
      unfold p_X2_pathRound_4 y_su; simp (disch := omega) only [y_lit, y_n1, nI_add, pk_mul, j_lt, j_b1_s, j_b2_s, j_b3_s, j_b0_s, y_bo, y_bo1, y_bo0, y_i0, y_i1, Classical.not_not, nI_clamp, y_ix, y_lt, y_le, y_eq, y_nP, y_nPs, y_ltP, y_ltQ, y_ltPP, y_eqP, y_eqQ, y_eqPP, if_pos, if_neg, ite_true, ite_false, not_true_eq_false, not_false_eq_true, and_true, true_and, and_false, false_and, or_true, true_or, or_false, false_or, hN.d0]
    | succ m ih =>
      intro i n v h hn
      obtain ⟨n, rfl⟩ := y_pos hn
      have h5 : 0 < b 5 := by omega
      have h9 := hW.on0 (Or.inr (Or.inr (Or.inl h5)))
      have r1 := y_rd_lt hW h5 i
      have r2 := y_rd_lt hW h5 (i + 1)
      unfold p_X2_pathRound_4 y_su; simp (disch := omega) only [y_lit, y_n1, nI_add, pk_mul, j_lt, j_b1_s, j_b2_s, j_b3_s, j_b0_s, y_bo, y_bo1, y_bo0, y_i0, y_i1, Classical.not_not, nI_clamp, y_ix, y_lt, y_le, y_eq, y_nP, y_nPs, y_ltP, y_ltQ, y_ltPP, y_eqP, y_eqQ, y_eqPP, if_pos, if_neg, ite_true, ite_false, not_true_eq_false, not_false_eq_true, and_true, true_and, and_false, false_and, or_true, true_or, or_false, false_or, hN.d0, yc_round hN hW h5, yc_apart hN hW h9]
      exact ih (i + 1) n _ (by omega) (by omega)
  unfold f_X2_pathRound
  rw [y_lit, key (b 5) 0 j_F 0 (by omega) (y_F (by omega))]
  rfl
theorem ym_path (hM : y_M τ b) (hW : y_W b) : f_X12_pathOf τ = some (nI (y_pa b)) := by
  have b5 := hW.b5
  have h4 := hW.ho
  have key : ∀ m i n v, i + m = b 5 → m < n → p_X12_pathOf_4 τ n (nI v) (nI i) = some (nI (y_su (y_pf b) m i v)) := by
    intro m
    induction m with
    | zero =>
      intro i n v h hn
      obtain ⟨n, rfl⟩ := y_pos hn
      unfold p_X12_pathOf_4 y_su; simp (disch := omega) only [y_lit, y_n1, nI_add, pk_mul, j_lt, j_b1_s, j_b2_s, j_b3_s, j_b0_s, y_bo, y_bo1, y_bo0, y_i0, y_i1, Classical.not_not, nI_clamp, y_ix, y_lt, y_le, y_eq, y_nP, y_nPs, y_ltP, y_ltQ, y_ltPP, y_eqP, y_eqQ, y_eqPP, if_pos, if_neg, ite_true, ite_false, not_true_eq_false, not_false_eq_true, and_true, true_and, and_false, false_and, or_true, true_or, or_false, false_or, hM.f]
    | succ m ih =>
      intro i n v h hn
      obtain ⟨n, rfl⟩ := y_pos hn
      have h5 : 0 < b 5 := by omega
      have h9 := hW.on0 (Or.inr (Or.inr (Or.inl h5)))
      have r1 := y_rd_lt hW h5 i
      have r2 := y_rd_lt hW h5 (i + 1)
      unfold p_X12_pathOf_4 y_su; simp (disch := omega) only [y_lit, y_n1, nI_add, pk_mul, j_lt, j_b1_s, j_b2_s, j_b3_s, j_b0_s, y_bo, y_bo1, y_bo0, y_i0, y_i1, Classical.not_not, nI_clamp, y_ix, y_lt, y_le, y_eq, y_nP, y_nPs, y_ltP, y_ltQ, y_ltPP, y_eqP, y_eqQ, y_eqPP, if_pos, if_neg, ite_true, ite_false, not_true_eq_false, not_false_eq_true, and_true, true_and, and_false, false_and, or_true, true_or, or_false, false_or, hM.f, ym_holeAt hM hW h5, ym_stepsOf hM hW h9]
      exact ih (i + 1) n _ (by omega) (by omega)
  unfold f_X12_pathOf
  rw [y_lit, key (b 5) 0 j_F 0 (by omega) (y_F (by omega))]
  rfl
theorem yc_isLaw {x : Int32} : f_X11_isLaw x = if y_rg x 4 then nI 1 else nI 0 := by
  unfold f_X11_isLaw; simp only [y_lit]; simp (disch := omega) only [y_c1]
theorem ym_isLaw {x : Int32} : f_X12_isLaw x = if y_rg x 4 then nI 1 else nI 0 := by
  unfold f_X12_isLaw; simp (disch := omega) only [y_lit, y_n1, nI_add, pk_mul, j_lt, j_b1_s, j_b2_s, j_b3_s, j_b0_s, y_bo, y_bo1, y_bo0, y_i0, y_i1, Classical.not_not, nI_clamp, y_ix, y_lt, y_le, y_eq, y_nP, y_nPs, y_ltP, y_ltQ, y_ltPP, y_eqP, y_eqQ, y_eqPP, if_pos, if_neg, ite_true, ite_false, not_true_eq_false, not_false_eq_true, and_true, true_and, and_false, false_and, or_true, true_or, or_false, false_or, y_lit64, y_in, y_c3]
end C
section Z
variable {σ τ : j_G}
theorem z_path (hR : j_Rel σ τ) : ∃ v, f_X11_path σ = some v ∧ f_X12_path τ = some v := by
  obtain ⟨b, hW, hN, hM, hK⟩ := id hR
  by_cases h9 : 0 < b 9
  · refine ⟨nI (y_pa b), ?_, ?_⟩
    · unfold f_X11_path; simp (disch := omega) only [y_lit, y_n1, nI_add, pk_mul, j_lt, j_b1_s, j_b2_s, j_b3_s, j_b0_s, y_bo, y_bo1, y_bo0, y_i0, y_i1, Classical.not_not, nI_clamp, y_ix, y_lt, y_le, y_eq, y_nP, y_nPs, y_ltP, y_ltQ, y_ltPP, y_eqP, y_eqQ, y_eqPP, if_pos, if_neg, ite_true, ite_false, not_true_eq_false, not_false_eq_true, and_true, true_and, and_false, false_and, or_true, true_or, or_false, false_or, yc_isTold hN hW, yc_path hN hW]
    · unfold f_X12_path; simp (disch := omega) only [y_lit, y_n1, nI_add, pk_mul, j_lt, j_b1_s, j_b2_s, j_b3_s, j_b0_s, y_bo, y_bo1, y_bo0, y_i0, y_i1, Classical.not_not, nI_clamp, y_ix, y_lt, y_le, y_eq, y_nP, y_nPs, y_ltP, y_ltQ, y_ltPP, y_eqP, y_eqQ, y_eqPP, if_pos, if_neg, ite_true, ite_false, not_true_eq_false, not_false_eq_true, and_true, true_and, and_false, false_and, or_true, true_or, or_false, false_or, ym_isBoard hM hW, ym_path hM hW]
  · refine ⟨-2, ?_, ?_⟩
    · unfold f_X11_path; simp (disch := omega) only [y_lit, y_n1, nI_add, pk_mul, j_lt, j_b1_s, j_b2_s, j_b3_s, j_b0_s, y_bo, y_bo1, y_bo0, y_i0, y_i1, Classical.not_not, nI_clamp, y_ix, y_lt, y_le, y_eq, y_nP, y_nPs, y_ltP, y_ltQ, y_ltPP, y_eqP, y_eqQ, y_eqPP, if_pos, if_neg, ite_true, ite_false, not_true_eq_false, not_false_eq_true, and_true, true_and, and_false, false_and, or_true, true_or, or_false, false_or, yc_isTold hN hW]
    · unfold f_X12_path; simp (disch := omega) only [y_lit, y_n1, nI_add, pk_mul, j_lt, j_b1_s, j_b2_s, j_b3_s, j_b0_s, y_bo, y_bo1, y_bo0, y_i0, y_i1, Classical.not_not, nI_clamp, y_ix, y_lt, y_le, y_eq, y_nP, y_nPs, y_ltP, y_ltQ, y_ltPP, y_eqP, y_eqQ, y_eqPP, if_pos, if_neg, ite_true, ite_false, not_true_eq_false, not_false_eq_true, and_true, true_and, and_false, false_and, or_true, true_or, or_false, false_or, ym_isBoard hM hW]
theorem z_breaks (hR : j_Rel σ τ) (a1 : Int32) : ∃ v, f_X11_breaks a1 σ = some v ∧ f_X12_breaks a1 τ = some v := by
  obtain ⟨b, hW, hN, hM, hK⟩ := id hR
  have b5 := hW.b5
  have h4 := hW.ho
  by_cases h9 : 0 < b 9
  · by_cases h : y_rg a1 4
    · obtain ⟨l, hl, rfl⟩ := y_of _ _ h.1 h.2
      have both : ∀ m i n, i + m = b 5 → m < n → ∃ v, p_X11_breaks_30 (nI l) σ n (nI i) = some v ∧ p_X12_breaks_19 (nI l) τ n (nI i) = some v := by
        intro m
        induction m with
        | zero =>
          intro i n h hn
          obtain ⟨n, rfl⟩ := y_pos hn
          refine ⟨-1, ?_, ?_⟩
          · unfold p_X11_breaks_30; simp (disch := omega) only [y_lit, y_n1, nI_add, pk_mul, j_lt, j_b1_s, j_b2_s, j_b3_s, j_b0_s, y_bo, y_bo1, y_bo0, y_i0, y_i1, Classical.not_not, nI_clamp, y_ix, y_lt, y_le, y_eq, y_nP, y_nPs, y_ltP, y_ltQ, y_ltPP, y_eqP, y_eqQ, y_eqPP, if_pos, if_neg, ite_true, ite_false, not_true_eq_false, not_false_eq_true, and_true, true_and, and_false, false_and, or_true, true_or, or_false, false_or, hN.d0]
          · unfold p_X12_breaks_19; simp (disch := omega) only [y_lit, y_n1, nI_add, pk_mul, j_lt, j_b1_s, j_b2_s, j_b3_s, j_b0_s, y_bo, y_bo1, y_bo0, y_i0, y_i1, Classical.not_not, nI_clamp, y_ix, y_lt, y_le, y_eq, y_nP, y_nPs, y_ltP, y_ltQ, y_ltPP, y_eqP, y_eqQ, y_eqPP, if_pos, if_neg, ite_true, ite_false, not_true_eq_false, not_false_eq_true, and_true, true_and, and_false, false_and, or_true, true_or, or_false, false_or, hM.f]
        | succ m ih =>
          intro i n h hn
          obtain ⟨n, rfl⟩ := y_pos hn
          have h5 : 0 < b 5 := by omega
          have r0 := y_rd_lt hW h5 i
          have r1 := y_rd_lt hW h5 (i + 2 * b 5 - 1)
          have r2 := y_rd_lt hW h5 (i + 2 * b 5 - 2)
          obtain ⟨v, v1, v2⟩ := ih (i + 1) n (by omega) (by omega)
          have sh0 : ¬ y_sh b (y_rd b i) = 1 := by
            have q := (hW.co (Nat.mod_lt i h5)).2.2.2.2.2.1
            have : y_sh b (y_rd b i) = 0 := q
            omega
          have cl := yc_lets hN hW h9 (l := l) (h := y_rd b i) (one := y_rd b (i + 2 * b 5 - 1) + 1) (two := y_rd b (i + 2 * b 5 - 2) + 1) hl (by omega) (by omega) (by omega) (fun z => by omega) (y_nPs _).symm (y_nPs _).symm
          have ml := ym_lets hM hW h9 (l := l) (h := y_rd b i) (one := y_rd b (i + 2 * b 5 - 1) + 1) (two := y_rd b (i + 2 * b 5 - 2) + 1) hl (by omega) (by omega) (by omega) (y_nPs _).symm (y_nPs _).symm
          rw [if_neg sh0] at ml
          have le := y_lz_le b l (y_rd b i) (y_rd b (i + 2 * b 5 - 1) + 1) (y_rd b (i + 2 * b 5 - 2) + 1)
          have hlt : nI i < nI (b 5) := (y_lt (by omega) (by omega)).mpr (by omega)
          have e5 := hM.f (j := 5) (by omega)
          have kc : p_X11_breaks_30 (nI l) σ (n + 1) (nI i) = if nI (y_lz b l (y_rd b i) (y_rd b (i + 2 * b 5 - 1) + 1) (y_rd b (i + 2 * b 5 - 2) + 1)) = nI 0 then some (nI i) else p_X11_breaks_30 (nI l) σ n (nI (i + 1)) := by
            rw [p_X11_breaks_30, hN.d0, if_pos hlt, show (2 : Int32) = nI 2 from rfl, show (1 : Int32) = nI 1 from rfl, yc_roundm hN hW h5 (by omega) (Or.inr rfl), j_b1_s, yc_roundm hN hW h5 (by omega) (Or.inl rfl), j_b1_s, yc_round hN hW h5 (by omega), j_b1_s, cl, j_b1_s, nI_add]
            rfl
          have km : p_X12_breaks_19 (nI l) τ (n + 1) (nI i) = if nI (y_lz b l (y_rd b i) (y_rd b (i + 2 * b 5 - 1) + 1) (y_rd b (i + 2 * b 5 - 2) + 1)) = nI 0 then some (nI i) else p_X12_breaks_19 (nI l) τ n (nI (i + 1)) := by
            rw [p_X12_breaks_19, show (5 : Int32) = nI 5 from rfl, y_ix (by omega) (by omega), nI_clamp (by omega), e5, if_pos hlt, show (2 : Int32) = nI 2 from rfl, show (1 : Int32) = nI 1 from rfl, ym_holeAt hM hW h5 (by omega), j_b1_s, ym_holeAtm hM hW h5 (by omega) (Or.inl rfl), j_b1_s, ym_holeAtm hM hW h5 (by omega) (Or.inr rfl), j_b1_s, ml, j_b1_s, nI_add]
            rfl
          rw [kc, km]
          generalize y_lz b l (y_rd b i) (y_rd b (i + 2 * b 5 - 1) + 1) (y_rd b (i + 2 * b 5 - 2) + 1) = X at *
          by_cases c : nI X = nI 0
          · rw [if_pos c, if_pos c]; exact ⟨nI i, rfl, rfl⟩
          · rw [if_neg c, if_neg c]; exact ⟨v, v1, v2⟩
      obtain ⟨v, v1, v2⟩ := both (b 5) 0 j_F (by omega) (y_F (by omega))
      refine ⟨v, ?_, ?_⟩
      · unfold f_X11_breaks; simp (disch := omega) only [y_lit, y_n1, nI_add, pk_mul, j_lt, j_b1_s, j_b2_s, j_b3_s, j_b0_s, y_bo, y_bo1, y_bo0, y_i0, y_i1, Classical.not_not, nI_clamp, y_ix, y_lt, y_le, y_eq, y_nP, y_nPs, y_ltP, y_ltQ, y_ltPP, y_eqP, y_eqQ, y_eqPP, if_pos, if_neg, ite_true, ite_false, not_true_eq_false, not_false_eq_true, and_true, true_and, and_false, false_and, or_true, true_or, or_false, false_or, yc_isTold hN hW, yc_isLaw, y_rn]; exact v1
      · unfold f_X12_breaks; simp (disch := omega) only [y_lit, y_n1, nI_add, pk_mul, j_lt, j_b1_s, j_b2_s, j_b3_s, j_b0_s, y_bo, y_bo1, y_bo0, y_i0, y_i1, Classical.not_not, nI_clamp, y_ix, y_lt, y_le, y_eq, y_nP, y_nPs, y_ltP, y_ltQ, y_ltPP, y_eqP, y_eqQ, y_eqPP, if_pos, if_neg, ite_true, ite_false, not_true_eq_false, not_false_eq_true, and_true, true_and, and_false, false_and, or_true, true_or, or_false, false_or, ym_isBoard hM hW, ym_isLaw, y_rn]; exact v2
    · refine ⟨-2, ?_, ?_⟩
      · unfold f_X11_breaks; simp (disch := omega) only [y_lit, y_n1, nI_add, pk_mul, j_lt, j_b1_s, j_b2_s, j_b3_s, j_b0_s, y_bo, y_bo1, y_bo0, y_i0, y_i1, Classical.not_not, nI_clamp, y_ix, y_lt, y_le, y_eq, y_nP, y_nPs, y_ltP, y_ltQ, y_ltPP, y_eqP, y_eqQ, y_eqPP, if_pos, if_neg, ite_true, ite_false, not_true_eq_false, not_false_eq_true, and_true, true_and, and_false, false_and, or_true, true_or, or_false, false_or, yc_isTold hN hW, yc_isLaw, h]
      · unfold f_X12_breaks; simp (disch := omega) only [y_lit, y_n1, nI_add, pk_mul, j_lt, j_b1_s, j_b2_s, j_b3_s, j_b0_s, y_bo, y_bo1, y_bo0, y_i0, y_i1, Classical.not_not, nI_clamp, y_ix, y_lt, y_le, y_eq, y_nP, y_nPs, y_ltP, y_ltQ, y_ltPP, y_eqP, y_eqQ, y_eqPP, if_pos, if_neg, ite_true, ite_false, not_true_eq_false, not_false_eq_true, and_true, true_and, and_false, false_and, or_true, true_or, or_false, false_or, ym_isBoard hM hW, ym_isLaw, h]
  · refine ⟨-2, ?_, ?_⟩
    · unfold f_X11_breaks; simp (disch := omega) only [y_lit, y_n1, nI_add, pk_mul, j_lt, j_b1_s, j_b2_s, j_b3_s, j_b0_s, y_bo, y_bo1, y_bo0, y_i0, y_i1, Classical.not_not, nI_clamp, y_ix, y_lt, y_le, y_eq, y_nP, y_nPs, y_ltP, y_ltQ, y_ltPP, y_eqP, y_eqQ, y_eqPP, if_pos, if_neg, ite_true, ite_false, not_true_eq_false, not_false_eq_true, and_true, true_and, and_false, false_and, or_true, true_or, or_false, false_or, yc_isTold hN hW]
    · unfold f_X12_breaks; simp (disch := omega) only [y_lit, y_n1, nI_add, pk_mul, j_lt, j_b1_s, j_b2_s, j_b3_s, j_b0_s, y_bo, y_bo1, y_bo0, y_i0, y_i1, Classical.not_not, nI_clamp, y_ix, y_lt, y_le, y_eq, y_nP, y_nPs, y_ltP, y_ltQ, y_ltPP, y_eqP, y_eqQ, y_eqPP, if_pos, if_neg, ite_true, ite_false, not_true_eq_false, not_false_eq_true, and_true, true_and, and_false, false_and, or_true, true_or, or_false, false_or, ym_isBoard hM hW]
end Z
