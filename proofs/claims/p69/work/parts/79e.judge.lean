/-! ===== blows judged: J 0 good, 1 red, 2 soon, 10 + i the sides of a coming that were hit ===== -/
def y_sd (g : Nat → Nat) (i h : Nat) : Nat := if g (3 * i) = h then 1 else if g (3 * i + 1) = h + 1 then 2 else 0
def y_ju (b g : Nat → Nat) (i h t lag : Nat) (J : Nat → Nat) : Nat → Nat := y_u (y_u (y_u (y_u J (10 + i) (J (10 + i) + y_sd g i h)) 0 (J 0 + (1 - g (3 * i + 2)))) 1 (J 1 + g (3 * i + 2))) 2 (J 2 + (if t - y_from b i < lag then 1 else 0))
def y_jo (b g : Nat → Nat) (i h t lag : Nat) (J : Nat → Nat) : Nat → Nat := if y_sd g i h = 0 then J else if J (10 + i) / y_sd g i h % 2 = 1 then J else y_ju b g i h t lag J
def y_j1 (b g : Nat → Nat) (s h t lag : Nat) (J : Nat → Nat) : Nat → Nat := if y_ui b t s 0 = 0 then J else y_jo b g (y_ui b t s 0 - 1) h t lag J
def y_jl (b g : Nat → Nat) (s : Nat) (e : Nat → Nat) (lag : Nat) : Nat → Nat → (Nat → Nat) → Nat → Nat
  | 0, _, J => J
  | m + 1, i, J => y_jl b g s e lag m (i + 2) (y_j1 b g s (e i) (e (i + 1)) lag J)
def y_tk (g : Nat → Nat) (i v : Nat) : Nat := (if v % 2 = 1 then 2 ^ g (3 * i) else 0) ||| (if v / 2 = 1 then 2 ^ (g (3 * i + 1) - 1) else 0)
def y_jv (g J : Nat → Nat) (s : Nat) : Prop := ∀ i, i < s → J (10 + i) ≤ 3 ∧ (J (10 + i) / 2 = 1 → g (3 * i + 1) ≠ 0)
def y_cj (σ : j_G) (g J : Nat → Nat) (s : Nat) : Prop := σ.1 40 0 = nI (J 0) ∧ σ.1 40 1 = nI (J 1) ∧ σ.1 40 2 = nI (J 2) ∧ ∀ i, i < s → σ.1 41 i = nI (y_tk g i (J (10 + i)))
def y_mj (τ : j_G) (J : Nat → Nat) (s : Nat) : Prop := τ.1 75 39 = nI (J 0) ∧ τ.1 75 40 = nI (J 1) ∧ τ.1 75 41 = nI (J 2) ∧ ∀ i, i < s → τ.1 93 i = nI (J (10 + i))
theorem y_sd_c (g : Nat → Nat) (i h : Nat) : y_sd g i h = 0 ∨ y_sd g i h = 1 ∨ y_sd g i h = 2 := by
  unfold y_sd; split
  · omega
  · split <;> omega
theorem y_vs1 : ∀ v, v < 4 → (v &&& 1 = 0 ↔ ¬ v / 1 % 2 = 1) ∧ (¬ v / 1 % 2 = 1 → v ||| 1 = v + 1) ∧ (¬ v / 1 % 2 = 1 → v + 1 < 4) := by decide
theorem y_vs2 : ∀ v, v < 4 → (v &&& 2 = 0 ↔ ¬ v / 2 % 2 = 1) ∧ (¬ v / 2 % 2 = 1 → v ||| 2 = v + 2) ∧ (¬ v / 2 % 2 = 1 → v + 2 < 4) := by decide
theorem y_vs (v : Nat) (hv : v < 4) (d : Nat) (hd : d < 3) (h0 : d ≠ 0) : (v &&& d = 0 ↔ ¬ v / d % 2 = 1) ∧ (¬ v / d % 2 = 1 → v ||| d = v + d ∧ v + d < 4) := by
  obtain rfl | rfl : d = 1 ∨ d = 2 := by omega
  · have q := y_vs1 v hv; exact ⟨q.1, fun z => ⟨q.2.1 z, q.2.2 z⟩⟩
  · have q := y_vs2 v hv; exact ⟨q.1, fun z => ⟨q.2.1 z, q.2.2 z⟩⟩
theorem y_jo_v {b g J : Nat → Nat} {s i h t lag : Nat} (hs : s ≤ 60) (hj : y_jv g J s) (hi : i < s) : y_jv g (y_jo b g i h t lag J) s := by
  unfold y_jo
  split
  · exact hj
  · split
    · exact hj
    · rename_i h0 h1
      intro k hk
      unfold y_ju
      by_cases e : k = i
      · subst e
        have q := hj k hk
        have c := y_sd_c g k h
        have z := (y_vs (J (10 + k)) (by omega) (y_sd g k h) (by omega) h0).2 h1
        simp (disch := omega) only [y_ue, y_un]
        refine ⟨by omega, fun y => ?_⟩
        rcases c with c | c | c
        · exact absurd c h0
        · rw [c] at y h1
          exact q.2 (by omega)
        · unfold y_sd at c
          by_cases c1 : g (3 * k) = h
          · rw [if_pos c1] at c; omega
          · rw [if_neg c1] at c
            by_cases c2 : g (3 * k + 1) = h + 1
            · omega
            · rw [if_neg c2] at c; omega
      · have q := hj k hk
        simp (disch := omega) only [y_ue, y_un]; exact q
theorem y_test {A T h : Nat} (hh : h < 12) : ((nI A &&& (nI T ^^^ nP 0)) &&& nI (2 ^ h) = nI 0) ↔ (A.testBit h = false ∨ T.testBit h = true) := by
  have e : ((nI A &&& (nI T ^^^ nP 0)) &&& nI (2 ^ h)).toBitVec = (BitVec.ofNat 32 A &&& ~~~ BitVec.ofNat 32 T) &&& BitVec.ofNat 32 (2 ^ h) := by
    show ((nI A).toBitVec &&& (nI T ^^^ nP 0).toBitVec) &&& (nI (2 ^ h)).toBitVec = _
    rw [y_nPx]; rfl
  rw [← Int32.toBitVec_inj, e, show (nI 0).toBitVec = 0#32 from rfl]
  have bit : ∀ i, i < 32 → ((BitVec.ofNat 32 A &&& ~~~ BitVec.ofNat 32 T) &&& BitVec.ofNat 32 (2 ^ h)).getLsbD i = ((A.testBit i && !T.testBit i) && decide (h = i)) := by
    intro i hi
    rw [BitVec.getLsbD_and, BitVec.getLsbD_and, BitVec.getLsbD_not, BitVec.getLsbD_ofNat, BitVec.getLsbD_ofNat, BitVec.getLsbD_ofNat, Nat.testBit_two_pow]
    simp [hi]
  constructor
  · intro z
    have q := bit h (by omega)
    rw [z] at q
    simp at q
    cases ha : A.testBit h with
    | false => exact Or.inl rfl
    | true => exact Or.inr (q ha)
  · intro z
    apply BitVec.eq_of_getLsbD_eq
    intro i hi
    rw [bit i hi]
    by_cases c : h = i
    · subst c
      rcases z with z | z
      · simp [z]
      · simp [z]
    · simp [c]
theorem y_hb_t {g : Nat → Nat} {i h : Nat} : (y_hb g i).testBit h = (decide (g (3 * i) = h) || (decide (g (3 * i + 1) ≠ 0) && decide (g (3 * i + 1) - 1 = h))) := by
  unfold y_hb
  rw [Nat.testBit_or, Nat.testBit_two_pow]
  by_cases z : g (3 * i + 1) = 0
  · rw [if_pos z]; simp [z]
  · rw [if_neg z, Nat.testBit_two_pow]; simp [z]
theorem y_tk_t {g : Nat → Nat} {i v h : Nat} : (y_tk g i v).testBit h = ((decide (v % 2 = 1) && decide (g (3 * i) = h)) || (decide (v / 2 = 1) && decide (g (3 * i + 1) - 1 = h))) := by
  unfold y_tk
  rw [Nat.testBit_or]
  by_cases z : v % 2 = 1
  · rw [if_pos z, Nat.testBit_two_pow]
    by_cases y : v / 2 = 1
    · rw [if_pos y, Nat.testBit_two_pow]; simp [z, y]
    · rw [if_neg y]; simp [z, y]
  · rw [if_neg z]
    by_cases y : v / 2 = 1
    · rw [if_pos y, Nat.testBit_two_pow]; simp [z, y]
    · rw [if_neg y]; simp [z, y]
theorem y_tst {g : Nat → Nat} {i v h : Nat} (hv : v ≤ 3) (ho : v / 2 = 1 → g (3 * i + 1) ≠ 0) (hd : g (3 * i + 1) ≠ g (3 * i) + 1) : ((y_hb g i).testBit h = false ∨ (y_tk g i v).testBit h = true) ↔ (y_sd g i h = 0 ∨ v / y_sd g i h % 2 = 1) := by
  rw [y_hb_t, y_tk_t]
  unfold y_sd
  by_cases c1 : g (3 * i) = h
  · have c2 : ¬ (g (3 * i + 1) ≠ 0 ∧ g (3 * i + 1) - 1 = h) := by omega
    rw [if_pos c1]
    have c3 : v / 2 = 1 → ¬ g (3 * i + 1) - 1 = h := fun z y => c2 ⟨ho z, y⟩
    simp only [c1, decide_true, Bool.true_or, Bool.and_true, Bool.or_eq_true, Bool.and_eq_true, decide_eq_true_eq, Nat.div_one]
    constructor
    · rintro (z | z | ⟨z1, z2⟩)
      · cases z
      · exact Or.inr z
      · exact absurd z2 (c3 z1)
    · rintro (z | z)
      · omega
      · exact Or.inr (Or.inl z)
  · rw [if_neg c1]
    by_cases c2 : g (3 * i + 1) = h + 1
    · rw [if_pos c2]
      have c3 : g (3 * i + 1) ≠ 0 := by omega
      have c4 : g (3 * i + 1) - 1 = h := by omega
      simp only [c1, c3, c4, decide_true, decide_false, ne_eq, not_false_eq_true, Bool.and_true, Bool.or_true, Bool.and_false, Bool.false_or, decide_eq_true_eq]
      constructor
      · rintro (z | z)
        · cases z
        · exact Or.inr (by omega)
      · rintro (z | z)
        · omega
        · exact Or.inr (by omega)
    · rw [if_neg c2]
      refine ⟨fun _ => Or.inl rfl, fun _ => Or.inl ?_⟩
      have c4 : ¬ (g (3 * i + 1) ≠ 0 ∧ g (3 * i + 1) - 1 = h) := by omega
      by_cases z : g (3 * i + 1) = 0
      · simp [c1, z]
      · have : ¬ g (3 * i + 1) - 1 = h := fun y => c4 ⟨z, y⟩
        simp [c1, this]
theorem y_tkn {g : Nat → Nat} {i v h : Nat} (hv : v ≤ 3) (h0 : y_sd g i h ≠ 0) (h1 : ¬ v / y_sd g i h % 2 = 1) : y_tk g i v ||| 2 ^ h = y_tk g i (v + y_sd g i h) := by
  have c := y_sd_c g i h
  rcases c with c | c | c
  · exact absurd c h0
  · have c1 : g (3 * i) = h := by
      unfold y_sd at c
      by_cases z : g (3 * i) = h
      · exact z
      · rw [if_neg z] at c; split at c <;> omega
    rw [c] at h1 ⊢
    unfold y_tk
    rw [if_neg (show ¬ v % 2 = 1 by omega), if_pos (show (v + 1) % 2 = 1 by omega), show (v + 1) / 2 = v / 2 from by omega, c1, Nat.zero_or, Nat.or_comm]
  · have c1 : g (3 * i + 1) - 1 = h := by
      unfold y_sd at c
      by_cases z : g (3 * i) = h
      · rw [if_pos z] at c; omega
      · rw [if_neg z] at c
        by_cases y : g (3 * i + 1) = h + 1
        · omega
        · rw [if_neg y] at c; omega
    rw [c] at h1 ⊢
    unfold y_tk
    rw [if_neg (show ¬ v / 2 = 1 by omega), if_pos (show (v + 2) / 2 = 1 by omega), show (v + 2) % 2 = v % 2 from by omega, c1, Nat.or_zero]
section C
variable {σ τ : j_G} {b g J : Nat → Nat} {s h t lag : Nat}
theorem yc_judge1 (hW : y_W b) (hc : y_cg σ b s g) (hv : y_vg b s g) (hj : y_jv g J s) (hJ : y_cj σ g J s) (hh : h < 12) (ht : t < 300) (hlag : lag ≤ 20) : ∃ σ', f_X1_judgeOne (nI h) (nI t) (nI lag) σ = some σ' ∧ y_cj σ' g (y_j1 b g s h t lag J) s ∧ y_fr 40 41 σ σ' := by
  have hs := hv.1
  have h2 := hW.b2
  have h4 := hW.ho
  have ul := y_ui_le (b := b) (t := t) s 0
  unfold f_X1_judgeOne y_j1
  rw [yc_upIn hc hv hW (by omega), j_b1_s]
  by_cases z : y_ui b t s 0 = 0
  · rw [if_pos z, z]
    refine ⟨σ, ?_, hJ, y_fr.refl⟩
    rw [yc_ghas hc hs, if_neg (fun q : y_rg (nP 0) s => absurd q.1 (by decide))]
    simp (disch := omega) only [y_lit, y_n1, nI_add, pk_mul, j_lt, j_b1_s, j_b2_s, j_b3_s, j_b0_s, y_bo, y_bo1, y_bo0, y_i0, y_i1, Classical.not_not, nI_clamp, y_ix, y_lt, y_le, y_eq, y_nP, y_nPs, y_ltP, y_ltQ, y_ltPP, y_eqP, y_eqQ, y_eqPP, if_pos, if_neg, ite_true, ite_false, not_true_eq_false, not_false_eq_true, and_true, true_and, and_false, false_and, or_true, true_or, or_false, false_or]
  · obtain ⟨i, hi⟩ : ∃ i, y_ui b t s 0 = i + 1 := ⟨y_ui b t s 0 - 1, by omega⟩
    have his : i < s := by omega
    rw [if_neg z, hi, Nat.add_sub_cancel, y_nPs]
    have vi := hv.2 i his
    have ci := hc.2 i his
    have ji := hj i his
    have le := y_last_le hW i
    have inr : y_from b i ≤ t := by
      have key : ∀ m k, y_ui b t m k = i + 1 → y_from b i ≤ t := by
        intro m
        induction m with
        | zero => intro k hk; exact absurd hk (by unfold y_ui; omega)
        | succ m ih =>
          intro k hk
          unfold y_ui at hk
          by_cases q : y_from b k ≤ t ∧ t ≤ y_last b k
          · rw [if_pos q] at hk
            obtain rfl : k = i := by omega
            exact q.1
          · rw [if_neg q] at hk; exact ih _ hk
      exact key s 0 hi
    have tki := hJ.2.2.2 i his
    have tt := y_test (A := y_hb g i) (T := y_tk g i (J (10 + i))) hh
    have ts := y_tst (g := g) (i := i) (v := J (10 + i)) (h := h) ji.1 ji.2 vi.2.2.1
    simp (disch := omega) only [y_lit, y_n1, nI_add, pk_mul, j_lt, j_b1_s, j_b2_s, j_b3_s, j_b0_s, y_bo, y_bo1, y_bo0, y_i0, y_i1, Classical.not_not, nI_clamp, y_ix, y_lt, y_le, y_eq, y_nP, y_nPs, y_ltP, y_ltQ, y_ltPP, y_eqP, y_eqQ, y_eqPP, if_pos, if_neg, ite_true, ite_false, not_true_eq_false, not_false_eq_true, and_true, true_and, and_false, false_and, or_true, true_or, or_false, false_or, yc_ghas hc hs, y_rn, yc_holesOf hc hv hW, tki, y_shl]
    unfold y_jo
    by_cases a : y_sd g i h = 0 ∨ J (10 + i) / y_sd g i h % 2 = 1
    · rw [if_pos (tt.mpr (ts.mpr a))]
      refine ⟨σ, rfl, ?_, y_fr.refl⟩
      by_cases a0 : y_sd g i h = 0
      · rw [if_pos a0]; exact hJ
      · rw [if_neg a0, if_pos (by omega)]; exact hJ
    · have a0 : y_sd g i h ≠ 0 := fun y => a (Or.inl y)
      have a1 : ¬ J (10 + i) / y_sd g i h % 2 = 1 := fun y => a (Or.inr y)
      rw [if_neg (fun y => a (ts.mp (tt.mp y))), if_neg a0, if_neg a1]
      have tkn := y_tkn (g := g) (i := i) ji.1 a0 a1
      simp (disch := omega) only [j_r_ne, j_r_eq, j_r_nj, y_lit, y_n1, nI_add, pk_mul, j_lt, j_b1_s, j_b2_s, j_b3_s, j_b0_s, y_bo, y_bo1, y_bo0, y_i0, y_i1, Classical.not_not, nI_clamp, y_ix, y_lt, y_le, y_eq, y_nP, y_nPs, y_ltP, y_ltQ, y_ltPP, y_eqP, y_eqQ, y_eqPP, if_pos, if_neg, ite_true, ite_false, not_true_eq_false, not_false_eq_true, and_true, true_and, and_false, false_and, or_true, true_or, or_false, false_or, y_or, tkn, ci, hJ.1, hJ.2.1, hJ.2.2.1]
      by_cases r : g (3 * i + 2) = 0
      · simp (disch := omega) only [j_r_ne, j_r_eq, j_r_nj, y_lit, y_n1, nI_add, pk_mul, j_lt, j_b1_s, j_b2_s, j_b3_s, j_b0_s, y_bo, y_bo1, y_bo0, y_i0, y_i1, Classical.not_not, nI_clamp, y_ix, y_lt, y_le, y_eq, y_nP, y_nPs, y_ltP, y_ltQ, y_ltPP, y_eqP, y_eqQ, y_eqPP, if_pos, if_neg, ite_true, ite_false, not_true_eq_false, not_false_eq_true, and_true, true_and, and_false, false_and, or_true, true_or, or_false, false_or, ci, pk_sub, hJ.2.2.1]
        by_cases so : t - y_from b i < lag
        · simp (disch := omega) only [y_lit, y_n1, nI_add, pk_mul, j_lt, j_b1_s, j_b2_s, j_b3_s, j_b0_s, y_bo, y_bo1, y_bo0, y_i0, y_i1, Classical.not_not, nI_clamp, y_ix, y_lt, y_le, y_eq, y_nP, y_nPs, y_ltP, y_ltQ, y_ltPP, y_eqP, y_eqQ, y_eqPP, if_pos, if_neg, ite_true, ite_false, not_true_eq_false, not_false_eq_true, and_true, true_and, and_false, false_and, or_true, true_or, or_false, false_or, j_r_ne, j_r_eq, j_r_nj]
          refine ⟨_, rfl, ⟨?_, ?_, ?_, fun k hk => ?_⟩, ((y_fr.refl.si (by omega) (by omega)).si (by omega) (by omega)).si (by omega) (by omega)⟩
          · unfold y_ju; simp (disch := omega) only [j_r_ne, j_r_eq, j_r_nj, y_ue, y_un, r]
          · unfold y_ju; simp (disch := omega) only [j_r_ne, j_r_eq, j_r_nj, y_ue, y_un, r, Nat.add_zero]; exact hJ.2.1
          · unfold y_ju; simp (disch := omega) only [j_r_ne, j_r_eq, j_r_nj, y_ue, y_un, y_lit, y_n1, nI_add, pk_mul, j_lt, j_b1_s, j_b2_s, j_b3_s, j_b0_s, y_bo, y_bo1, y_bo0, y_i0, y_i1, Classical.not_not, nI_clamp, y_ix, y_lt, y_le, y_eq, y_nP, y_nPs, y_ltP, y_ltQ, y_ltPP, y_eqP, y_eqQ, y_eqPP, if_pos, if_neg, ite_true, ite_false, not_true_eq_false, not_false_eq_true, and_true, true_and, and_false, false_and, or_true, true_or, or_false, false_or]
          · unfold y_ju
            by_cases e : k = i
            · subst e; simp (disch := omega) only [j_r_ne, j_r_eq, j_r_nj, y_ue, y_un]
            · simp (disch := omega) only [j_r_ne, j_r_eq, j_r_nj, y_ue, y_un]; exact hJ.2.2.2 k hk
        · simp (disch := omega) only [y_lit, y_n1, nI_add, pk_mul, j_lt, j_b1_s, j_b2_s, j_b3_s, j_b0_s, y_bo, y_bo1, y_bo0, y_i0, y_i1, Classical.not_not, nI_clamp, y_ix, y_lt, y_le, y_eq, y_nP, y_nPs, y_ltP, y_ltQ, y_ltPP, y_eqP, y_eqQ, y_eqPP, if_pos, if_neg, ite_true, ite_false, not_true_eq_false, not_false_eq_true, and_true, true_and, and_false, false_and, or_true, true_or, or_false, false_or, j_r_ne, j_r_eq, j_r_nj]
          refine ⟨_, rfl, ⟨?_, ?_, ?_, fun k hk => ?_⟩, (y_fr.refl.si (by omega) (by omega)).si (by omega) (by omega)⟩
          · unfold y_ju; simp (disch := omega) only [j_r_ne, j_r_eq, j_r_nj, y_ue, y_un, r]
          · unfold y_ju; simp (disch := omega) only [j_r_ne, j_r_eq, j_r_nj, y_ue, y_un, r, Nat.add_zero]; exact hJ.2.1
          · unfold y_ju; simp (disch := omega) only [j_r_ne, j_r_eq, j_r_nj, y_ue, y_un, y_lit, y_n1, nI_add, pk_mul, j_lt, j_b1_s, j_b2_s, j_b3_s, j_b0_s, y_bo, y_bo1, y_bo0, y_i0, y_i1, Classical.not_not, nI_clamp, y_ix, y_lt, y_le, y_eq, y_nP, y_nPs, y_ltP, y_ltQ, y_ltPP, y_eqP, y_eqQ, y_eqPP, if_pos, if_neg, ite_true, ite_false, not_true_eq_false, not_false_eq_true, and_true, true_and, and_false, false_and, or_true, true_or, or_false, false_or, Nat.add_zero]; exact hJ.2.2.1
          · unfold y_ju
            by_cases e : k = i
            · subst e; simp (disch := omega) only [j_r_ne, j_r_eq, j_r_nj, y_ue, y_un]
            · simp (disch := omega) only [j_r_ne, j_r_eq, j_r_nj, y_ue, y_un]; exact hJ.2.2.2 k hk
      · have r1 : g (3 * i + 2) = 1 := by omega
        simp (disch := omega) only [j_r_ne, j_r_eq, j_r_nj, y_lit, y_n1, nI_add, pk_mul, j_lt, j_b1_s, j_b2_s, j_b3_s, j_b0_s, y_bo, y_bo1, y_bo0, y_i0, y_i1, Classical.not_not, nI_clamp, y_ix, y_lt, y_le, y_eq, y_nP, y_nPs, y_ltP, y_ltQ, y_ltPP, y_eqP, y_eqQ, y_eqPP, if_pos, if_neg, ite_true, ite_false, not_true_eq_false, not_false_eq_true, and_true, true_and, and_false, false_and, or_true, true_or, or_false, false_or, ci, pk_sub, hJ.2.2.1]
        by_cases so : t - y_from b i < lag
        · simp (disch := omega) only [y_lit, y_n1, nI_add, pk_mul, j_lt, j_b1_s, j_b2_s, j_b3_s, j_b0_s, y_bo, y_bo1, y_bo0, y_i0, y_i1, Classical.not_not, nI_clamp, y_ix, y_lt, y_le, y_eq, y_nP, y_nPs, y_ltP, y_ltQ, y_ltPP, y_eqP, y_eqQ, y_eqPP, if_pos, if_neg, ite_true, ite_false, not_true_eq_false, not_false_eq_true, and_true, true_and, and_false, false_and, or_true, true_or, or_false, false_or, j_r_ne, j_r_eq, j_r_nj]
          refine ⟨_, rfl, ⟨?_, ?_, ?_, fun k hk => ?_⟩, ((y_fr.refl.si (by omega) (by omega)).si (by omega) (by omega)).si (by omega) (by omega)⟩
          · unfold y_ju; simp (disch := omega) only [j_r_ne, j_r_eq, j_r_nj, y_ue, y_un, r1, Nat.sub_self, Nat.add_zero]; exact hJ.1
          · unfold y_ju; simp (disch := omega) only [j_r_ne, j_r_eq, j_r_nj, y_ue, y_un, r1]
          · unfold y_ju; simp (disch := omega) only [j_r_ne, j_r_eq, j_r_nj, y_ue, y_un, y_lit, y_n1, nI_add, pk_mul, j_lt, j_b1_s, j_b2_s, j_b3_s, j_b0_s, y_bo, y_bo1, y_bo0, y_i0, y_i1, Classical.not_not, nI_clamp, y_ix, y_lt, y_le, y_eq, y_nP, y_nPs, y_ltP, y_ltQ, y_ltPP, y_eqP, y_eqQ, y_eqPP, if_pos, if_neg, ite_true, ite_false, not_true_eq_false, not_false_eq_true, and_true, true_and, and_false, false_and, or_true, true_or, or_false, false_or]
          · unfold y_ju
            by_cases e : k = i
            · subst e; simp (disch := omega) only [j_r_ne, j_r_eq, j_r_nj, y_ue, y_un]
            · simp (disch := omega) only [j_r_ne, j_r_eq, j_r_nj, y_ue, y_un]; exact hJ.2.2.2 k hk
        · simp (disch := omega) only [y_lit, y_n1, nI_add, pk_mul, j_lt, j_b1_s, j_b2_s, j_b3_s, j_b0_s, y_bo, y_bo1, y_bo0, y_i0, y_i1, Classical.not_not, nI_clamp, y_ix, y_lt, y_le, y_eq, y_nP, y_nPs, y_ltP, y_ltQ, y_ltPP, y_eqP, y_eqQ, y_eqPP, if_pos, if_neg, ite_true, ite_false, not_true_eq_false, not_false_eq_true, and_true, true_and, and_false, false_and, or_true, true_or, or_false, false_or, j_r_ne, j_r_eq, j_r_nj]
          refine ⟨_, rfl, ⟨?_, ?_, ?_, fun k hk => ?_⟩, (y_fr.refl.si (by omega) (by omega)).si (by omega) (by omega)⟩
          · unfold y_ju; simp (disch := omega) only [j_r_ne, j_r_eq, j_r_nj, y_ue, y_un, r1, Nat.sub_self, Nat.add_zero]; exact hJ.1
          · unfold y_ju; simp (disch := omega) only [j_r_ne, j_r_eq, j_r_nj, y_ue, y_un, r1]
          · unfold y_ju; simp (disch := omega) only [j_r_ne, j_r_eq, j_r_nj, y_ue, y_un, y_lit, y_n1, nI_add, pk_mul, j_lt, j_b1_s, j_b2_s, j_b3_s, j_b0_s, y_bo, y_bo1, y_bo0, y_i0, y_i1, Classical.not_not, nI_clamp, y_ix, y_lt, y_le, y_eq, y_nP, y_nPs, y_ltP, y_ltQ, y_ltPP, y_eqP, y_eqQ, y_eqPP, if_pos, if_neg, ite_true, ite_false, not_true_eq_false, not_false_eq_true, and_true, true_and, and_false, false_and, or_true, true_or, or_false, false_or, Nat.add_zero]; exact hJ.2.2.1
          · unfold y_ju
            by_cases e : k = i
            · subst e; simp (disch := omega) only [j_r_ne, j_r_eq, j_r_nj, y_ue, y_un]
            · simp (disch := omega) only [j_r_ne, j_r_eq, j_r_nj, y_ue, y_un]; exact hJ.2.2.2 k hk
end C
