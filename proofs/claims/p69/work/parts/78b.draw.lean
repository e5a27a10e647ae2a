/-! ===== nights ===== -/
theorem y_litL (n : Nat) : (OfNat.ofNat n : Int64) = lN (OfNat.ofNat n) := Eq.trans rfl (Eq.refl _)
def y_nx (x : Nat) : Nat := (1103515245 * x + 12345) % 2147483648
/-- whether a hole may come now -/
def y_ok (b : Nat → Nat) (l one two h : Nat) : Nat := if y_sh b h = 1 then 0 else y_lz b l h one two
def y_cn (b : Nat → Nat) (l one two : Nat) : Nat := y_su (y_ok b l one two) (y_ho b) 0 0
def y_nt (b : Nat → Nat) (l one two : Nat) : Nat → Nat → Nat → Nat
  | 0, _, _ => 0
  | m + 1, h, z => if y_ok b l one two h = 0 then y_nt b l one two m (h + 1) z else if z = 0 then h + 1 else y_nt b l one two m (h + 1) (z - 1)
def y_nh (b : Nat → Nat) (l one two x : Nat) : Nat := y_nt b l one two (y_ho b) 0 (y_nx x / 65536 % y_cn b l one two)
def y_ng (b : Nat → Nat) (l : Nat) : Nat → Nat → Nat → Nat → Nat → (Nat → Nat) → Nat × (Nat → Nat)
  | 0, i, _, _, _, g => (i, g)
  | m + 1, i, x, one, two, g => if y_last b i < b 2 then (if y_cn b l one two = 0 then (i, g) else y_ng b l m (i + 1) (y_nx x) (y_nh b l one two x) one (y_u (y_u (y_u g (3 * i) (y_nh b l one two x - 1)) (3 * i + 1) 0) (3 * i + 2) 0)) else (i, g)
def y_nig (b : Nat → Nat) (l x : Nat) : Nat × (Nat → Nat) := y_ng b l 60 0 x 0 0 (fun _ => 0)
theorem y_ok_le (b : Nat → Nat) (l one two h : Nat) : y_ok b l one two h ≤ 1 := by
  have := y_lz_le b l h one two
  unfold y_ok; split <;> omega
theorem y_cn_le {b : Nat → Nat} (hW : y_W b) (l one two : Nat) : y_cn b l one two ≤ 12 := by
  have := hW.ho
  have := y_su_bd (f := y_ok b l one two) (c := 1) (y_ho b) 0 (fun j _ _ => y_ok_le _ _ _ _ _)
  unfold y_cn; omega
theorem y_nt_le {b : Nat → Nat} {l one two : Nat} : ∀ m h z, y_nt b l one two m h z ≤ h + m := by
  intro m
  induction m with
  | zero => intro h z; exact Nat.zero_le _
  | succ m ih =>
    intro h z
    unfold y_nt
    split
    · have := ih (h + 1) z; omega
    · split
      · omega
      · have := ih (h + 1) (z - 1); omega
theorem y_nt_pos {b : Nat → Nat} {l one two : Nat} : ∀ m h z, z < y_su (y_ok b l one two) m h 0 → 0 < y_nt b l one two m h z := by
  intro m
  induction m with
  | zero => intro h z hz; exact absurd hz (Nat.not_lt_zero _)
  | succ m ih =>
    intro h z hz
    rw [y_su_s] at hz
    have := y_ok_le b l one two h
    unfold y_nt
    split
    · exact ih (h + 1) z (by omega)
    · split
      · omega
      · exact ih (h + 1) (z - 1) (by omega)
theorem y_nh_bd {b : Nat → Nat} {l one two x : Nat} (hc : y_cn b l one two ≠ 0) : 0 < y_nh b l one two x ∧ y_nh b l one two x ≤ y_ho b := by
  unfold y_nh
  refine ⟨y_nt_pos _ _ _ (Nat.mod_lt _ (by omega)), ?_⟩
  have := y_nt_le (b := b) (l := l) (one := one) (two := two) (y_ho b) 0 (y_nx x / 65536 % y_cn b l one two)
  omega
theorem y_nx_lt (x : Nat) : y_nx x < 2147483648 := Nat.mod_lt _ (by omega)
theorem y_cg.congr {σ : j_G} {b g g' : Nat → Nat} {s : Nat} (h : y_cg σ b s g) (e : ∀ j, j < 3 * s → g' j = g j) : y_cg σ b s g' := by
  refine ⟨h.1, fun i hi => ?_⟩
  have := h.2 i hi
  rw [e (3 * i) (by omega), e (3 * i + 1) (by omega), e (3 * i + 2) (by omega)]
  exact this
theorem y_mg.congr {σ : j_G} {b g g' : Nat → Nat} {s : Nat} (h : y_mg σ b s g) (e : ∀ j, j < 3 * s → g' j = g j) : y_mg σ b s g' := by
  refine ⟨h.1, fun i hi => ?_⟩
  have := h.2 i hi
  rw [e (3 * i) (by omega), e (3 * i + 1) (by omega), e (3 * i + 2) (by omega)]
  exact this
section C
variable {σ τ : j_G} {b : Nat → Nat} {l one two : Nat} {B L : Int32}
theorem yc_count {x6 : Int32} {x4 : Int64} (hN : y_N σ b) (hW : y_W b) (h9 : 0 < b 9) (hl : l < 4) (h1 : one ≤ 12) (h2 : two ≤ 12) (hz : one = 0 → two = 0) (eB : B = nP two) (eL : L = nP one) : p_X4_draw_38 (nI l) x4 B L x6 σ j_F (nI 0) (nI 0) = some (nI (y_cn b l one two)) := by
  have h4 := hW.ho
  have key : ∀ m i n v, i + m = y_ho b → m < n → p_X4_draw_38 (nI l) x4 B L x6 σ n (nI v) (nI i) = some (nI (y_su (y_ok b l one two) m i v)) := by
    intro m
    induction m with
    | zero =>
      intro i n v h hn
      obtain ⟨n, rfl⟩ := y_pos hn
      unfold p_X4_draw_38 y_su; simp (disch := omega) only [y_lit, y_n1, nI_add, pk_mul, j_lt, j_b1_s, j_b2_s, j_b3_s, j_b0_s, y_bo, y_bo1, y_bo0, y_i0, y_i1, Classical.not_not, nI_clamp, y_ix, y_lt, y_le, y_eq, y_nP, y_nPs, y_ltP, y_ltQ, y_ltPP, y_eqP, y_eqQ, y_eqPP, if_pos, if_neg, ite_true, ite_false, not_true_eq_false, not_false_eq_true, and_true, true_and, and_false, false_and, or_true, true_or, or_false, false_or, yc_holes hN]
    | succ m ih =>
      intro i n v h hn
      obtain ⟨n, rfl⟩ := y_pos hn
      have sl := y_sh_le b i
      have ll := y_lz_le b l i one two
      have cl := yc_lets hN hW h9 (l := l) (h := i) hl (by omega) h1 h2 hz eB eL
      unfold p_X4_draw_38 y_su; simp (disch := omega) only [y_lit, y_n1, nI_add, pk_mul, j_lt, j_b1_s, j_b2_s, j_b3_s, j_b0_s, y_bo, y_bo1, y_bo0, y_i0, y_i1, Classical.not_not, nI_clamp, y_ix, y_lt, y_le, y_eq, y_nP, y_nPs, y_ltP, y_ltQ, y_ltPP, y_eqP, y_eqQ, y_eqPP, if_pos, if_neg, ite_true, ite_false, not_true_eq_false, not_false_eq_true, and_true, true_and, and_false, false_and, or_true, true_or, or_false, false_or, yc_holes hN, yc_isShut hN hW]
      by_cases c : y_sh b i = 1
      · have e : y_ok b l one two i = 0 := if_pos c
        rw [e]; simp (disch := omega) only [y_lit, y_n1, nI_add, pk_mul, j_lt, j_b1_s, j_b2_s, j_b3_s, j_b0_s, y_bo, y_bo1, y_bo0, y_i0, y_i1, Classical.not_not, nI_clamp, y_ix, y_lt, y_le, y_eq, y_nP, y_nPs, y_ltP, y_ltQ, y_ltPP, y_eqP, y_eqQ, y_eqPP, if_pos, if_neg, ite_true, ite_false, not_true_eq_false, not_false_eq_true, and_true, true_and, and_false, false_and, or_true, true_or, or_false, false_or]
        exact ih (i + 1) n _ (by omega) (by omega)
      · have e : y_ok b l one two i = y_lz b l i one two := if_neg c
        rw [e]; simp (disch := omega) only [y_lit, y_n1, nI_add, pk_mul, j_lt, j_b1_s, j_b2_s, j_b3_s, j_b0_s, y_bo, y_bo1, y_bo0, y_i0, y_i1, Classical.not_not, nI_clamp, y_ix, y_lt, y_le, y_eq, y_nP, y_nPs, y_ltP, y_ltQ, y_ltPP, y_eqP, y_eqQ, y_eqPP, if_pos, if_neg, ite_true, ite_false, not_true_eq_false, not_false_eq_true, and_true, true_and, and_false, false_and, or_true, true_or, or_false, false_or, cl]
        by_cases d : y_lz b l i one two = 0
        · rw [d]; simp (disch := omega) only [y_lit, y_n1, nI_add, pk_mul, j_lt, j_b1_s, j_b2_s, j_b3_s, j_b0_s, y_bo, y_bo1, y_bo0, y_i0, y_i1, Classical.not_not, nI_clamp, y_ix, y_lt, y_le, y_eq, y_nP, y_nPs, y_ltP, y_ltQ, y_ltPP, y_eqP, y_eqQ, y_eqPP, if_pos, if_neg, ite_true, ite_false, not_true_eq_false, not_false_eq_true, and_true, true_and, and_false, false_and, or_true, true_or, or_false, false_or]
          exact ih (i + 1) n _ (by omega) (by omega)
        · have d1 : y_lz b l i one two = 1 := by omega
          rw [d1]; simp (disch := omega) only [y_lit, y_n1, nI_add, pk_mul, j_lt, j_b1_s, j_b2_s, j_b3_s, j_b0_s, y_bo, y_bo1, y_bo0, y_i0, y_i1, Classical.not_not, nI_clamp, y_ix, y_lt, y_le, y_eq, y_nP, y_nPs, y_ltP, y_ltQ, y_ltPP, y_eqP, y_eqQ, y_eqPP, if_pos, if_neg, ite_true, ite_false, not_true_eq_false, not_false_eq_true, and_true, true_and, and_false, false_and, or_true, true_or, or_false, false_or]
          exact ih (i + 1) n _ (by omega) (by omega)
  exact key (y_ho b) 0 j_F 0 (by omega) (y_F (by omega))
theorem yc_nth (hN : y_N σ b) (hW : y_W b) (h9 : 0 < b 9) (hl : l < 4) (h1 : one ≤ 12) (h2 : two ≤ 12) (hz : one = 0 → two = 0) (eB : B = nP two) (eL : L = nP one) {z : Nat} (hzz : z < 100) : f_X4_nthLet (nI l) B L (nI z) σ = some (nP (y_nt b l one two (y_ho b) 0 z)) := by
  have h4 := hW.ho
  have key : ∀ m i n v, i + m = y_ho b → m < n → v ≤ z → p_X4_nthLet_6 (nI l) B L (nI z) σ n (nI v) (nI i) = some (nP (y_nt b l one two m i (z - v))) := by
    intro m
    induction m with
    | zero =>
      intro i n v h hn hv
      obtain ⟨n, rfl⟩ := y_pos hn
      unfold p_X4_nthLet_6 y_nt; simp (disch := omega) only [y_lit, y_n1, nI_add, pk_mul, j_lt, j_b1_s, j_b2_s, j_b3_s, j_b0_s, y_bo, y_bo1, y_bo0, y_i0, y_i1, Classical.not_not, nI_clamp, y_ix, y_lt, y_le, y_eq, y_nP, y_nPs, y_ltP, y_ltQ, y_ltPP, y_eqP, y_eqQ, y_eqPP, if_pos, if_neg, ite_true, ite_false, not_true_eq_false, not_false_eq_true, and_true, true_and, and_false, false_and, or_true, true_or, or_false, false_or, yc_holes hN]
    | succ m ih =>
      intro i n v h hn hv
      obtain ⟨n, rfl⟩ := y_pos hn
      have sl := y_sh_le b i
      have ll := y_lz_le b l i one two
      have cl := yc_lets hN hW h9 (l := l) (h := i) hl (by omega) h1 h2 hz eB eL
      unfold p_X4_nthLet_6 y_nt; simp (disch := omega) only [y_lit, y_n1, nI_add, pk_mul, j_lt, j_b1_s, j_b2_s, j_b3_s, j_b0_s, y_bo, y_bo1, y_bo0, y_i0, y_i1, Classical.not_not, nI_clamp, y_ix, y_lt, y_le, y_eq, y_nP, y_nPs, y_ltP, y_ltQ, y_ltPP, y_eqP, y_eqQ, y_eqPP, if_pos, if_neg, ite_true, ite_false, not_true_eq_false, not_false_eq_true, and_true, true_and, and_false, false_and, or_true, true_or, or_false, false_or, yc_holes hN, yc_isShut hN hW]
      by_cases c : y_sh b i = 1
      · have e : y_ok b l one two i = 0 := if_pos c
        rw [e]; simp (disch := omega) only [y_lit, y_n1, nI_add, pk_mul, j_lt, j_b1_s, j_b2_s, j_b3_s, j_b0_s, y_bo, y_bo1, y_bo0, y_i0, y_i1, Classical.not_not, nI_clamp, y_ix, y_lt, y_le, y_eq, y_nP, y_nPs, y_ltP, y_ltQ, y_ltPP, y_eqP, y_eqQ, y_eqPP, if_pos, if_neg, ite_true, ite_false, not_true_eq_false, not_false_eq_true, and_true, true_and, and_false, false_and, or_true, true_or, or_false, false_or]
        exact ih (i + 1) n _ (by omega) (by omega) hv
      · have e : y_ok b l one two i = y_lz b l i one two := if_neg c
        rw [e]; simp (disch := omega) only [y_lit, y_n1, nI_add, pk_mul, j_lt, j_b1_s, j_b2_s, j_b3_s, j_b0_s, y_bo, y_bo1, y_bo0, y_i0, y_i1, Classical.not_not, nI_clamp, y_ix, y_lt, y_le, y_eq, y_nP, y_nPs, y_ltP, y_ltQ, y_ltPP, y_eqP, y_eqQ, y_eqPP, if_pos, if_neg, ite_true, ite_false, not_true_eq_false, not_false_eq_true, and_true, true_and, and_false, false_and, or_true, true_or, or_false, false_or, cl]
        by_cases d : y_lz b l i one two = 0
        · simp (disch := omega) only [y_lit, y_n1, nI_add, pk_mul, j_lt, j_b1_s, j_b2_s, j_b3_s, j_b0_s, y_bo, y_bo1, y_bo0, y_i0, y_i1, Classical.not_not, nI_clamp, y_ix, y_lt, y_le, y_eq, y_nP, y_nPs, y_ltP, y_ltQ, y_ltPP, y_eqP, y_eqQ, y_eqPP, if_pos, if_neg, ite_true, ite_false, not_true_eq_false, not_false_eq_true, and_true, true_and, and_false, false_and, or_true, true_or, or_false, false_or]
          exact ih (i + 1) n _ (by omega) (by omega) hv
        · simp (disch := omega) only [y_lit, y_n1, nI_add, pk_mul, j_lt, j_b1_s, j_b2_s, j_b3_s, j_b0_s, y_bo, y_bo1, y_bo0, y_i0, y_i1, Classical.not_not, nI_clamp, y_ix, y_lt, y_le, y_eq, y_nP, y_nPs, y_ltP, y_ltQ, y_ltPP, y_eqP, y_eqQ, y_eqPP, if_pos, if_neg, ite_true, ite_false, not_true_eq_false, not_false_eq_true, and_true, true_and, and_false, false_and, or_true, true_or, or_false, false_or]
          by_cases q : v = z
          · simp (disch := omega) only [y_lit, y_n1, nI_add, pk_mul, j_lt, j_b1_s, j_b2_s, j_b3_s, j_b0_s, y_bo, y_bo1, y_bo0, y_i0, y_i1, Classical.not_not, nI_clamp, y_ix, y_lt, y_le, y_eq, y_nP, y_nPs, y_ltP, y_ltQ, y_ltPP, y_eqP, y_eqQ, y_eqPP, if_pos, if_neg, ite_true, ite_false, not_true_eq_false, not_false_eq_true, and_true, true_and, and_false, false_and, or_true, true_or, or_false, false_or]
          · simp (disch := omega) only [y_lit, y_n1, nI_add, pk_mul, j_lt, j_b1_s, j_b2_s, j_b3_s, j_b0_s, y_bo, y_bo1, y_bo0, y_i0, y_i1, Classical.not_not, nI_clamp, y_ix, y_lt, y_le, y_eq, y_nP, y_nPs, y_ltP, y_ltQ, y_ltPP, y_eqP, y_eqQ, y_eqPP, if_pos, if_neg, ite_true, ite_false, not_true_eq_false, not_false_eq_true, and_true, true_and, and_false, false_and, or_true, true_or, or_false, false_or]
            rw [ih (i + 1) n _ (by omega) (by omega) (by omega), show z - (v + 1) = z - v - 1 from by omega]
  have k := key (y_ho b) 0 j_F 0 (by omega) (y_F (by omega)) (Nat.zero_le _)
  unfold f_X4_nthLet
  rw [y_lit, k]
  rfl
theorem ym_count (hM : y_M τ b) (hW : y_W b) (h9 : 0 < b 9) (hl : l < 4) (h1 : one ≤ 12) (h2 : two ≤ 12) (eB : B = nP two) (eL : L = nP one) : p_X12_holeByLot_54 (nI l) L B τ j_F (nI 0) (nI 0) = some (nI (y_cn b l one two)) := by
  have h4 := hW.ho
  have key : ∀ m i n v, i + m = y_ho b → m < n → p_X12_holeByLot_54 (nI l) L B τ n (nI v) (nI i) = some (nI (y_su (y_ok b l one two) m i v)) := by
    intro m
    induction m with
    | zero =>
      intro i n v h hn
      obtain ⟨n, rfl⟩ := y_pos hn
      unfold p_X12_holeByLot_54 y_su; simp (disch := omega) only [y_lit, y_n1, nI_add, pk_mul, j_lt, j_b1_s, j_b2_s, j_b3_s, j_b0_s, y_bo, y_bo1, y_bo0, y_i0, y_i1, Classical.not_not, nI_clamp, y_ix, y_lt, y_le, y_eq, y_nP, y_nPs, y_ltP, y_ltQ, y_ltPP, y_eqP, y_eqQ, y_eqPP, if_pos, if_neg, ite_true, ite_false, not_true_eq_false, not_false_eq_true, and_true, true_and, and_false, false_and, or_true, true_or, or_false, false_or, ym_holes hM]
    | succ m ih =>
      intro i n v h hn
      obtain ⟨n, rfl⟩ := y_pos hn
      have ll := y_ok_le b l one two i
      have cl : f_X12_lets (nI l) (nI i) L B τ = some (nI (y_ok b l one two i)) := ym_lets hM hW h9 (l := l) (h := i) hl (by omega) h1 h2 eB eL
      unfold p_X12_holeByLot_54 y_su; simp (disch := omega) only [y_lit, y_n1, nI_add, pk_mul, j_lt, j_b1_s, j_b2_s, j_b3_s, j_b0_s, y_bo, y_bo1, y_bo0, y_i0, y_i1, Classical.not_not, nI_clamp, y_ix, y_lt, y_le, y_eq, y_nP, y_nPs, y_ltP, y_ltQ, y_ltPP, y_eqP, y_eqQ, y_eqPP, if_pos, if_neg, ite_true, ite_false, not_true_eq_false, not_false_eq_true, and_true, true_and, and_false, false_and, or_true, true_or, or_false, false_or, ym_holes hM, cl]
      by_cases d : y_ok b l one two i = 0
      · rw [d]; simp (disch := omega) only [y_lit, y_n1, nI_add, pk_mul, j_lt, j_b1_s, j_b2_s, j_b3_s, j_b0_s, y_bo, y_bo1, y_bo0, y_i0, y_i1, Classical.not_not, nI_clamp, y_ix, y_lt, y_le, y_eq, y_nP, y_nPs, y_ltP, y_ltQ, y_ltPP, y_eqP, y_eqQ, y_eqPP, if_pos, if_neg, ite_true, ite_false, not_true_eq_false, not_false_eq_true, and_true, true_and, and_false, false_and, or_true, true_or, or_false, false_or]
        exact ih (i + 1) n _ (by omega) (by omega)
      · have d1 : y_ok b l one two i = 1 := by omega
        rw [d1]; simp (disch := omega) only [y_lit, y_n1, nI_add, pk_mul, j_lt, j_b1_s, j_b2_s, j_b3_s, j_b0_s, y_bo, y_bo1, y_bo0, y_i0, y_i1, Classical.not_not, nI_clamp, y_ix, y_lt, y_le, y_eq, y_nP, y_nPs, y_ltP, y_ltQ, y_ltPP, y_eqP, y_eqQ, y_eqPP, if_pos, if_neg, ite_true, ite_false, not_true_eq_false, not_false_eq_true, and_true, true_and, and_false, false_and, or_true, true_or, or_false, false_or]
        exact ih (i + 1) n _ (by omega) (by omega)
  exact key (y_ho b) 0 j_F 0 (by omega) (y_F (by omega))
theorem ym_nth (hM : y_M τ b) (hW : y_W b) (h9 : 0 < b 9) (hl : l < 4) (h1 : one ≤ 12) (h2 : two ≤ 12) (eB : B = nP two) (eL : L = nP one) {z : Nat} (hzz : z < 100) : p_X12_holeByLot_109 (nI l) L B τ j_F (nI z) (nI 0) = some (nP (y_nt b l one two (y_ho b) 0 z), τ) := by
  have h4 := hW.ho
  have key : ∀ m i n v, i + m = y_ho b → m < n → v < 100 → p_X12_holeByLot_109 (nI l) L B τ n (nI v) (nI i) = some (nP (y_nt b l one two m i v), τ) := by
    intro m
    induction m with
    | zero =>
      intro i n v h hn hv
      obtain ⟨n, rfl⟩ := y_pos hn
      unfold p_X12_holeByLot_109 y_nt; simp (disch := omega) only [y_lit, y_n1, nI_add, pk_mul, j_lt, j_b1_s, j_b2_s, j_b3_s, j_b0_s, y_bo, y_bo1, y_bo0, y_i0, y_i1, Classical.not_not, nI_clamp, y_ix, y_lt, y_le, y_eq, y_nP, y_nPs, y_ltP, y_ltQ, y_ltPP, y_eqP, y_eqQ, y_eqPP, if_pos, if_neg, ite_true, ite_false, not_true_eq_false, not_false_eq_true, and_true, true_and, and_false, false_and, or_true, true_or, or_false, false_or, ym_holes hM]
    | succ m ih =>
      intro i n v h hn hv
      obtain ⟨n, rfl⟩ := y_pos hn
      have ll := y_ok_le b l one two i
      have cl : f_X12_lets (nI l) (nI i) L B τ = some (nI (y_ok b l one two i)) := ym_lets hM hW h9 (l := l) (h := i) hl (by omega) h1 h2 eB eL
      have ep : ∀ v, 0 < v → nI v + nP 0 = nI (v - 1) := by
        intro v hv
        obtain ⟨w, rfl⟩ : ∃ w, v = w + 1 := ⟨v - 1, by omega⟩
        exact pk_m1 w
      unfold p_X12_holeByLot_109 y_nt; simp (disch := omega) only [y_lit, y_n1, nI_add, pk_mul, j_lt, j_b1_s, j_b2_s, j_b3_s, j_b0_s, y_bo, y_bo1, y_bo0, y_i0, y_i1, Classical.not_not, nI_clamp, y_ix, y_lt, y_le, y_eq, y_nP, y_nPs, y_ltP, y_ltQ, y_ltPP, y_eqP, y_eqQ, y_eqPP, if_pos, if_neg, ite_true, ite_false, not_true_eq_false, not_false_eq_true, and_true, true_and, and_false, false_and, or_true, true_or, or_false, false_or, ym_holes hM, cl]
      by_cases d : y_ok b l one two i = 0
      · simp (disch := omega) only [y_lit, y_n1, nI_add, pk_mul, j_lt, j_b1_s, j_b2_s, j_b3_s, j_b0_s, y_bo, y_bo1, y_bo0, y_i0, y_i1, Classical.not_not, nI_clamp, y_ix, y_lt, y_le, y_eq, y_nP, y_nPs, y_ltP, y_ltQ, y_ltPP, y_eqP, y_eqQ, y_eqPP, if_pos, if_neg, ite_true, ite_false, not_true_eq_false, not_false_eq_true, and_true, true_and, and_false, false_and, or_true, true_or, or_false, false_or]
        exact ih (i + 1) n _ (by omega) (by omega) hv
      · simp (disch := omega) only [y_lit, y_n1, nI_add, pk_mul, j_lt, j_b1_s, j_b2_s, j_b3_s, j_b0_s, y_bo, y_bo1, y_bo0, y_i0, y_i1, Classical.not_not, nI_clamp, y_ix, y_lt, y_le, y_eq, y_nP, y_nPs, y_ltP, y_ltQ, y_ltPP, y_eqP, y_eqQ, y_eqPP, if_pos, if_neg, ite_true, ite_false, not_true_eq_false, not_false_eq_true, and_true, true_and, and_false, false_and, or_true, true_or, or_false, false_or]
        by_cases q : v = 0
        · simp (disch := omega) only [y_lit, y_n1, nI_add, pk_mul, j_lt, j_b1_s, j_b2_s, j_b3_s, j_b0_s, y_bo, y_bo1, y_bo0, y_i0, y_i1, Classical.not_not, nI_clamp, y_ix, y_lt, y_le, y_eq, y_nP, y_nPs, y_ltP, y_ltQ, y_ltPP, y_eqP, y_eqQ, y_eqPP, if_pos, if_neg, ite_true, ite_false, not_true_eq_false, not_false_eq_true, and_true, true_and, and_false, false_and, or_true, true_or, or_false, false_or]
        · simp (disch := omega) only [y_lit, y_n1, nI_add, pk_mul, j_lt, j_b1_s, j_b2_s, j_b3_s, j_b0_s, y_bo, y_bo1, y_bo0, y_i0, y_i1, Classical.not_not, nI_clamp, y_ix, y_lt, y_le, y_eq, y_nP, y_nPs, y_ltP, y_ltQ, y_ltPP, y_eqP, y_eqQ, y_eqPP, if_pos, if_neg, ite_true, ite_false, not_true_eq_false, not_false_eq_true, and_true, true_and, and_false, false_and, or_true, true_or, or_false, false_or, ep]
          exact ih (i + 1) n _ (by omega) (by omega) (by omega)
  exact key (y_ho b) 0 j_F z (by omega) (y_F (by omega)) hzz
theorem y_rnd {x n : Nat} (hx : x < 2147483648) (h0 : 0 < n) (hn : n < 100) :
    (((((1103515245 : Int64) * lN x) + (12345 : Int64)) - (((1103515245 : Int64) * lN x) + (12345 : Int64)) / (2147483648 : Int64) * (2147483648 : Int64)) = lN (y_nx x)) ∧
    (((lN (y_nx x) / (65536 : Int64)) - (lN (y_nx x) / (65536 : Int64)) / (nI n).toInt64 * (nI n).toInt64)).toInt32 = nI (y_nx x / 65536 % n) := by
  have hy := y_nx_lt x
  constructor
  · simp only [y_litL, lN_mul, lN_add]
    rw [pk_lRem (by omega) (by omega) (by omega)]
    rfl
  · rw [nI_l (by omega)]
    simp only [y_litL]
    rw [pk_lDiv (by omega) (by omega) (by omega), pk_lRem (by omega) (by omega) (by omega), lN_i]
end C
