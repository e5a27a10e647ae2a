/-! ===== reach, post, often, balance ===== -/
def y_rcl (b q : Nat → Nat) (x : Nat) : Nat → Nat → Nat → Nat
  | 0, _, v => v
  | m + 1, h, v => y_rcl b q x m (h + 1) (if y_sh b h = 0 ∧ y_th b q x h (q 1) < y_stay b 0 then v ||| 2 ^ h else v)
def y_rch (b q : Nat → Nat) (x : Nat) : Nat := y_rcl b q x (y_ho b) 0 0
theorem y_rcl_lt {b q : Nat → Nat} {x : Nat} : ∀ m h v, h + m ≤ 12 → v < 4096 → y_rcl b q x m h v < 4096 := by
  intro m
  induction m with
  | zero => intro h v _ hv; exact hv
  | succ m ih =>
    intro h v hh hv
    unfold y_rcl
    refine ih (h + 1) _ (by omega) ?_
    split
    · exact Nat.or_lt_two_pow (n := 12) hv (Nat.pow_lt_pow_right (by omega) (by omega))
    · exact hv
theorem y_ap_comm {b : Nat → Nat} {a c : Nat} : y_ap b a c = y_ap b c a := by unfold y_ap y_df; omega
section C
variable {σ τ : j_G} {b q : Nat → Nat}
theorem y_rch_lt (hW : y_W b) {x : Nat} : y_rch b q x < 4096 := by
  have := hW.ho
  exact y_rcl_lt _ _ _ (by omega) (by omega)
theorem yc_reach (hN : y_N σ b) (hW : y_W b) (h9 : 0 < b 9) (hp : y_cp σ 28 q) (hq : y_vq b q) {x : Nat} (hx : x < y_ho b) : f_X6_reachFrom (nI x) σ = some (nI (y_rch b q x)) := by
  have h4 := hW.ho
  have e1 := hp 1 (by omega)
  have q1 := hq.2.1
  have st := y_stay_bd hW 0
  have key : ∀ m i n v, i + m = y_ho b → m < n → p_X6_reachFrom_5 (nI x) σ n (nI v) (nI i) = some (nI (y_rcl b q x m i v)) := by
    intro m
    induction m with
    | zero =>
      intro i n v h hn
      obtain ⟨n, rfl⟩ := y_pos hn
      unfold p_X6_reachFrom_5 y_rcl; simp (disch := omega) only [y_lit, y_n1, nI_add, pk_mul, j_lt, j_b1_s, j_b2_s, j_b3_s, j_b0_s, y_bo, y_bo1, y_bo0, y_i0, y_i1, Classical.not_not, nI_clamp, y_ix, y_lt, y_le, y_eq, y_nP, y_nPs, y_ltP, y_ltQ, y_ltPP, y_eqP, y_eqQ, y_eqPP, if_pos, if_neg, ite_true, ite_false, not_true_eq_false, not_false_eq_true, and_true, true_and, and_false, false_and, or_true, true_or, or_false, false_or, yc_holes hN]
    | succ m ih =>
      intro i n v h hn
      obtain ⟨n, rfl⟩ := y_pos hn
      have hs := y_sh_le b i
      have th := y_th_bd hq (a := x) (c := i) (t := q 1) (by omega) (by omega) (by omega)
      unfold p_X6_reachFrom_5 y_rcl; simp (disch := omega) only [y_lit, y_n1, nI_add, pk_mul, j_lt, j_b1_s, j_b2_s, j_b3_s, j_b0_s, y_bo, y_bo1, y_bo0, y_i0, y_i1, Classical.not_not, nI_clamp, y_ix, y_lt, y_le, y_eq, y_nP, y_nPs, y_ltP, y_ltQ, y_ltPP, y_eqP, y_eqQ, y_eqPP, if_pos, if_neg, ite_true, ite_false, not_true_eq_false, not_false_eq_true, and_true, true_and, and_false, false_and, or_true, true_or, or_false, false_or, yc_holes hN, yc_isShut hN hW, e1]
      by_cases c : y_sh b i = 0
      · have c1 : ¬ y_sh b i = 1 := by omega
        simp (disch := omega) only [y_lit, y_n1, nI_add, pk_mul, j_lt, j_b1_s, j_b2_s, j_b3_s, j_b0_s, y_bo, y_bo1, y_bo0, y_i0, y_i1, Classical.not_not, nI_clamp, y_ix, y_lt, y_le, y_eq, y_nP, y_nPs, y_ltP, y_ltQ, y_ltPP, y_eqP, y_eqQ, y_eqPP, if_pos, if_neg, ite_true, ite_false, not_true_eq_false, not_false_eq_true, and_true, true_and, and_false, false_and, or_true, true_or, or_false, false_or, yc_there hN hW h9 hp hq, yc_stay hN hW, y_shl, y_or]
        by_cases d : y_th b q x i (q 1) < y_stay b 0
        · rw [if_pos d, if_pos ⟨c, d⟩]
          exact ih (i + 1) n _ (by omega) (by omega)
        · rw [if_neg d, if_neg (fun z => d z.2)]
          exact ih (i + 1) n _ (by omega) (by omega)
      · have c1 : y_sh b i = 1 := by omega
        rw [if_neg (fun z : y_sh b i = 0 ∧ _ => c z.1)]
        simp (disch := omega) only [y_lit, y_n1, nI_add, pk_mul, j_lt, j_b1_s, j_b2_s, j_b3_s, j_b0_s, y_bo, y_bo1, y_bo0, y_i0, y_i1, Classical.not_not, nI_clamp, y_ix, y_lt, y_le, y_eq, y_nP, y_nPs, y_ltP, y_ltQ, y_ltPP, y_eqP, y_eqQ, y_eqPP, if_pos, if_neg, ite_true, ite_false, not_true_eq_false, not_false_eq_true, and_true, true_and, and_false, false_and, or_true, true_or, or_false, false_or]
        exact ih (i + 1) n _ (by omega) (by omega)
  unfold f_X6_reachFrom
  rw [y_lit, key (y_ho b) 0 j_F 0 (by omega) (y_F (by omega))]
  rfl
theorem ym_reach (hM : y_M τ b) (hW : y_W b) (h9 : 0 < b 9) {p x : Nat} (hp : p < b 6) (hx : x < y_ho b) : f_X12_reachOf (nI p) (nI x) τ = some (nI (y_rch b (y_pq b p) x)) := by
  have h4 := hW.ho
  have h6 := hW.b6
  have hq := y_pqv hW hp
  have q1 := hq.2.1
  have st := y_stay_bd hW 0
  have e1 : f_X12_of (nI p) (nI 1) τ = some (nI (y_pq b p 1)) := ym_of hM (by omega) (by omega)
  have key : ∀ m i n v, i + m = y_ho b → m < n → p_X12_reachOf_14 (nI p) (nI x) (nI (y_stay b 0 - 1)) τ n (nI v) (nI i) = some (nI (y_rcl b (y_pq b p) x m i v)) := by
    intro m
    induction m with
    | zero =>
      intro i n v h hn
      obtain ⟨n, rfl⟩ := y_pos hn
      unfold p_X12_reachOf_14 y_rcl; simp (disch := omega) only [y_lit, y_n1, nI_add, pk_mul, j_lt, j_b1_s, j_b2_s, j_b3_s, j_b0_s, y_bo, y_bo1, y_bo0, y_i0, y_i1, Classical.not_not, nI_clamp, y_ix, y_lt, y_le, y_eq, y_nP, y_nPs, y_ltP, y_ltQ, y_ltPP, y_eqP, y_eqQ, y_eqPP, if_pos, if_neg, ite_true, ite_false, not_true_eq_false, not_false_eq_true, and_true, true_and, and_false, false_and, or_true, true_or, or_false, false_or, ym_holes hM]
    | succ m ih =>
      intro i n v h hn
      obtain ⟨n, rfl⟩ := y_pos hn
      have hs := y_sh_le b i
      have th := y_th_bd hq (a := x) (c := i) (t := y_pq b p 1) (by omega) (by omega) (by omega)
      have ep := ym_pace (q := y_pq b p) hM hW hp rfl (by show b (98 + 5 * p) = b (96 + 5 * p + 2); congr 1; omega) hq (t := y_pq b p 1) (by omega)
      unfold p_X12_reachOf_14 y_rcl; simp (disch := omega) only [y_lit, y_n1, nI_add, pk_mul, j_lt, j_b1_s, j_b2_s, j_b3_s, j_b0_s, y_bo, y_bo1, y_bo0, y_i0, y_i1, Classical.not_not, nI_clamp, y_ix, y_lt, y_le, y_eq, y_nP, y_nPs, y_ltP, y_ltQ, y_ltPP, y_eqP, y_eqQ, y_eqPP, if_pos, if_neg, ite_true, ite_false, not_true_eq_false, not_false_eq_true, and_true, true_and, and_false, false_and, or_true, true_or, or_false, false_or, ym_holes hM, ym_isShut hM hW]
      by_cases c : y_sh b i = 0
      · have c1 : ¬ y_sh b i = 1 := by omega
        simp (disch := omega) only [y_lit, y_n1, nI_add, pk_mul, j_lt, j_b1_s, j_b2_s, j_b3_s, j_b0_s, y_bo, y_bo1, y_bo0, y_i0, y_i1, Classical.not_not, nI_clamp, y_ix, y_lt, y_le, y_eq, y_nP, y_nPs, y_ltP, y_ltQ, y_ltPP, y_eqP, y_eqQ, y_eqPP, if_pos, if_neg, ite_true, ite_false, not_true_eq_false, not_false_eq_true, and_true, true_and, and_false, false_and, or_true, true_or, or_false, false_or, e1, ym_stepsOf hM hW h9, ep, y_shl, y_or]
        rw [show y_pq b p 1 + y_ap b x i * y_pc (y_pq b p) (y_pq b p 1) = y_th b (y_pq b p) x i (y_pq b p 1) from rfl]
        by_cases d : y_th b (y_pq b p) x i (y_pq b p 1) < y_stay b 0
        · rw [if_pos (show y_sh b i = 0 ∧ y_th b (y_pq b p) x i (y_pq b p 1) < y_stay b 0 from ⟨c, d⟩)]
          simp (disch := omega) only [y_lit, y_n1, nI_add, pk_mul, j_lt, j_b1_s, j_b2_s, j_b3_s, j_b0_s, y_bo, y_bo1, y_bo0, y_i0, y_i1, Classical.not_not, nI_clamp, y_ix, y_lt, y_le, y_eq, y_nP, y_nPs, y_ltP, y_ltQ, y_ltPP, y_eqP, y_eqQ, y_eqPP, if_pos, if_neg, ite_true, ite_false, not_true_eq_false, not_false_eq_true, and_true, true_and, and_false, false_and, or_true, true_or, or_false, false_or]
          exact ih (i + 1) n _ (by omega) (by omega)
        · rw [if_neg (fun z : y_sh b i = 0 ∧ _ => d z.2)]
          simp (disch := omega) only [y_lit, y_n1, nI_add, pk_mul, j_lt, j_b1_s, j_b2_s, j_b3_s, j_b0_s, y_bo, y_bo1, y_bo0, y_i0, y_i1, Classical.not_not, nI_clamp, y_ix, y_lt, y_le, y_eq, y_nP, y_nPs, y_ltP, y_ltQ, y_ltPP, y_eqP, y_eqQ, y_eqPP, if_pos, if_neg, ite_true, ite_false, not_true_eq_false, not_false_eq_true, and_true, true_and, and_false, false_and, or_true, true_or, or_false, false_or]
          exact ih (i + 1) n _ (by omega) (by omega)
      · have c1 : y_sh b i = 1 := by omega
        rw [if_neg (fun z : y_sh b i = 0 ∧ _ => c z.1)]
        simp (disch := omega) only [y_lit, y_n1, nI_add, pk_mul, j_lt, j_b1_s, j_b2_s, j_b3_s, j_b0_s, y_bo, y_bo1, y_bo0, y_i0, y_i1, Classical.not_not, nI_clamp, y_ix, y_lt, y_le, y_eq, y_nP, y_nPs, y_ltP, y_ltQ, y_ltPP, y_eqP, y_eqQ, y_eqPP, if_pos, if_neg, ite_true, ite_false, not_true_eq_false, not_false_eq_true, and_true, true_and, and_false, false_and, or_true, true_or, or_false, false_or]
        exact ih (i + 1) n _ (by omega) (by omega)
  unfold f_X12_reachOf
  simp (disch := omega) only [y_lit, y_n1, nI_add, pk_mul, j_lt, j_b1_s, j_b2_s, j_b3_s, j_b0_s, y_bo, y_bo1, y_bo0, y_i0, y_i1, Classical.not_not, nI_clamp, y_ix, y_lt, y_le, y_eq, y_nP, y_nPs, y_ltP, y_ltQ, y_ltPP, y_eqP, y_eqQ, y_eqPP, if_pos, if_neg, ite_true, ite_false, not_true_eq_false, not_false_eq_true, and_true, true_and, and_false, false_and, or_true, true_or, or_false, false_or, ym_stay hM hW, pk_sub]
  rw [key (y_ho b) 0 j_F 0 (by omega) (y_F (by omega))]
  rfl
theorem ym_bits {x : Nat} (hx : x < 4096) : f_X12_bits (nI x) = some (nI (y_pop 12 x)) := by
  have key : ∀ m i n v, i + m = 12 → m < n → p_X12_bits_4 (nI x) n (nI v) (nI i) = some (nI (y_su (fun h => x / 2 ^ h % 2) m i v)) := by
    intro m
    induction m with
    | zero =>
      intro i n v h hn
      obtain ⟨n, rfl⟩ := y_pos hn
      unfold p_X12_bits_4 y_su; simp (disch := omega) only [y_lit, y_n1, nI_add, pk_mul, j_lt, j_b1_s, j_b2_s, j_b3_s, j_b0_s, y_bo, y_bo1, y_bo0, y_i0, y_i1, Classical.not_not, nI_clamp, y_ix, y_lt, y_le, y_eq, y_nP, y_nPs, y_ltP, y_ltQ, y_ltPP, y_eqP, y_eqQ, y_eqPP, if_pos, if_neg, ite_true, ite_false, not_true_eq_false, not_false_eq_true, and_true, true_and, and_false, false_and, or_true, true_or, or_false, false_or]
    | succ m ih =>
      intro i n v h hn
      obtain ⟨n, rfl⟩ := y_pos hn
      unfold p_X12_bits_4 y_su; simp (disch := omega) only [y_lit, y_n1, nI_add, pk_mul, j_lt, j_b1_s, j_b2_s, j_b3_s, j_b0_s, y_bo, y_bo1, y_bo0, y_i0, y_i1, Classical.not_not, nI_clamp, y_ix, y_lt, y_le, y_eq, y_nP, y_nPs, y_ltP, y_ltQ, y_ltPP, y_eqP, y_eqQ, y_eqPP, if_pos, if_neg, ite_true, ite_false, not_true_eq_false, not_false_eq_true, and_true, true_and, and_false, false_and, or_true, true_or, or_false, false_or, y_bit]
      exact ih (i + 1) n _ (by omega) (by omega)
  unfold f_X12_bits
  rw [y_lit, key 12 0 j_F 0 (by omega) (y_F (by omega)), y_su_pop, Nat.pow_zero, Nat.div_one]
  rfl
theorem y_pop_le : ∀ m n, y_pop m n ≤ m := by
  intro m
  induction m with
  | zero => intro n; exact Nat.le_refl _
  | succ m ih => intro n; have := ih (n / 2); show n % 2 + y_pop m (n / 2) ≤ m + 1; omega
/-- how often a hole comes -/
def y_of1 (b : Nat → Nat) (h : Nat) : Nat → Nat := fun k => if b (24 + 3 * k) = h ∨ b (25 + 3 * k) = h + 1 then 1 else 0
def y_oft (b : Nat → Nat) (h : Nat) : Nat := y_su (y_of1 b h) (b 5) 0 0
theorem y_oft_le (b : Nat → Nat) (h : Nat) : y_oft b h ≤ b 5 := by
  have := y_su_bd (f := y_of1 b h) (c := 1) (b 5) 0 (fun j _ _ => by unfold y_of1; split <;> omega)
  unfold y_oft; omega
theorem yc_oft (hN : y_N σ b) (hW : y_W b) {x : Nat} (hx : x < 100) : f_X3_oftenAt 5 6 7 (nI x) σ = some (nI (y_oft b x)) := by
  have h5 := hW.b5
  have h4 := hW.ho
  have key : ∀ m i n v, i + m = b 5 → m < n → p_X3_oftenAt_4 5 6 7 (nI x) σ n (nI v) (nI i) = some (nI (y_su (y_of1 b x) m i v)) := by
    intro m
    induction m with
    | zero =>
      intro i n v h hn
      obtain ⟨n, rfl⟩ := y_pos hn
      unfold p_X3_oftenAt_4 y_su; simp (disch := omega) only [y_lit, y_n1, nI_add, pk_mul, j_lt, j_b1_s, j_b2_s, j_b3_s, j_b0_s, y_bo, y_bo1, y_bo0, y_i0, y_i1, Classical.not_not, nI_clamp, y_ix, y_lt, y_le, y_eq, y_nP, y_nPs, y_ltP, y_ltQ, y_ltPP, y_eqP, y_eqQ, y_eqPP, if_pos, if_neg, ite_true, ite_false, not_true_eq_false, not_false_eq_true, and_true, true_and, and_false, false_and, or_true, true_or, or_false, false_or, hN.d0]
    | succ m ih =>
      intro i n v h hn
      obtain ⟨n, rfl⟩ := y_pos hn
      have q := hW.co (k := i) (by omega)
      unfold p_X3_oftenAt_4 y_su; simp (disch := omega) only [y_lit, y_n1, nI_add, pk_mul, j_lt, j_b1_s, j_b2_s, j_b3_s, j_b0_s, y_bo, y_bo1, y_bo0, y_i0, y_i1, Classical.not_not, nI_clamp, y_ix, y_lt, y_le, y_eq, y_nP, y_nPs, y_ltP, y_ltQ, y_ltPP, y_eqP, y_eqQ, y_eqPP, if_pos, if_neg, ite_true, ite_false, not_true_eq_false, not_false_eq_true, and_true, true_and, and_false, false_and, or_true, true_or, or_false, false_or, hN.d0, hN.k0 (show i < b 5 by omega), hN.k1 (show i < b 5 by omega)]
      by_cases c : b (24 + 3 * i) = x
      · have e : y_of1 b x i = 1 := if_pos (Or.inl c)
        rw [e]; simp (disch := omega) only [y_lit, y_n1, nI_add, pk_mul, j_lt, j_b1_s, j_b2_s, j_b3_s, j_b0_s, y_bo, y_bo1, y_bo0, y_i0, y_i1, Classical.not_not, nI_clamp, y_ix, y_lt, y_le, y_eq, y_nP, y_nPs, y_ltP, y_ltQ, y_ltPP, y_eqP, y_eqQ, y_eqPP, if_pos, if_neg, ite_true, ite_false, not_true_eq_false, not_false_eq_true, and_true, true_and, and_false, false_and, or_true, true_or, or_false, false_or]
        exact ih (i + 1) n _ (by omega) (by omega)
      · by_cases d : b (25 + 3 * i) = x + 1
        · have e : y_of1 b x i = 1 := if_pos (Or.inr d)
          rw [e]; simp (disch := omega) only [y_lit, y_n1, nI_add, pk_mul, j_lt, j_b1_s, j_b2_s, j_b3_s, j_b0_s, y_bo, y_bo1, y_bo0, y_i0, y_i1, Classical.not_not, nI_clamp, y_ix, y_lt, y_le, y_eq, y_nP, y_nPs, y_ltP, y_ltQ, y_ltPP, y_eqP, y_eqQ, y_eqPP, if_pos, if_neg, ite_true, ite_false, not_true_eq_false, not_false_eq_true, and_true, true_and, and_false, false_and, or_true, true_or, or_false, false_or]
          exact ih (i + 1) n _ (by omega) (by omega)
        · have e : y_of1 b x i = 0 := if_neg (fun z => z.elim c d)
          rw [e]; simp (disch := omega) only [y_lit, y_n1, nI_add, pk_mul, j_lt, j_b1_s, j_b2_s, j_b3_s, j_b0_s, y_bo, y_bo1, y_bo0, y_i0, y_i1, Classical.not_not, nI_clamp, y_ix, y_lt, y_le, y_eq, y_nP, y_nPs, y_ltP, y_ltQ, y_ltPP, y_eqP, y_eqQ, y_eqPP, if_pos, if_neg, ite_true, ite_false, not_true_eq_false, not_false_eq_true, and_true, true_and, and_false, false_and, or_true, true_or, or_false, false_or]
          exact ih (i + 1) n _ (by omega) (by omega)
  unfold f_X3_oftenAt
  rw [y_lit, key (b 5) 0 j_F 0 (by omega) (y_F (by omega))]
  rfl
theorem ym_oft (hM : y_M τ b) (hW : y_W b) {x : Nat} (hx : x < 100) : f_X12_oftenOf (nI x) τ = some (nI (y_oft b x)) := by
  have h5 := hW.b5
  have h4 := hW.ho
  have key : ∀ m i n v, i + m = b 5 → m < n → p_X12_oftenOf_4 (nI x) τ n (nI v) (nI i) = some (nI (y_su (y_of1 b x) m i v)) := by
    intro m
    induction m with
    | zero =>
      intro i n v h hn
      obtain ⟨n, rfl⟩ := y_pos hn
      unfold p_X12_oftenOf_4 y_su; simp (disch := omega) only [y_lit, y_n1, nI_add, pk_mul, j_lt, j_b1_s, j_b2_s, j_b3_s, j_b0_s, y_bo, y_bo1, y_bo0, y_i0, y_i1, Classical.not_not, nI_clamp, y_ix, y_lt, y_le, y_eq, y_nP, y_nPs, y_ltP, y_ltQ, y_ltPP, y_eqP, y_eqQ, y_eqPP, if_pos, if_neg, ite_true, ite_false, not_true_eq_false, not_false_eq_true, and_true, true_and, and_false, false_and, or_true, true_or, or_false, false_or, hM.f]
    | succ m ih =>
      intro i n v h hn
      obtain ⟨n, rfl⟩ := y_pos hn
      have q := hW.co (k := i) (by omega)
      unfold p_X12_oftenOf_4 y_su; simp (disch := omega) only [y_lit, y_n1, nI_add, pk_mul, j_lt, j_b1_s, j_b2_s, j_b3_s, j_b0_s, y_bo, y_bo1, y_bo0, y_i0, y_i1, Classical.not_not, nI_clamp, y_ix, y_lt, y_le, y_eq, y_nP, y_nPs, y_ltP, y_ltQ, y_ltPP, y_eqP, y_eqQ, y_eqPP, if_pos, if_neg, ite_true, ite_false, not_true_eq_false, not_false_eq_true, and_true, true_and, and_false, false_and, or_true, true_or, or_false, false_or, hM.f, ym_co0 hM, ym_co1 hM]
      by_cases c : b (24 + 3 * i) = x
      · have e : y_of1 b x i = 1 := if_pos (Or.inl c)
        rw [e]; simp (disch := omega) only [y_lit, y_n1, nI_add, pk_mul, j_lt, j_b1_s, j_b2_s, j_b3_s, j_b0_s, y_bo, y_bo1, y_bo0, y_i0, y_i1, Classical.not_not, nI_clamp, y_ix, y_lt, y_le, y_eq, y_nP, y_nPs, y_ltP, y_ltQ, y_ltPP, y_eqP, y_eqQ, y_eqPP, if_pos, if_neg, ite_true, ite_false, not_true_eq_false, not_false_eq_true, and_true, true_and, and_false, false_and, or_true, true_or, or_false, false_or]
        exact ih (i + 1) n _ (by omega) (by omega)
      · by_cases d : b (25 + 3 * i) = x + 1
        · have e : y_of1 b x i = 1 := if_pos (Or.inr d)
          rw [e]; simp (disch := omega) only [y_lit, y_n1, nI_add, pk_mul, j_lt, j_b1_s, j_b2_s, j_b3_s, j_b0_s, y_bo, y_bo1, y_bo0, y_i0, y_i1, Classical.not_not, nI_clamp, y_ix, y_lt, y_le, y_eq, y_nP, y_nPs, y_ltP, y_ltQ, y_ltPP, y_eqP, y_eqQ, y_eqPP, if_pos, if_neg, ite_true, ite_false, not_true_eq_false, not_false_eq_true, and_true, true_and, and_false, false_and, or_true, true_or, or_false, false_or]
          exact ih (i + 1) n _ (by omega) (by omega)
        · have e : y_of1 b x i = 0 := if_neg (fun z => z.elim c d)
          rw [e]; simp (disch := omega) only [y_lit, y_n1, nI_add, pk_mul, j_lt, j_b1_s, j_b2_s, j_b3_s, j_b0_s, y_bo, y_bo1, y_bo0, y_i0, y_i1, Classical.not_not, nI_clamp, y_ix, y_lt, y_le, y_eq, y_nP, y_nPs, y_ltP, y_ltQ, y_ltPP, y_eqP, y_eqQ, y_eqPP, if_pos, if_neg, ite_true, ite_false, not_true_eq_false, not_false_eq_true, and_true, true_and, and_false, false_and, or_true, true_or, or_false, false_or]
          exact ih (i + 1) n _ (by omega) (by omega)
  unfold f_X12_oftenOf
  rw [y_lit, key (b 5) 0 j_F 0 (by omega) (y_F (by omega))]
  rfl
end C
section Z
variable {σ τ : j_G}
theorem z_reach (hR : j_Rel σ τ) (a1 a2 : Int32) : ∃ v σ1, f_X11_reach a1 a2 σ = some (v, σ1) ∧ f_X12_reach a1 a2 τ = some v ∧ j_Rel σ1 τ := by
  obtain ⟨b, hW, hN, hM, hK⟩ := id hR
  by_cases h : y_rg a1 (b 6)
  · by_cases h3 : y_rg a2 (y_ho b)
    · obtain ⟨p, hp, rfl⟩ := y_of _ _ h.1 h.2
      obtain ⟨x, hx, rfl⟩ := y_of _ _ h3.1 h3.2
      have h9 := hW.on0 (Or.inr (Or.inr (Or.inr (Or.inl (by omega : 0 < b 6)))))
      obtain ⟨σ1, e1, e2, e3⟩ := yc_take (a := 28) hN hW hp (by omega)
      have hN1 := hN.fr e3 (by omega)
      refine ⟨nI (y_rch b (y_pq b p) x), σ1, ?_, ?_, y_done hR (e3.wide (by omega) (by omega)) y_fm.refl⟩
      · unfold f_X11_reach; rw [yc_isHole hN hW, yc_isPlayer hN hW, if_pos h, if_pos h3]; simp (disch := omega) only [y_lit, y_n1, nI_add, pk_mul, j_lt, j_b1_s, j_b2_s, j_b3_s, j_b0_s, y_bo, y_bo1, y_bo0, y_i0, y_i1, Classical.not_not, nI_clamp, y_ix, y_lt, y_le, y_eq, y_nP, y_nPs, y_ltP, y_ltQ, y_ltPP, y_eqP, y_eqQ, y_eqPP, if_pos, if_neg, ite_true, ite_false, not_true_eq_false, not_false_eq_true, and_true, true_and, and_false, false_and, or_true, true_or, or_false, false_or, e1, yc_reach hN1 hW h9 e2 (y_pqv hW hp) hx]
      · unfold f_X12_reach; rw [ym_isPlayer hM hW, if_pos h, j_b1_s, ym_isHole hM hW, if_pos h3]; simp (disch := omega) only [y_lit, y_n1, nI_add, pk_mul, j_lt, j_b1_s, j_b2_s, j_b3_s, j_b0_s, y_bo, y_bo1, y_bo0, y_i0, y_i1, Classical.not_not, nI_clamp, y_ix, y_lt, y_le, y_eq, y_nP, y_nPs, y_ltP, y_ltQ, y_ltPP, y_eqP, y_eqQ, y_eqPP, if_pos, if_neg, ite_true, ite_false, not_true_eq_false, not_false_eq_true, and_true, true_and, and_false, false_and, or_true, true_or, or_false, false_or, ym_reach hM hW h9 hp hx]
    · refine ⟨-2, σ, ?_, ?_, hR⟩
      · unfold f_X11_reach; simp (disch := omega) only [y_lit, y_n1, nI_add, pk_mul, j_lt, j_b1_s, j_b2_s, j_b3_s, j_b0_s, y_bo, y_bo1, y_bo0, y_i0, y_i1, Classical.not_not, nI_clamp, y_ix, y_lt, y_le, y_eq, y_nP, y_nPs, y_ltP, y_ltQ, y_ltPP, y_eqP, y_eqQ, y_eqPP, if_pos, if_neg, ite_true, ite_false, not_true_eq_false, not_false_eq_true, and_true, true_and, and_false, false_and, or_true, true_or, or_false, false_or, yc_isHole hN hW, yc_isPlayer hN hW, h, h3]
      · unfold f_X12_reach; simp (disch := omega) only [y_lit, y_n1, nI_add, pk_mul, j_lt, j_b1_s, j_b2_s, j_b3_s, j_b0_s, y_bo, y_bo1, y_bo0, y_i0, y_i1, Classical.not_not, nI_clamp, y_ix, y_lt, y_le, y_eq, y_nP, y_nPs, y_ltP, y_ltQ, y_ltPP, y_eqP, y_eqQ, y_eqPP, if_pos, if_neg, ite_true, ite_false, not_true_eq_false, not_false_eq_true, and_true, true_and, and_false, false_and, or_true, true_or, or_false, false_or, ym_isHole hM hW, ym_isPlayer hM hW, h, h3]
  · refine ⟨-2, σ, ?_, ?_, hR⟩
    · unfold f_X11_reach; simp (disch := omega) only [y_lit, y_n1, nI_add, pk_mul, j_lt, j_b1_s, j_b2_s, j_b3_s, j_b0_s, y_bo, y_bo1, y_bo0, y_i0, y_i1, Classical.not_not, nI_clamp, y_ix, y_lt, y_le, y_eq, y_nP, y_nPs, y_ltP, y_ltQ, y_ltPP, y_eqP, y_eqQ, y_eqPP, if_pos, if_neg, ite_true, ite_false, not_true_eq_false, not_false_eq_true, and_true, true_and, and_false, false_and, or_true, true_or, or_false, false_or, yc_isPlayer hN hW, h]
    · unfold f_X12_reach; simp (disch := omega) only [y_lit, y_n1, nI_add, pk_mul, j_lt, j_b1_s, j_b2_s, j_b3_s, j_b0_s, y_bo, y_bo1, y_bo0, y_i0, y_i1, Classical.not_not, nI_clamp, y_ix, y_lt, y_le, y_eq, y_nP, y_nPs, y_ltP, y_ltQ, y_ltPP, y_eqP, y_eqQ, y_eqPP, if_pos, if_neg, ite_true, ite_false, not_true_eq_false, not_false_eq_true, and_true, true_and, and_false, false_and, or_true, true_or, or_false, false_or, ym_isPlayer hM hW, h]
theorem z_post (hR : j_Rel σ τ) (a1 : Int32) : ∃ v σ1, f_X11_post a1 σ = some (v, σ1) ∧ f_X12_post a1 τ = some v ∧ j_Rel σ1 τ := by
  obtain ⟨b, hW, hN, hM, hK⟩ := id hR
  have h4 := hW.ho
  by_cases h : y_rg a1 (b 6)
  · obtain ⟨p, hp, rfl⟩ := y_of _ _ h.1 h.2
    have h9 := hW.on0 (Or.inr (Or.inr (Or.inr (Or.inl (by omega : 0 < b 6)))))
    have ho := hW.on1 h9
    obtain ⟨σ1, e1, e2, e3⟩ := yc_take (a := 28) hN hW hp (by omega)
    have hN1 := hN.fr e3 (by omega)
    have hq := y_pqv hW hp
    have pl := fun x => y_pop_le 12 (y_rch b (y_pq b p) x)
    have rl := fun x => y_rch_lt (q := y_pq b p) hW (x := x)
    have both : ∀ m i n n' x, i + m = y_ho b → m < n → m < n' → x < y_ho b → ∃ v, p_X11_post_33 σ1 n (nI x) (nI (y_pop 12 (y_rch b (y_pq b p) x))) (nI i) = some v ∧ p_X12_post_15 (nI p) τ n' (nI x) (nI i) = some v := by
      intro m
      induction m with
      | zero =>
        intro i n n' x h hn hn' hx
        obtain ⟨n, rfl⟩ := y_pos hn; obtain ⟨n', rfl⟩ := y_pos hn'
        refine ⟨nI x, ?_, ?_⟩
        · unfold p_X11_post_33; simp (disch := omega) only [y_lit, y_n1, nI_add, pk_mul, j_lt, j_b1_s, j_b2_s, j_b3_s, j_b0_s, y_bo, y_bo1, y_bo0, y_i0, y_i1, Classical.not_not, nI_clamp, y_ix, y_lt, y_le, y_eq, y_nP, y_nPs, y_ltP, y_ltQ, y_ltPP, y_eqP, y_eqQ, y_eqPP, if_pos, if_neg, ite_true, ite_false, not_true_eq_false, not_false_eq_true, and_true, true_and, and_false, false_and, or_true, true_or, or_false, false_or, yc_holes hN1]
        · unfold p_X12_post_15; simp (disch := omega) only [y_lit, y_n1, nI_add, pk_mul, j_lt, j_b1_s, j_b2_s, j_b3_s, j_b0_s, y_bo, y_bo1, y_bo0, y_i0, y_i1, Classical.not_not, nI_clamp, y_ix, y_lt, y_le, y_eq, y_nP, y_nPs, y_ltP, y_ltQ, y_ltPP, y_eqP, y_eqQ, y_eqPP, if_pos, if_neg, ite_true, ite_false, not_true_eq_false, not_false_eq_true, and_true, true_and, and_false, false_and, or_true, true_or, or_false, false_or, ym_holes hM]
      | succ m ih =>
        intro i n n' x h hn hn' hx
        obtain ⟨n, rfl⟩ := y_pos hn; obtain ⟨n', rfl⟩ := y_pos hn'
        have p1 := pl i; have p2 := pl x
        obtain ⟨v, v1, v2⟩ := ih (i + 1) n n' x (by omega) (by omega) (by omega) hx
        obtain ⟨w, w1, w2⟩ := ih (i + 1) n n' i (by omega) (by omega) (by omega) (by omega)
        have km : p_X12_post_15 (nI p) τ (n' + 1) (nI x) (nI i) = p_X12_post_15 (nI p) τ n' (if nI (y_pop 12 (y_rch b (y_pq b p) x)) < nI (y_pop 12 (y_rch b (y_pq b p) i)) then nI i else nI x) (nI (i + 1)) := by
          have hlt : nI i < nI (y_ho b) := (y_lt (by omega) (by omega)).mpr (by omega)
          rw [p_X12_post_15, ym_holes hM, j_b1_s, if_pos hlt, ym_reach hM hW h9 hp (show i < y_ho b by omega), j_b1_s, ym_bits (rl i), j_b1_s, ym_reach hM hW h9 hp hx, j_b1_s, ym_bits (rl x), j_b1_s, j_lt, y_lit, nI_add]
        rw [km]
        unfold p_X11_post_33
        simp (disch := omega) only [y_lit, y_n1, nI_add, pk_mul, j_lt, j_b1_s, j_b2_s, j_b3_s, j_b0_s, y_bo, y_bo1, y_bo0, y_i0, y_i1, Classical.not_not, nI_clamp, y_ix, y_lt, y_le, y_eq, y_nP, y_nPs, y_ltP, y_ltQ, y_ltPP, y_eqP, y_eqQ, y_eqPP, if_pos, if_neg, ite_true, ite_false, not_true_eq_false, not_false_eq_true, and_true, true_and, and_false, false_and, or_true, true_or, or_false, false_or, yc_holes hN1, yc_reach hN1 hW h9 e2 hq, y_bcn _ (rl i)]
        generalize y_pop 12 (y_rch b (y_pq b p) x) = X at *
        generalize y_pop 12 (y_rch b (y_pq b p) i) = I at *
        by_cases q : X < I
        · simp (disch := omega) only [y_lit, y_n1, nI_add, pk_mul, j_lt, j_b1_s, j_b2_s, j_b3_s, j_b0_s, y_bo, y_bo1, y_bo0, y_i0, y_i1, Classical.not_not, nI_clamp, y_ix, y_lt, y_le, y_eq, y_nP, y_nPs, y_ltP, y_ltQ, y_ltPP, y_eqP, y_eqQ, y_eqPP, if_pos, if_neg, ite_true, ite_false, not_true_eq_false, not_false_eq_true, and_true, true_and, and_false, false_and, or_true, true_or, or_false, false_or]; exact ⟨w, w1, w2⟩
        · simp (disch := omega) only [y_lit, y_n1, nI_add, pk_mul, j_lt, j_b1_s, j_b2_s, j_b3_s, j_b0_s, y_bo, y_bo1, y_bo0, y_i0, y_i1, Classical.not_not, nI_clamp, y_ix, y_lt, y_le, y_eq, y_nP, y_nPs, y_ltP, y_ltQ, y_ltPP, y_eqP, y_eqQ, y_eqPP, if_pos, if_neg, ite_true, ite_false, not_true_eq_false, not_false_eq_true, and_true, true_and, and_false, false_and, or_true, true_or, or_false, false_or]; exact ⟨v, v1, v2⟩
    obtain ⟨v, v1, v2⟩ := both (y_ho b - 1) 1 4999 j_F 0 (by omega) (by omega) (y_F (by omega)) ho
    have p0 := pl 0
    have w0 : p_X11_post_33 σ1 j_F (nI 0) (nP 0) (nI 0) = some v := by
      rw [show j_F = 4999 + 1 from rfl]
      unfold p_X11_post_33; simp (disch := omega) only [y_lit, y_n1, nI_add, pk_mul, j_lt, j_b1_s, j_b2_s, j_b3_s, j_b0_s, y_bo, y_bo1, y_bo0, y_i0, y_i1, Classical.not_not, nI_clamp, y_ix, y_lt, y_le, y_eq, y_nP, y_nPs, y_ltP, y_ltQ, y_ltPP, y_eqP, y_eqQ, y_eqPP, if_pos, if_neg, ite_true, ite_false, not_true_eq_false, not_false_eq_true, and_true, true_and, and_false, false_and, or_true, true_or, or_false, false_or, yc_holes hN1, yc_reach hN1 hW h9 e2 hq, y_bcn _ (rl 0)]
      exact v1
    refine ⟨v, σ1, ?_, ?_, y_done hR (e3.wide (by omega) (by omega)) y_fm.refl⟩
    · unfold f_X11_post; simp (disch := omega) only [y_lit, y_n1, nI_add, pk_mul, j_lt, j_b1_s, j_b2_s, j_b3_s, j_b0_s, y_bo, y_bo1, y_bo0, y_i0, y_i1, Classical.not_not, nI_clamp, y_ix, y_lt, y_le, y_eq, y_nP, y_nPs, y_ltP, y_ltQ, y_ltPP, y_eqP, y_eqQ, y_eqPP, if_pos, if_neg, ite_true, ite_false, not_true_eq_false, not_false_eq_true, and_true, true_and, and_false, false_and, or_true, true_or, or_false, false_or, yc_isPlayer hN hW, y_rn, e1, w0]
    · unfold f_X12_post; simp (disch := omega) only [y_lit, y_n1, nI_add, pk_mul, j_lt, j_b1_s, j_b2_s, j_b3_s, j_b0_s, y_bo, y_bo1, y_bo0, y_i0, y_i1, Classical.not_not, nI_clamp, y_ix, y_lt, y_le, y_eq, y_nP, y_nPs, y_ltP, y_ltQ, y_ltPP, y_eqP, y_eqQ, y_eqPP, if_pos, if_neg, ite_true, ite_false, not_true_eq_false, not_false_eq_true, and_true, true_and, and_false, false_and, or_true, true_or, or_false, false_or, ym_isPlayer hM hW, y_rn, v2]
  · refine ⟨-2, σ, ?_, ?_, hR⟩
    · unfold f_X11_post; simp (disch := omega) only [y_lit, y_n1, nI_add, pk_mul, j_lt, j_b1_s, j_b2_s, j_b3_s, j_b0_s, y_bo, y_bo1, y_bo0, y_i0, y_i1, Classical.not_not, nI_clamp, y_ix, y_lt, y_le, y_eq, y_nP, y_nPs, y_ltP, y_ltQ, y_ltPP, y_eqP, y_eqQ, y_eqPP, if_pos, if_neg, ite_true, ite_false, not_true_eq_false, not_false_eq_true, and_true, true_and, and_false, false_and, or_true, true_or, or_false, false_or, yc_isPlayer hN hW, h]
    · unfold f_X12_post; simp (disch := omega) only [y_lit, y_n1, nI_add, pk_mul, j_lt, j_b1_s, j_b2_s, j_b3_s, j_b0_s, y_bo, y_bo1, y_bo0, y_i0, y_i1, Classical.not_not, nI_clamp, y_ix, y_lt, y_le, y_eq, y_nP, y_nPs, y_ltP, y_ltQ, y_ltPP, y_eqP, y_eqQ, y_eqPP, if_pos, if_neg, ite_true, ite_false, not_true_eq_false, not_false_eq_true, and_true, true_and, and_false, false_and, or_true, true_or, or_false, false_or, ym_isPlayer hM hW, h]
theorem z_often (hR : j_Rel σ τ) (a1 : Int32) : ∃ v, f_X11_often a1 σ = some v ∧ f_X12_often a1 τ = some v := by
  obtain ⟨b, hW, hN, hM, hK⟩ := id hR
  have h4 := hW.ho
  by_cases h : y_rg a1 (y_ho b)
  · obtain ⟨x, hx, rfl⟩ := y_of _ _ h.1 h.2
    refine ⟨nI (y_oft b x), ?_, ?_⟩
    · unfold f_X11_often; simp (disch := omega) only [y_lit, y_n1, nI_add, pk_mul, j_lt, j_b1_s, j_b2_s, j_b3_s, j_b0_s, y_bo, y_bo1, y_bo0, y_i0, y_i1, Classical.not_not, nI_clamp, y_ix, y_lt, y_le, y_eq, y_nP, y_nPs, y_ltP, y_ltQ, y_ltPP, y_eqP, y_eqQ, y_eqPP, if_pos, if_neg, ite_true, ite_false, not_true_eq_false, not_false_eq_true, and_true, true_and, and_false, false_and, or_true, true_or, or_false, false_or, yc_isHole hN hW, y_rn, yc_oft hN hW]
    · unfold f_X12_often; simp (disch := omega) only [y_lit, y_n1, nI_add, pk_mul, j_lt, j_b1_s, j_b2_s, j_b3_s, j_b0_s, y_bo, y_bo1, y_bo0, y_i0, y_i1, Classical.not_not, nI_clamp, y_ix, y_lt, y_le, y_eq, y_nP, y_nPs, y_ltP, y_ltQ, y_ltPP, y_eqP, y_eqQ, y_eqPP, if_pos, if_neg, ite_true, ite_false, not_true_eq_false, not_false_eq_true, and_true, true_and, and_false, false_and, or_true, true_or, or_false, false_or, ym_isHole hM hW, y_rn, ym_oft hM hW]
  · refine ⟨-2, ?_, ?_⟩
    · unfold f_X11_often; simp (disch := omega) only [y_lit, y_n1, nI_add, pk_mul, j_lt, j_b1_s, j_b2_s, j_b3_s, j_b0_s, y_bo, y_bo1, y_bo0, y_i0, y_i1, Classical.not_not, nI_clamp, y_ix, y_lt, y_le, y_eq, y_nP, y_nPs, y_ltP, y_ltQ, y_ltPP, y_eqP, y_eqQ, y_eqPP, if_pos, if_neg, ite_true, ite_false, not_true_eq_false, not_false_eq_true, and_true, true_and, and_false, false_and, or_true, true_or, or_false, false_or, yc_isHole hN hW, h]
    · unfold f_X12_often; simp (disch := omega) only [y_lit, y_n1, nI_add, pk_mul, j_lt, j_b1_s, j_b2_s, j_b3_s, j_b0_s, y_bo, y_bo1, y_bo0, y_i0, y_i1, Classical.not_not, nI_clamp, y_ix, y_lt, y_le, y_eq, y_nP, y_nPs, y_ltP, y_ltQ, y_ltPP, y_eqP, y_eqQ, y_eqPP, if_pos, if_neg, ite_true, ite_false, not_true_eq_false, not_false_eq_true, and_true, true_and, and_false, false_and, or_true, true_or, or_false, false_or, ym_isHole hM hW, h]
theorem z_balance (hR : j_Rel σ τ) : ∃ v, f_X11_balance σ = some v ∧ f_X12_balance τ = some v := by
  obtain ⟨b, hW, hN, hM, hK⟩ := id hR
  have h4 := hW.ho
  have h5 := hW.b5
  by_cases h9 : 0 < b 9
  · have both : ∀ m i n t lo, i + m = y_ho b → m < n → t < 100 → lo < 100 → ∃ t' lo', t' < 100 ∧ lo' < 100 ∧ p_X11_balance_19 σ n (nP t) (if t = 0 then nP 0 else nI lo) (nI i) = some (nP t', if t' = 0 then nP 0 else nI lo') ∧ p_X12_balance_18 τ n (if t = 0 then nI 1000000 else nI lo) (nP t) (nI i) = some (if t' = 0 then nI 1000000 else nI lo', nP t') := by
      intro m
      induction m with
      | zero =>
        intro i n t lo h hn ht hl
        obtain ⟨n, rfl⟩ := y_pos hn
        refine ⟨t, lo, ht, hl, ?_, ?_⟩
        · unfold p_X11_balance_19; simp (disch := omega) only [y_lit, y_n1, nI_add, pk_mul, j_lt, j_b1_s, j_b2_s, j_b3_s, j_b0_s, y_bo, y_bo1, y_bo0, y_i0, y_i1, Classical.not_not, nI_clamp, y_ix, y_lt, y_le, y_eq, y_nP, y_nPs, y_ltP, y_ltQ, y_ltPP, y_eqP, y_eqQ, y_eqPP, if_pos, if_neg, ite_true, ite_false, not_true_eq_false, not_false_eq_true, and_true, true_and, and_false, false_and, or_true, true_or, or_false, false_or, yc_holes hN]
        · unfold p_X12_balance_18; simp (disch := omega) only [y_lit, y_n1, nI_add, pk_mul, j_lt, j_b1_s, j_b2_s, j_b3_s, j_b0_s, y_bo, y_bo1, y_bo0, y_i0, y_i1, Classical.not_not, nI_clamp, y_ix, y_lt, y_le, y_eq, y_nP, y_nPs, y_ltP, y_ltQ, y_ltPP, y_eqP, y_eqQ, y_eqPP, if_pos, if_neg, ite_true, ite_false, not_true_eq_false, not_false_eq_true, and_true, true_and, and_false, false_and, or_true, true_or, or_false, false_or, ym_holes hM]
      | succ m ih =>
        intro i n t lo h hn ht hl
        obtain ⟨n, rfl⟩ := y_pos hn
        have hs := y_sh_le b i
        have hf := y_oft_le b i
        unfold p_X11_balance_19 p_X12_balance_18
        simp (disch := omega) only [y_lit, y_n1, nI_add, pk_mul, j_lt, j_b1_s, j_b2_s, j_b3_s, j_b0_s, y_bo, y_bo1, y_bo0, y_i0, y_i1, Classical.not_not, nI_clamp, y_ix, y_lt, y_le, y_eq, y_nP, y_nPs, y_ltP, y_ltQ, y_ltPP, y_eqP, y_eqQ, y_eqPP, if_pos, if_neg, ite_true, ite_false, not_true_eq_false, not_false_eq_true, and_true, true_and, and_false, false_and, or_true, true_or, or_false, false_or, yc_holes hN, ym_holes hM, yc_isShut hN hW, ym_isShut hM hW]
        by_cases c : y_sh b i = 1
        · simp (disch := omega) only [y_lit, y_n1, nI_add, pk_mul, j_lt, j_b1_s, j_b2_s, j_b3_s, j_b0_s, y_bo, y_bo1, y_bo0, y_i0, y_i1, Classical.not_not, nI_clamp, y_ix, y_lt, y_le, y_eq, y_nP, y_nPs, y_ltP, y_ltQ, y_ltPP, y_eqP, y_eqQ, y_eqPP, if_pos, if_neg, ite_true, ite_false, not_true_eq_false, not_false_eq_true, and_true, true_and, and_false, false_and, or_true, true_or, or_false, false_or]
          exact ih (i + 1) n t lo (by omega) (by omega) ht hl
        · simp (disch := omega) only [y_lit, y_n1, nI_add, pk_mul, j_lt, j_b1_s, j_b2_s, j_b3_s, j_b0_s, y_bo, y_bo1, y_bo0, y_i0, y_i1, Classical.not_not, nI_clamp, y_ix, y_lt, y_le, y_eq, y_nP, y_nPs, y_ltP, y_ltQ, y_ltPP, y_eqP, y_eqQ, y_eqPP, if_pos, if_neg, ite_true, ite_false, not_true_eq_false, not_false_eq_true, and_true, true_and, and_false, false_and, or_true, true_or, or_false, false_or, yc_oft hN hW, ym_oft hM hW]
          have key := ih (i + 1) n (if t < y_oft b i + 1 then y_oft b i + 1 else t) (if t = 0 then y_oft b i else if y_oft b i < lo then y_oft b i else lo) (by omega) (by omega) (by split <;> omega) (by split <;> (try split) <;> omega)
          obtain ⟨t', lo', k1, k2, k3, k4⟩ := key
          refine ⟨t', lo', k1, k2, ?_, ?_⟩
          · rw [← k3]
            by_cases z : t = 0
            · subst z; simp (disch := omega) only [y_lit, y_n1, nI_add, pk_mul, j_lt, j_b1_s, j_b2_s, j_b3_s, j_b0_s, y_bo, y_bo1, y_bo0, y_i0, y_i1, Classical.not_not, nI_clamp, y_ix, y_lt, y_le, y_eq, y_nP, y_nPs, y_ltP, y_ltQ, y_ltPP, y_eqP, y_eqQ, y_eqPP, if_pos, if_neg, ite_true, ite_false, not_true_eq_false, not_false_eq_true, and_true, true_and, and_false, false_and, or_true, true_or, or_false, false_or]
            · by_cases y : t < y_oft b i + 1
              · by_cases x : y_oft b i < lo
                · simp (disch := omega) only [y_lit, y_n1, nI_add, pk_mul, j_lt, j_b1_s, j_b2_s, j_b3_s, j_b0_s, y_bo, y_bo1, y_bo0, y_i0, y_i1, Classical.not_not, nI_clamp, y_ix, y_lt, y_le, y_eq, y_nP, y_nPs, y_ltP, y_ltQ, y_ltPP, y_eqP, y_eqQ, y_eqPP, if_pos, if_neg, ite_true, ite_false, not_true_eq_false, not_false_eq_true, and_true, true_and, and_false, false_and, or_true, true_or, or_false, false_or]
                · simp (disch := omega) only [y_lit, y_n1, nI_add, pk_mul, j_lt, j_b1_s, j_b2_s, j_b3_s, j_b0_s, y_bo, y_bo1, y_bo0, y_i0, y_i1, Classical.not_not, nI_clamp, y_ix, y_lt, y_le, y_eq, y_nP, y_nPs, y_ltP, y_ltQ, y_ltPP, y_eqP, y_eqQ, y_eqPP, if_pos, if_neg, ite_true, ite_false, not_true_eq_false, not_false_eq_true, and_true, true_and, and_false, false_and, or_true, true_or, or_false, false_or]
              · by_cases x : y_oft b i < lo
                · simp (disch := omega) only [y_lit, y_n1, nI_add, pk_mul, j_lt, j_b1_s, j_b2_s, j_b3_s, j_b0_s, y_bo, y_bo1, y_bo0, y_i0, y_i1, Classical.not_not, nI_clamp, y_ix, y_lt, y_le, y_eq, y_nP, y_nPs, y_ltP, y_ltQ, y_ltPP, y_eqP, y_eqQ, y_eqPP, if_pos, if_neg, ite_true, ite_false, not_true_eq_false, not_false_eq_true, and_true, true_and, and_false, false_and, or_true, true_or, or_false, false_or]
                · simp (disch := omega) only [y_lit, y_n1, nI_add, pk_mul, j_lt, j_b1_s, j_b2_s, j_b3_s, j_b0_s, y_bo, y_bo1, y_bo0, y_i0, y_i1, Classical.not_not, nI_clamp, y_ix, y_lt, y_le, y_eq, y_nP, y_nPs, y_ltP, y_ltQ, y_ltPP, y_eqP, y_eqQ, y_eqPP, if_pos, if_neg, ite_true, ite_false, not_true_eq_false, not_false_eq_true, and_true, true_and, and_false, false_and, or_true, true_or, or_false, false_or]
          · rw [← k4]
            by_cases z : t = 0
            · subst z; simp (disch := omega) only [y_lit, y_n1, nI_add, pk_mul, j_lt, j_b1_s, j_b2_s, j_b3_s, j_b0_s, y_bo, y_bo1, y_bo0, y_i0, y_i1, Classical.not_not, nI_clamp, y_ix, y_lt, y_le, y_eq, y_nP, y_nPs, y_ltP, y_ltQ, y_ltPP, y_eqP, y_eqQ, y_eqPP, if_pos, if_neg, ite_true, ite_false, not_true_eq_false, not_false_eq_true, and_true, true_and, and_false, false_and, or_true, true_or, or_false, false_or]
            · by_cases y : t < y_oft b i + 1
              · by_cases x : y_oft b i < lo
                · simp (disch := omega) only [y_lit, y_n1, nI_add, pk_mul, j_lt, j_b1_s, j_b2_s, j_b3_s, j_b0_s, y_bo, y_bo1, y_bo0, y_i0, y_i1, Classical.not_not, nI_clamp, y_ix, y_lt, y_le, y_eq, y_nP, y_nPs, y_ltP, y_ltQ, y_ltPP, y_eqP, y_eqQ, y_eqPP, if_pos, if_neg, ite_true, ite_false, not_true_eq_false, not_false_eq_true, and_true, true_and, and_false, false_and, or_true, true_or, or_false, false_or]
                · simp (disch := omega) only [y_lit, y_n1, nI_add, pk_mul, j_lt, j_b1_s, j_b2_s, j_b3_s, j_b0_s, y_bo, y_bo1, y_bo0, y_i0, y_i1, Classical.not_not, nI_clamp, y_ix, y_lt, y_le, y_eq, y_nP, y_nPs, y_ltP, y_ltQ, y_ltPP, y_eqP, y_eqQ, y_eqPP, if_pos, if_neg, ite_true, ite_false, not_true_eq_false, not_false_eq_true, and_true, true_and, and_false, false_and, or_true, true_or, or_false, false_or]
              · by_cases x : y_oft b i < lo
                · simp (disch := omega) only [y_lit, y_n1, nI_add, pk_mul, j_lt, j_b1_s, j_b2_s, j_b3_s, j_b0_s, y_bo, y_bo1, y_bo0, y_i0, y_i1, Classical.not_not, nI_clamp, y_ix, y_lt, y_le, y_eq, y_nP, y_nPs, y_ltP, y_ltQ, y_ltPP, y_eqP, y_eqQ, y_eqPP, if_pos, if_neg, ite_true, ite_false, not_true_eq_false, not_false_eq_true, and_true, true_and, and_false, false_and, or_true, true_or, or_false, false_or]
                · simp (disch := omega) only [y_lit, y_n1, nI_add, pk_mul, j_lt, j_b1_s, j_b2_s, j_b3_s, j_b0_s, y_bo, y_bo1, y_bo0, y_i0, y_i1, Classical.not_not, nI_clamp, y_ix, y_lt, y_le, y_eq, y_nP, y_nPs, y_ltP, y_ltQ, y_ltPP, y_eqP, y_eqQ, y_eqPP, if_pos, if_neg, ite_true, ite_false, not_true_eq_false, not_false_eq_true, and_true, true_and, and_false, false_and, or_true, true_or, or_false, false_or]
    obtain ⟨t', lo', k1, k2, k3, k4⟩ := both (y_ho b) 0 j_F 0 0 (by omega) (y_F (by omega)) (by omega) (by omega)
    rw [if_pos rfl] at k3 k4
    by_cases z : t' = 0
    · refine ⟨-1, ?_, ?_⟩
      · unfold f_X11_balance; simp (disch := omega) only [y_lit, y_n1, nI_add, pk_mul, j_lt, j_b1_s, j_b2_s, j_b3_s, j_b0_s, y_bo, y_bo1, y_bo0, y_i0, y_i1, Classical.not_not, nI_clamp, y_ix, y_lt, y_le, y_eq, y_nP, y_nPs, y_ltP, y_ltQ, y_ltPP, y_eqP, y_eqQ, y_eqPP, if_pos, if_neg, ite_true, ite_false, not_true_eq_false, not_false_eq_true, and_true, true_and, and_false, false_and, or_true, true_or, or_false, false_or, yc_isTold hN hW, k3, z]
      · unfold f_X12_balance; simp (disch := omega) only [y_lit, y_n1, nI_add, pk_mul, j_lt, j_b1_s, j_b2_s, j_b3_s, j_b0_s, y_bo, y_bo1, y_bo0, y_i0, y_i1, Classical.not_not, nI_clamp, y_ix, y_lt, y_le, y_eq, y_nP, y_nPs, y_ltP, y_ltQ, y_ltPP, y_eqP, y_eqQ, y_eqPP, if_pos, if_neg, ite_true, ite_false, not_true_eq_false, not_false_eq_true, and_true, true_and, and_false, false_and, or_true, true_or, or_false, false_or, ym_isBoard hM hW, k4, z]
    · rw [if_neg z] at k3 k4
      refine ⟨nP t' - nI lo', ?_, ?_⟩
      · unfold f_X11_balance; simp (disch := omega) only [y_lit, y_n1, nI_add, pk_mul, j_lt, j_b1_s, j_b2_s, j_b3_s, j_b0_s, y_bo, y_bo1, y_bo0, y_i0, y_i1, Classical.not_not, nI_clamp, y_ix, y_lt, y_le, y_eq, y_nP, y_nPs, y_ltP, y_ltQ, y_ltPP, y_eqP, y_eqQ, y_eqPP, if_pos, if_neg, ite_true, ite_false, not_true_eq_false, not_false_eq_true, and_true, true_and, and_false, false_and, or_true, true_or, or_false, false_or, yc_isTold hN hW, k3]
      · unfold f_X12_balance; simp (disch := omega) only [y_lit, y_n1, nI_add, pk_mul, j_lt, j_b1_s, j_b2_s, j_b3_s, j_b0_s, y_bo, y_bo1, y_bo0, y_i0, y_i1, Classical.not_not, nI_clamp, y_ix, y_lt, y_le, y_eq, y_nP, y_nPs, y_ltP, y_ltQ, y_ltPP, y_eqP, y_eqQ, y_eqPP, if_pos, if_neg, ite_true, ite_false, not_true_eq_false, not_false_eq_true, and_true, true_and, and_false, false_and, or_true, true_or, or_false, false_or, ym_isBoard hM hW, k4]
  · refine ⟨-2, ?_, ?_⟩
    · unfold f_X11_balance; simp (disch := omega) only [y_lit, y_n1, nI_add, pk_mul, j_lt, j_b1_s, j_b2_s, j_b3_s, j_b0_s, y_bo, y_bo1, y_bo0, y_i0, y_i1, Classical.not_not, nI_clamp, y_ix, y_lt, y_le, y_eq, y_nP, y_nPs, y_ltP, y_ltQ, y_ltPP, y_eqP, y_eqQ, y_eqPP, if_pos, if_neg, ite_true, ite_false, not_true_eq_false, not_false_eq_true, and_true, true_and, and_false, false_and, or_true, true_or, or_false, false_or, yc_isTold hN hW]
    · unfold f_X12_balance; simp (disch := omega) only [y_lit, y_n1, nI_add, pk_mul, j_lt, j_b1_s, j_b2_s, j_b3_s, j_b0_s, y_bo, y_bo1, y_bo0, y_i0, y_i1, Classical.not_not, nI_clamp, y_ix, y_lt, y_le, y_eq, y_nP, y_nPs, y_ltP, y_ltQ, y_ltPP, y_eqP, y_eqQ, y_eqPP, if_pos, if_neg, ite_true, ite_false, not_true_eq_false, not_false_eq_true, and_true, true_and, and_false, false_and, or_true, true_or, or_false, false_or, ym_isBoard hM hW]
end Z
